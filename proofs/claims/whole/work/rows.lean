section
-- ===== PART A: goes FIRST, ahead of the names: the tables' words, and 'selects' of the private methods out of them =====
/-- a private method of a class that the tables say can be made, by its rows of tables_1 -/
def lw_okq (q : MethodName × Nat) : Prop := (q.1.cls ≠ "java/lang/invoke/MethodHandle" ∧ q.1.cls ≠ "java/lang/invoke/VarHandle") ∧ Cond.instantiable q.1.cls q.2 ∈ tables_1 ∧ Cond.privateMethod q.1 ∈ tables_1 ∧ Cond.instanceMethod q.1 ∈ tables_1
theorem lw_p0 : lw_okq (⟨"FileDelivery", "isThere", "(II)Z"⟩, 4) := ⟨⟨by decide +kernel, by decide +kernel⟩, List.mem_of_getElem? (i := 27) (by decide +kernel), List.mem_of_getElem? (i := 157) (by decide +kernel), List.mem_of_getElem? (i := 158) (by decide +kernel)⟩
theorem lw_p1 : lw_okq (⟨"FileDelivery", "findSender", "(II)LFileDelivery$Sender;"⟩, 4) := ⟨⟨by decide +kernel, by decide +kernel⟩, List.mem_of_getElem? (i := 27) (by decide +kernel), List.mem_of_getElem? (i := 169) (by decide +kernel), List.mem_of_getElem? (i := 170) (by decide +kernel)⟩
theorem lw_p2 : lw_okq (⟨"FileDelivery$Sender", "sendNext", "()V"⟩, 16) := ⟨⟨by decide +kernel, by decide +kernel⟩, List.mem_of_getElem? (i := 226) (by decide +kernel), List.mem_of_getElem? (i := 224) (by decide +kernel), List.mem_of_getElem? (i := 225) (by decide +kernel)⟩
theorem lw_p3 : lw_okq (⟨"FileDelivery$Sender", "sendMetadata", "()V"⟩, 16) := ⟨⟨by decide +kernel, by decide +kernel⟩, List.mem_of_getElem? (i := 226) (by decide +kernel), List.mem_of_getElem? (i := 229) (by decide +kernel), List.mem_of_getElem? (i := 230) (by decide +kernel)⟩
theorem lw_p4 : lw_okq (⟨"FileDelivery$Sender", "launch", "(IIII)V"⟩, 16) := ⟨⟨by decide +kernel, by decide +kernel⟩, List.mem_of_getElem? (i := 226) (by decide +kernel), List.mem_of_getElem? (i := 233) (by decide +kernel), List.mem_of_getElem? (i := 234) (by decide +kernel)⟩
theorem lw_p5 : lw_okq (⟨"FileDelivery$Sender", "sendData", "(I)V"⟩, 16) := ⟨⟨by decide +kernel, by decide +kernel⟩, List.mem_of_getElem? (i := 226) (by decide +kernel), List.mem_of_getElem? (i := 282) (by decide +kernel), List.mem_of_getElem? (i := 283) (by decide +kernel)⟩
theorem lw_p6 : lw_okq (⟨"FileDelivery$Sender", "sendEnd", "()V"⟩, 16) := ⟨⟨by decide +kernel, by decide +kernel⟩, List.mem_of_getElem? (i := 226) (by decide +kernel), List.mem_of_getElem? (i := 299) (by decide +kernel), List.mem_of_getElem? (i := 300) (by decide +kernel)⟩
theorem lw_p7 : lw_okq (⟨"FileDelivery$Sender", "sendRepair", "()V"⟩, 16) := ⟨⟨by decide +kernel, by decide +kernel⟩, List.mem_of_getElem? (i := 226) (by decide +kernel), List.mem_of_getElem? (i := 315) (by decide +kernel), List.mem_of_getElem? (i := 316) (by decide +kernel)⟩
theorem lw_p8 : lw_okq (⟨"FileDelivery$Sender", "awaitAckOfEnd", "()V"⟩, 16) := ⟨⟨by decide +kernel, by decide +kernel⟩, List.mem_of_getElem? (i := 226) (by decide +kernel), List.mem_of_getElem? (i := 319) (by decide +kernel), List.mem_of_getElem? (i := 320) (by decide +kernel)⟩
theorem lw_p9 : lw_okq (⟨"FileDelivery$Receiver", "awaitAckOfFinished", "(II)V"⟩, 14) := ⟨⟨by decide +kernel, by decide +kernel⟩, List.mem_of_getElem? (i := 334) (by decide +kernel), List.mem_of_getElem? (i := 332) (by decide +kernel), List.mem_of_getElem? (i := 333) (by decide +kernel)⟩
theorem lw_p10 : lw_okq (⟨"FileDelivery$Receiver", "sendFinished", "(I)V"⟩, 14) := ⟨⟨by decide +kernel, by decide +kernel⟩, List.mem_of_getElem? (i := 334) (by decide +kernel), List.mem_of_getElem? (i := 337) (by decide +kernel), List.mem_of_getElem? (i := 338) (by decide +kernel)⟩
theorem lw_p11 : lw_okq (⟨"FileDelivery$Receiver", "launch", "(III)V"⟩, 14) := ⟨⟨by decide +kernel, by decide +kernel⟩, List.mem_of_getElem? (i := 334) (by decide +kernel), List.mem_of_getElem? (i := 341) (by decide +kernel), List.mem_of_getElem? (i := 342) (by decide +kernel)⟩
theorem lw_p12 : lw_okq (⟨"FileDelivery$Receiver", "sendNak", "(I)V"⟩, 14) := ⟨⟨by decide +kernel, by decide +kernel⟩, List.mem_of_getElem? (i := 334) (by decide +kernel), List.mem_of_getElem? (i := 349) (by decide +kernel), List.mem_of_getElem? (i := 350) (by decide +kernel)⟩
theorem lw_p13 : lw_okq (⟨"FileDelivery$Receiver", "missing", "()I"⟩, 14) := ⟨⟨by decide +kernel, by decide +kernel⟩, List.mem_of_getElem? (i := 334) (by decide +kernel), List.mem_of_getElem? (i := 353) (by decide +kernel), List.mem_of_getElem? (i := 354) (by decide +kernel)⟩
theorem lw_p14 : lw_okq (⟨"FileDelivery$Receiver", "end", "(II)V"⟩, 14) := ⟨⟨by decide +kernel, by decide +kernel⟩, List.mem_of_getElem? (i := 334) (by decide +kernel), List.mem_of_getElem? (i := 360) (by decide +kernel), List.mem_of_getElem? (i := 361) (by decide +kernel)⟩
theorem lw_p15 : lw_okq (⟨"java/util/ArrayList", "fastRemove", "([Ljava/lang/Object;I)V"⟩, 3) := ⟨⟨by decide +kernel, by decide +kernel⟩, List.mem_of_getElem? (i := 59) (by decide +kernel), List.mem_of_getElem? (i := 373) (by decide +kernel), List.mem_of_getElem? (i := 374) (by decide +kernel)⟩
def lw_privs_1 : List (MethodName × Nat) := [(⟨"FileDelivery", "isThere", "(II)Z"⟩, 4), (⟨"FileDelivery", "findSender", "(II)LFileDelivery$Sender;"⟩, 4), (⟨"FileDelivery$Sender", "sendNext", "()V"⟩, 16), (⟨"FileDelivery$Sender", "sendMetadata", "()V"⟩, 16), (⟨"FileDelivery$Sender", "launch", "(IIII)V"⟩, 16), (⟨"FileDelivery$Sender", "sendData", "(I)V"⟩, 16), (⟨"FileDelivery$Sender", "sendEnd", "()V"⟩, 16), (⟨"FileDelivery$Sender", "sendRepair", "()V"⟩, 16), (⟨"FileDelivery$Sender", "awaitAckOfEnd", "()V"⟩, 16), (⟨"FileDelivery$Receiver", "awaitAckOfFinished", "(II)V"⟩, 14), (⟨"FileDelivery$Receiver", "sendFinished", "(I)V"⟩, 14), (⟨"FileDelivery$Receiver", "launch", "(III)V"⟩, 14), (⟨"FileDelivery$Receiver", "sendNak", "(I)V"⟩, 14), (⟨"FileDelivery$Receiver", "missing", "()I"⟩, 14), (⟨"FileDelivery$Receiver", "end", "(II)V"⟩, 14), (⟨"java/util/ArrayList", "fastRemove", "([Ljava/lang/Object;I)V"⟩, 3)]
theorem lw_r1 : ∀ q ∈ lw_privs_1, lw_okq q := List.forall_mem_cons.mpr ⟨lw_p0, List.forall_mem_cons.mpr ⟨lw_p1, List.forall_mem_cons.mpr ⟨lw_p2, List.forall_mem_cons.mpr ⟨lw_p3, List.forall_mem_cons.mpr ⟨lw_p4, List.forall_mem_cons.mpr ⟨lw_p5, List.forall_mem_cons.mpr ⟨lw_p6, List.forall_mem_cons.mpr ⟨lw_p7, List.forall_mem_cons.mpr ⟨lw_p8, List.forall_mem_cons.mpr ⟨lw_p9, List.forall_mem_cons.mpr ⟨lw_p10, List.forall_mem_cons.mpr ⟨lw_p11, List.forall_mem_cons.mpr ⟨lw_p12, List.forall_mem_cons.mpr ⟨lw_p13, List.forall_mem_cons.mpr ⟨lw_p14, List.forall_mem_cons.mpr ⟨lw_p15, fun _ h => absurd h List.not_mem_nil⟩⟩⟩⟩⟩⟩⟩⟩⟩⟩⟩⟩⟩⟩⟩⟩
theorem lw_p16 : lw_okq (⟨"FileDelivery", "handToSender", "(LFileDelivery$Unit;)V"⟩, 4) := ⟨⟨by decide +kernel, by decide +kernel⟩, List.mem_of_getElem? (i := 27) (by decide +kernel), List.mem_of_getElem? (i := 392) (by decide +kernel), List.mem_of_getElem? (i := 393) (by decide +kernel)⟩
theorem lw_p17 : lw_okq (⟨"FileDelivery$Sender", "noteAnswer", "(LFileDelivery$Unit;)V"⟩, 16) := ⟨⟨by decide +kernel, by decide +kernel⟩, List.mem_of_getElem? (i := 226) (by decide +kernel), List.mem_of_getElem? (i := 400) (by decide +kernel), List.mem_of_getElem? (i := 401) (by decide +kernel)⟩
theorem lw_p18 : lw_okq (⟨"FileDelivery", "handToReceiver", "(LFileDelivery$Unit;)V"⟩, 4) := ⟨⟨by decide +kernel, by decide +kernel⟩, List.mem_of_getElem? (i := 27) (by decide +kernel), List.mem_of_getElem? (i := 405) (by decide +kernel), List.mem_of_getElem? (i := 406) (by decide +kernel)⟩
theorem lw_p19 : lw_okq (⟨"FileDelivery", "openReceiver", "(LFileDelivery$Unit;LFileDelivery$Side;)V"⟩, 4) := ⟨⟨by decide +kernel, by decide +kernel⟩, List.mem_of_getElem? (i := 27) (by decide +kernel), List.mem_of_getElem? (i := 409) (by decide +kernel), List.mem_of_getElem? (i := 410) (by decide +kernel)⟩
theorem lw_p20 : lw_okq (⟨"java/util/ArrayList", "add", "(Ljava/lang/Object;[Ljava/lang/Object;I)V"⟩, 3) := ⟨⟨by decide +kernel, by decide +kernel⟩, List.mem_of_getElem? (i := 59) (by decide +kernel), List.mem_of_getElem? (i := 470) (by decide +kernel), List.mem_of_getElem? (i := 471) (by decide +kernel)⟩
theorem lw_p21 : lw_okq (⟨"java/util/ArrayList", "grow", "()[Ljava/lang/Object;"⟩, 3) := ⟨⟨by decide +kernel, by decide +kernel⟩, List.mem_of_getElem? (i := 59) (by decide +kernel), List.mem_of_getElem? (i := 474) (by decide +kernel), List.mem_of_getElem? (i := 475) (by decide +kernel)⟩
theorem lw_p22 : lw_okq (⟨"java/util/ArrayList", "grow", "(I)[Ljava/lang/Object;"⟩, 3) := ⟨⟨by decide +kernel, by decide +kernel⟩, List.mem_of_getElem? (i := 59) (by decide +kernel), List.mem_of_getElem? (i := 478) (by decide +kernel), List.mem_of_getElem? (i := 479) (by decide +kernel)⟩
theorem lw_p23 : lw_okq (⟨"FileDelivery$Receiver", "note", "(LFileDelivery$Unit;)V"⟩, 14) := ⟨⟨by decide +kernel, by decide +kernel⟩, List.mem_of_getElem? (i := 334) (by decide +kernel), List.mem_of_getElem? (i := 529) (by decide +kernel), List.mem_of_getElem? (i := 530) (by decide +kernel)⟩
theorem lw_p24 : lw_okq (⟨"FileDelivery$Receiver", "noteSegment", "(LFileDelivery$Unit;)V"⟩, 14) := ⟨⟨by decide +kernel, by decide +kernel⟩, List.mem_of_getElem? (i := 334) (by decide +kernel), List.mem_of_getElem? (i := 533) (by decide +kernel), List.mem_of_getElem? (i := 534) (by decide +kernel)⟩
theorem lw_p25 : lw_okq (⟨"FileDelivery$Receiver", "isComplete", "()Z"⟩, 14) := ⟨⟨by decide +kernel, by decide +kernel⟩, List.mem_of_getElem? (i := 334) (by decide +kernel), List.mem_of_getElem? (i := 537) (by decide +kernel), List.mem_of_getElem? (i := 538) (by decide +kernel)⟩
theorem lw_p26 : lw_okq (⟨"FileDelivery$Receiver", "storeFile", "()I"⟩, 14) := ⟨⟨by decide +kernel, by decide +kernel⟩, List.mem_of_getElem? (i := 334) (by decide +kernel), List.mem_of_getElem? (i := 541) (by decide +kernel), List.mem_of_getElem? (i := 542) (by decide +kernel)⟩
theorem lw_p27 : lw_okq (⟨"FileDelivery$Receiver", "doRequest", "()Z"⟩, 14) := ⟨⟨by decide +kernel, by decide +kernel⟩, List.mem_of_getElem? (i := 334) (by decide +kernel), List.mem_of_getElem? (i := 555) (by decide +kernel), List.mem_of_getElem? (i := 556) (by decide +kernel)⟩
theorem lw_p28 : lw_okq (⟨"FileDelivery$Receiver", "beginWaiting", "(I)V"⟩, 14) := ⟨⟨by decide +kernel, by decide +kernel⟩, List.mem_of_getElem? (i := 334) (by decide +kernel), List.mem_of_getElem? (i := 569) (by decide +kernel), List.mem_of_getElem? (i := 570) (by decide +kernel)⟩
theorem lw_p29 : lw_okq (⟨"FileDelivery", "findReceiver", "(II)LFileDelivery$Receiver;"⟩, 4) := ⟨⟨by decide +kernel, by decide +kernel⟩, List.mem_of_getElem? (i := 27) (by decide +kernel), List.mem_of_getElem? (i := 614) (by decide +kernel), List.mem_of_getElem? (i := 615) (by decide +kernel)⟩
theorem lw_p30 : lw_okq (⟨"java/lang/Throwable", "fillInStackTrace", "(I)Ljava/lang/Throwable;"⟩, 6) := ⟨⟨by decide +kernel, by decide +kernel⟩, List.mem_of_getElem? (i := 675) (by decide +kernel), List.mem_of_getElem? (i := 673) (by decide +kernel), List.mem_of_getElem? (i := 674) (by decide +kernel)⟩
theorem lw_p31 : lw_okq (⟨"FileDeliveryModel", "fails", "(I)I"⟩, 48) := ⟨⟨by decide +kernel, by decide +kernel⟩, List.mem_of_getElem? (i := 888) (by decide +kernel), List.mem_of_getElem? (i := 1058) (by decide +kernel), List.mem_of_getElem? (i := 1059) (by decide +kernel)⟩
def lw_privs_2 : List (MethodName × Nat) := [(⟨"FileDelivery", "handToSender", "(LFileDelivery$Unit;)V"⟩, 4), (⟨"FileDelivery$Sender", "noteAnswer", "(LFileDelivery$Unit;)V"⟩, 16), (⟨"FileDelivery", "handToReceiver", "(LFileDelivery$Unit;)V"⟩, 4), (⟨"FileDelivery", "openReceiver", "(LFileDelivery$Unit;LFileDelivery$Side;)V"⟩, 4), (⟨"java/util/ArrayList", "add", "(Ljava/lang/Object;[Ljava/lang/Object;I)V"⟩, 3), (⟨"java/util/ArrayList", "grow", "()[Ljava/lang/Object;"⟩, 3), (⟨"java/util/ArrayList", "grow", "(I)[Ljava/lang/Object;"⟩, 3), (⟨"FileDelivery$Receiver", "note", "(LFileDelivery$Unit;)V"⟩, 14), (⟨"FileDelivery$Receiver", "noteSegment", "(LFileDelivery$Unit;)V"⟩, 14), (⟨"FileDelivery$Receiver", "isComplete", "()Z"⟩, 14), (⟨"FileDelivery$Receiver", "storeFile", "()I"⟩, 14), (⟨"FileDelivery$Receiver", "doRequest", "()Z"⟩, 14), (⟨"FileDelivery$Receiver", "beginWaiting", "(I)V"⟩, 14), (⟨"FileDelivery", "findReceiver", "(II)LFileDelivery$Receiver;"⟩, 4), (⟨"java/lang/Throwable", "fillInStackTrace", "(I)Ljava/lang/Throwable;"⟩, 6), (⟨"FileDeliveryModel", "fails", "(I)I"⟩, 48)]
theorem lw_r2 : ∀ q ∈ lw_privs_2, lw_okq q := List.forall_mem_cons.mpr ⟨lw_p16, List.forall_mem_cons.mpr ⟨lw_p17, List.forall_mem_cons.mpr ⟨lw_p18, List.forall_mem_cons.mpr ⟨lw_p19, List.forall_mem_cons.mpr ⟨lw_p20, List.forall_mem_cons.mpr ⟨lw_p21, List.forall_mem_cons.mpr ⟨lw_p22, List.forall_mem_cons.mpr ⟨lw_p23, List.forall_mem_cons.mpr ⟨lw_p24, List.forall_mem_cons.mpr ⟨lw_p25, List.forall_mem_cons.mpr ⟨lw_p26, List.forall_mem_cons.mpr ⟨lw_p27, List.forall_mem_cons.mpr ⟨lw_p28, List.forall_mem_cons.mpr ⟨lw_p29, List.forall_mem_cons.mpr ⟨lw_p30, List.forall_mem_cons.mpr ⟨lw_p31, fun _ h => absurd h List.not_mem_nil⟩⟩⟩⟩⟩⟩⟩⟩⟩⟩⟩⟩⟩⟩⟩⟩
theorem lw_p32 : lw_okq (⟨"FileDeliveryModel", "isLocked", "(II)Z"⟩, 48) := ⟨⟨by decide +kernel, by decide +kernel⟩, List.mem_of_getElem? (i := 888) (by decide +kernel), List.mem_of_getElem? (i := 1062) (by decide +kernel), List.mem_of_getElem? (i := 1063) (by decide +kernel)⟩
theorem lw_p33 : lw_okq (⟨"FileDeliveryModel", "known", "(II)I"⟩, 48) := ⟨⟨by decide +kernel, by decide +kernel⟩, List.mem_of_getElem? (i := 888) (by decide +kernel), List.mem_of_getElem? (i := 1087) (by decide +kernel), List.mem_of_getElem? (i := 1088) (by decide +kernel)⟩
theorem lw_p34 : lw_okq (⟨"FileDeliveryModel", "work", "(I)V"⟩, 48) := ⟨⟨by decide +kernel, by decide +kernel⟩, List.mem_of_getElem? (i := 888) (by decide +kernel), List.mem_of_getElem? (i := 1099) (by decide +kernel), List.mem_of_getElem? (i := 1100) (by decide +kernel)⟩
theorem lw_p35 : lw_okq (⟨"FileDeliveryModel", "fileIndex", "(I)I"⟩, 48) := ⟨⟨by decide +kernel, by decide +kernel⟩, List.mem_of_getElem? (i := 888) (by decide +kernel), List.mem_of_getElem? (i := 1103) (by decide +kernel), List.mem_of_getElem? (i := 1104) (by decide +kernel)⟩
theorem lw_p36 : lw_okq (⟨"FileDeliveryModel", "sendEnd", "(I)V"⟩, 48) := ⟨⟨by decide +kernel, by decide +kernel⟩, List.mem_of_getElem? (i := 888) (by decide +kernel), List.mem_of_getElem? (i := 1110) (by decide +kernel), List.mem_of_getElem? (i := 1111) (by decide +kernel)⟩
theorem lw_p37 : lw_okq (⟨"FileDeliveryModel", "checksum", "(I)I"⟩, 48) := ⟨⟨by decide +kernel, by decide +kernel⟩, List.mem_of_getElem? (i := 888) (by decide +kernel), List.mem_of_getElem? (i := 1114) (by decide +kernel), List.mem_of_getElem? (i := 1115) (by decide +kernel)⟩
theorem lw_p38 : lw_okq (⟨"FileDeliveryModel", "word", "(II)I"⟩, 48) := ⟨⟨by decide +kernel, by decide +kernel⟩, List.mem_of_getElem? (i := 888) (by decide +kernel), List.mem_of_getElem? (i := 1118) (by decide +kernel), List.mem_of_getElem? (i := 1119) (by decide +kernel)⟩
theorem lw_p39 : lw_okq (⟨"FileDeliveryModel", "send", "(IIIIII)Z"⟩, 48) := ⟨⟨by decide +kernel, by decide +kernel⟩, List.mem_of_getElem? (i := 888) (by decide +kernel), List.mem_of_getElem? (i := 1122) (by decide +kernel), List.mem_of_getElem? (i := 1123) (by decide +kernel)⟩
theorem lw_p40 : lw_okq (⟨"FileDeliveryModel", "close", "(II)V"⟩, 48) := ⟨⟨by decide +kernel, by decide +kernel⟩, List.mem_of_getElem? (i := 888) (by decide +kernel), List.mem_of_getElem? (i := 1126) (by decide +kernel), List.mem_of_getElem? (i := 1127) (by decide +kernel)⟩
theorem lw_p41 : lw_okq (⟨"FileDeliveryModel", "sendMetadata", "(I)V"⟩, 48) := ⟨⟨by decide +kernel, by decide +kernel⟩, List.mem_of_getElem? (i := 888) (by decide +kernel), List.mem_of_getElem? (i := 1130) (by decide +kernel), List.mem_of_getElem? (i := 1131) (by decide +kernel)⟩
theorem lw_p42 : lw_okq (⟨"FileDeliveryModel", "sendData", "(II)V"⟩, 48) := ⟨⟨by decide +kernel, by decide +kernel⟩, List.mem_of_getElem? (i := 888) (by decide +kernel), List.mem_of_getElem? (i := 1134) (by decide +kernel), List.mem_of_getElem? (i := 1135) (by decide +kernel)⟩
theorem lw_p43 : lw_okq (⟨"FileDeliveryModel", "repair", "(I)V"⟩, 48) := ⟨⟨by decide +kernel, by decide +kernel⟩, List.mem_of_getElem? (i := 888) (by decide +kernel), List.mem_of_getElem? (i := 1138) (by decide +kernel), List.mem_of_getElem? (i := 1139) (by decide +kernel)⟩
theorem lw_p44 : lw_okq (⟨"FileDeliveryModel", "attend", "(I)V"⟩, 48) := ⟨⟨by decide +kernel, by decide +kernel⟩, List.mem_of_getElem? (i := 888) (by decide +kernel), List.mem_of_getElem? (i := 1143) (by decide +kernel), List.mem_of_getElem? (i := 1144) (by decide +kernel)⟩
theorem lw_p45 : lw_okq (⟨"FileDeliveryModel", "shut", "(II)V"⟩, 48) := ⟨⟨by decide +kernel, by decide +kernel⟩, List.mem_of_getElem? (i := 888) (by decide +kernel), List.mem_of_getElem? (i := 1147) (by decide +kernel), List.mem_of_getElem? (i := 1148) (by decide +kernel)⟩
theorem lw_p46 : lw_okq (⟨"FileDeliveryModel", "tell", "(I)V"⟩, 48) := ⟨⟨by decide +kernel, by decide +kernel⟩, List.mem_of_getElem? (i := 888) (by decide +kernel), List.mem_of_getElem? (i := 1151) (by decide +kernel), List.mem_of_getElem? (i := 1152) (by decide +kernel)⟩
theorem lw_p47 : lw_okq (⟨"FileDeliveryModel", "finish", "(III)V"⟩, 48) := ⟨⟨by decide +kernel, by decide +kernel⟩, List.mem_of_getElem? (i := 888) (by decide +kernel), List.mem_of_getElem? (i := 1155) (by decide +kernel), List.mem_of_getElem? (i := 1156) (by decide +kernel)⟩
def lw_privs_3 : List (MethodName × Nat) := [(⟨"FileDeliveryModel", "isLocked", "(II)Z"⟩, 48), (⟨"FileDeliveryModel", "known", "(II)I"⟩, 48), (⟨"FileDeliveryModel", "work", "(I)V"⟩, 48), (⟨"FileDeliveryModel", "fileIndex", "(I)I"⟩, 48), (⟨"FileDeliveryModel", "sendEnd", "(I)V"⟩, 48), (⟨"FileDeliveryModel", "checksum", "(I)I"⟩, 48), (⟨"FileDeliveryModel", "word", "(II)I"⟩, 48), (⟨"FileDeliveryModel", "send", "(IIIIII)Z"⟩, 48), (⟨"FileDeliveryModel", "close", "(II)V"⟩, 48), (⟨"FileDeliveryModel", "sendMetadata", "(I)V"⟩, 48), (⟨"FileDeliveryModel", "sendData", "(II)V"⟩, 48), (⟨"FileDeliveryModel", "repair", "(I)V"⟩, 48), (⟨"FileDeliveryModel", "attend", "(I)V"⟩, 48), (⟨"FileDeliveryModel", "shut", "(II)V"⟩, 48), (⟨"FileDeliveryModel", "tell", "(I)V"⟩, 48), (⟨"FileDeliveryModel", "finish", "(III)V"⟩, 48)]
theorem lw_r3 : ∀ q ∈ lw_privs_3, lw_okq q := List.forall_mem_cons.mpr ⟨lw_p32, List.forall_mem_cons.mpr ⟨lw_p33, List.forall_mem_cons.mpr ⟨lw_p34, List.forall_mem_cons.mpr ⟨lw_p35, List.forall_mem_cons.mpr ⟨lw_p36, List.forall_mem_cons.mpr ⟨lw_p37, List.forall_mem_cons.mpr ⟨lw_p38, List.forall_mem_cons.mpr ⟨lw_p39, List.forall_mem_cons.mpr ⟨lw_p40, List.forall_mem_cons.mpr ⟨lw_p41, List.forall_mem_cons.mpr ⟨lw_p42, List.forall_mem_cons.mpr ⟨lw_p43, List.forall_mem_cons.mpr ⟨lw_p44, List.forall_mem_cons.mpr ⟨lw_p45, List.forall_mem_cons.mpr ⟨lw_p46, List.forall_mem_cons.mpr ⟨lw_p47, fun _ h => absurd h List.not_mem_nil⟩⟩⟩⟩⟩⟩⟩⟩⟩⟩⟩⟩⟩⟩⟩⟩
theorem lw_p48 : lw_okq (⟨"FileDeliveryModel", "nak", "(I)V"⟩, 48) := ⟨⟨by decide +kernel, by decide +kernel⟩, List.mem_of_getElem? (i := 888) (by decide +kernel), List.mem_of_getElem? (i := 1159) (by decide +kernel), List.mem_of_getElem? (i := 1160) (by decide +kernel)⟩
theorem lw_p49 : lw_okq (⟨"FileDeliveryModel", "lost", "(II)I"⟩, 48) := ⟨⟨by decide +kernel, by decide +kernel⟩, List.mem_of_getElem? (i := 888) (by decide +kernel), List.mem_of_getElem? (i := 1163) (by decide +kernel), List.mem_of_getElem? (i := 1164) (by decide +kernel)⟩
theorem lw_p50 : lw_okq (⟨"FileDeliveryModel", "flies", "(I)Z"⟩, 48) := ⟨⟨by decide +kernel, by decide +kernel⟩, List.mem_of_getElem? (i := 888) (by decide +kernel), List.mem_of_getElem? (i := 1171) (by decide +kernel), List.mem_of_getElem? (i := 1172) (by decide +kernel)⟩
theorem lw_p51 : lw_okq (⟨"FileDeliveryModel", "out", "(I)V"⟩, 48) := ⟨⟨by decide +kernel, by decide +kernel⟩, List.mem_of_getElem? (i := 888) (by decide +kernel), List.mem_of_getElem? (i := 1175) (by decide +kernel), List.mem_of_getElem? (i := 1176) (by decide +kernel)⟩
theorem lw_p52 : lw_okq (⟨"FileDeliveryModel", "toSender", "(I)V"⟩, 48) := ⟨⟨by decide +kernel, by decide +kernel⟩, List.mem_of_getElem? (i := 888) (by decide +kernel), List.mem_of_getElem? (i := 1179) (by decide +kernel), List.mem_of_getElem? (i := 1180) (by decide +kernel)⟩
theorem lw_p53 : lw_okq (⟨"FileDeliveryModel", "asked", "(I)V"⟩, 48) := ⟨⟨by decide +kernel, by decide +kernel⟩, List.mem_of_getElem? (i := 888) (by decide +kernel), List.mem_of_getElem? (i := 1183) (by decide +kernel), List.mem_of_getElem? (i := 1184) (by decide +kernel)⟩
theorem lw_p54 : lw_okq (⟨"FileDeliveryModel", "toReceiver", "(II)V"⟩, 48) := ⟨⟨by decide +kernel, by decide +kernel⟩, List.mem_of_getElem? (i := 888) (by decide +kernel), List.mem_of_getElem? (i := 1188) (by decide +kernel), List.mem_of_getElem? (i := 1189) (by decide +kernel)⟩
theorem lw_p55 : lw_okq (⟨"FileDeliveryModel", "place", "(II)V"⟩, 48) := ⟨⟨by decide +kernel, by decide +kernel⟩, List.mem_of_getElem? (i := 888) (by decide +kernel), List.mem_of_getElem? (i := 1192) (by decide +kernel), List.mem_of_getElem? (i := 1193) (by decide +kernel)⟩
theorem lw_p56 : lw_okq (⟨"FileDeliveryModel", "complete", "(II)V"⟩, 48) := ⟨⟨by decide +kernel, by decide +kernel⟩, List.mem_of_getElem? (i := 888) (by decide +kernel), List.mem_of_getElem? (i := 1196) (by decide +kernel), List.mem_of_getElem? (i := 1197) (by decide +kernel)⟩
theorem lw_p57 : lw_okq (⟨"FileDeliveryModel", "byteOf", "(II)I"⟩, 48) := ⟨⟨by decide +kernel, by decide +kernel⟩, List.mem_of_getElem? (i := 888) (by decide +kernel), List.mem_of_getElem? (i := 1200) (by decide +kernel), List.mem_of_getElem? (i := 1201) (by decide +kernel)⟩
theorem lw_p58 : lw_okq (⟨"FileDeliveryModel", "grant", "(III)V"⟩, 48) := ⟨⟨by decide +kernel, by decide +kernel⟩, List.mem_of_getElem? (i := 888) (by decide +kernel), List.mem_of_getElem? (i := 1204) (by decide +kernel), List.mem_of_getElem? (i := 1205) (by decide +kernel)⟩
def lw_privs_4 : List (MethodName × Nat) := [(⟨"FileDeliveryModel", "nak", "(I)V"⟩, 48), (⟨"FileDeliveryModel", "lost", "(II)I"⟩, 48), (⟨"FileDeliveryModel", "flies", "(I)Z"⟩, 48), (⟨"FileDeliveryModel", "out", "(I)V"⟩, 48), (⟨"FileDeliveryModel", "toSender", "(I)V"⟩, 48), (⟨"FileDeliveryModel", "asked", "(I)V"⟩, 48), (⟨"FileDeliveryModel", "toReceiver", "(II)V"⟩, 48), (⟨"FileDeliveryModel", "place", "(II)V"⟩, 48), (⟨"FileDeliveryModel", "complete", "(II)V"⟩, 48), (⟨"FileDeliveryModel", "byteOf", "(II)I"⟩, 48), (⟨"FileDeliveryModel", "grant", "(III)V"⟩, 48)]
theorem lw_r4 : ∀ q ∈ lw_privs_4, lw_okq q := List.forall_mem_cons.mpr ⟨lw_p48, List.forall_mem_cons.mpr ⟨lw_p49, List.forall_mem_cons.mpr ⟨lw_p50, List.forall_mem_cons.mpr ⟨lw_p51, List.forall_mem_cons.mpr ⟨lw_p52, List.forall_mem_cons.mpr ⟨lw_p53, List.forall_mem_cons.mpr ⟨lw_p54, List.forall_mem_cons.mpr ⟨lw_p55, List.forall_mem_cons.mpr ⟨lw_p56, List.forall_mem_cons.mpr ⟨lw_p57, List.forall_mem_cons.mpr ⟨lw_p58, fun _ h => absurd h List.not_mem_nil⟩⟩⟩⟩⟩⟩⟩⟩⟩⟩⟩
def lw_privs : List (MethodName × Nat) := lw_privs_1 ++ (lw_privs_2 ++ (lw_privs_3 ++ (lw_privs_4)))
def lw_tbl : List Cond := k2_sels lw_privs ++ tables_1
theorem lw_privs_ok : ∀ q ∈ lw_privs, lw_okq q := by
  show ∀ q ∈ lw_privs_1 ++ (lw_privs_2 ++ (lw_privs_3 ++ (lw_privs_4))), lw_okq q
  exact List.forall_mem_append.mpr ⟨lw_r1, List.forall_mem_append.mpr ⟨lw_r2, List.forall_mem_append.mpr ⟨lw_r3, lw_r4⟩⟩⟩
-- ===== end of PART A; then your names; then what follows =====
end
section
/-! ===== classes, fields, methods of this claim (written by wip/whole/gen2.py) ===== -/
def ix_T0 : u_T := fun k => match k with
  | 0 => ("FileDelivery", "timeout", "I", true)
  | 1 => ("FileDelivery", "sides", "[LFileDelivery$Side;", true)
  | 2 => ("FileDelivery", "link", "LFileDelivery$Link;", true)
  | _ => ("FileDelivery", "time", "I", false)
def ix_ty0 : Nat → FieldType := fun k => match k with
  | 0 => .int
  | 1 => .array (.object "FileDelivery$Side")
  | 2 => .object "FileDelivery$Link"
  | _ => .int
theorem ix_nm0 : ∀ a, a < 4 → ∀ b, b < 4 → a ≠ b → (ix_T0 a).2.1 ≠ (ix_T0 b).2.1 := by decide +kernel
theorem ix_ty0_ok : ∀ k, k < 4 → parseFieldDescriptor (ix_T0 k).2.2.1 = some (ix_ty0 k) := by decide +kernel
def ix_T1 : u_T := fun k => match k with
  | 0 => ("FileDelivery$Link", "row", "[LFileDelivery$Unit;", true)
  | _ => ("FileDelivery$Link", "count", "I", false)
def ix_ty1 : Nat → FieldType := fun k => match k with
  | 0 => .array (.object "FileDelivery$Unit")
  | _ => .int
theorem ix_nm1 : ∀ a, a < 2 → ∀ b, b < 2 → a ≠ b → (ix_T1 a).2.1 ≠ (ix_T1 b).2.1 := by decide +kernel
theorem ix_ty1_ok : ∀ k, k < 2 → parseFieldDescriptor (ix_T1 k).2.2.1 = some (ix_ty1 k) := by decide +kernel
def ix_T2 : u_T := fun k => match k with
  | 0 => ("FileDelivery$Receiver", "about", "LFileDelivery$Transaction;", true)
  | 1 => ("FileDelivery$Receiver", "home", "LFileDelivery$Side;", true)
  | 2 => ("FileDelivery$Receiver", "link", "LFileDelivery$Link;", true)
  | 3 => ("FileDelivery$Receiver", "timeout", "I", true)
  | 4 => ("FileDelivery$Receiver", "bytes", "[B", true)
  | 5 => ("FileDelivery$Receiver", "metadataThere", "Z", false)
  | 6 => ("FileDelivery$Receiver", "segmentsThere", "I", false)
  | 7 => ("FileDelivery$Receiver", "endSize", "I", false)
  | 8 => ("FileDelivery$Receiver", "endChecksum", "I", false)
  | 9 => ("FileDelivery$Receiver", "waitsFrom", "I", false)
  | 10 => ("FileDelivery$Receiver", "tries", "I", false)
  | 11 => ("FileDelivery$Receiver", "result", "I", false)
  | 12 => ("FileDelivery$Receiver", "closed", "Z", false)
  | _ => ("FileDelivery$Receiver", "requestAnswer", "I", false)
def ix_ty2 : Nat → FieldType := fun k => match k with
  | 0 => .object "FileDelivery$Transaction"
  | 1 => .object "FileDelivery$Side"
  | 2 => .object "FileDelivery$Link"
  | 3 => .int
  | 4 => .array (.byte)
  | 5 => .boolean
  | 6 => .int
  | 7 => .int
  | 8 => .int
  | 9 => .int
  | 10 => .int
  | 11 => .int
  | 12 => .boolean
  | _ => .int
theorem ix_nm2 : ∀ a, a < 14 → ∀ b, b < 14 → a ≠ b → (ix_T2 a).2.1 ≠ (ix_T2 b).2.1 := by decide +kernel
theorem ix_ty2_ok : ∀ k, k < 14 → parseFieldDescriptor (ix_T2 k).2.2.1 = some (ix_ty2 k) := by decide +kernel
def ix_T3 : u_T := fun k => match k with
  | 0 => ("FileDelivery$Sender", "about", "LFileDelivery$Transaction;", true)
  | 1 => ("FileDelivery$Sender", "store", "LFileDelivery$Store;", true)
  | 2 => ("FileDelivery$Sender", "link", "LFileDelivery$Link;", true)
  | 3 => ("FileDelivery$Sender", "timeout", "I", true)
  | 4 => ("FileDelivery$Sender", "segments", "I", true)
  | 5 => ("FileDelivery$Sender", "next", "I", false)
  | 6 => ("FileDelivery$Sender", "cancelled", "Z", false)
  | 7 => ("FileDelivery$Sender", "suspended", "Z", false)
  | 8 => ("FileDelivery$Sender", "endAcknowledged", "Z", false)
  | 9 => ("FileDelivery$Sender", "metadataWanted", "Z", false)
  | 10 => ("FileDelivery$Sender", "repairs", "I", false)
  | 11 => ("FileDelivery$Sender", "endsSent", "I", false)
  | 12 => ("FileDelivery$Sender", "clock", "I", false)
  | 13 => ("FileDelivery$Sender", "endSentAt", "I", false)
  | 14 => ("FileDelivery$Sender", "latestUnitAt", "I", false)
  | _ => ("FileDelivery$Sender", "result", "I", false)
def ix_ty3 : Nat → FieldType := fun k => match k with
  | 0 => .object "FileDelivery$Transaction"
  | 1 => .object "FileDelivery$Store"
  | 2 => .object "FileDelivery$Link"
  | 3 => .int
  | 4 => .int
  | 5 => .int
  | 6 => .boolean
  | 7 => .boolean
  | 8 => .boolean
  | 9 => .boolean
  | 10 => .int
  | 11 => .int
  | 12 => .int
  | 13 => .int
  | 14 => .int
  | _ => .int
theorem ix_nm3 : ∀ a, a < 16 → ∀ b, b < 16 → a ≠ b → (ix_T3 a).2.1 ≠ (ix_T3 b).2.1 := by decide +kernel
theorem ix_ty3_ok : ∀ k, k < 16 → parseFieldDescriptor (ix_T3 k).2.2.1 = some (ix_ty3 k) := by decide +kernel
def ix_T4 : u_T := fun k => match k with
  | 0 => ("FileDelivery$Side", "store", "LFileDelivery$Store;", true)
  | 1 => ("FileDelivery$Side", "senders", "Ljava/util/ArrayList;", true)
  | 2 => ("FileDelivery$Side", "openSenders", "Ljava/util/ArrayList;", true)
  | _ => ("FileDelivery$Side", "openReceivers", "Ljava/util/ArrayList;", true)
def ix_ty4 : Nat → FieldType := fun k => match k with
  | 0 => .object "FileDelivery$Store"
  | 1 => .object "java/util/ArrayList"
  | 2 => .object "java/util/ArrayList"
  | _ => .object "java/util/ArrayList"
theorem ix_nm4 : ∀ a, a < 4 → ∀ b, b < 4 → a ≠ b → (ix_T4 a).2.1 ≠ (ix_T4 b).2.1 := by decide +kernel
theorem ix_ty4_ok : ∀ k, k < 4 → parseFieldDescriptor (ix_T4 k).2.2.1 = some (ix_ty4 k) := by decide +kernel
def ix_T5 : u_T := fun k => match k with
  | 0 => ("FileDelivery$Store", "bytes", "[[B", true)
  | _ => ("FileDelivery$Store", "sizes", "[I", true)
def ix_ty5 : Nat → FieldType := fun k => match k with
  | 0 => .array (.array (.byte))
  | _ => .array (.int)
theorem ix_nm5 : ∀ a, a < 2 → ∀ b, b < 2 → a ≠ b → (ix_T5 a).2.1 ≠ (ix_T5 b).2.1 := by decide +kernel
theorem ix_ty5_ok : ∀ k, k < 2 → parseFieldDescriptor (ix_T5 k).2.2.1 = some (ix_ty5 k) := by decide +kernel
def ix_T6 : u_T := fun k => match k with
  | 0 => ("FileDelivery$Transaction", "entity", "I", true)
  | 1 => ("FileDelivery$Transaction", "number", "I", true)
  | 2 => ("FileDelivery$Transaction", "file", "I", true)
  | 3 => ("FileDelivery$Transaction", "dest", "I", true)
  | 4 => ("FileDelivery$Transaction", "kind", "I", true)
  | 5 => ("FileDelivery$Transaction", "wish", "I", true)
  | 6 => ("FileDelivery$Transaction", "other", "I", true)
  | _ => ("FileDelivery$Transaction", "receiver", "LFileDelivery$Receiver;", false)
def ix_ty6 : Nat → FieldType := fun k => match k with
  | 0 => .int
  | 1 => .int
  | 2 => .int
  | 3 => .int
  | 4 => .int
  | 5 => .int
  | 6 => .int
  | _ => .object "FileDelivery$Receiver"
theorem ix_nm6 : ∀ a, a < 8 → ∀ b, b < 8 → a ≠ b → (ix_T6 a).2.1 ≠ (ix_T6 b).2.1 := by decide +kernel
theorem ix_ty6_ok : ∀ k, k < 8 → parseFieldDescriptor (ix_T6 k).2.2.1 = some (ix_ty6 k) := by decide +kernel
def ix_T7 : u_T := fun k => match k with
  | 0 => ("FileDelivery$Unit", "about", "LFileDelivery$Transaction;", true)
  | 1 => ("FileDelivery$Unit", "what", "I", true)
  | 2 => ("FileDelivery$Unit", "to", "I", true)
  | 3 => ("FileDelivery$Unit", "detail", "I", true)
  | 4 => ("FileDelivery$Unit", "length", "I", true)
  | _ => ("FileDelivery$Unit", "content", "I", false)
def ix_ty7 : Nat → FieldType := fun k => match k with
  | 0 => .object "FileDelivery$Transaction"
  | 1 => .int
  | 2 => .int
  | 3 => .int
  | 4 => .int
  | _ => .int
theorem ix_nm7 : ∀ a, a < 6 → ∀ b, b < 6 → a ≠ b → (ix_T7 a).2.1 ≠ (ix_T7 b).2.1 := by decide +kernel
theorem ix_ty7_ok : ∀ k, k < 6 → parseFieldDescriptor (ix_T7 k).2.2.1 = some (ix_ty7 k) := by decide +kernel
def ix_T8 : u_T := fun k => match k with
  | 0 => ("FileDeliveryModel", "span", "I", true)
  | 1 => ("FileDeliveryModel", "time", "I", false)
  | 2 => ("FileDeliveryModel", "now", "I", false)
  | 3 => ("FileDeliveryModel", "fault", "I", false)
  | 4 => ("FileDeliveryModel", "there", "[Z", true)
  | 5 => ("FileDeliveryModel", "length", "[I", true)
  | 6 => ("FileDeliveryModel", "content", "[I", true)
  | 7 => ("FileDeliveryModel", "numbers", "[I", true)
  | 8 => ("FileDeliveryModel", "kindOf", "[I", true)
  | 9 => ("FileDeliveryModel", "fileOf", "[I", true)
  | 10 => ("FileDeliveryModel", "destOf", "[I", true)
  | 11 => ("FileDeliveryModel", "wishOf", "[I", true)
  | 12 => ("FileDeliveryModel", "otherOf", "[I", true)
  | 13 => ("FileDeliveryModel", "sender", "[I", true)
  | 14 => ("FileDeliveryModel", "step", "[I", true)
  | 15 => ("FileDeliveryModel", "ends", "[I", true)
  | 16 => ("FileDeliveryModel", "clock", "[I", true)
  | 17 => ("FileDeliveryModel", "endAt", "[I", true)
  | 18 => ("FileDeliveryModel", "lastAt", "[I", true)
  | 19 => ("FileDeliveryModel", "repairs", "[I", true)
  | 20 => ("FileDeliveryModel", "acked", "[Z", true)
  | 21 => ("FileDeliveryModel", "dropped", "[Z", true)
  | 22 => ("FileDeliveryModel", "still", "[Z", true)
  | 23 => ("FileDeliveryModel", "receiver", "[I", true)
  | 24 => ("FileDeliveryModel", "wish", "[I", true)
  | 25 => ("FileDeliveryModel", "slot", "[I", true)
  | 26 => ("FileDeliveryModel", "outcome", "[I", true)
  | 27 => ("FileDeliveryModel", "size", "[I", true)
  | 28 => ("FileDeliveryModel", "sum", "[I", true)
  | 29 => ("FileDeliveryModel", "sends", "[I", true)
  | 30 => ("FileDeliveryModel", "sentAt", "[I", true)
  | 31 => ("FileDeliveryModel", "gotAt", "[I", true)
  | 32 => ("FileDeliveryModel", "toDest", "[I", true)
  | 33 => ("FileDeliveryModel", "toWish", "[I", true)
  | 34 => ("FileDeliveryModel", "toOther", "[I", true)
  | 35 => ("FileDeliveryModel", "used", "[Z", true)
  | 36 => ("FileDeliveryModel", "knows", "[Z", true)
  | 37 => ("FileDeliveryModel", "ended", "[Z", true)
  | 38 => ("FileDeliveryModel", "part", "[I", true)
  | 39 => ("FileDeliveryModel", "parts", "[I", true)
  | 40 => ("FileDeliveryModel", "senders", "[I", true)
  | 41 => ("FileDeliveryModel", "receivers", "[I", true)
  | 42 => ("FileDeliveryModel", "sending", "[I", true)
  | 43 => ("FileDeliveryModel", "receiving", "[I", true)
  | 44 => ("FileDeliveryModel", "units", "I", false)
  | 45 => ("FileDeliveryModel", "unit", "[I", true)
  | 46 => ("FileDeliveryModel", "came", "[I", true)
  | _ => ("FileDeliveryModel", "gap", "[I", true)
def ix_ty8 : Nat → FieldType := fun k => match k with
  | 0 => .int
  | 1 => .int
  | 2 => .int
  | 3 => .int
  | 4 => .array (.boolean)
  | 5 => .array (.int)
  | 6 => .array (.int)
  | 7 => .array (.int)
  | 8 => .array (.int)
  | 9 => .array (.int)
  | 10 => .array (.int)
  | 11 => .array (.int)
  | 12 => .array (.int)
  | 13 => .array (.int)
  | 14 => .array (.int)
  | 15 => .array (.int)
  | 16 => .array (.int)
  | 17 => .array (.int)
  | 18 => .array (.int)
  | 19 => .array (.int)
  | 20 => .array (.boolean)
  | 21 => .array (.boolean)
  | 22 => .array (.boolean)
  | 23 => .array (.int)
  | 24 => .array (.int)
  | 25 => .array (.int)
  | 26 => .array (.int)
  | 27 => .array (.int)
  | 28 => .array (.int)
  | 29 => .array (.int)
  | 30 => .array (.int)
  | 31 => .array (.int)
  | 32 => .array (.int)
  | 33 => .array (.int)
  | 34 => .array (.int)
  | 35 => .array (.boolean)
  | 36 => .array (.boolean)
  | 37 => .array (.boolean)
  | 38 => .array (.int)
  | 39 => .array (.int)
  | 40 => .array (.int)
  | 41 => .array (.int)
  | 42 => .array (.int)
  | 43 => .array (.int)
  | 44 => .int
  | 45 => .array (.int)
  | 46 => .array (.int)
  | _ => .array (.int)
theorem ix_nm8 : ∀ a, a < 48 → ∀ b, b < 48 → a ≠ b → (ix_T8 a).2.1 ≠ (ix_T8 b).2.1 := by decide +kernel
theorem ix_ty8_ok : ∀ k, k < 48 → parseFieldDescriptor (ix_T8 k).2.2.1 = some (ix_ty8 k) := by decide +kernel
def ix_T9 : u_T := fun k => match k with
  | 0 => ("java/util/ArrayList", "elementData", "[Ljava/lang/Object;", false)
  | 1 => ("java/util/ArrayList", "size", "I", false)
  | _ => ("java/util/AbstractList", "modCount", "I", false)
def ix_ty9 : Nat → FieldType := fun k => match k with
  | 0 => .array (.object "java/lang/Object")
  | 1 => .int
  | _ => .int
theorem ix_nm9 : ∀ a, a < 3 → ∀ b, b < 3 → a ≠ b → (ix_T9 a).2.1 ≠ (ix_T9 b).2.1 := by decide +kernel
theorem ix_ty9_ok : ∀ k, k < 3 → parseFieldDescriptor (ix_T9 k).2.2.1 = some (ix_ty9 k) := by decide +kernel
def ix_cl : List vw_C := [("FileDelivery", ix_T0, 4), ("FileDelivery$Link", ix_T1, 2), ("FileDelivery$Receiver", ix_T2, 14), ("FileDelivery$Sender", ix_T3, 16), ("FileDelivery$Side", ix_T4, 4), ("FileDelivery$Store", ix_T5, 2), ("FileDelivery$Transaction", ix_T6, 8), ("FileDelivery$Unit", ix_T7, 6), ("FileDeliveryModel", ix_T8, 48), ("java/util/ArrayList", ix_T9, 3)]
def ix_tyl : List (Nat → FieldType) := [ix_ty0, ix_ty1, ix_ty2, ix_ty3, ix_ty4, ix_ty5, ix_ty6, ix_ty7, ix_ty8, ix_ty9]
def ix_ty (k : Nat) : Nat → FieldType := ix_tyl.getD k (fun _ => .int)
def ix_nf (k : Nat) : Nat := ([4, 2, 14, 16, 4, 2, 8, 6, 48, 3] : List Nat).getD k 0
def ix_cT (k : Nat) : u_T := ([ix_T0, ix_T1, ix_T2, ix_T3, ix_T4, ix_T5, ix_T6, ix_T7, ix_T8, ix_T9] : List u_T).getD k (fun _ => ("", "", "", false))
def ix_cn (k : Nat) : String := (["FileDelivery", "FileDelivery$Link", "FileDelivery$Receiver", "FileDelivery$Sender", "FileDelivery$Side", "FileDelivery$Store", "FileDelivery$Transaction", "FileDelivery$Unit", "FileDeliveryModel", "java/util/ArrayList"] : List String).getD k ""
/-- the kinds of arrays, by what they hold -/
def ix_at (t : Nat) : FieldType := ([.int, .boolean, .byte, .long, .array .byte, .object "FileDelivery$Side", .object "FileDelivery$Unit", .object "java/lang/Object"] : List FieldType).getD t .int
/-- the methods: name, bytes, locals, what they answer, frames and words left to them -/
abbrev ix_MR : Type := MethodName × ByteArray × Nat × Option FieldType × Nat × Nat
def ix_M0 : List ix_MR := [
  (⟨"FileDeliveryLaw", "law", "([I)Z"⟩, code, 7, (some (.boolean)), 12, 474),
  (⟨"FileDelivery", "<init>", "(I)V"⟩, prog_1_method_1_code, 2, none, 11, 453),
  (⟨"FileDelivery$Side", "<init>", "()V"⟩, prog_5_method_1_code, 1, none, 10, 433),
  (⟨"FileDelivery$Store", "<init>", "()V"⟩, prog_6_method_1_code, 2, none, 9, 412),
  (⟨"java/util/ArrayList", "<init>", "()V"⟩, prog_25_method_2_code, 1, none, 9, 413),
  (⟨"java/util/AbstractList", "<init>", "()V"⟩, prog_24_method_1_code, 1, none, 8, 393),
  (⟨"java/util/AbstractCollection", "<init>", "()V"⟩, prog_23_method_1_code, 1, none, 7, 373),
  (⟨"FileDelivery$Link", "<init>", "()V"⟩, prog_2_method_1_code, 1, none, 10, 433),
  (⟨"FileDelivery", "create", "(II)Z"⟩, prog_1_method_2_code, 3, (some (.boolean)), 11, 452),
  (⟨"FileDelivery", "isFile", "(II)Z"⟩, prog_1_method_22_code, 2, (some (.boolean)), 8, 383),
  (⟨"FileDelivery", "isEntity", "(I)Z"⟩, prog_1_method_20_code, 1, (some (.boolean)), 7, 363),
  (⟨"FileDelivery", "isFileNumber", "(I)Z"⟩, prog_1_method_21_code, 1, (some (.boolean)), 7, 363),
  (⟨"FileDelivery$Store", "has", "(I)Z"⟩, prog_6_method_2_code, 2, (some (.boolean)), 6, 345),
  (⟨"FileDelivery$Store", "makeEmpty", "(I)V"⟩, prog_6_method_8_code, 2, none, 10, 431),
  (⟨"FileDelivery", "size", "(II)I"⟩, prog_1_method_5_code, 3, (some (.int)), 11, 452),
  (⟨"FileDelivery", "isThere", "(II)Z"⟩, prog_1_method_23_code, 3, (some (.boolean)), 9, 404),
  (⟨"FileDelivery$Store", "length", "(I)I"⟩, prog_6_method_3_code, 2, (some (.int)), 6, 350),
  (⟨"FileDelivery", "cancel", "(II)Z"⟩, prog_1_method_8_code, 4, (some (.boolean)), 11, 451),
  (⟨"FileDelivery", "findSender", "(II)LFileDelivery$Sender;"⟩, prog_1_method_24_code, 3, (some (.object "FileDelivery$Sender")), 9, 406),
  (⟨"FileDelivery$Side", "senderOf", "(I)LFileDelivery$Sender;"⟩, prog_5_method_3_code, 2, (some (.object "FileDelivery$Sender")), 8, 385),
  (⟨"java/util/ArrayList", "size", "()I"⟩, prog_25_method_8_code, 1, (some (.int)), 5, 324),
  (⟨"java/util/ArrayList", "get", "(I)Ljava/lang/Object;"⟩, prog_25_method_20_code, 2, (some (.object "java/lang/Object")), 5, 323),
  (⟨"java/util/Objects", "checkIndex", "(II)I"⟩, prog_30_method_17_code, 2, (some (.int)), 4, 302),
  (⟨"jdk/internal/util/Preconditions", "checkIndex", "(IILjava/util/function/BiFunction;)I"⟩, prog_34_method_11_code, 3, (some (.int)), 3, 280),
  (⟨"java/util/ArrayList", "elementData", "(I)Ljava/lang/Object;"⟩, prog_25_method_18_code, 2, (some (.object "java/lang/Object")), 4, 302),
  (⟨"FileDelivery$Sender", "beCancelled", "()Z"⟩, prog_4_method_3_code, 1, (some (.boolean)), 10, 431),
  (⟨"FileDelivery$Sender", "isOpen", "()Z"⟩, prog_4_method_2_code, 1, (some (.boolean)), 8, 388),
  (⟨"FileDelivery", "suspend", "(IIZ)Z"⟩, prog_1_method_9_code, 5, (some (.boolean)), 11, 450),
  (⟨"FileDelivery$Sender", "beSuspended", "(Z)Z"⟩, prog_4_method_4_code, 2, (some (.boolean)), 10, 429),
  (⟨"FileDelivery", "tick", "()I"⟩, prog_1_method_10_code, 2, (some (.int)), 11, 453),
  (⟨"FileDelivery$Side", "passTick", "(I)V"⟩, prog_5_method_5_code, 3, none, 10, 431),
  (⟨"FileDelivery$Sender", "passTick", "()V"⟩, prog_4_method_5_code, 1, none, 9, 411),
  (⟨"FileDelivery$Sender", "sendNext", "()V"⟩, prog_4_method_6_code, 1, none, 8, 391),
  (⟨"FileDelivery$Sender", "sendMetadata", "()V"⟩, prog_4_method_9_code, 1, none, 7, 369),
  (⟨"FileDelivery$Sender", "launch", "(IIII)V"⟩, prog_4_method_12_code, 5, none, 6, 343),
  (⟨"FileDelivery$Transaction", "otherEntity", "()I"⟩, prog_7_method_3_code, 1, (some (.int)), 5, 323),
  (⟨"FileDelivery$Unit", "<init>", "(LFileDelivery$Transaction;IIIII)V"⟩, prog_8_method_1_code, 7, none, 5, 308),
  (⟨"FileDelivery$Link", "send", "(LFileDelivery$Unit;)V"⟩, prog_2_method_3_code, 2, none, 5, 313),
  (⟨"FileDelivery$Sender", "sendData", "(I)V"⟩, prog_4_method_10_code, 3, none, 7, 367),
  (⟨"FileDelivery$Store", "segmentLength", "(II)I"⟩, prog_6_method_6_code, 4, (some (.int)), 5, 319),
  (⟨"FileDelivery$Store", "segmentBytes", "(II)I"⟩, prog_6_method_7_code, 6, (some (.int)), 6, 342),
  (⟨"FileDelivery$Store", "byteOf", "(II)I"⟩, prog_6_method_4_code, 3, (some (.int)), 5, 320),
  (⟨"FileDelivery$Sender", "sendEnd", "()V"⟩, prog_4_method_11_code, 1, none, 7, 371),
  (⟨"FileDelivery$Store", "checksum", "(I)I"⟩, prog_6_method_5_code, 2, (some (.int)), 6, 350),
  (⟨"FileDelivery", "checksumOf", "([BI)I"⟩, prog_1_method_30_code, 5, (some (.int)), 5, 326),
  (⟨"FileDelivery$Transaction", "isAcknowledged", "()Z"⟩, prog_7_method_2_code, 1, (some (.boolean)), 7, 364),
  (⟨"FileDelivery$Sender", "sendRepair", "()V"⟩, prog_4_method_7_code, 3, none, 8, 389),
  (⟨"FileDelivery$Sender", "awaitAckOfEnd", "()V"⟩, prog_4_method_8_code, 1, none, 8, 391),
  (⟨"FileDelivery$Receiver", "passTick", "(I)V"⟩, prog_3_method_3_code, 3, none, 9, 409),
  (⟨"FileDelivery$Receiver", "hasEnded", "()Z"⟩, prog_3_method_2_code, 1, (some (.boolean)), 8, 386),
  (⟨"FileDelivery$Receiver", "awaitAckOfFinished", "(II)V"⟩, prog_3_method_4_code, 3, none, 8, 387),
  (⟨"FileDelivery$Receiver", "sendFinished", "(I)V"⟩, prog_3_method_14_code, 2, none, 7, 363),
  (⟨"FileDelivery$Receiver", "launch", "(III)V"⟩, prog_3_method_16_code, 4, none, 6, 334),
  (⟨"FileDelivery$Receiver", "sendNak", "(I)V"⟩, prog_3_method_15_code, 9, none, 7, 357),
  (⟨"FileDelivery$Receiver", "missing", "()I"⟩, prog_3_method_8_code, 1, (some (.int)), 6, 337),
  (⟨"FileDelivery", "segmentsOf", "(I)I"⟩, prog_1_method_29_code, 1, (some (.int)), 5, 317),
  (⟨"FileDelivery$Receiver", "end", "(II)V"⟩, prog_3_method_13_code, 3, none, 8, 384),
  (⟨"FileDelivery$Side", "forgetClosed", "()V"⟩, prog_5_method_6_code, 2, none, 9, 408),
  (⟨"java/util/ArrayList", "remove", "(I)Ljava/lang/Object;"⟩, prog_25_method_29_code, 4, (some (.object "java/lang/Object")), 8, 385),
  (⟨"java/util/ArrayList", "fastRemove", "([Ljava/lang/Object;I)V"⟩, prog_25_method_39_code, 4, none, 7, 362)]
def ix_M1 : List ix_MR := [
  (⟨"FileDelivery", "deliver", "(I)Z"⟩, prog_1_method_11_code, 3, (some (.boolean)), 11, 452),
  (⟨"FileDelivery$Link", "take", "(I)LFileDelivery$Unit;"⟩, prog_2_method_5_code, 4, (some (.object "FileDelivery$Unit")), 10, 429),
  (⟨"FileDelivery$Link", "look", "(I)LFileDelivery$Unit;"⟩, prog_2_method_4_code, 2, (some (.object "FileDelivery$Unit")), 9, 408),
  (⟨"FileDelivery", "handToSender", "(LFileDelivery$Unit;)V"⟩, prog_1_method_26_code, 4, none, 10, 429),
  (⟨"FileDelivery$Sender", "hear", "(LFileDelivery$Unit;)V"⟩, prog_4_method_13_code, 2, none, 9, 408),
  (⟨"FileDelivery$Sender", "noteAnswer", "(LFileDelivery$Unit;)V"⟩, prog_4_method_14_code, 2, none, 8, 387),
  (⟨"FileDelivery", "handToReceiver", "(LFileDelivery$Unit;)V"⟩, prog_1_method_27_code, 4, none, 10, 429),
  (⟨"FileDelivery", "openReceiver", "(LFileDelivery$Unit;LFileDelivery$Side;)V"⟩, prog_1_method_28_code, 4, none, 9, 406),
  (⟨"FileDelivery$Receiver", "<init>", "(LFileDelivery$Transaction;LFileDelivery$Side;LFileDelivery$Link;I)V"⟩, prog_3_method_1_code, 5, none, 8, 382),
  (⟨"java/util/ArrayList", "add", "(Ljava/lang/Object;)Z"⟩, prog_25_method_25_code, 2, (some (.boolean)), 8, 375),
  (⟨"java/util/ArrayList", "add", "(Ljava/lang/Object;[Ljava/lang/Object;I)V"⟩, prog_25_method_24_code, 4, none, 7, 352),
  (⟨"java/util/ArrayList", "grow", "()[Ljava/lang/Object;"⟩, prog_25_method_7_code, 1, (some (.array (.object "java/lang/Object"))), 6, 332),
  (⟨"java/util/ArrayList", "grow", "(I)[Ljava/lang/Object;"⟩, prog_25_method_6_code, 4, (some (.array (.object "java/lang/Object"))), 5, 309),
  (⟨"jdk/internal/util/ArraysSupport", "newLength", "(III)I"⟩, prog_33_method_27_code, 4, (some (.int)), 4, 286),
  (⟨"java/lang/Math", "max", "(II)I"⟩, prog_18_method_65_code, 2, (some (.int)), 3, 265),
  (⟨"jdk/internal/util/ArraysSupport", "hugeLength", "(II)I"⟩, prog_33_method_28_code, 3, (some (.int)), 3, 264),
  (⟨"java/util/Arrays", "copyOf", "([Ljava/lang/Object;I)[Ljava/lang/Object;"⟩, prog_26_method_119_code, 2, (some (.array (.object "java/lang/Object"))), 4, 288),
  (⟨"java/util/Arrays", "copyOf", "([Ljava/lang/Object;ILjava/lang/Class;)[Ljava/lang/Object;"⟩, prog_26_method_120_code, 4, (some (.array (.object "java/lang/Object"))), 3, 265),
  (⟨"java/lang/Math", "min", "(II)I"⟩, prog_18_method_69_code, 2, (some (.int)), 2, 244),
  (⟨"FileDelivery$Receiver", "hear", "(LFileDelivery$Unit;I)V"⟩, prog_3_method_5_code, 4, none, 9, 406),
  (⟨"FileDelivery$Receiver", "note", "(LFileDelivery$Unit;)V"⟩, prog_3_method_6_code, 2, none, 8, 385),
  (⟨"FileDelivery$Receiver", "noteSegment", "(LFileDelivery$Unit;)V"⟩, prog_3_method_7_code, 4, none, 7, 362),
  (⟨"FileDelivery$Receiver", "isComplete", "()Z"⟩, prog_3_method_9_code, 1, (some (.boolean)), 8, 386),
  (⟨"FileDelivery$Receiver", "storeFile", "()I"⟩, prog_3_method_11_code, 1, (some (.int)), 8, 386),
  (⟨"FileDelivery$Side", "locks", "(I)Z"⟩, prog_5_method_4_code, 3, (some (.boolean)), 6, 344),
  (⟨"FileDelivery$Store", "replace", "(I[BI)V"⟩, prog_6_method_11_code, 4, none, 5, 321),
  (⟨"FileDelivery$Receiver", "doRequest", "()Z"⟩, prog_3_method_12_code, 1, (some (.boolean)), 7, 366),
  (⟨"FileDelivery$Store", "duplicate", "(II)V"⟩, prog_6_method_12_code, 3, none, 6, 344),
  (⟨"FileDelivery$Store", "remove", "(I)V"⟩, prog_6_method_9_code, 2, none, 6, 345),
  (⟨"FileDelivery$Receiver", "beginWaiting", "(I)V"⟩, prog_3_method_10_code, 2, none, 8, 385),
  (⟨"FileDelivery", "lose", "(I)Z"⟩, prog_1_method_12_code, 2, (some (.boolean)), 11, 453),
  (⟨"FileDelivery", "copy", "(I)Z"⟩, prog_1_method_13_code, 3, (some (.boolean)), 11, 452),
  (⟨"FileDelivery$Link", "isFull", "()Z"⟩, prog_2_method_2_code, 1, (some (.boolean)), 10, 432),
  (⟨"FileDelivery$Unit", "twin", "()LFileDelivery$Unit;"⟩, prog_8_method_2_code, 1, (some (.object "FileDelivery$Unit")), 10, 432),
  (⟨"FileDelivery", "spoil", "(II)Z"⟩, prog_1_method_14_code, 4, (some (.boolean)), 11, 451),
  (⟨"FileDelivery", "units", "()I"⟩, prog_1_method_15_code, 1, (some (.int)), 11, 454),
  (⟨"FileDelivery", "unit", "(II)I"⟩, prog_1_method_16_code, 4, (some (.int)), 11, 451),
  (⟨"FileDelivery", "sender", "(II)I"⟩, prog_1_method_17_code, 4, (some (.int)), 11, 451),
  (⟨"FileDelivery", "receiver", "(II)I"⟩, prog_1_method_18_code, 4, (some (.int)), 11, 451),
  (⟨"FileDelivery", "findReceiver", "(II)LFileDelivery$Receiver;"⟩, prog_1_method_25_code, 4, (some (.object "FileDelivery$Receiver")), 10, 428),
  (⟨"FileDelivery", "request", "(II)I"⟩, prog_1_method_19_code, 4, (some (.int)), 11, 451),
  (⟨"FileDeliveryLaw", "cell", "([II)I"⟩, method_2_code, 2, (some (.int)), 11, 453),
  (⟨"FileDeliveryLaw", "append", "(LFileDelivery;IIIJ[J)I"⟩, method_3_code, 8, (some (.int)), 11, 447),
  (⟨"FileDelivery", "append", "(IIIJ)I"⟩, prog_1_method_3_code, 7, (some (.int)), 10, 421),
  (⟨"FileDelivery$Store", "extend", "(IIJ)V"⟩, prog_6_method_10_code, 6, none, 9, 396),
  (⟨"FileDeliveryLaw", "delete", "(LFileDelivery;II[J)I"⟩, method_4_code, 5, (some (.int)), 11, 450),
  (⟨"FileDelivery", "delete", "(II)Z"⟩, prog_1_method_4_code, 3, (some (.boolean)), 10, 428),
  (⟨"FileDeliveryLaw", "at", "(LFileDelivery;III[J)I"⟩, method_5_code, 6, (some (.int)), 11, 449),
  (⟨"FileDelivery", "at", "(III)I"⟩, prog_1_method_6_code, 4, (some (.int)), 10, 426),
  (⟨"FileDeliveryLaw", "put", "(LFileDelivery;IIIIII[J)I"⟩, method_6_code, 9, (some (.int)), 11, 446),
  (⟨"FileDelivery", "put", "(IIIIII)I"⟩, prog_1_method_7_code, 10, (some (.int)), 10, 417),
  (⟨"FileDelivery$Transaction", "<init>", "(IIIIIII)V"⟩, prog_7_method_1_code, 8, none, 9, 390),
  (⟨"FileDelivery$Sender", "<init>", "(LFileDelivery$Transaction;LFileDelivery$Store;LFileDelivery$Link;I)V"⟩, prog_4_method_1_code, 5, none, 9, 393),
  (⟨"FileDelivery$Side", "addSender", "(LFileDelivery$Sender;)V"⟩, prog_5_method_2_code, 2, none, 9, 396),
  (⟨"FileDeliveryModel", "<init>", "(I)V"⟩, prog_10_method_1_code, 2, none, 11, 453),
  (⟨"FileDeliveryModel", "thrown", "()I"⟩, prog_10_method_2_code, 1, (some (.int)), 11, 454),
  (⟨"FileDeliveryModel", "create", "(II)Z"⟩, prog_10_method_7_code, 3, (some (.boolean)), 11, 452),
  (⟨"FileDeliveryModel", "isFile", "(II)Z"⟩, prog_10_method_4_code, 2, (some (.boolean)), 10, 426),
  (⟨"FileDeliveryModel", "in", "(III)Z"⟩, prog_10_method_3_code, 3, (some (.boolean)), 8, 385),
  (⟨"FileDeliveryModel", "append", "(IIIJ)I"⟩, prog_10_method_8_code, 8, (some (.int)), 11, 447)]
def ix_M2 : List ix_MR := [
  (⟨"FileDeliveryModel", "fails", "(I)I"⟩, prog_10_method_5_code, 2, (some (.int)), 10, 426),
  (⟨"FileDeliveryModel", "isLocked", "(II)Z"⟩, prog_10_method_6_code, 5, (some (.boolean)), 7, 349),
  (⟨"FileDeliveryModel", "delete", "(II)Z"⟩, prog_10_method_9_code, 3, (some (.boolean)), 11, 452),
  (⟨"FileDeliveryModel", "size", "(II)I"⟩, prog_10_method_10_code, 3, (some (.int)), 11, 452),
  (⟨"FileDeliveryModel", "at", "(III)I"⟩, prog_10_method_11_code, 4, (some (.int)), 11, 451),
  (⟨"FileDeliveryModel", "put", "(IIIIII)I"⟩, prog_10_method_18_code, 8, (some (.int)), 11, 447),
  (⟨"FileDeliveryModel", "cancel", "(II)Z"⟩, prog_10_method_21_code, 4, (some (.boolean)), 11, 451),
  (⟨"FileDeliveryModel", "known", "(II)I"⟩, prog_10_method_20_code, 3, (some (.int)), 9, 407),
  (⟨"FileDeliveryModel", "suspend", "(IIZ)Z"⟩, prog_10_method_22_code, 5, (some (.boolean)), 11, 450),
  (⟨"FileDeliveryModel", "tick", "()I"⟩, prog_10_method_42_code, 4, (some (.int)), 11, 451),
  (⟨"FileDeliveryModel", "work", "(I)V"⟩, prog_10_method_27_code, 3, none, 10, 429),
  (⟨"FileDeliveryModel", "fileIndex", "(I)I"⟩, prog_10_method_23_code, 2, (some (.int)), 7, 362),
  (⟨"FileDeliveryModel", "segments", "(I)I"⟩, prog_10_method_12_code, 1, (some (.int)), 7, 359),
  (⟨"FileDeliveryModel", "sendEnd", "(I)V"⟩, prog_10_method_26_code, 3, none, 9, 407),
  (⟨"FileDeliveryModel", "checksum", "(I)I"⟩, prog_10_method_14_code, 4, (some (.int)), 8, 384),
  (⟨"FileDeliveryModel", "word", "(II)I"⟩, prog_10_method_13_code, 5, (some (.int)), 7, 359),
  (⟨"FileDeliveryModel", "send", "(IIIIII)Z"⟩, prog_10_method_15_code, 9, (some (.boolean)), 6, 327),
  (⟨"FileDeliveryModel", "close", "(II)V"⟩, prog_10_method_19_code, 6, none, 8, 382),
  (⟨"FileDeliveryModel", "sendMetadata", "(I)V"⟩, prog_10_method_24_code, 2, none, 8, 386),
  (⟨"FileDeliveryModel", "sendData", "(II)V"⟩, prog_10_method_25_code, 5, none, 8, 383),
  (⟨"FileDeliveryModel", "repair", "(I)V"⟩, prog_10_method_28_code, 3, none, 9, 407),
  (⟨"FileDeliveryModel", "attend", "(I)V"⟩, prog_10_method_41_code, 3, none, 10, 429),
  (⟨"FileDeliveryModel", "shut", "(II)V"⟩, prog_10_method_34_code, 6, none, 7, 351),
  (⟨"FileDeliveryModel", "tell", "(I)V"⟩, prog_10_method_36_code, 2, none, 7, 355),
  (⟨"FileDeliveryModel", "finish", "(III)V"⟩, prog_10_method_35_code, 4, none, 8, 376),
  (⟨"FileDeliveryModel", "nak", "(I)V"⟩, prog_10_method_40_code, 5, none, 9, 402),
  (⟨"FileDeliveryModel", "lost", "(II)I"⟩, prog_10_method_33_code, 4, (some (.int)), 8, 379),
  (⟨"FileDeliveryModel", "deliver", "(I)Z"⟩, prog_10_method_43_code, 4, (some (.boolean)), 11, 451),
  (⟨"FileDeliveryModel", "flies", "(I)Z"⟩, prog_10_method_17_code, 2, (some (.boolean)), 10, 429),
  (⟨"FileDeliveryModel", "out", "(I)V"⟩, prog_10_method_16_code, 3, none, 10, 429),
  (⟨"FileDeliveryModel", "toSender", "(I)V"⟩, prog_10_method_29_code, 3, none, 10, 429),
  (⟨"FileDeliveryModel", "asked", "(I)V"⟩, prog_10_method_30_code, 5, none, 9, 405),
  (⟨"FileDeliveryModel", "toReceiver", "(II)V"⟩, prog_10_method_31_code, 6, none, 10, 426),
  (⟨"FileDeliveryModel", "place", "(II)V"⟩, prog_10_method_32_code, 5, none, 9, 402),
  (⟨"FileDeliveryModel", "complete", "(II)V"⟩, prog_10_method_38_code, 8, none, 9, 399),
  (⟨"FileDeliveryModel", "byteOf", "(II)I"⟩, prog_10_method_37_code, 4, (some (.int)), 8, 376),
  (⟨"FileDeliveryModel", "grant", "(III)V"⟩, prog_10_method_39_code, 7, none, 8, 373),
  (⟨"FileDeliveryModel", "lose", "(I)Z"⟩, prog_10_method_44_code, 2, (some (.boolean)), 11, 453),
  (⟨"FileDeliveryModel", "copy", "(I)Z"⟩, prog_10_method_45_code, 3, (some (.boolean)), 11, 452),
  (⟨"FileDeliveryModel", "spoil", "(II)Z"⟩, prog_10_method_46_code, 5, (some (.boolean)), 11, 450),
  (⟨"FileDeliveryModel", "units", "()I"⟩, prog_10_method_47_code, 1, (some (.int)), 11, 454),
  (⟨"FileDeliveryModel", "unit", "(II)I"⟩, prog_10_method_48_code, 4, (some (.int)), 11, 451),
  (⟨"FileDeliveryModel", "sender", "(II)I"⟩, prog_10_method_49_code, 4, (some (.int)), 11, 451),
  (⟨"FileDeliveryModel", "receiver", "(II)I"⟩, prog_10_method_50_code, 4, (some (.int)), 11, 451),
  (⟨"FileDeliveryModel", "request", "(II)I"⟩, prog_10_method_51_code, 4, (some (.int)), 11, 451)]
def ix_M : List ix_MR := ix_M0 ++ ix_M1 ++ ix_M2
def ix_rec (m : Nat) : ix_MR := ix_M.getD m (⟨"", "", ""⟩, ⟨#[]⟩, 0, none, 0, 0)
def ix_y (m : Nat) : MethodName := (ix_rec m).1
def ix_by (m : Nat) : ByteArray := (ix_rec m).2.1
def ix_mL (m : Nat) : Nat := (ix_rec m).2.2.1
def ix_rt (m : Nat) : Option FieldType := (ix_rec m).2.2.2.1
def ix_fr (m : Nat) : Nat := (ix_rec m).2.2.2.2.1
def ix_lo (m : Nat) : Nat := (ix_rec m).2.2.2.2.2
def ix_own (m : Nat) : String := (ix_y m).cls
end
section
/-! decode rows (written by wip/whole/gen4.py) -/
theorem d0_0 : decode (ix_by 0) 0 = .ok (.new 8, 3) := by decide +kernel
theorem d0_3 : decode (ix_by 0) 3 = .ok (.dup, 1) := by decide +kernel
theorem d0_4 : decode (ix_by 0) 4 = .ok (.aload_n 0, 1) := by decide +kernel
theorem d0_5 : decode (ix_by 0) 5 = .ok (.iconst 0, 1) := by decide +kernel
theorem d0_6 : decode (ix_by 0) 6 = .ok (.invokestatic 33, 3) := by decide +kernel
theorem d0_9 : decode (ix_by 0) 9 = .ok (.invokespecial 39, 3) := by decide +kernel
theorem d0_12 : decode (ix_by 0) 12 = .ok (.astore_n 1, 1) := by decide +kernel
theorem d0_13 : decode (ix_by 0) 13 = .ok (.new 42, 3) := by decide +kernel
theorem d0_16 : decode (ix_by 0) 16 = .ok (.dup, 1) := by decide +kernel
theorem d0_17 : decode (ix_by 0) 17 = .ok (.aload_n 0, 1) := by decide +kernel
theorem d0_18 : decode (ix_by 0) 18 = .ok (.iconst 0, 1) := by decide +kernel
theorem d0_19 : decode (ix_by 0) 19 = .ok (.invokestatic 33, 3) := by decide +kernel
theorem d0_22 : decode (ix_by 0) 22 = .ok (.invokespecial 44, 3) := by decide +kernel
theorem d0_25 : decode (ix_by 0) 25 = .ok (.astore_n 2, 1) := by decide +kernel
theorem d0_26 : decode (ix_by 0) 26 = .ok (.iconst 1, 1) := by decide +kernel
theorem d0_27 : decode (ix_by 0) 27 = .ok (.newarray .long, 2) := by decide +kernel
theorem d0_29 : decode (ix_by 0) 29 = .ok (.astore_n 3, 1) := by decide +kernel
theorem d0_30 : decode (ix_by 0) 30 = .ok (.iconst 1, 1) := by decide +kernel
theorem d0_31 : decode (ix_by 0) 31 = .ok (.istore 4, 2) := by decide +kernel
theorem d0_33 : decode (ix_by 0) 33 = .ok (.iload 4, 2) := by decide +kernel
theorem d0_35 : decode (ix_by 0) 35 = .ok (.aload_n 0, 1) := by decide +kernel
theorem d0_36 : decode (ix_by 0) 36 = .ok (.arraylength, 1) := by decide +kernel
theorem d0_37 : decode (ix_by 0) 37 = .ok (.bipush 7, 2) := by decide +kernel
theorem d0_39 : decode (ix_by 0) 39 = .ok (.isub, 1) := by decide +kernel
theorem d0_40 : decode (ix_by 0) 40 = .ok (.if_icmp .gt 961, 3) := by decide +kernel
theorem d0_43 : decode (ix_by 0) 43 = .ok (.aload_n 0, 1) := by decide +kernel
theorem d0_44 : decode (ix_by 0) 44 = .ok (.iload 4, 2) := by decide +kernel
theorem d0_46 : decode (ix_by 0) 46 = .ok (.iaload, 1) := by decide +kernel
theorem d0_47 : decode (ix_by 0) 47 = .ok (.bipush 31, 2) := by decide +kernel
theorem d0_49 : decode (ix_by 0) 49 = .ok (.iand, 1) := by decide +kernel
theorem d0_50 : decode (ix_by 0) 50 = .ok (.tableswitch 945 0 17 #[86, 123, 247, 322, 359, 439, 557, 594, 659, 672, 697, 722, 747, 784, 797, 834, 871, 908], 86) := by decide +kernel
theorem d0_136 : decode (ix_by 0) 136 = .ok (.aload_n 1, 1) := by decide +kernel
theorem d0_137 : decode (ix_by 0) 137 = .ok (.aload_n 0, 1) := by decide +kernel
theorem d0_138 : decode (ix_by 0) 138 = .ok (.iload 4, 2) := by decide +kernel
theorem d0_140 : decode (ix_by 0) 140 = .ok (.iconst 1, 1) := by decide +kernel
theorem d0_141 : decode (ix_by 0) 141 = .ok (.iadd, 1) := by decide +kernel
theorem d0_142 : decode (ix_by 0) 142 = .ok (.iaload, 1) := by decide +kernel
theorem d0_143 : decode (ix_by 0) 143 = .ok (.aload_n 0, 1) := by decide +kernel
theorem d0_144 : decode (ix_by 0) 144 = .ok (.iload 4, 2) := by decide +kernel
theorem d0_146 : decode (ix_by 0) 146 = .ok (.iconst 2, 1) := by decide +kernel
theorem d0_147 : decode (ix_by 0) 147 = .ok (.iadd, 1) := by decide +kernel
theorem d0_148 : decode (ix_by 0) 148 = .ok (.iaload, 1) := by decide +kernel
theorem d0_149 : decode (ix_by 0) 149 = .ok (.invokevirtual 45, 3) := by decide +kernel
theorem d0_152 : decode (ix_by 0) 152 = .ok (.aload_n 2, 1) := by decide +kernel
theorem d0_153 : decode (ix_by 0) 153 = .ok (.aload_n 0, 1) := by decide +kernel
theorem d0_154 : decode (ix_by 0) 154 = .ok (.iload 4, 2) := by decide +kernel
theorem d0_156 : decode (ix_by 0) 156 = .ok (.iconst 1, 1) := by decide +kernel
theorem d0_157 : decode (ix_by 0) 157 = .ok (.iadd, 1) := by decide +kernel
theorem d0_158 : decode (ix_by 0) 158 = .ok (.iaload, 1) := by decide +kernel
theorem d0_159 : decode (ix_by 0) 159 = .ok (.aload_n 0, 1) := by decide +kernel
theorem d0_160 : decode (ix_by 0) 160 = .ok (.iload 4, 2) := by decide +kernel
theorem d0_162 : decode (ix_by 0) 162 = .ok (.iconst 2, 1) := by decide +kernel
theorem d0_163 : decode (ix_by 0) 163 = .ok (.iadd, 1) := by decide +kernel
theorem d0_164 : decode (ix_by 0) 164 = .ok (.iaload, 1) := by decide +kernel
theorem d0_165 : decode (ix_by 0) 165 = .ok (.invokevirtual 48, 3) := by decide +kernel
theorem d0_168 : decode (ix_by 0) 168 = .ok (.if_icmp .eq 827, 3) := by decide +kernel
theorem d0_171 : decode (ix_by 0) 171 = .ok (.iconst 0, 1) := by decide +kernel
theorem d0_172 : decode (ix_by 0) 172 = .ok (.ireturn, 1) := by decide +kernel
theorem d0_173 : decode (ix_by 0) 173 = .ok (.aload_n 1, 1) := by decide +kernel
theorem d0_174 : decode (ix_by 0) 174 = .ok (.aload_n 0, 1) := by decide +kernel
theorem d0_175 : decode (ix_by 0) 175 = .ok (.iload 4, 2) := by decide +kernel
theorem d0_177 : decode (ix_by 0) 177 = .ok (.iconst 1, 1) := by decide +kernel
theorem d0_178 : decode (ix_by 0) 178 = .ok (.iadd, 1) := by decide +kernel
theorem d0_179 : decode (ix_by 0) 179 = .ok (.iaload, 1) := by decide +kernel
theorem d0_180 : decode (ix_by 0) 180 = .ok (.aload_n 0, 1) := by decide +kernel
theorem d0_181 : decode (ix_by 0) 181 = .ok (.iload 4, 2) := by decide +kernel
theorem d0_183 : decode (ix_by 0) 183 = .ok (.iconst 2, 1) := by decide +kernel
theorem d0_184 : decode (ix_by 0) 184 = .ok (.iadd, 1) := by decide +kernel
theorem d0_185 : decode (ix_by 0) 185 = .ok (.iaload, 1) := by decide +kernel
theorem d0_186 : decode (ix_by 0) 186 = .ok (.aload_n 0, 1) := by decide +kernel
theorem d0_187 : decode (ix_by 0) 187 = .ok (.iload 4, 2) := by decide +kernel
theorem d0_189 : decode (ix_by 0) 189 = .ok (.iconst 3, 1) := by decide +kernel
theorem d0_190 : decode (ix_by 0) 190 = .ok (.iadd, 1) := by decide +kernel
theorem d0_191 : decode (ix_by 0) 191 = .ok (.iaload, 1) := by decide +kernel
theorem d0_192 : decode (ix_by 0) 192 = .ok (.aload_n 0, 1) := by decide +kernel
theorem d0_193 : decode (ix_by 0) 193 = .ok (.iload 4, 2) := by decide +kernel
theorem d0_195 : decode (ix_by 0) 195 = .ok (.iconst 4, 1) := by decide +kernel
theorem d0_196 : decode (ix_by 0) 196 = .ok (.iadd, 1) := by decide +kernel
theorem d0_197 : decode (ix_by 0) 197 = .ok (.iaload, 1) := by decide +kernel
theorem d0_198 : decode (ix_by 0) 198 = .ok (.i2l, 1) := by decide +kernel
theorem d0_199 : decode (ix_by 0) 199 = .ok (.bipush 32, 2) := by decide +kernel
theorem d0_201 : decode (ix_by 0) 201 = .ok (.lshl, 1) := by decide +kernel
theorem d0_202 : decode (ix_by 0) 202 = .ok (.aload_n 0, 1) := by decide +kernel
theorem d0_203 : decode (ix_by 0) 203 = .ok (.iload 4, 2) := by decide +kernel
theorem d0_205 : decode (ix_by 0) 205 = .ok (.iconst 5, 1) := by decide +kernel
theorem d0_206 : decode (ix_by 0) 206 = .ok (.iadd, 1) := by decide +kernel
theorem d0_207 : decode (ix_by 0) 207 = .ok (.iaload, 1) := by decide +kernel
theorem d0_208 : decode (ix_by 0) 208 = .ok (.i2l, 1) := by decide +kernel
theorem d0_209 : decode (ix_by 0) 209 = .ok (.ldc2_w 49, 3) := by decide +kernel
theorem d0_212 : decode (ix_by 0) 212 = .ok (.land, 1) := by decide +kernel
theorem d0_213 : decode (ix_by 0) 213 = .ok (.lor, 1) := by decide +kernel
theorem d0_214 : decode (ix_by 0) 214 = .ok (.aload_n 3, 1) := by decide +kernel
theorem d0_215 : decode (ix_by 0) 215 = .ok (.invokestatic 51, 3) := by decide +kernel
theorem d0_218 : decode (ix_by 0) 218 = .ok (.istore 5, 2) := by decide +kernel
theorem d0_220 : decode (ix_by 0) 220 = .ok (.aload_n 2, 1) := by decide +kernel
theorem d0_221 : decode (ix_by 0) 221 = .ok (.aload_n 0, 1) := by decide +kernel
theorem d0_222 : decode (ix_by 0) 222 = .ok (.iload 4, 2) := by decide +kernel
theorem d0_224 : decode (ix_by 0) 224 = .ok (.iconst 1, 1) := by decide +kernel
theorem d0_225 : decode (ix_by 0) 225 = .ok (.iadd, 1) := by decide +kernel
theorem d0_226 : decode (ix_by 0) 226 = .ok (.iaload, 1) := by decide +kernel
theorem d0_227 : decode (ix_by 0) 227 = .ok (.aload_n 0, 1) := by decide +kernel
theorem d0_228 : decode (ix_by 0) 228 = .ok (.iload 4, 2) := by decide +kernel
theorem d0_230 : decode (ix_by 0) 230 = .ok (.iconst 2, 1) := by decide +kernel
theorem d0_231 : decode (ix_by 0) 231 = .ok (.iadd, 1) := by decide +kernel
theorem d0_232 : decode (ix_by 0) 232 = .ok (.iaload, 1) := by decide +kernel
theorem d0_233 : decode (ix_by 0) 233 = .ok (.aload_n 0, 1) := by decide +kernel
theorem d0_234 : decode (ix_by 0) 234 = .ok (.iload 4, 2) := by decide +kernel
theorem d0_236 : decode (ix_by 0) 236 = .ok (.iconst 3, 1) := by decide +kernel
theorem d0_237 : decode (ix_by 0) 237 = .ok (.iadd, 1) := by decide +kernel
theorem d0_238 : decode (ix_by 0) 238 = .ok (.iaload, 1) := by decide +kernel
theorem d0_239 : decode (ix_by 0) 239 = .ok (.aload_n 0, 1) := by decide +kernel
theorem d0_240 : decode (ix_by 0) 240 = .ok (.iload 4, 2) := by decide +kernel
theorem d0_242 : decode (ix_by 0) 242 = .ok (.iconst 4, 1) := by decide +kernel
theorem d0_243 : decode (ix_by 0) 243 = .ok (.iadd, 1) := by decide +kernel
theorem d0_244 : decode (ix_by 0) 244 = .ok (.iaload, 1) := by decide +kernel
theorem d0_245 : decode (ix_by 0) 245 = .ok (.i2l, 1) := by decide +kernel
theorem d0_246 : decode (ix_by 0) 246 = .ok (.bipush 32, 2) := by decide +kernel
theorem d0_248 : decode (ix_by 0) 248 = .ok (.lshl, 1) := by decide +kernel
theorem d0_249 : decode (ix_by 0) 249 = .ok (.aload_n 0, 1) := by decide +kernel
theorem d0_250 : decode (ix_by 0) 250 = .ok (.iload 4, 2) := by decide +kernel
theorem d0_252 : decode (ix_by 0) 252 = .ok (.iconst 5, 1) := by decide +kernel
theorem d0_253 : decode (ix_by 0) 253 = .ok (.iadd, 1) := by decide +kernel
theorem d0_254 : decode (ix_by 0) 254 = .ok (.iaload, 1) := by decide +kernel
theorem d0_255 : decode (ix_by 0) 255 = .ok (.i2l, 1) := by decide +kernel
theorem d0_256 : decode (ix_by 0) 256 = .ok (.ldc2_w 49, 3) := by decide +kernel
theorem d0_259 : decode (ix_by 0) 259 = .ok (.land, 1) := by decide +kernel
theorem d0_260 : decode (ix_by 0) 260 = .ok (.lor, 1) := by decide +kernel
theorem d0_261 : decode (ix_by 0) 261 = .ok (.invokevirtual 54, 3) := by decide +kernel
theorem d0_264 : decode (ix_by 0) 264 = .ok (.istore 6, 2) := by decide +kernel
theorem d0_266 : decode (ix_by 0) 266 = .ok (.aload_n 2, 1) := by decide +kernel
theorem d0_267 : decode (ix_by 0) 267 = .ok (.invokevirtual 55, 3) := by decide +kernel
theorem d0_270 : decode (ix_by 0) 270 = .ok (.iload 5, 2) := by decide +kernel
theorem d0_272 : decode (ix_by 0) 272 = .ok (.if_icmp .eq 5, 3) := by decide +kernel
theorem d0_275 : decode (ix_by 0) 275 = .ok (.iconst 0, 1) := by decide +kernel
theorem d0_276 : decode (ix_by 0) 276 = .ok (.ireturn, 1) := by decide +kernel
theorem d0_277 : decode (ix_by 0) 277 = .ok (.iload 5, 2) := by decide +kernel
theorem d0_279 : decode (ix_by 0) 279 = .ok (.ifCond .ne 15, 3) := by decide +kernel
theorem d0_282 : decode (ix_by 0) 282 = .ok (.aload_n 3, 1) := by decide +kernel
theorem d0_283 : decode (ix_by 0) 283 = .ok (.iconst 0, 1) := by decide +kernel
theorem d0_284 : decode (ix_by 0) 284 = .ok (.laload, 1) := by decide +kernel
theorem d0_285 : decode (ix_by 0) 285 = .ok (.iload 6, 2) := by decide +kernel
theorem d0_287 : decode (ix_by 0) 287 = .ok (.i2l, 1) := by decide +kernel
theorem d0_288 : decode (ix_by 0) 288 = .ok (.lcmp, 1) := by decide +kernel
theorem d0_289 : decode (ix_by 0) 289 = .ok (.ifCond .eq 5, 3) := by decide +kernel
theorem d0_292 : decode (ix_by 0) 292 = .ok (.iconst 0, 1) := by decide +kernel
theorem d0_293 : decode (ix_by 0) 293 = .ok (.ireturn, 1) := by decide +kernel
theorem d0_294 : decode (ix_by 0) 294 = .ok (.goto 701, 3) := by decide +kernel
theorem d0_297 : decode (ix_by 0) 297 = .ok (.aload_n 1, 1) := by decide +kernel
theorem d0_298 : decode (ix_by 0) 298 = .ok (.aload_n 0, 1) := by decide +kernel
theorem d0_299 : decode (ix_by 0) 299 = .ok (.iload 4, 2) := by decide +kernel
theorem d0_301 : decode (ix_by 0) 301 = .ok (.iconst 1, 1) := by decide +kernel
theorem d0_302 : decode (ix_by 0) 302 = .ok (.iadd, 1) := by decide +kernel
theorem d0_303 : decode (ix_by 0) 303 = .ok (.iaload, 1) := by decide +kernel
theorem d0_304 : decode (ix_by 0) 304 = .ok (.aload_n 0, 1) := by decide +kernel
theorem d0_305 : decode (ix_by 0) 305 = .ok (.iload 4, 2) := by decide +kernel
theorem d0_307 : decode (ix_by 0) 307 = .ok (.iconst 2, 1) := by decide +kernel
theorem d0_308 : decode (ix_by 0) 308 = .ok (.iadd, 1) := by decide +kernel
theorem d0_309 : decode (ix_by 0) 309 = .ok (.iaload, 1) := by decide +kernel
theorem d0_310 : decode (ix_by 0) 310 = .ok (.aload_n 3, 1) := by decide +kernel
theorem d0_311 : decode (ix_by 0) 311 = .ok (.invokestatic 59, 3) := by decide +kernel
theorem d0_314 : decode (ix_by 0) 314 = .ok (.istore 5, 2) := by decide +kernel
theorem d0_316 : decode (ix_by 0) 316 = .ok (.aload_n 2, 1) := by decide +kernel
theorem d0_317 : decode (ix_by 0) 317 = .ok (.aload_n 0, 1) := by decide +kernel
theorem d0_318 : decode (ix_by 0) 318 = .ok (.iload 4, 2) := by decide +kernel
theorem d0_320 : decode (ix_by 0) 320 = .ok (.iconst 1, 1) := by decide +kernel
theorem d0_321 : decode (ix_by 0) 321 = .ok (.iadd, 1) := by decide +kernel
theorem d0_322 : decode (ix_by 0) 322 = .ok (.iaload, 1) := by decide +kernel
theorem d0_323 : decode (ix_by 0) 323 = .ok (.aload_n 0, 1) := by decide +kernel
theorem d0_324 : decode (ix_by 0) 324 = .ok (.iload 4, 2) := by decide +kernel
theorem d0_326 : decode (ix_by 0) 326 = .ok (.iconst 2, 1) := by decide +kernel
theorem d0_327 : decode (ix_by 0) 327 = .ok (.iadd, 1) := by decide +kernel
theorem d0_328 : decode (ix_by 0) 328 = .ok (.iaload, 1) := by decide +kernel
theorem d0_329 : decode (ix_by 0) 329 = .ok (.invokevirtual 62, 3) := by decide +kernel
theorem d0_332 : decode (ix_by 0) 332 = .ok (.istore 6, 2) := by decide +kernel
theorem d0_334 : decode (ix_by 0) 334 = .ok (.aload_n 2, 1) := by decide +kernel
theorem d0_335 : decode (ix_by 0) 335 = .ok (.invokevirtual 55, 3) := by decide +kernel
theorem d0_338 : decode (ix_by 0) 338 = .ok (.iload 5, 2) := by decide +kernel
theorem d0_340 : decode (ix_by 0) 340 = .ok (.if_icmp .eq 5, 3) := by decide +kernel
theorem d0_343 : decode (ix_by 0) 343 = .ok (.iconst 0, 1) := by decide +kernel
theorem d0_344 : decode (ix_by 0) 344 = .ok (.ireturn, 1) := by decide +kernel
theorem d0_345 : decode (ix_by 0) 345 = .ok (.iload 5, 2) := by decide +kernel
theorem d0_347 : decode (ix_by 0) 347 = .ok (.ifCond .ne 22, 3) := by decide +kernel
theorem d0_350 : decode (ix_by 0) 350 = .ok (.aload_n 3, 1) := by decide +kernel
theorem d0_351 : decode (ix_by 0) 351 = .ok (.iconst 0, 1) := by decide +kernel
theorem d0_352 : decode (ix_by 0) 352 = .ok (.laload, 1) := by decide +kernel
theorem d0_353 : decode (ix_by 0) 353 = .ok (.iload 6, 2) := by decide +kernel
theorem d0_355 : decode (ix_by 0) 355 = .ok (.ifCond .eq 7, 3) := by decide +kernel
theorem d0_358 : decode (ix_by 0) 358 = .ok (.lconst 1, 1) := by decide +kernel
theorem d0_359 : decode (ix_by 0) 359 = .ok (.goto 4, 3) := by decide +kernel
theorem d0_362 : decode (ix_by 0) 362 = .ok (.lconst 0, 1) := by decide +kernel
theorem d0_363 : decode (ix_by 0) 363 = .ok (.lcmp, 1) := by decide +kernel
theorem d0_364 : decode (ix_by 0) 364 = .ok (.ifCond .eq 5, 3) := by decide +kernel
theorem d0_367 : decode (ix_by 0) 367 = .ok (.iconst 0, 1) := by decide +kernel
theorem d0_368 : decode (ix_by 0) 368 = .ok (.ireturn, 1) := by decide +kernel
theorem d0_369 : decode (ix_by 0) 369 = .ok (.goto 626, 3) := by decide +kernel
theorem d0_372 : decode (ix_by 0) 372 = .ok (.aload_n 1, 1) := by decide +kernel
theorem d0_373 : decode (ix_by 0) 373 = .ok (.aload_n 0, 1) := by decide +kernel
theorem d0_374 : decode (ix_by 0) 374 = .ok (.iload 4, 2) := by decide +kernel
theorem d0_376 : decode (ix_by 0) 376 = .ok (.iconst 1, 1) := by decide +kernel
theorem d0_377 : decode (ix_by 0) 377 = .ok (.iadd, 1) := by decide +kernel
theorem d0_378 : decode (ix_by 0) 378 = .ok (.iaload, 1) := by decide +kernel
theorem d0_379 : decode (ix_by 0) 379 = .ok (.aload_n 0, 1) := by decide +kernel
theorem d0_380 : decode (ix_by 0) 380 = .ok (.iload 4, 2) := by decide +kernel
theorem d0_382 : decode (ix_by 0) 382 = .ok (.iconst 2, 1) := by decide +kernel
theorem d0_383 : decode (ix_by 0) 383 = .ok (.iadd, 1) := by decide +kernel
theorem d0_384 : decode (ix_by 0) 384 = .ok (.iaload, 1) := by decide +kernel
theorem d0_385 : decode (ix_by 0) 385 = .ok (.invokevirtual 63, 3) := by decide +kernel
theorem d0_388 : decode (ix_by 0) 388 = .ok (.aload_n 2, 1) := by decide +kernel
theorem d0_389 : decode (ix_by 0) 389 = .ok (.aload_n 0, 1) := by decide +kernel
theorem d0_390 : decode (ix_by 0) 390 = .ok (.iload 4, 2) := by decide +kernel
theorem d0_392 : decode (ix_by 0) 392 = .ok (.iconst 1, 1) := by decide +kernel
theorem d0_393 : decode (ix_by 0) 393 = .ok (.iadd, 1) := by decide +kernel
theorem d0_394 : decode (ix_by 0) 394 = .ok (.iaload, 1) := by decide +kernel
theorem d0_395 : decode (ix_by 0) 395 = .ok (.aload_n 0, 1) := by decide +kernel
theorem d0_396 : decode (ix_by 0) 396 = .ok (.iload 4, 2) := by decide +kernel
theorem d0_398 : decode (ix_by 0) 398 = .ok (.iconst 2, 1) := by decide +kernel
theorem d0_399 : decode (ix_by 0) 399 = .ok (.iadd, 1) := by decide +kernel
theorem d0_400 : decode (ix_by 0) 400 = .ok (.iaload, 1) := by decide +kernel
theorem d0_401 : decode (ix_by 0) 401 = .ok (.invokevirtual 67, 3) := by decide +kernel
theorem d0_404 : decode (ix_by 0) 404 = .ok (.if_icmp .eq 591, 3) := by decide +kernel
theorem d0_407 : decode (ix_by 0) 407 = .ok (.iconst 0, 1) := by decide +kernel
theorem d0_408 : decode (ix_by 0) 408 = .ok (.ireturn, 1) := by decide +kernel
theorem d0_409 : decode (ix_by 0) 409 = .ok (.aload_n 1, 1) := by decide +kernel
theorem d0_410 : decode (ix_by 0) 410 = .ok (.aload_n 0, 1) := by decide +kernel
theorem d0_411 : decode (ix_by 0) 411 = .ok (.iload 4, 2) := by decide +kernel
theorem d0_413 : decode (ix_by 0) 413 = .ok (.iconst 1, 1) := by decide +kernel
theorem d0_414 : decode (ix_by 0) 414 = .ok (.iadd, 1) := by decide +kernel
theorem d0_415 : decode (ix_by 0) 415 = .ok (.iaload, 1) := by decide +kernel
theorem d0_416 : decode (ix_by 0) 416 = .ok (.aload_n 0, 1) := by decide +kernel
theorem d0_417 : decode (ix_by 0) 417 = .ok (.iload 4, 2) := by decide +kernel
theorem d0_419 : decode (ix_by 0) 419 = .ok (.iconst 2, 1) := by decide +kernel
theorem d0_420 : decode (ix_by 0) 420 = .ok (.iadd, 1) := by decide +kernel
theorem d0_421 : decode (ix_by 0) 421 = .ok (.iaload, 1) := by decide +kernel
theorem d0_422 : decode (ix_by 0) 422 = .ok (.aload_n 0, 1) := by decide +kernel
theorem d0_423 : decode (ix_by 0) 423 = .ok (.iload 4, 2) := by decide +kernel
theorem d0_425 : decode (ix_by 0) 425 = .ok (.iconst 3, 1) := by decide +kernel
theorem d0_426 : decode (ix_by 0) 426 = .ok (.iadd, 1) := by decide +kernel
theorem d0_427 : decode (ix_by 0) 427 = .ok (.iaload, 1) := by decide +kernel
theorem d0_428 : decode (ix_by 0) 428 = .ok (.aload_n 3, 1) := by decide +kernel
theorem d0_429 : decode (ix_by 0) 429 = .ok (.invokestatic 68, 3) := by decide +kernel
theorem d0_432 : decode (ix_by 0) 432 = .ok (.istore 5, 2) := by decide +kernel
theorem d0_434 : decode (ix_by 0) 434 = .ok (.aload_n 2, 1) := by decide +kernel
theorem d0_435 : decode (ix_by 0) 435 = .ok (.aload_n 0, 1) := by decide +kernel
theorem d0_436 : decode (ix_by 0) 436 = .ok (.iload 4, 2) := by decide +kernel
theorem d0_438 : decode (ix_by 0) 438 = .ok (.iconst 1, 1) := by decide +kernel
theorem d0_439 : decode (ix_by 0) 439 = .ok (.iadd, 1) := by decide +kernel
theorem d0_440 : decode (ix_by 0) 440 = .ok (.iaload, 1) := by decide +kernel
theorem d0_441 : decode (ix_by 0) 441 = .ok (.aload_n 0, 1) := by decide +kernel
theorem d0_442 : decode (ix_by 0) 442 = .ok (.iload 4, 2) := by decide +kernel
theorem d0_444 : decode (ix_by 0) 444 = .ok (.iconst 2, 1) := by decide +kernel
theorem d0_445 : decode (ix_by 0) 445 = .ok (.iadd, 1) := by decide +kernel
theorem d0_446 : decode (ix_by 0) 446 = .ok (.iaload, 1) := by decide +kernel
theorem d0_447 : decode (ix_by 0) 447 = .ok (.aload_n 0, 1) := by decide +kernel
theorem d0_448 : decode (ix_by 0) 448 = .ok (.iload 4, 2) := by decide +kernel
theorem d0_450 : decode (ix_by 0) 450 = .ok (.iconst 3, 1) := by decide +kernel
theorem d0_451 : decode (ix_by 0) 451 = .ok (.iadd, 1) := by decide +kernel
theorem d0_452 : decode (ix_by 0) 452 = .ok (.iaload, 1) := by decide +kernel
theorem d0_453 : decode (ix_by 0) 453 = .ok (.invokevirtual 71, 3) := by decide +kernel
theorem d0_456 : decode (ix_by 0) 456 = .ok (.istore 6, 2) := by decide +kernel
theorem d0_458 : decode (ix_by 0) 458 = .ok (.aload_n 2, 1) := by decide +kernel
theorem d0_459 : decode (ix_by 0) 459 = .ok (.invokevirtual 55, 3) := by decide +kernel
theorem d0_462 : decode (ix_by 0) 462 = .ok (.iload 5, 2) := by decide +kernel
theorem d0_464 : decode (ix_by 0) 464 = .ok (.if_icmp .eq 5, 3) := by decide +kernel
theorem d0_467 : decode (ix_by 0) 467 = .ok (.iconst 0, 1) := by decide +kernel
theorem d0_468 : decode (ix_by 0) 468 = .ok (.ireturn, 1) := by decide +kernel
theorem d0_469 : decode (ix_by 0) 469 = .ok (.iload 5, 2) := by decide +kernel
theorem d0_471 : decode (ix_by 0) 471 = .ok (.ifCond .ne 15, 3) := by decide +kernel
theorem d0_474 : decode (ix_by 0) 474 = .ok (.aload_n 3, 1) := by decide +kernel
theorem d0_475 : decode (ix_by 0) 475 = .ok (.iconst 0, 1) := by decide +kernel
theorem d0_476 : decode (ix_by 0) 476 = .ok (.laload, 1) := by decide +kernel
theorem d0_477 : decode (ix_by 0) 477 = .ok (.iload 6, 2) := by decide +kernel
theorem d0_479 : decode (ix_by 0) 479 = .ok (.i2l, 1) := by decide +kernel
theorem d0_480 : decode (ix_by 0) 480 = .ok (.lcmp, 1) := by decide +kernel
theorem d0_481 : decode (ix_by 0) 481 = .ok (.ifCond .eq 5, 3) := by decide +kernel
theorem d0_484 : decode (ix_by 0) 484 = .ok (.iconst 0, 1) := by decide +kernel
theorem d0_485 : decode (ix_by 0) 485 = .ok (.ireturn, 1) := by decide +kernel
theorem d0_486 : decode (ix_by 0) 486 = .ok (.goto 509, 3) := by decide +kernel
theorem d0_489 : decode (ix_by 0) 489 = .ok (.aload_n 1, 1) := by decide +kernel
theorem d0_490 : decode (ix_by 0) 490 = .ok (.aload_n 0, 1) := by decide +kernel
theorem d0_491 : decode (ix_by 0) 491 = .ok (.iload 4, 2) := by decide +kernel
theorem d0_493 : decode (ix_by 0) 493 = .ok (.iconst 1, 1) := by decide +kernel
theorem d0_494 : decode (ix_by 0) 494 = .ok (.iadd, 1) := by decide +kernel
theorem d0_495 : decode (ix_by 0) 495 = .ok (.iaload, 1) := by decide +kernel
theorem d0_496 : decode (ix_by 0) 496 = .ok (.aload_n 0, 1) := by decide +kernel
theorem d0_497 : decode (ix_by 0) 497 = .ok (.iload 4, 2) := by decide +kernel
theorem d0_499 : decode (ix_by 0) 499 = .ok (.iconst 2, 1) := by decide +kernel
theorem d0_500 : decode (ix_by 0) 500 = .ok (.iadd, 1) := by decide +kernel
theorem d0_501 : decode (ix_by 0) 501 = .ok (.iaload, 1) := by decide +kernel
theorem d0_502 : decode (ix_by 0) 502 = .ok (.aload_n 0, 1) := by decide +kernel
theorem d0_503 : decode (ix_by 0) 503 = .ok (.iload 4, 2) := by decide +kernel
theorem d0_505 : decode (ix_by 0) 505 = .ok (.iconst 3, 1) := by decide +kernel
theorem d0_506 : decode (ix_by 0) 506 = .ok (.iadd, 1) := by decide +kernel
theorem d0_507 : decode (ix_by 0) 507 = .ok (.iaload, 1) := by decide +kernel
theorem d0_508 : decode (ix_by 0) 508 = .ok (.aload_n 0, 1) := by decide +kernel
theorem d0_509 : decode (ix_by 0) 509 = .ok (.iload 4, 2) := by decide +kernel
theorem d0_511 : decode (ix_by 0) 511 = .ok (.iconst 4, 1) := by decide +kernel
theorem d0_512 : decode (ix_by 0) 512 = .ok (.iadd, 1) := by decide +kernel
theorem d0_513 : decode (ix_by 0) 513 = .ok (.iaload, 1) := by decide +kernel
theorem d0_514 : decode (ix_by 0) 514 = .ok (.aload_n 0, 1) := by decide +kernel
theorem d0_515 : decode (ix_by 0) 515 = .ok (.iload 4, 2) := by decide +kernel
theorem d0_517 : decode (ix_by 0) 517 = .ok (.iconst 5, 1) := by decide +kernel
theorem d0_518 : decode (ix_by 0) 518 = .ok (.iadd, 1) := by decide +kernel
theorem d0_519 : decode (ix_by 0) 519 = .ok (.iaload, 1) := by decide +kernel
theorem d0_520 : decode (ix_by 0) 520 = .ok (.aload_n 0, 1) := by decide +kernel
theorem d0_521 : decode (ix_by 0) 521 = .ok (.iload 4, 2) := by decide +kernel
theorem d0_523 : decode (ix_by 0) 523 = .ok (.bipush 6, 2) := by decide +kernel
theorem d0_525 : decode (ix_by 0) 525 = .ok (.iadd, 1) := by decide +kernel
theorem d0_526 : decode (ix_by 0) 526 = .ok (.iaload, 1) := by decide +kernel
theorem d0_527 : decode (ix_by 0) 527 = .ok (.aload_n 3, 1) := by decide +kernel
theorem d0_528 : decode (ix_by 0) 528 = .ok (.invokestatic 72, 3) := by decide +kernel
theorem d0_531 : decode (ix_by 0) 531 = .ok (.istore 5, 2) := by decide +kernel
theorem d0_533 : decode (ix_by 0) 533 = .ok (.aload_n 2, 1) := by decide +kernel
theorem d0_534 : decode (ix_by 0) 534 = .ok (.aload_n 0, 1) := by decide +kernel
theorem d0_535 : decode (ix_by 0) 535 = .ok (.iload 4, 2) := by decide +kernel
theorem d0_537 : decode (ix_by 0) 537 = .ok (.iconst 1, 1) := by decide +kernel
theorem d0_538 : decode (ix_by 0) 538 = .ok (.iadd, 1) := by decide +kernel
theorem d0_539 : decode (ix_by 0) 539 = .ok (.iaload, 1) := by decide +kernel
theorem d0_540 : decode (ix_by 0) 540 = .ok (.aload_n 0, 1) := by decide +kernel
theorem d0_541 : decode (ix_by 0) 541 = .ok (.iload 4, 2) := by decide +kernel
theorem d0_543 : decode (ix_by 0) 543 = .ok (.iconst 2, 1) := by decide +kernel
theorem d0_544 : decode (ix_by 0) 544 = .ok (.iadd, 1) := by decide +kernel
theorem d0_545 : decode (ix_by 0) 545 = .ok (.iaload, 1) := by decide +kernel
theorem d0_546 : decode (ix_by 0) 546 = .ok (.aload_n 0, 1) := by decide +kernel
theorem d0_547 : decode (ix_by 0) 547 = .ok (.iload 4, 2) := by decide +kernel
theorem d0_549 : decode (ix_by 0) 549 = .ok (.iconst 3, 1) := by decide +kernel
theorem d0_550 : decode (ix_by 0) 550 = .ok (.iadd, 1) := by decide +kernel
theorem d0_551 : decode (ix_by 0) 551 = .ok (.iaload, 1) := by decide +kernel
theorem d0_552 : decode (ix_by 0) 552 = .ok (.aload_n 0, 1) := by decide +kernel
theorem d0_553 : decode (ix_by 0) 553 = .ok (.iload 4, 2) := by decide +kernel
theorem d0_555 : decode (ix_by 0) 555 = .ok (.iconst 4, 1) := by decide +kernel
theorem d0_556 : decode (ix_by 0) 556 = .ok (.iadd, 1) := by decide +kernel
theorem d0_557 : decode (ix_by 0) 557 = .ok (.iaload, 1) := by decide +kernel
theorem d0_558 : decode (ix_by 0) 558 = .ok (.aload_n 0, 1) := by decide +kernel
theorem d0_559 : decode (ix_by 0) 559 = .ok (.iload 4, 2) := by decide +kernel
theorem d0_561 : decode (ix_by 0) 561 = .ok (.iconst 5, 1) := by decide +kernel
theorem d0_562 : decode (ix_by 0) 562 = .ok (.iadd, 1) := by decide +kernel
theorem d0_563 : decode (ix_by 0) 563 = .ok (.iaload, 1) := by decide +kernel
theorem d0_564 : decode (ix_by 0) 564 = .ok (.aload_n 0, 1) := by decide +kernel
theorem d0_565 : decode (ix_by 0) 565 = .ok (.iload 4, 2) := by decide +kernel
theorem d0_567 : decode (ix_by 0) 567 = .ok (.bipush 6, 2) := by decide +kernel
theorem d0_569 : decode (ix_by 0) 569 = .ok (.iadd, 1) := by decide +kernel
theorem d0_570 : decode (ix_by 0) 570 = .ok (.iaload, 1) := by decide +kernel
theorem d0_571 : decode (ix_by 0) 571 = .ok (.invokevirtual 75, 3) := by decide +kernel
theorem d0_574 : decode (ix_by 0) 574 = .ok (.istore 6, 2) := by decide +kernel
theorem d0_576 : decode (ix_by 0) 576 = .ok (.aload_n 2, 1) := by decide +kernel
theorem d0_577 : decode (ix_by 0) 577 = .ok (.invokevirtual 55, 3) := by decide +kernel
theorem d0_580 : decode (ix_by 0) 580 = .ok (.iload 5, 2) := by decide +kernel
theorem d0_582 : decode (ix_by 0) 582 = .ok (.if_icmp .eq 5, 3) := by decide +kernel
theorem d0_585 : decode (ix_by 0) 585 = .ok (.iconst 0, 1) := by decide +kernel
theorem d0_586 : decode (ix_by 0) 586 = .ok (.ireturn, 1) := by decide +kernel
theorem d0_587 : decode (ix_by 0) 587 = .ok (.iload 5, 2) := by decide +kernel
theorem d0_589 : decode (ix_by 0) 589 = .ok (.ifCond .ne 15, 3) := by decide +kernel
theorem d0_592 : decode (ix_by 0) 592 = .ok (.aload_n 3, 1) := by decide +kernel
theorem d0_593 : decode (ix_by 0) 593 = .ok (.iconst 0, 1) := by decide +kernel
theorem d0_594 : decode (ix_by 0) 594 = .ok (.laload, 1) := by decide +kernel
theorem d0_595 : decode (ix_by 0) 595 = .ok (.iload 6, 2) := by decide +kernel
theorem d0_597 : decode (ix_by 0) 597 = .ok (.i2l, 1) := by decide +kernel
theorem d0_598 : decode (ix_by 0) 598 = .ok (.lcmp, 1) := by decide +kernel
theorem d0_599 : decode (ix_by 0) 599 = .ok (.ifCond .eq 5, 3) := by decide +kernel
theorem d0_602 : decode (ix_by 0) 602 = .ok (.iconst 0, 1) := by decide +kernel
theorem d0_603 : decode (ix_by 0) 603 = .ok (.ireturn, 1) := by decide +kernel
theorem d0_604 : decode (ix_by 0) 604 = .ok (.goto 391, 3) := by decide +kernel
theorem d0_607 : decode (ix_by 0) 607 = .ok (.aload_n 1, 1) := by decide +kernel
theorem d0_608 : decode (ix_by 0) 608 = .ok (.aload_n 0, 1) := by decide +kernel
theorem d0_609 : decode (ix_by 0) 609 = .ok (.iload 4, 2) := by decide +kernel
theorem d0_611 : decode (ix_by 0) 611 = .ok (.iconst 1, 1) := by decide +kernel
theorem d0_612 : decode (ix_by 0) 612 = .ok (.iadd, 1) := by decide +kernel
theorem d0_613 : decode (ix_by 0) 613 = .ok (.iaload, 1) := by decide +kernel
theorem d0_614 : decode (ix_by 0) 614 = .ok (.aload_n 0, 1) := by decide +kernel
theorem d0_615 : decode (ix_by 0) 615 = .ok (.iload 4, 2) := by decide +kernel
theorem d0_617 : decode (ix_by 0) 617 = .ok (.iconst 2, 1) := by decide +kernel
theorem d0_618 : decode (ix_by 0) 618 = .ok (.iadd, 1) := by decide +kernel
theorem d0_619 : decode (ix_by 0) 619 = .ok (.iaload, 1) := by decide +kernel
theorem d0_620 : decode (ix_by 0) 620 = .ok (.invokevirtual 76, 3) := by decide +kernel
theorem d0_623 : decode (ix_by 0) 623 = .ok (.aload_n 2, 1) := by decide +kernel
theorem d0_624 : decode (ix_by 0) 624 = .ok (.aload_n 0, 1) := by decide +kernel
theorem d0_625 : decode (ix_by 0) 625 = .ok (.iload 4, 2) := by decide +kernel
theorem d0_627 : decode (ix_by 0) 627 = .ok (.iconst 1, 1) := by decide +kernel
theorem d0_628 : decode (ix_by 0) 628 = .ok (.iadd, 1) := by decide +kernel
theorem d0_629 : decode (ix_by 0) 629 = .ok (.iaload, 1) := by decide +kernel
theorem d0_630 : decode (ix_by 0) 630 = .ok (.aload_n 0, 1) := by decide +kernel
theorem d0_631 : decode (ix_by 0) 631 = .ok (.iload 4, 2) := by decide +kernel
theorem d0_633 : decode (ix_by 0) 633 = .ok (.iconst 2, 1) := by decide +kernel
theorem d0_634 : decode (ix_by 0) 634 = .ok (.iadd, 1) := by decide +kernel
theorem d0_635 : decode (ix_by 0) 635 = .ok (.iaload, 1) := by decide +kernel
theorem d0_636 : decode (ix_by 0) 636 = .ok (.invokevirtual 79, 3) := by decide +kernel
theorem d0_639 : decode (ix_by 0) 639 = .ok (.if_icmp .eq 356, 3) := by decide +kernel
theorem d0_642 : decode (ix_by 0) 642 = .ok (.iconst 0, 1) := by decide +kernel
theorem d0_643 : decode (ix_by 0) 643 = .ok (.ireturn, 1) := by decide +kernel
theorem d0_644 : decode (ix_by 0) 644 = .ok (.aload_n 1, 1) := by decide +kernel
theorem d0_645 : decode (ix_by 0) 645 = .ok (.aload_n 0, 1) := by decide +kernel
theorem d0_646 : decode (ix_by 0) 646 = .ok (.iload 4, 2) := by decide +kernel
theorem d0_648 : decode (ix_by 0) 648 = .ok (.iconst 1, 1) := by decide +kernel
theorem d0_649 : decode (ix_by 0) 649 = .ok (.iadd, 1) := by decide +kernel
theorem d0_650 : decode (ix_by 0) 650 = .ok (.iaload, 1) := by decide +kernel
theorem d0_651 : decode (ix_by 0) 651 = .ok (.aload_n 0, 1) := by decide +kernel
theorem d0_652 : decode (ix_by 0) 652 = .ok (.iload 4, 2) := by decide +kernel
theorem d0_654 : decode (ix_by 0) 654 = .ok (.iconst 2, 1) := by decide +kernel
theorem d0_655 : decode (ix_by 0) 655 = .ok (.iadd, 1) := by decide +kernel
theorem d0_656 : decode (ix_by 0) 656 = .ok (.iaload, 1) := by decide +kernel
theorem d0_657 : decode (ix_by 0) 657 = .ok (.aload_n 0, 1) := by decide +kernel
theorem d0_658 : decode (ix_by 0) 658 = .ok (.iload 4, 2) := by decide +kernel
theorem d0_660 : decode (ix_by 0) 660 = .ok (.iconst 3, 1) := by decide +kernel
theorem d0_661 : decode (ix_by 0) 661 = .ok (.iadd, 1) := by decide +kernel
theorem d0_662 : decode (ix_by 0) 662 = .ok (.iaload, 1) := by decide +kernel
theorem d0_663 : decode (ix_by 0) 663 = .ok (.ifCond .eq 7, 3) := by decide +kernel
theorem d0_666 : decode (ix_by 0) 666 = .ok (.iconst 1, 1) := by decide +kernel
theorem d0_667 : decode (ix_by 0) 667 = .ok (.goto 4, 3) := by decide +kernel
theorem d0_670 : decode (ix_by 0) 670 = .ok (.iconst 0, 1) := by decide +kernel
theorem d0_671 : decode (ix_by 0) 671 = .ok (.invokevirtual 80, 3) := by decide +kernel
theorem d0_674 : decode (ix_by 0) 674 = .ok (.aload_n 2, 1) := by decide +kernel
theorem d0_675 : decode (ix_by 0) 675 = .ok (.aload_n 0, 1) := by decide +kernel
theorem d0_676 : decode (ix_by 0) 676 = .ok (.iload 4, 2) := by decide +kernel
theorem d0_678 : decode (ix_by 0) 678 = .ok (.iconst 1, 1) := by decide +kernel
theorem d0_679 : decode (ix_by 0) 679 = .ok (.iadd, 1) := by decide +kernel
theorem d0_680 : decode (ix_by 0) 680 = .ok (.iaload, 1) := by decide +kernel
theorem d0_681 : decode (ix_by 0) 681 = .ok (.aload_n 0, 1) := by decide +kernel
theorem d0_682 : decode (ix_by 0) 682 = .ok (.iload 4, 2) := by decide +kernel
theorem d0_684 : decode (ix_by 0) 684 = .ok (.iconst 2, 1) := by decide +kernel
theorem d0_685 : decode (ix_by 0) 685 = .ok (.iadd, 1) := by decide +kernel
theorem d0_686 : decode (ix_by 0) 686 = .ok (.iaload, 1) := by decide +kernel
theorem d0_687 : decode (ix_by 0) 687 = .ok (.aload_n 0, 1) := by decide +kernel
theorem d0_688 : decode (ix_by 0) 688 = .ok (.iload 4, 2) := by decide +kernel
theorem d0_690 : decode (ix_by 0) 690 = .ok (.iconst 3, 1) := by decide +kernel
theorem d0_691 : decode (ix_by 0) 691 = .ok (.iadd, 1) := by decide +kernel
theorem d0_692 : decode (ix_by 0) 692 = .ok (.iaload, 1) := by decide +kernel
theorem d0_693 : decode (ix_by 0) 693 = .ok (.ifCond .eq 7, 3) := by decide +kernel
theorem d0_696 : decode (ix_by 0) 696 = .ok (.iconst 1, 1) := by decide +kernel
theorem d0_697 : decode (ix_by 0) 697 = .ok (.goto 4, 3) := by decide +kernel
theorem d0_700 : decode (ix_by 0) 700 = .ok (.iconst 0, 1) := by decide +kernel
theorem d0_701 : decode (ix_by 0) 701 = .ok (.invokevirtual 84, 3) := by decide +kernel
theorem d0_704 : decode (ix_by 0) 704 = .ok (.if_icmp .eq 291, 3) := by decide +kernel
theorem d0_707 : decode (ix_by 0) 707 = .ok (.iconst 0, 1) := by decide +kernel
theorem d0_708 : decode (ix_by 0) 708 = .ok (.ireturn, 1) := by decide +kernel
theorem d0_709 : decode (ix_by 0) 709 = .ok (.aload_n 1, 1) := by decide +kernel
theorem d0_710 : decode (ix_by 0) 710 = .ok (.invokevirtual 85, 3) := by decide +kernel
theorem d0_713 : decode (ix_by 0) 713 = .ok (.aload_n 2, 1) := by decide +kernel
theorem d0_714 : decode (ix_by 0) 714 = .ok (.invokevirtual 88, 3) := by decide +kernel
theorem d0_717 : decode (ix_by 0) 717 = .ok (.if_icmp .eq 278, 3) := by decide +kernel
theorem d0_720 : decode (ix_by 0) 720 = .ok (.iconst 0, 1) := by decide +kernel
theorem d0_721 : decode (ix_by 0) 721 = .ok (.ireturn, 1) := by decide +kernel
theorem d0_722 : decode (ix_by 0) 722 = .ok (.aload_n 1, 1) := by decide +kernel
theorem d0_723 : decode (ix_by 0) 723 = .ok (.aload_n 0, 1) := by decide +kernel
theorem d0_724 : decode (ix_by 0) 724 = .ok (.iload 4, 2) := by decide +kernel
theorem d0_726 : decode (ix_by 0) 726 = .ok (.iconst 1, 1) := by decide +kernel
theorem d0_727 : decode (ix_by 0) 727 = .ok (.iadd, 1) := by decide +kernel
theorem d0_728 : decode (ix_by 0) 728 = .ok (.iaload, 1) := by decide +kernel
theorem d0_729 : decode (ix_by 0) 729 = .ok (.invokevirtual 89, 3) := by decide +kernel
theorem d0_732 : decode (ix_by 0) 732 = .ok (.aload_n 2, 1) := by decide +kernel
theorem d0_733 : decode (ix_by 0) 733 = .ok (.aload_n 0, 1) := by decide +kernel
theorem d0_734 : decode (ix_by 0) 734 = .ok (.iload 4, 2) := by decide +kernel
theorem d0_736 : decode (ix_by 0) 736 = .ok (.iconst 1, 1) := by decide +kernel
theorem d0_737 : decode (ix_by 0) 737 = .ok (.iadd, 1) := by decide +kernel
theorem d0_738 : decode (ix_by 0) 738 = .ok (.iaload, 1) := by decide +kernel
theorem d0_739 : decode (ix_by 0) 739 = .ok (.invokevirtual 93, 3) := by decide +kernel
theorem d0_742 : decode (ix_by 0) 742 = .ok (.if_icmp .eq 253, 3) := by decide +kernel
theorem d0_745 : decode (ix_by 0) 745 = .ok (.iconst 0, 1) := by decide +kernel
theorem d0_746 : decode (ix_by 0) 746 = .ok (.ireturn, 1) := by decide +kernel
theorem d0_747 : decode (ix_by 0) 747 = .ok (.aload_n 1, 1) := by decide +kernel
theorem d0_748 : decode (ix_by 0) 748 = .ok (.aload_n 0, 1) := by decide +kernel
theorem d0_749 : decode (ix_by 0) 749 = .ok (.iload 4, 2) := by decide +kernel
theorem d0_751 : decode (ix_by 0) 751 = .ok (.iconst 1, 1) := by decide +kernel
theorem d0_752 : decode (ix_by 0) 752 = .ok (.iadd, 1) := by decide +kernel
theorem d0_753 : decode (ix_by 0) 753 = .ok (.iaload, 1) := by decide +kernel
theorem d0_754 : decode (ix_by 0) 754 = .ok (.invokevirtual 94, 3) := by decide +kernel
theorem d0_757 : decode (ix_by 0) 757 = .ok (.aload_n 2, 1) := by decide +kernel
theorem d0_758 : decode (ix_by 0) 758 = .ok (.aload_n 0, 1) := by decide +kernel
theorem d0_759 : decode (ix_by 0) 759 = .ok (.iload 4, 2) := by decide +kernel
theorem d0_761 : decode (ix_by 0) 761 = .ok (.iconst 1, 1) := by decide +kernel
theorem d0_762 : decode (ix_by 0) 762 = .ok (.iadd, 1) := by decide +kernel
theorem d0_763 : decode (ix_by 0) 763 = .ok (.iaload, 1) := by decide +kernel
theorem d0_764 : decode (ix_by 0) 764 = .ok (.invokevirtual 97, 3) := by decide +kernel
theorem d0_767 : decode (ix_by 0) 767 = .ok (.if_icmp .eq 228, 3) := by decide +kernel
theorem d0_770 : decode (ix_by 0) 770 = .ok (.iconst 0, 1) := by decide +kernel
theorem d0_771 : decode (ix_by 0) 771 = .ok (.ireturn, 1) := by decide +kernel
theorem d0_772 : decode (ix_by 0) 772 = .ok (.aload_n 1, 1) := by decide +kernel
theorem d0_773 : decode (ix_by 0) 773 = .ok (.aload_n 0, 1) := by decide +kernel
theorem d0_774 : decode (ix_by 0) 774 = .ok (.iload 4, 2) := by decide +kernel
theorem d0_776 : decode (ix_by 0) 776 = .ok (.iconst 1, 1) := by decide +kernel
theorem d0_777 : decode (ix_by 0) 777 = .ok (.iadd, 1) := by decide +kernel
theorem d0_778 : decode (ix_by 0) 778 = .ok (.iaload, 1) := by decide +kernel
theorem d0_779 : decode (ix_by 0) 779 = .ok (.invokevirtual 98, 3) := by decide +kernel
theorem d0_782 : decode (ix_by 0) 782 = .ok (.aload_n 2, 1) := by decide +kernel
theorem d0_783 : decode (ix_by 0) 783 = .ok (.aload_n 0, 1) := by decide +kernel
theorem d0_784 : decode (ix_by 0) 784 = .ok (.iload 4, 2) := by decide +kernel
theorem d0_786 : decode (ix_by 0) 786 = .ok (.iconst 1, 1) := by decide +kernel
theorem d0_787 : decode (ix_by 0) 787 = .ok (.iadd, 1) := by decide +kernel
theorem d0_788 : decode (ix_by 0) 788 = .ok (.iaload, 1) := by decide +kernel
theorem d0_789 : decode (ix_by 0) 789 = .ok (.invokevirtual 101, 3) := by decide +kernel
theorem d0_792 : decode (ix_by 0) 792 = .ok (.if_icmp .eq 203, 3) := by decide +kernel
theorem d0_795 : decode (ix_by 0) 795 = .ok (.iconst 0, 1) := by decide +kernel
theorem d0_796 : decode (ix_by 0) 796 = .ok (.ireturn, 1) := by decide +kernel
theorem d0_797 : decode (ix_by 0) 797 = .ok (.aload_n 1, 1) := by decide +kernel
theorem d0_798 : decode (ix_by 0) 798 = .ok (.aload_n 0, 1) := by decide +kernel
theorem d0_799 : decode (ix_by 0) 799 = .ok (.iload 4, 2) := by decide +kernel
theorem d0_801 : decode (ix_by 0) 801 = .ok (.iconst 1, 1) := by decide +kernel
theorem d0_802 : decode (ix_by 0) 802 = .ok (.iadd, 1) := by decide +kernel
theorem d0_803 : decode (ix_by 0) 803 = .ok (.iaload, 1) := by decide +kernel
theorem d0_804 : decode (ix_by 0) 804 = .ok (.aload_n 0, 1) := by decide +kernel
theorem d0_805 : decode (ix_by 0) 805 = .ok (.iload 4, 2) := by decide +kernel
theorem d0_807 : decode (ix_by 0) 807 = .ok (.iconst 2, 1) := by decide +kernel
theorem d0_808 : decode (ix_by 0) 808 = .ok (.iadd, 1) := by decide +kernel
theorem d0_809 : decode (ix_by 0) 809 = .ok (.iaload, 1) := by decide +kernel
theorem d0_810 : decode (ix_by 0) 810 = .ok (.invokevirtual 102, 3) := by decide +kernel
theorem d0_813 : decode (ix_by 0) 813 = .ok (.aload_n 2, 1) := by decide +kernel
theorem d0_814 : decode (ix_by 0) 814 = .ok (.aload_n 0, 1) := by decide +kernel
theorem d0_815 : decode (ix_by 0) 815 = .ok (.iload 4, 2) := by decide +kernel
theorem d0_817 : decode (ix_by 0) 817 = .ok (.iconst 1, 1) := by decide +kernel
theorem d0_818 : decode (ix_by 0) 818 = .ok (.iadd, 1) := by decide +kernel
theorem d0_819 : decode (ix_by 0) 819 = .ok (.iaload, 1) := by decide +kernel
theorem d0_820 : decode (ix_by 0) 820 = .ok (.aload_n 0, 1) := by decide +kernel
theorem d0_821 : decode (ix_by 0) 821 = .ok (.iload 4, 2) := by decide +kernel
theorem d0_823 : decode (ix_by 0) 823 = .ok (.iconst 2, 1) := by decide +kernel
theorem d0_824 : decode (ix_by 0) 824 = .ok (.iadd, 1) := by decide +kernel
theorem d0_825 : decode (ix_by 0) 825 = .ok (.iaload, 1) := by decide +kernel
theorem d0_826 : decode (ix_by 0) 826 = .ok (.invokevirtual 105, 3) := by decide +kernel
theorem d0_829 : decode (ix_by 0) 829 = .ok (.if_icmp .eq 166, 3) := by decide +kernel
theorem d0_832 : decode (ix_by 0) 832 = .ok (.iconst 0, 1) := by decide +kernel
theorem d0_833 : decode (ix_by 0) 833 = .ok (.ireturn, 1) := by decide +kernel
theorem d0_834 : decode (ix_by 0) 834 = .ok (.aload_n 1, 1) := by decide +kernel
theorem d0_835 : decode (ix_by 0) 835 = .ok (.invokevirtual 106, 3) := by decide +kernel
theorem d0_838 : decode (ix_by 0) 838 = .ok (.aload_n 2, 1) := by decide +kernel
theorem d0_839 : decode (ix_by 0) 839 = .ok (.invokevirtual 109, 3) := by decide +kernel
theorem d0_842 : decode (ix_by 0) 842 = .ok (.if_icmp .eq 153, 3) := by decide +kernel
theorem d0_845 : decode (ix_by 0) 845 = .ok (.iconst 0, 1) := by decide +kernel
theorem d0_846 : decode (ix_by 0) 846 = .ok (.ireturn, 1) := by decide +kernel
theorem d0_847 : decode (ix_by 0) 847 = .ok (.aload_n 1, 1) := by decide +kernel
theorem d0_848 : decode (ix_by 0) 848 = .ok (.aload_n 0, 1) := by decide +kernel
theorem d0_849 : decode (ix_by 0) 849 = .ok (.iload 4, 2) := by decide +kernel
theorem d0_851 : decode (ix_by 0) 851 = .ok (.iconst 1, 1) := by decide +kernel
theorem d0_852 : decode (ix_by 0) 852 = .ok (.iadd, 1) := by decide +kernel
theorem d0_853 : decode (ix_by 0) 853 = .ok (.iaload, 1) := by decide +kernel
theorem d0_854 : decode (ix_by 0) 854 = .ok (.aload_n 0, 1) := by decide +kernel
theorem d0_855 : decode (ix_by 0) 855 = .ok (.iload 4, 2) := by decide +kernel
theorem d0_857 : decode (ix_by 0) 857 = .ok (.iconst 2, 1) := by decide +kernel
theorem d0_858 : decode (ix_by 0) 858 = .ok (.iadd, 1) := by decide +kernel
theorem d0_859 : decode (ix_by 0) 859 = .ok (.iaload, 1) := by decide +kernel
theorem d0_860 : decode (ix_by 0) 860 = .ok (.invokevirtual 110, 3) := by decide +kernel
theorem d0_863 : decode (ix_by 0) 863 = .ok (.aload_n 2, 1) := by decide +kernel
theorem d0_864 : decode (ix_by 0) 864 = .ok (.aload_n 0, 1) := by decide +kernel
theorem d0_865 : decode (ix_by 0) 865 = .ok (.iload 4, 2) := by decide +kernel
theorem d0_867 : decode (ix_by 0) 867 = .ok (.iconst 1, 1) := by decide +kernel
theorem d0_868 : decode (ix_by 0) 868 = .ok (.iadd, 1) := by decide +kernel
theorem d0_869 : decode (ix_by 0) 869 = .ok (.iaload, 1) := by decide +kernel
theorem d0_870 : decode (ix_by 0) 870 = .ok (.aload_n 0, 1) := by decide +kernel
theorem d0_871 : decode (ix_by 0) 871 = .ok (.iload 4, 2) := by decide +kernel
theorem d0_873 : decode (ix_by 0) 873 = .ok (.iconst 2, 1) := by decide +kernel
theorem d0_874 : decode (ix_by 0) 874 = .ok (.iadd, 1) := by decide +kernel
theorem d0_875 : decode (ix_by 0) 875 = .ok (.iaload, 1) := by decide +kernel
theorem d0_876 : decode (ix_by 0) 876 = .ok (.invokevirtual 113, 3) := by decide +kernel
theorem d0_879 : decode (ix_by 0) 879 = .ok (.if_icmp .eq 116, 3) := by decide +kernel
theorem d0_882 : decode (ix_by 0) 882 = .ok (.iconst 0, 1) := by decide +kernel
theorem d0_883 : decode (ix_by 0) 883 = .ok (.ireturn, 1) := by decide +kernel
theorem d0_884 : decode (ix_by 0) 884 = .ok (.aload_n 1, 1) := by decide +kernel
theorem d0_885 : decode (ix_by 0) 885 = .ok (.aload_n 0, 1) := by decide +kernel
theorem d0_886 : decode (ix_by 0) 886 = .ok (.iload 4, 2) := by decide +kernel
theorem d0_888 : decode (ix_by 0) 888 = .ok (.iconst 1, 1) := by decide +kernel
theorem d0_889 : decode (ix_by 0) 889 = .ok (.iadd, 1) := by decide +kernel
theorem d0_890 : decode (ix_by 0) 890 = .ok (.iaload, 1) := by decide +kernel
theorem d0_891 : decode (ix_by 0) 891 = .ok (.aload_n 0, 1) := by decide +kernel
theorem d0_892 : decode (ix_by 0) 892 = .ok (.iload 4, 2) := by decide +kernel
theorem d0_894 : decode (ix_by 0) 894 = .ok (.iconst 2, 1) := by decide +kernel
theorem d0_895 : decode (ix_by 0) 895 = .ok (.iadd, 1) := by decide +kernel
theorem d0_896 : decode (ix_by 0) 896 = .ok (.iaload, 1) := by decide +kernel
theorem d0_897 : decode (ix_by 0) 897 = .ok (.invokevirtual 114, 3) := by decide +kernel
theorem d0_900 : decode (ix_by 0) 900 = .ok (.aload_n 2, 1) := by decide +kernel
theorem d0_901 : decode (ix_by 0) 901 = .ok (.aload_n 0, 1) := by decide +kernel
theorem d0_902 : decode (ix_by 0) 902 = .ok (.iload 4, 2) := by decide +kernel
theorem d0_904 : decode (ix_by 0) 904 = .ok (.iconst 1, 1) := by decide +kernel
theorem d0_905 : decode (ix_by 0) 905 = .ok (.iadd, 1) := by decide +kernel
theorem d0_906 : decode (ix_by 0) 906 = .ok (.iaload, 1) := by decide +kernel
theorem d0_907 : decode (ix_by 0) 907 = .ok (.aload_n 0, 1) := by decide +kernel
theorem d0_908 : decode (ix_by 0) 908 = .ok (.iload 4, 2) := by decide +kernel
theorem d0_910 : decode (ix_by 0) 910 = .ok (.iconst 2, 1) := by decide +kernel
theorem d0_911 : decode (ix_by 0) 911 = .ok (.iadd, 1) := by decide +kernel
theorem d0_912 : decode (ix_by 0) 912 = .ok (.iaload, 1) := by decide +kernel
theorem d0_913 : decode (ix_by 0) 913 = .ok (.invokevirtual 117, 3) := by decide +kernel
theorem d0_916 : decode (ix_by 0) 916 = .ok (.if_icmp .eq 79, 3) := by decide +kernel
theorem d0_919 : decode (ix_by 0) 919 = .ok (.iconst 0, 1) := by decide +kernel
theorem d0_920 : decode (ix_by 0) 920 = .ok (.ireturn, 1) := by decide +kernel
theorem d0_921 : decode (ix_by 0) 921 = .ok (.aload_n 1, 1) := by decide +kernel
theorem d0_922 : decode (ix_by 0) 922 = .ok (.aload_n 0, 1) := by decide +kernel
theorem d0_923 : decode (ix_by 0) 923 = .ok (.iload 4, 2) := by decide +kernel
theorem d0_925 : decode (ix_by 0) 925 = .ok (.iconst 1, 1) := by decide +kernel
theorem d0_926 : decode (ix_by 0) 926 = .ok (.iadd, 1) := by decide +kernel
theorem d0_927 : decode (ix_by 0) 927 = .ok (.iaload, 1) := by decide +kernel
theorem d0_928 : decode (ix_by 0) 928 = .ok (.aload_n 0, 1) := by decide +kernel
theorem d0_929 : decode (ix_by 0) 929 = .ok (.iload 4, 2) := by decide +kernel
theorem d0_931 : decode (ix_by 0) 931 = .ok (.iconst 2, 1) := by decide +kernel
theorem d0_932 : decode (ix_by 0) 932 = .ok (.iadd, 1) := by decide +kernel
theorem d0_933 : decode (ix_by 0) 933 = .ok (.iaload, 1) := by decide +kernel
theorem d0_934 : decode (ix_by 0) 934 = .ok (.invokevirtual 118, 3) := by decide +kernel
theorem d0_937 : decode (ix_by 0) 937 = .ok (.aload_n 2, 1) := by decide +kernel
theorem d0_938 : decode (ix_by 0) 938 = .ok (.aload_n 0, 1) := by decide +kernel
theorem d0_939 : decode (ix_by 0) 939 = .ok (.iload 4, 2) := by decide +kernel
theorem d0_941 : decode (ix_by 0) 941 = .ok (.iconst 1, 1) := by decide +kernel
theorem d0_942 : decode (ix_by 0) 942 = .ok (.iadd, 1) := by decide +kernel
theorem d0_943 : decode (ix_by 0) 943 = .ok (.iaload, 1) := by decide +kernel
theorem d0_944 : decode (ix_by 0) 944 = .ok (.aload_n 0, 1) := by decide +kernel
theorem d0_945 : decode (ix_by 0) 945 = .ok (.iload 4, 2) := by decide +kernel
theorem d0_947 : decode (ix_by 0) 947 = .ok (.iconst 2, 1) := by decide +kernel
theorem d0_948 : decode (ix_by 0) 948 = .ok (.iadd, 1) := by decide +kernel
theorem d0_949 : decode (ix_by 0) 949 = .ok (.iaload, 1) := by decide +kernel
theorem d0_950 : decode (ix_by 0) 950 = .ok (.invokevirtual 121, 3) := by decide +kernel
theorem d0_953 : decode (ix_by 0) 953 = .ok (.if_icmp .eq 42, 3) := by decide +kernel
theorem d0_956 : decode (ix_by 0) 956 = .ok (.iconst 0, 1) := by decide +kernel
theorem d0_957 : decode (ix_by 0) 957 = .ok (.ireturn, 1) := by decide +kernel
theorem d0_958 : decode (ix_by 0) 958 = .ok (.aload_n 1, 1) := by decide +kernel
theorem d0_959 : decode (ix_by 0) 959 = .ok (.aload_n 0, 1) := by decide +kernel
theorem d0_960 : decode (ix_by 0) 960 = .ok (.iload 4, 2) := by decide +kernel
theorem d0_962 : decode (ix_by 0) 962 = .ok (.iconst 1, 1) := by decide +kernel
theorem d0_963 : decode (ix_by 0) 963 = .ok (.iadd, 1) := by decide +kernel
theorem d0_964 : decode (ix_by 0) 964 = .ok (.iaload, 1) := by decide +kernel
theorem d0_965 : decode (ix_by 0) 965 = .ok (.aload_n 0, 1) := by decide +kernel
theorem d0_966 : decode (ix_by 0) 966 = .ok (.iload 4, 2) := by decide +kernel
theorem d0_968 : decode (ix_by 0) 968 = .ok (.iconst 2, 1) := by decide +kernel
theorem d0_969 : decode (ix_by 0) 969 = .ok (.iadd, 1) := by decide +kernel
theorem d0_970 : decode (ix_by 0) 970 = .ok (.iaload, 1) := by decide +kernel
theorem d0_971 : decode (ix_by 0) 971 = .ok (.invokevirtual 122, 3) := by decide +kernel
theorem d0_974 : decode (ix_by 0) 974 = .ok (.aload_n 2, 1) := by decide +kernel
theorem d0_975 : decode (ix_by 0) 975 = .ok (.aload_n 0, 1) := by decide +kernel
theorem d0_976 : decode (ix_by 0) 976 = .ok (.iload 4, 2) := by decide +kernel
theorem d0_978 : decode (ix_by 0) 978 = .ok (.iconst 1, 1) := by decide +kernel
theorem d0_979 : decode (ix_by 0) 979 = .ok (.iadd, 1) := by decide +kernel
theorem d0_980 : decode (ix_by 0) 980 = .ok (.iaload, 1) := by decide +kernel
theorem d0_981 : decode (ix_by 0) 981 = .ok (.aload_n 0, 1) := by decide +kernel
theorem d0_982 : decode (ix_by 0) 982 = .ok (.iload 4, 2) := by decide +kernel
theorem d0_984 : decode (ix_by 0) 984 = .ok (.iconst 2, 1) := by decide +kernel
theorem d0_985 : decode (ix_by 0) 985 = .ok (.iadd, 1) := by decide +kernel
theorem d0_986 : decode (ix_by 0) 986 = .ok (.iaload, 1) := by decide +kernel
theorem d0_987 : decode (ix_by 0) 987 = .ok (.invokevirtual 125, 3) := by decide +kernel
theorem d0_990 : decode (ix_by 0) 990 = .ok (.if_icmp .eq 5, 3) := by decide +kernel
theorem d0_993 : decode (ix_by 0) 993 = .ok (.iconst 0, 1) := by decide +kernel
theorem d0_994 : decode (ix_by 0) 994 = .ok (.ireturn, 1) := by decide +kernel
theorem d0_995 : decode (ix_by 0) 995 = .ok (.iinc 4 7, 3) := by decide +kernel
theorem d0_998 : decode (ix_by 0) 998 = .ok (.goto (-965), 3) := by decide +kernel
theorem d0_1001 : decode (ix_by 0) 1001 = .ok (.iconst 1, 1) := by decide +kernel
theorem d0_1002 : decode (ix_by 0) 1002 = .ok (.ireturn, 1) := by decide +kernel
theorem d1_0 : decode (ix_by 1) 0 = .ok (.aload_n 0, 1) := by decide +kernel
theorem d1_1 : decode (ix_by 1) 1 = .ok (.invokespecial 1, 3) := by decide +kernel
theorem d1_4 : decode (ix_by 1) 4 = .ok (.aload_n 0, 1) := by decide +kernel
theorem d1_5 : decode (ix_by 1) 5 = .ok (.iconst 4, 1) := by decide +kernel
theorem d1_6 : decode (ix_by 1) 6 = .ok (.iload_n 1, 1) := by decide +kernel
theorem d1_7 : decode (ix_by 1) 7 = .ok (.bipush 7, 2) := by decide +kernel
theorem d1_9 : decode (ix_by 1) 9 = .ok (.iand, 1) := by decide +kernel
theorem d1_10 : decode (ix_by 1) 10 = .ok (.iadd, 1) := by decide +kernel
theorem d1_11 : decode (ix_by 1) 11 = .ok (.putfield 7, 3) := by decide +kernel
theorem d1_14 : decode (ix_by 1) 14 = .ok (.aload_n 0, 1) := by decide +kernel
theorem d1_15 : decode (ix_by 1) 15 = .ok (.iconst 2, 1) := by decide +kernel
theorem d1_16 : decode (ix_by 1) 16 = .ok (.anewarray 13, 3) := by decide +kernel
theorem d1_19 : decode (ix_by 1) 19 = .ok (.dup, 1) := by decide +kernel
theorem d1_20 : decode (ix_by 1) 20 = .ok (.iconst 0, 1) := by decide +kernel
theorem d1_21 : decode (ix_by 1) 21 = .ok (.new 13, 3) := by decide +kernel
theorem d1_24 : decode (ix_by 1) 24 = .ok (.dup, 1) := by decide +kernel
theorem d1_25 : decode (ix_by 1) 25 = .ok (.invokespecial 15, 3) := by decide +kernel
theorem d1_28 : decode (ix_by 1) 28 = .ok (.aastore, 1) := by decide +kernel
theorem d1_29 : decode (ix_by 1) 29 = .ok (.dup, 1) := by decide +kernel
theorem d1_30 : decode (ix_by 1) 30 = .ok (.iconst 1, 1) := by decide +kernel
theorem d1_31 : decode (ix_by 1) 31 = .ok (.new 13, 3) := by decide +kernel
theorem d1_34 : decode (ix_by 1) 34 = .ok (.dup, 1) := by decide +kernel
theorem d1_35 : decode (ix_by 1) 35 = .ok (.invokespecial 15, 3) := by decide +kernel
theorem d1_38 : decode (ix_by 1) 38 = .ok (.aastore, 1) := by decide +kernel
theorem d1_39 : decode (ix_by 1) 39 = .ok (.putfield 16, 3) := by decide +kernel
theorem d1_42 : decode (ix_by 1) 42 = .ok (.aload_n 0, 1) := by decide +kernel
theorem d1_43 : decode (ix_by 1) 43 = .ok (.new 20, 3) := by decide +kernel
theorem d1_46 : decode (ix_by 1) 46 = .ok (.dup, 1) := by decide +kernel
theorem d1_47 : decode (ix_by 1) 47 = .ok (.invokespecial 22, 3) := by decide +kernel
theorem d1_50 : decode (ix_by 1) 50 = .ok (.putfield 23, 3) := by decide +kernel
theorem d1_53 : decode (ix_by 1) 53 = .ok (.aload_n 0, 1) := by decide +kernel
theorem d1_54 : decode (ix_by 1) 54 = .ok (.iconst 0, 1) := by decide +kernel
theorem d1_55 : decode (ix_by 1) 55 = .ok (.putfield 27, 3) := by decide +kernel
theorem d1_58 : decode (ix_by 1) 58 = .ok (.return_, 1) := by decide +kernel
theorem d2_0 : decode (ix_by 2) 0 = .ok (.aload_n 0, 1) := by decide +kernel
theorem d2_1 : decode (ix_by 2) 1 = .ok (.invokespecial 1, 3) := by decide +kernel
theorem d2_4 : decode (ix_by 2) 4 = .ok (.aload_n 0, 1) := by decide +kernel
theorem d2_5 : decode (ix_by 2) 5 = .ok (.new 7, 3) := by decide +kernel
theorem d2_8 : decode (ix_by 2) 8 = .ok (.dup, 1) := by decide +kernel
theorem d2_9 : decode (ix_by 2) 9 = .ok (.invokespecial 9, 3) := by decide +kernel
theorem d2_12 : decode (ix_by 2) 12 = .ok (.putfield 10, 3) := by decide +kernel
theorem d2_15 : decode (ix_by 2) 15 = .ok (.aload_n 0, 1) := by decide +kernel
theorem d2_16 : decode (ix_by 2) 16 = .ok (.new 16, 3) := by decide +kernel
theorem d2_19 : decode (ix_by 2) 19 = .ok (.dup, 1) := by decide +kernel
theorem d2_20 : decode (ix_by 2) 20 = .ok (.invokespecial 18, 3) := by decide +kernel
theorem d2_23 : decode (ix_by 2) 23 = .ok (.putfield 19, 3) := by decide +kernel
theorem d2_26 : decode (ix_by 2) 26 = .ok (.aload_n 0, 1) := by decide +kernel
theorem d2_27 : decode (ix_by 2) 27 = .ok (.new 16, 3) := by decide +kernel
theorem d2_30 : decode (ix_by 2) 30 = .ok (.dup, 1) := by decide +kernel
theorem d2_31 : decode (ix_by 2) 31 = .ok (.invokespecial 18, 3) := by decide +kernel
theorem d2_34 : decode (ix_by 2) 34 = .ok (.putfield 23, 3) := by decide +kernel
theorem d2_37 : decode (ix_by 2) 37 = .ok (.aload_n 0, 1) := by decide +kernel
theorem d2_38 : decode (ix_by 2) 38 = .ok (.new 16, 3) := by decide +kernel
theorem d2_41 : decode (ix_by 2) 41 = .ok (.dup, 1) := by decide +kernel
theorem d2_42 : decode (ix_by 2) 42 = .ok (.invokespecial 18, 3) := by decide +kernel
theorem d2_45 : decode (ix_by 2) 45 = .ok (.putfield 26, 3) := by decide +kernel
theorem d2_48 : decode (ix_by 2) 48 = .ok (.return_, 1) := by decide +kernel
theorem d3_0 : decode (ix_by 3) 0 = .ok (.aload_n 0, 1) := by decide +kernel
theorem d3_1 : decode (ix_by 3) 1 = .ok (.invokespecial 3, 3) := by decide +kernel
theorem d3_4 : decode (ix_by 3) 4 = .ok (.aload_n 0, 1) := by decide +kernel
theorem d3_5 : decode (ix_by 3) 5 = .ok (.bipush 6, 2) := by decide +kernel
theorem d3_7 : decode (ix_by 3) 7 = .ok (.bipush 64, 2) := by decide +kernel
theorem d3_9 : decode (ix_by 3) 9 = .ok (.multianewarray 9 2, 4) := by decide +kernel
theorem d3_13 : decode (ix_by 3) 13 = .ok (.putfield 11, 3) := by decide +kernel
theorem d3_16 : decode (ix_by 3) 16 = .ok (.aload_n 0, 1) := by decide +kernel
theorem d3_17 : decode (ix_by 3) 17 = .ok (.bipush 6, 2) := by decide +kernel
theorem d3_19 : decode (ix_by 3) 19 = .ok (.newarray .int, 2) := by decide +kernel
theorem d3_21 : decode (ix_by 3) 21 = .ok (.putfield 16, 3) := by decide +kernel
theorem d3_24 : decode (ix_by 3) 24 = .ok (.iconst 0, 1) := by decide +kernel
theorem d3_25 : decode (ix_by 3) 25 = .ok (.istore_n 1, 1) := by decide +kernel
theorem d3_26 : decode (ix_by 3) 26 = .ok (.iload_n 1, 1) := by decide +kernel
theorem d3_27 : decode (ix_by 3) 27 = .ok (.bipush 6, 2) := by decide +kernel
theorem d3_29 : decode (ix_by 3) 29 = .ok (.if_icmp .ge 16, 3) := by decide +kernel
theorem d3_32 : decode (ix_by 3) 32 = .ok (.aload_n 0, 1) := by decide +kernel
theorem d3_33 : decode (ix_by 3) 33 = .ok (.getfield 16, 3) := by decide +kernel
theorem d3_36 : decode (ix_by 3) 36 = .ok (.iload_n 1, 1) := by decide +kernel
theorem d3_37 : decode (ix_by 3) 37 = .ok (.iconst (-1), 1) := by decide +kernel
theorem d3_38 : decode (ix_by 3) 38 = .ok (.iastore, 1) := by decide +kernel
theorem d3_39 : decode (ix_by 3) 39 = .ok (.iinc 1 1, 3) := by decide +kernel
theorem d3_42 : decode (ix_by 3) 42 = .ok (.goto (-16), 3) := by decide +kernel
theorem d3_45 : decode (ix_by 3) 45 = .ok (.return_, 1) := by decide +kernel
end
section
/-! decode rows (written by wip/whole/gen4.py) -/
theorem d4_0 : decode (ix_by 4) 0 = .ok (.aload_n 0, 1) := by decide +kernel
theorem d4_1 : decode (ix_by 4) 1 = .ok (.invokespecial 1, 3) := by decide +kernel
theorem d4_4 : decode (ix_by 4) 4 = .ok (.aload_n 0, 1) := by decide +kernel
theorem d4_5 : decode (ix_by 4) 5 = .ok (.getstatic 39, 3) := by decide +kernel
theorem d4_8 : decode (ix_by 4) 8 = .ok (.putfield 9, 3) := by decide +kernel
theorem d4_11 : decode (ix_by 4) 11 = .ok (.return_, 1) := by decide +kernel
theorem d5_0 : decode (ix_by 5) 0 = .ok (.aload_n 0, 1) := by decide +kernel
theorem d5_1 : decode (ix_by 5) 1 = .ok (.invokespecial 1, 3) := by decide +kernel
theorem d5_4 : decode (ix_by 5) 4 = .ok (.aload_n 0, 1) := by decide +kernel
theorem d5_5 : decode (ix_by 5) 5 = .ok (.iconst 0, 1) := by decide +kernel
theorem d5_6 : decode (ix_by 5) 6 = .ok (.putfield 7, 3) := by decide +kernel
theorem d5_9 : decode (ix_by 5) 9 = .ok (.return_, 1) := by decide +kernel
theorem d6_0 : decode (ix_by 6) 0 = .ok (.aload_n 0, 1) := by decide +kernel
theorem d6_1 : decode (ix_by 6) 1 = .ok (.invokespecial 1, 3) := by decide +kernel
theorem d6_4 : decode (ix_by 6) 4 = .ok (.return_, 1) := by decide +kernel
theorem d7_0 : decode (ix_by 7) 0 = .ok (.aload_n 0, 1) := by decide +kernel
theorem d7_1 : decode (ix_by 7) 1 = .ok (.invokespecial 3, 3) := by decide +kernel
theorem d7_4 : decode (ix_by 7) 4 = .ok (.aload_n 0, 1) := by decide +kernel
theorem d7_5 : decode (ix_by 7) 5 = .ok (.bipush 24, 2) := by decide +kernel
theorem d7_7 : decode (ix_by 7) 7 = .ok (.anewarray 9, 3) := by decide +kernel
theorem d7_10 : decode (ix_by 7) 10 = .ok (.putfield 11, 3) := by decide +kernel
theorem d7_13 : decode (ix_by 7) 13 = .ok (.return_, 1) := by decide +kernel
theorem d8_0 : decode (ix_by 8) 0 = .ok (.iload_n 1, 1) := by decide +kernel
theorem d8_1 : decode (ix_by 8) 1 = .ok (.iload_n 2, 1) := by decide +kernel
theorem d8_2 : decode (ix_by 8) 2 = .ok (.invokestatic 30, 3) := by decide +kernel
theorem d8_5 : decode (ix_by 8) 5 = .ok (.ifCond .eq 19, 3) := by decide +kernel
theorem d8_8 : decode (ix_by 8) 8 = .ok (.aload_n 0, 1) := by decide +kernel
theorem d8_9 : decode (ix_by 8) 9 = .ok (.getfield 16, 3) := by decide +kernel
theorem d8_12 : decode (ix_by 8) 12 = .ok (.iload_n 1, 1) := by decide +kernel
theorem d8_13 : decode (ix_by 8) 13 = .ok (.aaload, 1) := by decide +kernel
theorem d8_14 : decode (ix_by 8) 14 = .ok (.getfield 34, 3) := by decide +kernel
theorem d8_17 : decode (ix_by 8) 17 = .ok (.iload_n 2, 1) := by decide +kernel
theorem d8_18 : decode (ix_by 8) 18 = .ok (.invokevirtual 38, 3) := by decide +kernel
theorem d8_21 : decode (ix_by 8) 21 = .ok (.ifCond .eq 5, 3) := by decide +kernel
theorem d8_24 : decode (ix_by 8) 24 = .ok (.iconst 0, 1) := by decide +kernel
theorem d8_25 : decode (ix_by 8) 25 = .ok (.ireturn, 1) := by decide +kernel
theorem d8_26 : decode (ix_by 8) 26 = .ok (.aload_n 0, 1) := by decide +kernel
theorem d8_27 : decode (ix_by 8) 27 = .ok (.getfield 16, 3) := by decide +kernel
theorem d8_30 : decode (ix_by 8) 30 = .ok (.iload_n 1, 1) := by decide +kernel
theorem d8_31 : decode (ix_by 8) 31 = .ok (.aaload, 1) := by decide +kernel
theorem d8_32 : decode (ix_by 8) 32 = .ok (.getfield 34, 3) := by decide +kernel
theorem d8_35 : decode (ix_by 8) 35 = .ok (.iload_n 2, 1) := by decide +kernel
theorem d8_36 : decode (ix_by 8) 36 = .ok (.invokevirtual 44, 3) := by decide +kernel
theorem d8_39 : decode (ix_by 8) 39 = .ok (.iconst 1, 1) := by decide +kernel
theorem d8_40 : decode (ix_by 8) 40 = .ok (.ireturn, 1) := by decide +kernel
theorem d9_0 : decode (ix_by 9) 0 = .ok (.iload_n 0, 1) := by decide +kernel
theorem d9_1 : decode (ix_by 9) 1 = .ok (.invokestatic 218, 3) := by decide +kernel
theorem d9_4 : decode (ix_by 9) 4 = .ok (.ifCond .eq 14, 3) := by decide +kernel
theorem d9_7 : decode (ix_by 9) 7 = .ok (.iload_n 1, 1) := by decide +kernel
theorem d9_8 : decode (ix_by 9) 8 = .ok (.invokestatic 93, 3) := by decide +kernel
theorem d9_11 : decode (ix_by 9) 11 = .ok (.ifCond .eq 7, 3) := by decide +kernel
theorem d9_14 : decode (ix_by 9) 14 = .ok (.iconst 1, 1) := by decide +kernel
theorem d9_15 : decode (ix_by 9) 15 = .ok (.goto 4, 3) := by decide +kernel
theorem d9_18 : decode (ix_by 9) 18 = .ok (.iconst 0, 1) := by decide +kernel
theorem d9_19 : decode (ix_by 9) 19 = .ok (.ireturn, 1) := by decide +kernel
theorem d10_0 : decode (ix_by 10) 0 = .ok (.iload_n 0, 1) := by decide +kernel
theorem d10_1 : decode (ix_by 10) 1 = .ok (.ifCond .lt 12, 3) := by decide +kernel
theorem d10_4 : decode (ix_by 10) 4 = .ok (.iload_n 0, 1) := by decide +kernel
theorem d10_5 : decode (ix_by 10) 5 = .ok (.iconst 2, 1) := by decide +kernel
theorem d10_6 : decode (ix_by 10) 6 = .ok (.if_icmp .ge 7, 3) := by decide +kernel
theorem d10_9 : decode (ix_by 10) 9 = .ok (.iconst 1, 1) := by decide +kernel
theorem d10_10 : decode (ix_by 10) 10 = .ok (.goto 4, 3) := by decide +kernel
theorem d10_13 : decode (ix_by 10) 13 = .ok (.iconst 0, 1) := by decide +kernel
theorem d10_14 : decode (ix_by 10) 14 = .ok (.ireturn, 1) := by decide +kernel
theorem d11_0 : decode (ix_by 11) 0 = .ok (.iload_n 0, 1) := by decide +kernel
theorem d11_1 : decode (ix_by 11) 1 = .ok (.ifCond .lt 13, 3) := by decide +kernel
theorem d11_4 : decode (ix_by 11) 4 = .ok (.iload_n 0, 1) := by decide +kernel
theorem d11_5 : decode (ix_by 11) 5 = .ok (.bipush 6, 2) := by decide +kernel
theorem d11_7 : decode (ix_by 11) 7 = .ok (.if_icmp .ge 7, 3) := by decide +kernel
theorem d11_10 : decode (ix_by 11) 10 = .ok (.iconst 1, 1) := by decide +kernel
theorem d11_11 : decode (ix_by 11) 11 = .ok (.goto 4, 3) := by decide +kernel
theorem d11_14 : decode (ix_by 11) 14 = .ok (.iconst 0, 1) := by decide +kernel
theorem d11_15 : decode (ix_by 11) 15 = .ok (.ireturn, 1) := by decide +kernel
theorem d12_0 : decode (ix_by 12) 0 = .ok (.aload_n 0, 1) := by decide +kernel
theorem d12_1 : decode (ix_by 12) 1 = .ok (.getfield 16, 3) := by decide +kernel
theorem d12_4 : decode (ix_by 12) 4 = .ok (.iload_n 1, 1) := by decide +kernel
theorem d12_5 : decode (ix_by 12) 5 = .ok (.iaload, 1) := by decide +kernel
theorem d12_6 : decode (ix_by 12) 6 = .ok (.iconst (-1), 1) := by decide +kernel
theorem d12_7 : decode (ix_by 12) 7 = .ok (.if_icmp .eq 7, 3) := by decide +kernel
theorem d12_10 : decode (ix_by 12) 10 = .ok (.iconst 1, 1) := by decide +kernel
theorem d12_11 : decode (ix_by 12) 11 = .ok (.goto 4, 3) := by decide +kernel
theorem d12_14 : decode (ix_by 12) 14 = .ok (.iconst 0, 1) := by decide +kernel
theorem d12_15 : decode (ix_by 12) 15 = .ok (.ireturn, 1) := by decide +kernel
theorem d13_0 : decode (ix_by 13) 0 = .ok (.aload_n 0, 1) := by decide +kernel
theorem d13_1 : decode (ix_by 13) 1 = .ok (.getfield 16, 3) := by decide +kernel
theorem d13_4 : decode (ix_by 13) 4 = .ok (.iload_n 1, 1) := by decide +kernel
theorem d13_5 : decode (ix_by 13) 5 = .ok (.iconst 0, 1) := by decide +kernel
theorem d13_6 : decode (ix_by 13) 6 = .ok (.iastore, 1) := by decide +kernel
theorem d13_7 : decode (ix_by 13) 7 = .ok (.return_, 1) := by decide +kernel
theorem d14_0 : decode (ix_by 14) 0 = .ok (.aload_n 0, 1) := by decide +kernel
theorem d14_1 : decode (ix_by 14) 1 = .ok (.iload_n 1, 1) := by decide +kernel
theorem d14_2 : decode (ix_by 14) 2 = .ok (.iload_n 2, 1) := by decide +kernel
theorem d14_3 : decode (ix_by 14) 3 = .ok (.invokevirtual 76, 3) := by decide +kernel
theorem d14_6 : decode (ix_by 14) 6 = .ok (.ifCond .eq 19, 3) := by decide +kernel
theorem d14_9 : decode (ix_by 14) 9 = .ok (.aload_n 0, 1) := by decide +kernel
theorem d14_10 : decode (ix_by 14) 10 = .ok (.getfield 16, 3) := by decide +kernel
theorem d14_13 : decode (ix_by 14) 13 = .ok (.iload_n 1, 1) := by decide +kernel
theorem d14_14 : decode (ix_by 14) 14 = .ok (.aaload, 1) := by decide +kernel
theorem d14_15 : decode (ix_by 14) 15 = .ok (.getfield 34, 3) := by decide +kernel
theorem d14_18 : decode (ix_by 14) 18 = .ok (.iload_n 2, 1) := by decide +kernel
theorem d14_19 : decode (ix_by 14) 19 = .ok (.invokevirtual 63, 3) := by decide +kernel
theorem d14_22 : decode (ix_by 14) 22 = .ok (.goto 4, 3) := by decide +kernel
theorem d14_25 : decode (ix_by 14) 25 = .ok (.iconst (-1), 1) := by decide +kernel
theorem d14_26 : decode (ix_by 14) 26 = .ok (.ireturn, 1) := by decide +kernel
theorem d15_0 : decode (ix_by 15) 0 = .ok (.iload_n 1, 1) := by decide +kernel
theorem d15_1 : decode (ix_by 15) 1 = .ok (.iload_n 2, 1) := by decide +kernel
theorem d15_2 : decode (ix_by 15) 2 = .ok (.invokestatic 30, 3) := by decide +kernel
theorem d15_5 : decode (ix_by 15) 5 = .ok (.ifCond .eq 23, 3) := by decide +kernel
theorem d15_8 : decode (ix_by 15) 8 = .ok (.aload_n 0, 1) := by decide +kernel
theorem d15_9 : decode (ix_by 15) 9 = .ok (.getfield 16, 3) := by decide +kernel
theorem d15_12 : decode (ix_by 15) 12 = .ok (.iload_n 1, 1) := by decide +kernel
theorem d15_13 : decode (ix_by 15) 13 = .ok (.aaload, 1) := by decide +kernel
theorem d15_14 : decode (ix_by 15) 14 = .ok (.getfield 34, 3) := by decide +kernel
theorem d15_17 : decode (ix_by 15) 17 = .ok (.iload_n 2, 1) := by decide +kernel
theorem d15_18 : decode (ix_by 15) 18 = .ok (.invokevirtual 38, 3) := by decide +kernel
theorem d15_21 : decode (ix_by 15) 21 = .ok (.ifCond .eq 7, 3) := by decide +kernel
theorem d15_24 : decode (ix_by 15) 24 = .ok (.iconst 1, 1) := by decide +kernel
theorem d15_25 : decode (ix_by 15) 25 = .ok (.goto 4, 3) := by decide +kernel
theorem d15_28 : decode (ix_by 15) 28 = .ok (.iconst 0, 1) := by decide +kernel
theorem d15_29 : decode (ix_by 15) 29 = .ok (.ireturn, 1) := by decide +kernel
theorem d16_0 : decode (ix_by 16) 0 = .ok (.aload_n 0, 1) := by decide +kernel
theorem d16_1 : decode (ix_by 16) 1 = .ok (.getfield 16, 3) := by decide +kernel
theorem d16_4 : decode (ix_by 16) 4 = .ok (.iload_n 1, 1) := by decide +kernel
theorem d16_5 : decode (ix_by 16) 5 = .ok (.iaload, 1) := by decide +kernel
theorem d16_6 : decode (ix_by 16) 6 = .ok (.ireturn, 1) := by decide +kernel
theorem d17_0 : decode (ix_by 17) 0 = .ok (.aload_n 0, 1) := by decide +kernel
theorem d17_1 : decode (ix_by 17) 1 = .ok (.iload_n 1, 1) := by decide +kernel
theorem d17_2 : decode (ix_by 17) 2 = .ok (.iload_n 2, 1) := by decide +kernel
theorem d17_3 : decode (ix_by 17) 3 = .ok (.invokevirtual 129, 3) := by decide +kernel
theorem d17_6 : decode (ix_by 17) 6 = .ok (.astore_n 3, 1) := by decide +kernel
theorem d17_7 : decode (ix_by 17) 7 = .ok (.aload_n 3, 1) := by decide +kernel
theorem d17_8 : decode (ix_by 17) 8 = .ok (.ifnull 14, 3) := by decide +kernel
theorem d17_11 : decode (ix_by 17) 11 = .ok (.aload_n 3, 1) := by decide +kernel
theorem d17_12 : decode (ix_by 17) 12 = .ok (.invokevirtual 133, 3) := by decide +kernel
theorem d17_15 : decode (ix_by 17) 15 = .ok (.ifCond .eq 7, 3) := by decide +kernel
theorem d17_18 : decode (ix_by 17) 18 = .ok (.iconst 1, 1) := by decide +kernel
theorem d17_19 : decode (ix_by 17) 19 = .ok (.goto 4, 3) := by decide +kernel
theorem d17_22 : decode (ix_by 17) 22 = .ok (.iconst 0, 1) := by decide +kernel
theorem d17_23 : decode (ix_by 17) 23 = .ok (.ireturn, 1) := by decide +kernel
theorem d18_0 : decode (ix_by 18) 0 = .ok (.iload_n 1, 1) := by decide +kernel
theorem d18_1 : decode (ix_by 18) 1 = .ok (.invokestatic 218, 3) := by decide +kernel
theorem d18_4 : decode (ix_by 18) 4 = .ok (.ifCond .eq 16, 3) := by decide +kernel
theorem d18_7 : decode (ix_by 18) 7 = .ok (.aload_n 0, 1) := by decide +kernel
theorem d18_8 : decode (ix_by 18) 8 = .ok (.getfield 16, 3) := by decide +kernel
theorem d18_11 : decode (ix_by 18) 11 = .ok (.iload_n 1, 1) := by decide +kernel
theorem d18_12 : decode (ix_by 18) 12 = .ok (.aaload, 1) := by decide +kernel
theorem d18_13 : decode (ix_by 18) 13 = .ok (.iload_n 2, 1) := by decide +kernel
theorem d18_14 : decode (ix_by 18) 14 = .ok (.invokevirtual 221, 3) := by decide +kernel
theorem d18_17 : decode (ix_by 18) 17 = .ok (.goto 4, 3) := by decide +kernel
theorem d18_20 : decode (ix_by 18) 20 = .ok (.aconst_null, 1) := by decide +kernel
theorem d18_21 : decode (ix_by 18) 21 = .ok (.areturn, 1) := by decide +kernel
theorem d19_0 : decode (ix_by 19) 0 = .ok (.iload_n 1, 1) := by decide +kernel
theorem d19_1 : decode (ix_by 19) 1 = .ok (.iconst 1, 1) := by decide +kernel
theorem d19_2 : decode (ix_by 19) 2 = .ok (.if_icmp .lt 30, 3) := by decide +kernel
theorem d19_5 : decode (ix_by 19) 5 = .ok (.iload_n 1, 1) := by decide +kernel
theorem d19_6 : decode (ix_by 19) 6 = .ok (.aload_n 0, 1) := by decide +kernel
theorem d19_7 : decode (ix_by 19) 7 = .ok (.getfield 19, 3) := by decide +kernel
theorem d19_10 : decode (ix_by 19) 10 = .ok (.invokevirtual 33, 3) := by decide +kernel
theorem d19_13 : decode (ix_by 19) 13 = .ok (.if_icmp .gt 19, 3) := by decide +kernel
theorem d19_16 : decode (ix_by 19) 16 = .ok (.aload_n 0, 1) := by decide +kernel
theorem d19_17 : decode (ix_by 19) 17 = .ok (.getfield 19, 3) := by decide +kernel
theorem d19_20 : decode (ix_by 19) 20 = .ok (.iload_n 1, 1) := by decide +kernel
theorem d19_21 : decode (ix_by 19) 21 = .ok (.iconst 1, 1) := by decide +kernel
theorem d19_22 : decode (ix_by 19) 22 = .ok (.isub, 1) := by decide +kernel
theorem d19_23 : decode (ix_by 19) 23 = .ok (.invokevirtual 37, 3) := by decide +kernel
theorem d19_26 : decode (ix_by 19) 26 = .ok (.checkcast 41, 3) := by decide +kernel
theorem d19_29 : decode (ix_by 19) 29 = .ok (.goto 4, 3) := by decide +kernel
theorem d19_32 : decode (ix_by 19) 32 = .ok (.aconst_null, 1) := by decide +kernel
theorem d19_33 : decode (ix_by 19) 33 = .ok (.areturn, 1) := by decide +kernel
theorem d20_0 : decode (ix_by 20) 0 = .ok (.aload_n 0, 1) := by decide +kernel
theorem d20_1 : decode (ix_by 20) 1 = .ok (.getfield 48, 3) := by decide +kernel
theorem d20_4 : decode (ix_by 20) 4 = .ok (.ireturn, 1) := by decide +kernel
theorem d21_0 : decode (ix_by 21) 0 = .ok (.iload_n 1, 1) := by decide +kernel
theorem d21_1 : decode (ix_by 21) 1 = .ok (.aload_n 0, 1) := by decide +kernel
theorem d21_2 : decode (ix_by 21) 2 = .ok (.getfield 48, 3) := by decide +kernel
theorem d21_5 : decode (ix_by 21) 5 = .ok (.invokestatic 118, 3) := by decide +kernel
theorem d21_8 : decode (ix_by 21) 8 = .ok (.pop, 1) := by decide +kernel
theorem d21_9 : decode (ix_by 21) 9 = .ok (.aload_n 0, 1) := by decide +kernel
theorem d21_10 : decode (ix_by 21) 10 = .ok (.iload_n 1, 1) := by decide +kernel
theorem d21_11 : decode (ix_by 21) 11 = .ok (.invokevirtual 123, 3) := by decide +kernel
theorem d21_14 : decode (ix_by 21) 14 = .ok (.areturn, 1) := by decide +kernel
theorem d22_0 : decode (ix_by 22) 0 = .ok (.iload_n 0, 1) := by decide +kernel
theorem d22_1 : decode (ix_by 22) 1 = .ok (.iload_n 1, 1) := by decide +kernel
theorem d22_2 : decode (ix_by 22) 2 = .ok (.aconst_null, 1) := by decide +kernel
theorem d22_3 : decode (ix_by 22) 3 = .ok (.invokestatic 105, 3) := by decide +kernel
theorem d22_6 : decode (ix_by 22) 6 = .ok (.ireturn, 1) := by decide +kernel
theorem d23_0 : decode (ix_by 23) 0 = .ok (.iload_n 0, 1) := by decide +kernel
theorem d23_1 : decode (ix_by 23) 1 = .ok (.ifCond .lt 8, 3) := by decide +kernel
theorem d23_4 : decode (ix_by 23) 4 = .ok (.iload_n 0, 1) := by decide +kernel
theorem d23_5 : decode (ix_by 23) 5 = .ok (.iload_n 1, 1) := by decide +kernel
theorem d23_6 : decode (ix_by 23) 6 = .ok (.if_icmp .lt 10, 3) := by decide +kernel
theorem d23_9 : decode (ix_by 23) 9 = .ok (.aload_n 2, 1) := by decide +kernel
theorem d23_10 : decode (ix_by 23) 10 = .ok (.iload_n 0, 1) := by decide +kernel
theorem d23_11 : decode (ix_by 23) 11 = .ok (.iload_n 1, 1) := by decide +kernel
theorem d23_12 : decode (ix_by 23) 12 = .ok (.invokestatic 95, 3) := by decide +kernel
theorem d23_15 : decode (ix_by 23) 15 = .ok (.athrow, 1) := by decide +kernel
theorem d23_16 : decode (ix_by 23) 16 = .ok (.iload_n 0, 1) := by decide +kernel
theorem d23_17 : decode (ix_by 23) 17 = .ok (.ireturn, 1) := by decide +kernel
theorem d24_0 : decode (ix_by 24) 0 = .ok (.aload_n 0, 1) := by decide +kernel
theorem d24_1 : decode (ix_by 24) 1 = .ok (.getfield 9, 3) := by decide +kernel
theorem d24_4 : decode (ix_by 24) 4 = .ok (.iload_n 1, 1) := by decide +kernel
theorem d24_5 : decode (ix_by 24) 5 = .ok (.aaload, 1) := by decide +kernel
theorem d24_6 : decode (ix_by 24) 6 = .ok (.areturn, 1) := by decide +kernel
theorem d25_0 : decode (ix_by 25) 0 = .ok (.aload_n 0, 1) := by decide +kernel
theorem d25_1 : decode (ix_by 25) 1 = .ok (.invokevirtual 50, 3) := by decide +kernel
theorem d25_4 : decode (ix_by 25) 4 = .ok (.ifCond .eq 10, 3) := by decide +kernel
theorem d25_7 : decode (ix_by 25) 7 = .ok (.aload_n 0, 1) := by decide +kernel
theorem d25_8 : decode (ix_by 25) 8 = .ok (.getfield 54, 3) := by decide +kernel
theorem d25_11 : decode (ix_by 25) 11 = .ok (.ifCond .eq 5, 3) := by decide +kernel
theorem d25_14 : decode (ix_by 25) 14 = .ok (.iconst 0, 1) := by decide +kernel
theorem d25_15 : decode (ix_by 25) 15 = .ok (.ireturn, 1) := by decide +kernel
theorem d25_16 : decode (ix_by 25) 16 = .ok (.aload_n 0, 1) := by decide +kernel
theorem d25_17 : decode (ix_by 25) 17 = .ok (.iconst 1, 1) := by decide +kernel
theorem d25_18 : decode (ix_by 25) 18 = .ok (.putfield 54, 3) := by decide +kernel
theorem d25_21 : decode (ix_by 25) 21 = .ok (.aload_n 0, 1) := by decide +kernel
theorem d25_22 : decode (ix_by 25) 22 = .ok (.aload_n 0, 1) := by decide +kernel
theorem d25_23 : decode (ix_by 25) 23 = .ok (.getfield 44, 3) := by decide +kernel
theorem d25_26 : decode (ix_by 25) 26 = .ok (.putfield 11, 3) := by decide +kernel
theorem d25_29 : decode (ix_by 25) 29 = .ok (.aload_n 0, 1) := by decide +kernel
theorem d25_30 : decode (ix_by 25) 30 = .ok (.iconst 0, 1) := by decide +kernel
theorem d25_31 : decode (ix_by 25) 31 = .ok (.putfield 58, 3) := by decide +kernel
theorem d25_34 : decode (ix_by 25) 34 = .ok (.aload_n 0, 1) := by decide +kernel
theorem d25_35 : decode (ix_by 25) 35 = .ok (.iconst 0, 1) := by decide +kernel
theorem d25_36 : decode (ix_by 25) 36 = .ok (.putfield 61, 3) := by decide +kernel
theorem d25_39 : decode (ix_by 25) 39 = .ok (.aload_n 0, 1) := by decide +kernel
theorem d25_40 : decode (ix_by 25) 40 = .ok (.iconst 0, 1) := by decide +kernel
theorem d25_41 : decode (ix_by 25) 41 = .ok (.putfield 64, 3) := by decide +kernel
theorem d25_44 : decode (ix_by 25) 44 = .ok (.aload_n 0, 1) := by decide +kernel
theorem d25_45 : decode (ix_by 25) 45 = .ok (.iconst 0, 1) := by decide +kernel
theorem d25_46 : decode (ix_by 25) 46 = .ok (.putfield 67, 3) := by decide +kernel
theorem d25_49 : decode (ix_by 25) 49 = .ok (.iconst 1, 1) := by decide +kernel
theorem d25_50 : decode (ix_by 25) 50 = .ok (.ireturn, 1) := by decide +kernel
theorem d26_0 : decode (ix_by 26) 0 = .ok (.aload_n 0, 1) := by decide +kernel
theorem d26_1 : decode (ix_by 26) 1 = .ok (.getfield 47, 3) := by decide +kernel
theorem d26_4 : decode (ix_by 26) 4 = .ok (.ifCond .ne 7, 3) := by decide +kernel
theorem d26_7 : decode (ix_by 26) 7 = .ok (.iconst 1, 1) := by decide +kernel
theorem d26_8 : decode (ix_by 26) 8 = .ok (.goto 4, 3) := by decide +kernel
theorem d26_11 : decode (ix_by 26) 11 = .ok (.iconst 0, 1) := by decide +kernel
theorem d26_12 : decode (ix_by 26) 12 = .ok (.ireturn, 1) := by decide +kernel
theorem d27_0 : decode (ix_by 27) 0 = .ok (.aload_n 0, 1) := by decide +kernel
theorem d27_1 : decode (ix_by 27) 1 = .ok (.iload_n 1, 1) := by decide +kernel
theorem d27_2 : decode (ix_by 27) 2 = .ok (.iload_n 2, 1) := by decide +kernel
theorem d27_3 : decode (ix_by 27) 3 = .ok (.invokevirtual 129, 3) := by decide +kernel
theorem d27_6 : decode (ix_by 27) 6 = .ok (.astore 4, 2) := by decide +kernel
theorem d27_8 : decode (ix_by 27) 8 = .ok (.aload 4, 2) := by decide +kernel
theorem d27_10 : decode (ix_by 27) 10 = .ok (.ifnull 16, 3) := by decide +kernel
theorem d27_13 : decode (ix_by 27) 13 = .ok (.aload 4, 2) := by decide +kernel
theorem d27_15 : decode (ix_by 27) 15 = .ok (.iload_n 3, 1) := by decide +kernel
theorem d27_16 : decode (ix_by 27) 16 = .ok (.invokevirtual 137, 3) := by decide +kernel
theorem d27_19 : decode (ix_by 27) 19 = .ok (.ifCond .eq 7, 3) := by decide +kernel
theorem d27_22 : decode (ix_by 27) 22 = .ok (.iconst 1, 1) := by decide +kernel
theorem d27_23 : decode (ix_by 27) 23 = .ok (.goto 4, 3) := by decide +kernel
theorem d27_26 : decode (ix_by 27) 26 = .ok (.iconst 0, 1) := by decide +kernel
theorem d27_27 : decode (ix_by 27) 27 = .ok (.ireturn, 1) := by decide +kernel
theorem d28_0 : decode (ix_by 28) 0 = .ok (.aload_n 0, 1) := by decide +kernel
theorem d28_1 : decode (ix_by 28) 1 = .ok (.invokevirtual 50, 3) := by decide +kernel
theorem d28_4 : decode (ix_by 28) 4 = .ok (.ifCond .eq 11, 3) := by decide +kernel
theorem d28_7 : decode (ix_by 28) 7 = .ok (.aload_n 0, 1) := by decide +kernel
theorem d28_8 : decode (ix_by 28) 8 = .ok (.getfield 70, 3) := by decide +kernel
theorem d28_11 : decode (ix_by 28) 11 = .ok (.iload_n 1, 1) := by decide +kernel
theorem d28_12 : decode (ix_by 28) 12 = .ok (.if_icmp .ne 5, 3) := by decide +kernel
theorem d28_15 : decode (ix_by 28) 15 = .ok (.iconst 0, 1) := by decide +kernel
theorem d28_16 : decode (ix_by 28) 16 = .ok (.ireturn, 1) := by decide +kernel
theorem d28_17 : decode (ix_by 28) 17 = .ok (.aload_n 0, 1) := by decide +kernel
theorem d28_18 : decode (ix_by 28) 18 = .ok (.iload_n 1, 1) := by decide +kernel
theorem d28_19 : decode (ix_by 28) 19 = .ok (.putfield 70, 3) := by decide +kernel
theorem d28_22 : decode (ix_by 28) 22 = .ok (.iconst 1, 1) := by decide +kernel
theorem d28_23 : decode (ix_by 28) 23 = .ok (.ireturn, 1) := by decide +kernel
theorem d29_0 : decode (ix_by 29) 0 = .ok (.aload_n 0, 1) := by decide +kernel
theorem d29_1 : decode (ix_by 29) 1 = .ok (.dup, 1) := by decide +kernel
theorem d29_2 : decode (ix_by 29) 2 = .ok (.getfield 27, 3) := by decide +kernel
theorem d29_5 : decode (ix_by 29) 5 = .ok (.iconst 1, 1) := by decide +kernel
theorem d29_6 : decode (ix_by 29) 6 = .ok (.iadd, 1) := by decide +kernel
theorem d29_7 : decode (ix_by 29) 7 = .ok (.putfield 27, 3) := by decide +kernel
theorem d29_10 : decode (ix_by 29) 10 = .ok (.iconst 0, 1) := by decide +kernel
theorem d29_11 : decode (ix_by 29) 11 = .ok (.istore_n 1, 1) := by decide +kernel
theorem d29_12 : decode (ix_by 29) 12 = .ok (.iload_n 1, 1) := by decide +kernel
theorem d29_13 : decode (ix_by 29) 13 = .ok (.iconst 2, 1) := by decide +kernel
theorem d29_14 : decode (ix_by 29) 14 = .ok (.if_icmp .ge 22, 3) := by decide +kernel
theorem d29_17 : decode (ix_by 29) 17 = .ok (.aload_n 0, 1) := by decide +kernel
theorem d29_18 : decode (ix_by 29) 18 = .ok (.getfield 16, 3) := by decide +kernel
theorem d29_21 : decode (ix_by 29) 21 = .ok (.iload_n 1, 1) := by decide +kernel
theorem d29_22 : decode (ix_by 29) 22 = .ok (.aaload, 1) := by decide +kernel
theorem d29_23 : decode (ix_by 29) 23 = .ok (.aload_n 0, 1) := by decide +kernel
theorem d29_24 : decode (ix_by 29) 24 = .ok (.getfield 27, 3) := by decide +kernel
theorem d29_27 : decode (ix_by 29) 27 = .ok (.invokevirtual 141, 3) := by decide +kernel
theorem d29_30 : decode (ix_by 29) 30 = .ok (.iinc 1 1, 3) := by decide +kernel
theorem d29_33 : decode (ix_by 29) 33 = .ok (.goto (-21), 3) := by decide +kernel
theorem d29_36 : decode (ix_by 29) 36 = .ok (.aload_n 0, 1) := by decide +kernel
theorem d29_37 : decode (ix_by 29) 37 = .ok (.getfield 27, 3) := by decide +kernel
theorem d29_40 : decode (ix_by 29) 40 = .ok (.ireturn, 1) := by decide +kernel
theorem d30_0 : decode (ix_by 30) 0 = .ok (.iconst 0, 1) := by decide +kernel
theorem d30_1 : decode (ix_by 30) 1 = .ok (.istore_n 2, 1) := by decide +kernel
theorem d30_2 : decode (ix_by 30) 2 = .ok (.iload_n 2, 1) := by decide +kernel
theorem d30_3 : decode (ix_by 30) 3 = .ok (.aload_n 0, 1) := by decide +kernel
theorem d30_4 : decode (ix_by 30) 4 = .ok (.getfield 23, 3) := by decide +kernel
theorem d30_7 : decode (ix_by 30) 7 = .ok (.invokevirtual 33, 3) := by decide +kernel
theorem d30_10 : decode (ix_by 30) 10 = .ok (.if_icmp .ge 23, 3) := by decide +kernel
theorem d30_13 : decode (ix_by 30) 13 = .ok (.aload_n 0, 1) := by decide +kernel
theorem d30_14 : decode (ix_by 30) 14 = .ok (.getfield 23, 3) := by decide +kernel
theorem d30_17 : decode (ix_by 30) 17 = .ok (.iload_n 2, 1) := by decide +kernel
theorem d30_18 : decode (ix_by 30) 18 = .ok (.invokevirtual 37, 3) := by decide +kernel
theorem d30_21 : decode (ix_by 30) 21 = .ok (.checkcast 41, 3) := by decide +kernel
theorem d30_24 : decode (ix_by 30) 24 = .ok (.invokevirtual 53, 3) := by decide +kernel
theorem d30_27 : decode (ix_by 30) 27 = .ok (.iinc 2 1, 3) := by decide +kernel
theorem d30_30 : decode (ix_by 30) 30 = .ok (.goto (-28), 3) := by decide +kernel
theorem d30_33 : decode (ix_by 30) 33 = .ok (.iconst 0, 1) := by decide +kernel
theorem d30_34 : decode (ix_by 30) 34 = .ok (.istore_n 2, 1) := by decide +kernel
theorem d30_35 : decode (ix_by 30) 35 = .ok (.iload_n 2, 1) := by decide +kernel
theorem d30_36 : decode (ix_by 30) 36 = .ok (.aload_n 0, 1) := by decide +kernel
theorem d30_37 : decode (ix_by 30) 37 = .ok (.getfield 26, 3) := by decide +kernel
theorem d30_40 : decode (ix_by 30) 40 = .ok (.invokevirtual 33, 3) := by decide +kernel
theorem d30_43 : decode (ix_by 30) 43 = .ok (.if_icmp .ge 24, 3) := by decide +kernel
theorem d30_46 : decode (ix_by 30) 46 = .ok (.aload_n 0, 1) := by decide +kernel
theorem d30_47 : decode (ix_by 30) 47 = .ok (.getfield 26, 3) := by decide +kernel
theorem d30_50 : decode (ix_by 30) 50 = .ok (.iload_n 2, 1) := by decide +kernel
theorem d30_51 : decode (ix_by 30) 51 = .ok (.invokevirtual 37, 3) := by decide +kernel
theorem d30_54 : decode (ix_by 30) 54 = .ok (.checkcast 56, 3) := by decide +kernel
theorem d30_57 : decode (ix_by 30) 57 = .ok (.iload_n 1, 1) := by decide +kernel
theorem d30_58 : decode (ix_by 30) 58 = .ok (.invokevirtual 58, 3) := by decide +kernel
theorem d30_61 : decode (ix_by 30) 61 = .ok (.iinc 2 1, 3) := by decide +kernel
theorem d30_64 : decode (ix_by 30) 64 = .ok (.goto (-29), 3) := by decide +kernel
theorem d30_67 : decode (ix_by 30) 67 = .ok (.aload_n 0, 1) := by decide +kernel
theorem d30_68 : decode (ix_by 30) 68 = .ok (.invokevirtual 61, 3) := by decide +kernel
theorem d30_71 : decode (ix_by 30) 71 = .ok (.return_, 1) := by decide +kernel
theorem d31_0 : decode (ix_by 31) 0 = .ok (.aload_n 0, 1) := by decide +kernel
theorem d31_1 : decode (ix_by 31) 1 = .ok (.invokevirtual 50, 3) := by decide +kernel
theorem d31_4 : decode (ix_by 31) 4 = .ok (.ifCond .eq 10, 3) := by decide +kernel
theorem d31_7 : decode (ix_by 31) 7 = .ok (.aload_n 0, 1) := by decide +kernel
theorem d31_8 : decode (ix_by 31) 8 = .ok (.getfield 70, 3) := by decide +kernel
theorem d31_11 : decode (ix_by 31) 11 = .ok (.ifCond .eq 4, 3) := by decide +kernel
theorem d31_14 : decode (ix_by 31) 14 = .ok (.return_, 1) := by decide +kernel
theorem d31_15 : decode (ix_by 31) 15 = .ok (.aload_n 0, 1) := by decide +kernel
theorem d31_16 : decode (ix_by 31) 16 = .ok (.dup, 1) := by decide +kernel
theorem d31_17 : decode (ix_by 31) 17 = .ok (.getfield 73, 3) := by decide +kernel
theorem d31_20 : decode (ix_by 31) 20 = .ok (.iconst 1, 1) := by decide +kernel
theorem d31_21 : decode (ix_by 31) 21 = .ok (.iadd, 1) := by decide +kernel
theorem d31_22 : decode (ix_by 31) 22 = .ok (.putfield 73, 3) := by decide +kernel
theorem d31_25 : decode (ix_by 31) 25 = .ok (.aload_n 0, 1) := by decide +kernel
theorem d31_26 : decode (ix_by 31) 26 = .ok (.getfield 11, 3) := by decide +kernel
theorem d31_29 : decode (ix_by 31) 29 = .ok (.aload_n 0, 1) := by decide +kernel
theorem d31_30 : decode (ix_by 31) 30 = .ok (.getfield 44, 3) := by decide +kernel
theorem d31_33 : decode (ix_by 31) 33 = .ok (.if_icmp .gt 10, 3) := by decide +kernel
theorem d31_36 : decode (ix_by 31) 36 = .ok (.aload_n 0, 1) := by decide +kernel
theorem d31_37 : decode (ix_by 31) 37 = .ok (.invokevirtual 76, 3) := by decide +kernel
theorem d31_40 : decode (ix_by 31) 40 = .ok (.goto 61, 3) := by decide +kernel
theorem d31_43 : decode (ix_by 31) 43 = .ok (.aload_n 0, 1) := by decide +kernel
theorem d31_44 : decode (ix_by 31) 44 = .ok (.getfield 58, 3) := by decide +kernel
theorem d31_47 : decode (ix_by 31) 47 = .ok (.ifCond .ne 10, 3) := by decide +kernel
theorem d31_50 : decode (ix_by 31) 50 = .ok (.aload_n 0, 1) := by decide +kernel
theorem d31_51 : decode (ix_by 31) 51 = .ok (.getfield 61, 3) := by decide +kernel
theorem d31_54 : decode (ix_by 31) 54 = .ok (.ifCond .eq 10, 3) := by decide +kernel
theorem d31_57 : decode (ix_by 31) 57 = .ok (.aload_n 0, 1) := by decide +kernel
theorem d31_58 : decode (ix_by 31) 58 = .ok (.invokevirtual 79, 3) := by decide +kernel
theorem d31_61 : decode (ix_by 31) 61 = .ok (.goto 40, 3) := by decide +kernel
theorem d31_64 : decode (ix_by 31) 64 = .ok (.aload_n 0, 1) := by decide +kernel
theorem d31_65 : decode (ix_by 31) 65 = .ok (.getfield 67, 3) := by decide +kernel
theorem d31_68 : decode (ix_by 31) 68 = .ok (.ifCond .ne 10, 3) := by decide +kernel
theorem d31_71 : decode (ix_by 31) 71 = .ok (.aload_n 0, 1) := by decide +kernel
theorem d31_72 : decode (ix_by 31) 72 = .ok (.invokevirtual 82, 3) := by decide +kernel
theorem d31_75 : decode (ix_by 31) 75 = .ok (.goto 26, 3) := by decide +kernel
theorem d31_78 : decode (ix_by 31) 78 = .ok (.aload_n 0, 1) := by decide +kernel
theorem d31_79 : decode (ix_by 31) 79 = .ok (.getfield 73, 3) := by decide +kernel
theorem d31_82 : decode (ix_by 31) 82 = .ok (.aload_n 0, 1) := by decide +kernel
theorem d31_83 : decode (ix_by 31) 83 = .ok (.getfield 85, 3) := by decide +kernel
theorem d31_86 : decode (ix_by 31) 86 = .ok (.isub, 1) := by decide +kernel
theorem d31_87 : decode (ix_by 31) 87 = .ok (.iconst 4, 1) := by decide +kernel
theorem d31_88 : decode (ix_by 31) 88 = .ok (.aload_n 0, 1) := by decide +kernel
theorem d31_89 : decode (ix_by 31) 89 = .ok (.getfield 27, 3) := by decide +kernel
theorem d31_92 : decode (ix_by 31) 92 = .ok (.imul, 1) := by decide +kernel
theorem d31_93 : decode (ix_by 31) 93 = .ok (.if_icmp .lt 8, 3) := by decide +kernel
theorem d31_96 : decode (ix_by 31) 96 = .ok (.aload_n 0, 1) := by decide +kernel
theorem d31_97 : decode (ix_by 31) 97 = .ok (.iconst 3, 1) := by decide +kernel
theorem d31_98 : decode (ix_by 31) 98 = .ok (.putfield 47, 3) := by decide +kernel
theorem d31_101 : decode (ix_by 31) 101 = .ok (.return_, 1) := by decide +kernel
theorem d32_0 : decode (ix_by 32) 0 = .ok (.aload_n 0, 1) := by decide +kernel
theorem d32_1 : decode (ix_by 32) 1 = .ok (.getfield 11, 3) := by decide +kernel
theorem d32_4 : decode (ix_by 32) 4 = .ok (.iconst (-1), 1) := by decide +kernel
theorem d32_5 : decode (ix_by 32) 5 = .ok (.if_icmp .ne 10, 3) := by decide +kernel
theorem d32_8 : decode (ix_by 32) 8 = .ok (.aload_n 0, 1) := by decide +kernel
theorem d32_9 : decode (ix_by 32) 9 = .ok (.invokevirtual 88, 3) := by decide +kernel
theorem d32_12 : decode (ix_by 32) 12 = .ok (.goto 55, 3) := by decide +kernel
theorem d32_15 : decode (ix_by 32) 15 = .ok (.aload_n 0, 1) := by decide +kernel
theorem d32_16 : decode (ix_by 32) 16 = .ok (.getfield 11, 3) := by decide +kernel
theorem d32_19 : decode (ix_by 32) 19 = .ok (.aload_n 0, 1) := by decide +kernel
theorem d32_20 : decode (ix_by 32) 20 = .ok (.getfield 44, 3) := by decide +kernel
theorem d32_23 : decode (ix_by 32) 23 = .ok (.if_icmp .ge 14, 3) := by decide +kernel
theorem d32_26 : decode (ix_by 32) 26 = .ok (.aload_n 0, 1) := by decide +kernel
theorem d32_27 : decode (ix_by 32) 27 = .ok (.aload_n 0, 1) := by decide +kernel
theorem d32_28 : decode (ix_by 32) 28 = .ok (.getfield 11, 3) := by decide +kernel
theorem d32_31 : decode (ix_by 32) 31 = .ok (.invokevirtual 91, 3) := by decide +kernel
theorem d32_34 : decode (ix_by 32) 34 = .ok (.goto 33, 3) := by decide +kernel
theorem d32_37 : decode (ix_by 32) 37 = .ok (.aload_n 0, 1) := by decide +kernel
theorem d32_38 : decode (ix_by 32) 38 = .ok (.invokevirtual 95, 3) := by decide +kernel
theorem d32_41 : decode (ix_by 32) 41 = .ok (.aload_n 0, 1) := by decide +kernel
theorem d32_42 : decode (ix_by 32) 42 = .ok (.getfield 15, 3) := by decide +kernel
theorem d32_45 : decode (ix_by 32) 45 = .ok (.invokevirtual 98, 3) := by decide +kernel
theorem d32_48 : decode (ix_by 32) 48 = .ok (.ifCond .ne 19, 3) := by decide +kernel
theorem d32_51 : decode (ix_by 32) 51 = .ok (.aload_n 0, 1) := by decide +kernel
theorem d32_52 : decode (ix_by 32) 52 = .ok (.aload_n 0, 1) := by decide +kernel
theorem d32_53 : decode (ix_by 32) 53 = .ok (.getfield 54, 3) := by decide +kernel
theorem d32_56 : decode (ix_by 32) 56 = .ok (.ifCond .eq 7, 3) := by decide +kernel
theorem d32_59 : decode (ix_by 32) 59 = .ok (.iconst 2, 1) := by decide +kernel
theorem d32_60 : decode (ix_by 32) 60 = .ok (.goto 4, 3) := by decide +kernel
theorem d32_63 : decode (ix_by 32) 63 = .ok (.iconst 1, 1) := by decide +kernel
theorem d32_64 : decode (ix_by 32) 64 = .ok (.putfield 47, 3) := by decide +kernel
theorem d32_67 : decode (ix_by 32) 67 = .ok (.aload_n 0, 1) := by decide +kernel
theorem d32_68 : decode (ix_by 32) 68 = .ok (.dup, 1) := by decide +kernel
theorem d32_69 : decode (ix_by 32) 69 = .ok (.getfield 11, 3) := by decide +kernel
theorem d32_72 : decode (ix_by 32) 72 = .ok (.iconst 1, 1) := by decide +kernel
theorem d32_73 : decode (ix_by 32) 73 = .ok (.iadd, 1) := by decide +kernel
theorem d32_74 : decode (ix_by 32) 74 = .ok (.putfield 11, 3) := by decide +kernel
theorem d32_77 : decode (ix_by 32) 77 = .ok (.return_, 1) := by decide +kernel
theorem d33_0 : decode (ix_by 33) 0 = .ok (.aload_n 0, 1) := by decide +kernel
theorem d33_1 : decode (ix_by 33) 1 = .ok (.iconst 1, 1) := by decide +kernel
theorem d33_2 : decode (ix_by 33) 2 = .ok (.aload_n 0, 1) := by decide +kernel
theorem d33_3 : decode (ix_by 33) 3 = .ok (.getfield 15, 3) := by decide +kernel
theorem d33_6 : decode (ix_by 33) 6 = .ok (.getfield 104, 3) := by decide +kernel
theorem d33_9 : decode (ix_by 33) 9 = .ok (.iconst 0, 1) := by decide +kernel
theorem d33_10 : decode (ix_by 33) 10 = .ok (.iconst 0, 1) := by decide +kernel
theorem d33_11 : decode (ix_by 33) 11 = .ok (.invokevirtual 107, 3) := by decide +kernel
theorem d33_14 : decode (ix_by 33) 14 = .ok (.return_, 1) := by decide +kernel
theorem d34_0 : decode (ix_by 34) 0 = .ok (.aload_n 0, 1) := by decide +kernel
theorem d34_1 : decode (ix_by 34) 1 = .ok (.getfield 23, 3) := by decide +kernel
theorem d34_4 : decode (ix_by 34) 4 = .ok (.new 121, 3) := by decide +kernel
theorem d34_7 : decode (ix_by 34) 7 = .ok (.dup, 1) := by decide +kernel
theorem d34_8 : decode (ix_by 34) 8 = .ok (.aload_n 0, 1) := by decide +kernel
theorem d34_9 : decode (ix_by 34) 9 = .ok (.getfield 15, 3) := by decide +kernel
theorem d34_12 : decode (ix_by 34) 12 = .ok (.iload_n 1, 1) := by decide +kernel
theorem d34_13 : decode (ix_by 34) 13 = .ok (.aload_n 0, 1) := by decide +kernel
theorem d34_14 : decode (ix_by 34) 14 = .ok (.getfield 15, 3) := by decide +kernel
theorem d34_17 : decode (ix_by 34) 17 = .ok (.invokevirtual 123, 3) := by decide +kernel
theorem d34_20 : decode (ix_by 34) 20 = .ok (.iload_n 2, 1) := by decide +kernel
theorem d34_21 : decode (ix_by 34) 21 = .ok (.iload_n 3, 1) := by decide +kernel
theorem d34_22 : decode (ix_by 34) 22 = .ok (.iload 4, 2) := by decide +kernel
theorem d34_24 : decode (ix_by 34) 24 = .ok (.invokespecial 127, 3) := by decide +kernel
theorem d34_27 : decode (ix_by 34) 27 = .ok (.invokevirtual 130, 3) := by decide +kernel
theorem d34_30 : decode (ix_by 34) 30 = .ok (.aload_n 0, 1) := by decide +kernel
theorem d34_31 : decode (ix_by 34) 31 = .ok (.aload_n 0, 1) := by decide +kernel
theorem d34_32 : decode (ix_by 34) 32 = .ok (.getfield 73, 3) := by decide +kernel
theorem d34_35 : decode (ix_by 34) 35 = .ok (.putfield 85, 3) := by decide +kernel
theorem d34_38 : decode (ix_by 34) 38 = .ok (.return_, 1) := by decide +kernel
theorem d35_0 : decode (ix_by 35) 0 = .ok (.iconst 1, 1) := by decide +kernel
theorem d35_1 : decode (ix_by 35) 1 = .ok (.aload_n 0, 1) := by decide +kernel
theorem d35_2 : decode (ix_by 35) 2 = .ok (.getfield 9, 3) := by decide +kernel
theorem d35_5 : decode (ix_by 35) 5 = .ok (.isub, 1) := by decide +kernel
theorem d35_6 : decode (ix_by 35) 6 = .ok (.ireturn, 1) := by decide +kernel
theorem d36_0 : decode (ix_by 36) 0 = .ok (.aload_n 0, 1) := by decide +kernel
theorem d36_1 : decode (ix_by 36) 1 = .ok (.invokespecial 1, 3) := by decide +kernel
theorem d36_4 : decode (ix_by 36) 4 = .ok (.aload_n 0, 1) := by decide +kernel
theorem d36_5 : decode (ix_by 36) 5 = .ok (.aload_n 1, 1) := by decide +kernel
theorem d36_6 : decode (ix_by 36) 6 = .ok (.putfield 7, 3) := by decide +kernel
theorem d36_9 : decode (ix_by 36) 9 = .ok (.aload_n 0, 1) := by decide +kernel
theorem d36_10 : decode (ix_by 36) 10 = .ok (.iload_n 2, 1) := by decide +kernel
theorem d36_11 : decode (ix_by 36) 11 = .ok (.putfield 13, 3) := by decide +kernel
theorem d36_14 : decode (ix_by 36) 14 = .ok (.aload_n 0, 1) := by decide +kernel
theorem d36_15 : decode (ix_by 36) 15 = .ok (.iload_n 3, 1) := by decide +kernel
theorem d36_16 : decode (ix_by 36) 16 = .ok (.putfield 17, 3) := by decide +kernel
theorem d36_19 : decode (ix_by 36) 19 = .ok (.aload_n 0, 1) := by decide +kernel
theorem d36_20 : decode (ix_by 36) 20 = .ok (.iload 4, 2) := by decide +kernel
theorem d36_22 : decode (ix_by 36) 22 = .ok (.putfield 20, 3) := by decide +kernel
theorem d36_25 : decode (ix_by 36) 25 = .ok (.aload_n 0, 1) := by decide +kernel
theorem d36_26 : decode (ix_by 36) 26 = .ok (.iload 5, 2) := by decide +kernel
theorem d36_28 : decode (ix_by 36) 28 = .ok (.putfield 23, 3) := by decide +kernel
theorem d36_31 : decode (ix_by 36) 31 = .ok (.aload_n 0, 1) := by decide +kernel
theorem d36_32 : decode (ix_by 36) 32 = .ok (.iload 6, 2) := by decide +kernel
theorem d36_34 : decode (ix_by 36) 34 = .ok (.putfield 26, 3) := by decide +kernel
theorem d36_37 : decode (ix_by 36) 37 = .ok (.return_, 1) := by decide +kernel
theorem d37_0 : decode (ix_by 37) 0 = .ok (.aload_n 0, 1) := by decide +kernel
theorem d37_1 : decode (ix_by 37) 1 = .ok (.getfield 17, 3) := by decide +kernel
theorem d37_4 : decode (ix_by 37) 4 = .ok (.bipush 24, 2) := by decide +kernel
theorem d37_6 : decode (ix_by 37) 6 = .ok (.if_icmp .ge 23, 3) := by decide +kernel
theorem d37_9 : decode (ix_by 37) 9 = .ok (.aload_n 0, 1) := by decide +kernel
theorem d37_10 : decode (ix_by 37) 10 = .ok (.getfield 11, 3) := by decide +kernel
theorem d37_13 : decode (ix_by 37) 13 = .ok (.aload_n 0, 1) := by decide +kernel
theorem d37_14 : decode (ix_by 37) 14 = .ok (.getfield 17, 3) := by decide +kernel
theorem d37_17 : decode (ix_by 37) 17 = .ok (.aload_n 1, 1) := by decide +kernel
theorem d37_18 : decode (ix_by 37) 18 = .ok (.aastore, 1) := by decide +kernel
theorem d37_19 : decode (ix_by 37) 19 = .ok (.aload_n 0, 1) := by decide +kernel
theorem d37_20 : decode (ix_by 37) 20 = .ok (.dup, 1) := by decide +kernel
theorem d37_21 : decode (ix_by 37) 21 = .ok (.getfield 17, 3) := by decide +kernel
theorem d37_24 : decode (ix_by 37) 24 = .ok (.iconst 1, 1) := by decide +kernel
theorem d37_25 : decode (ix_by 37) 25 = .ok (.iadd, 1) := by decide +kernel
theorem d37_26 : decode (ix_by 37) 26 = .ok (.putfield 17, 3) := by decide +kernel
theorem d37_29 : decode (ix_by 37) 29 = .ok (.return_, 1) := by decide +kernel
theorem d38_0 : decode (ix_by 38) 0 = .ok (.aload_n 0, 1) := by decide +kernel
theorem d38_1 : decode (ix_by 38) 1 = .ok (.getfield 19, 3) := by decide +kernel
theorem d38_4 : decode (ix_by 38) 4 = .ok (.aload_n 0, 1) := by decide +kernel
theorem d38_5 : decode (ix_by 38) 5 = .ok (.getfield 15, 3) := by decide +kernel
theorem d38_8 : decode (ix_by 38) 8 = .ok (.getfield 30, 3) := by decide +kernel
theorem d38_11 : decode (ix_by 38) 11 = .ok (.iload_n 1, 1) := by decide +kernel
theorem d38_12 : decode (ix_by 38) 12 = .ok (.invokevirtual 111, 3) := by decide +kernel
theorem d38_15 : decode (ix_by 38) 15 = .ok (.istore_n 2, 1) := by decide +kernel
theorem d38_16 : decode (ix_by 38) 16 = .ok (.aload_n 0, 1) := by decide +kernel
theorem d38_17 : decode (ix_by 38) 17 = .ok (.iconst 2, 1) := by decide +kernel
theorem d38_18 : decode (ix_by 38) 18 = .ok (.iload_n 1, 1) := by decide +kernel
theorem d38_19 : decode (ix_by 38) 19 = .ok (.iload_n 2, 1) := by decide +kernel
theorem d38_20 : decode (ix_by 38) 20 = .ok (.aload_n 0, 1) := by decide +kernel
theorem d38_21 : decode (ix_by 38) 21 = .ok (.getfield 19, 3) := by decide +kernel
theorem d38_24 : decode (ix_by 38) 24 = .ok (.aload_n 0, 1) := by decide +kernel
theorem d38_25 : decode (ix_by 38) 25 = .ok (.getfield 15, 3) := by decide +kernel
theorem d38_28 : decode (ix_by 38) 28 = .ok (.getfield 30, 3) := by decide +kernel
theorem d38_31 : decode (ix_by 38) 31 = .ok (.iload_n 1, 1) := by decide +kernel
theorem d38_32 : decode (ix_by 38) 32 = .ok (.invokevirtual 115, 3) := by decide +kernel
theorem d38_35 : decode (ix_by 38) 35 = .ok (.invokevirtual 107, 3) := by decide +kernel
theorem d38_38 : decode (ix_by 38) 38 = .ok (.return_, 1) := by decide +kernel
theorem d39_0 : decode (ix_by 39) 0 = .ok (.aload_n 0, 1) := by decide +kernel
theorem d39_1 : decode (ix_by 39) 1 = .ok (.getfield 16, 3) := by decide +kernel
theorem d39_4 : decode (ix_by 39) 4 = .ok (.iload_n 1, 1) := by decide +kernel
theorem d39_5 : decode (ix_by 39) 5 = .ok (.iaload, 1) := by decide +kernel
theorem d39_6 : decode (ix_by 39) 6 = .ok (.iload_n 2, 1) := by decide +kernel
theorem d39_7 : decode (ix_by 39) 7 = .ok (.iconst 4, 1) := by decide +kernel
theorem d39_8 : decode (ix_by 39) 8 = .ok (.imul, 1) := by decide +kernel
theorem d39_9 : decode (ix_by 39) 9 = .ok (.isub, 1) := by decide +kernel
theorem d39_10 : decode (ix_by 39) 10 = .ok (.istore_n 3, 1) := by decide +kernel
theorem d39_11 : decode (ix_by 39) 11 = .ok (.iload_n 3, 1) := by decide +kernel
theorem d39_12 : decode (ix_by 39) 12 = .ok (.iconst 4, 1) := by decide +kernel
theorem d39_13 : decode (ix_by 39) 13 = .ok (.if_icmp .ge 7, 3) := by decide +kernel
theorem d39_16 : decode (ix_by 39) 16 = .ok (.iload_n 3, 1) := by decide +kernel
theorem d39_17 : decode (ix_by 39) 17 = .ok (.goto 4, 3) := by decide +kernel
theorem d39_20 : decode (ix_by 39) 20 = .ok (.iconst 4, 1) := by decide +kernel
theorem d39_21 : decode (ix_by 39) 21 = .ok (.ireturn, 1) := by decide +kernel
theorem d40_0 : decode (ix_by 40) 0 = .ok (.iconst 0, 1) := by decide +kernel
theorem d40_1 : decode (ix_by 40) 1 = .ok (.istore_n 3, 1) := by decide +kernel
theorem d40_2 : decode (ix_by 40) 2 = .ok (.aload_n 0, 1) := by decide +kernel
theorem d40_3 : decode (ix_by 40) 3 = .ok (.iload_n 1, 1) := by decide +kernel
theorem d40_4 : decode (ix_by 40) 4 = .ok (.iload_n 2, 1) := by decide +kernel
theorem d40_5 : decode (ix_by 40) 5 = .ok (.invokevirtual 24, 3) := by decide +kernel
theorem d40_8 : decode (ix_by 40) 8 = .ok (.istore 4, 2) := by decide +kernel
theorem d40_10 : decode (ix_by 40) 10 = .ok (.iconst 0, 1) := by decide +kernel
theorem d40_11 : decode (ix_by 40) 11 = .ok (.istore 5, 2) := by decide +kernel
theorem d40_13 : decode (ix_by 40) 13 = .ok (.iload 5, 2) := by decide +kernel
theorem d40_15 : decode (ix_by 40) 15 = .ok (.iload 4, 2) := by decide +kernel
theorem d40_17 : decode (ix_by 40) 17 = .ok (.if_icmp .ge 29, 3) := by decide +kernel
theorem d40_20 : decode (ix_by 40) 20 = .ok (.iload_n 3, 1) := by decide +kernel
theorem d40_21 : decode (ix_by 40) 21 = .ok (.aload_n 0, 1) := by decide +kernel
theorem d40_22 : decode (ix_by 40) 22 = .ok (.iload_n 1, 1) := by decide +kernel
theorem d40_23 : decode (ix_by 40) 23 = .ok (.iload_n 2, 1) := by decide +kernel
theorem d40_24 : decode (ix_by 40) 24 = .ok (.iconst 4, 1) := by decide +kernel
theorem d40_25 : decode (ix_by 40) 25 = .ok (.imul, 1) := by decide +kernel
theorem d40_26 : decode (ix_by 40) 26 = .ok (.iload 5, 2) := by decide +kernel
theorem d40_28 : decode (ix_by 40) 28 = .ok (.iadd, 1) := by decide +kernel
theorem d40_29 : decode (ix_by 40) 29 = .ok (.invokevirtual 28, 3) := by decide +kernel
theorem d40_32 : decode (ix_by 40) 32 = .ok (.bipush 8, 2) := by decide +kernel
theorem d40_34 : decode (ix_by 40) 34 = .ok (.iload 5, 2) := by decide +kernel
theorem d40_36 : decode (ix_by 40) 36 = .ok (.imul, 1) := by decide +kernel
theorem d40_37 : decode (ix_by 40) 37 = .ok (.ishl, 1) := by decide +kernel
theorem d40_38 : decode (ix_by 40) 38 = .ok (.ior, 1) := by decide +kernel
theorem d40_39 : decode (ix_by 40) 39 = .ok (.istore_n 3, 1) := by decide +kernel
theorem d40_40 : decode (ix_by 40) 40 = .ok (.iinc 5 1, 3) := by decide +kernel
theorem d40_43 : decode (ix_by 40) 43 = .ok (.goto (-30), 3) := by decide +kernel
theorem d40_46 : decode (ix_by 40) 46 = .ok (.iload_n 3, 1) := by decide +kernel
theorem d40_47 : decode (ix_by 40) 47 = .ok (.ireturn, 1) := by decide +kernel
theorem d41_0 : decode (ix_by 41) 0 = .ok (.aload_n 0, 1) := by decide +kernel
theorem d41_1 : decode (ix_by 41) 1 = .ok (.getfield 11, 3) := by decide +kernel
theorem d41_4 : decode (ix_by 41) 4 = .ok (.iload_n 1, 1) := by decide +kernel
theorem d41_5 : decode (ix_by 41) 5 = .ok (.aaload, 1) := by decide +kernel
theorem d41_6 : decode (ix_by 41) 6 = .ok (.iload_n 2, 1) := by decide +kernel
theorem d41_7 : decode (ix_by 41) 7 = .ok (.baload, 1) := by decide +kernel
theorem d41_8 : decode (ix_by 41) 8 = .ok (.sipush 255, 3) := by decide +kernel
theorem d41_11 : decode (ix_by 41) 11 = .ok (.iand, 1) := by decide +kernel
theorem d41_12 : decode (ix_by 41) 12 = .ok (.ireturn, 1) := by decide +kernel
theorem d42_0 : decode (ix_by 42) 0 = .ok (.aload_n 0, 1) := by decide +kernel
theorem d42_1 : decode (ix_by 42) 1 = .ok (.dup, 1) := by decide +kernel
theorem d42_2 : decode (ix_by 42) 2 = .ok (.getfield 64, 3) := by decide +kernel
theorem d42_5 : decode (ix_by 42) 5 = .ok (.iconst 1, 1) := by decide +kernel
theorem d42_6 : decode (ix_by 42) 6 = .ok (.iadd, 1) := by decide +kernel
theorem d42_7 : decode (ix_by 42) 7 = .ok (.putfield 64, 3) := by decide +kernel
theorem d42_10 : decode (ix_by 42) 10 = .ok (.aload_n 0, 1) := by decide +kernel
theorem d42_11 : decode (ix_by 42) 11 = .ok (.aload_n 0, 1) := by decide +kernel
theorem d42_12 : decode (ix_by 42) 12 = .ok (.getfield 73, 3) := by decide +kernel
theorem d42_15 : decode (ix_by 42) 15 = .ok (.putfield 101, 3) := by decide +kernel
theorem d42_18 : decode (ix_by 42) 18 = .ok (.aload_n 0, 1) := by decide +kernel
theorem d42_19 : decode (ix_by 42) 19 = .ok (.getfield 54, 3) := by decide +kernel
theorem d42_22 : decode (ix_by 42) 22 = .ok (.ifCond .eq 14, 3) := by decide +kernel
theorem d42_25 : decode (ix_by 42) 25 = .ok (.aload_n 0, 1) := by decide +kernel
theorem d42_26 : decode (ix_by 42) 26 = .ok (.iconst 3, 1) := by decide +kernel
theorem d42_27 : decode (ix_by 42) 27 = .ok (.iconst (-1), 1) := by decide +kernel
theorem d42_28 : decode (ix_by 42) 28 = .ok (.iconst 0, 1) := by decide +kernel
theorem d42_29 : decode (ix_by 42) 29 = .ok (.iconst 0, 1) := by decide +kernel
theorem d42_30 : decode (ix_by 42) 30 = .ok (.invokevirtual 107, 3) := by decide +kernel
theorem d42_33 : decode (ix_by 42) 33 = .ok (.goto 37, 3) := by decide +kernel
theorem d42_36 : decode (ix_by 42) 36 = .ok (.aload_n 0, 1) := by decide +kernel
theorem d42_37 : decode (ix_by 42) 37 = .ok (.iconst 3, 1) := by decide +kernel
theorem d42_38 : decode (ix_by 42) 38 = .ok (.aload_n 0, 1) := by decide +kernel
theorem d42_39 : decode (ix_by 42) 39 = .ok (.getfield 19, 3) := by decide +kernel
theorem d42_42 : decode (ix_by 42) 42 = .ok (.aload_n 0, 1) := by decide +kernel
theorem d42_43 : decode (ix_by 42) 43 = .ok (.getfield 15, 3) := by decide +kernel
theorem d42_46 : decode (ix_by 42) 46 = .ok (.getfield 30, 3) := by decide +kernel
theorem d42_49 : decode (ix_by 42) 49 = .ok (.invokevirtual 35, 3) := by decide +kernel
theorem d42_52 : decode (ix_by 42) 52 = .ok (.iconst 0, 1) := by decide +kernel
theorem d42_53 : decode (ix_by 42) 53 = .ok (.aload_n 0, 1) := by decide +kernel
theorem d42_54 : decode (ix_by 42) 54 = .ok (.getfield 19, 3) := by decide +kernel
theorem d42_57 : decode (ix_by 42) 57 = .ok (.aload_n 0, 1) := by decide +kernel
theorem d42_58 : decode (ix_by 42) 58 = .ok (.getfield 15, 3) := by decide +kernel
theorem d42_61 : decode (ix_by 42) 61 = .ok (.getfield 30, 3) := by decide +kernel
theorem d42_64 : decode (ix_by 42) 64 = .ok (.invokevirtual 118, 3) := by decide +kernel
theorem d42_67 : decode (ix_by 42) 67 = .ok (.invokevirtual 107, 3) := by decide +kernel
theorem d42_70 : decode (ix_by 42) 70 = .ok (.return_, 1) := by decide +kernel
theorem d43_0 : decode (ix_by 43) 0 = .ok (.aload_n 0, 1) := by decide +kernel
theorem d43_1 : decode (ix_by 43) 1 = .ok (.getfield 11, 3) := by decide +kernel
theorem d43_4 : decode (ix_by 43) 4 = .ok (.iload_n 1, 1) := by decide +kernel
theorem d43_5 : decode (ix_by 43) 5 = .ok (.aaload, 1) := by decide +kernel
theorem d43_6 : decode (ix_by 43) 6 = .ok (.aload_n 0, 1) := by decide +kernel
theorem d43_7 : decode (ix_by 43) 7 = .ok (.getfield 16, 3) := by decide +kernel
theorem d43_10 : decode (ix_by 43) 10 = .ok (.iload_n 1, 1) := by decide +kernel
theorem d43_11 : decode (ix_by 43) 11 = .ok (.iaload, 1) := by decide +kernel
theorem d43_12 : decode (ix_by 43) 12 = .ok (.invokestatic 20, 3) := by decide +kernel
theorem d43_15 : decode (ix_by 43) 15 = .ok (.ireturn, 1) := by decide +kernel
theorem d44_0 : decode (ix_by 44) 0 = .ok (.iconst 0, 1) := by decide +kernel
theorem d44_1 : decode (ix_by 44) 1 = .ok (.istore_n 2, 1) := by decide +kernel
theorem d44_2 : decode (ix_by 44) 2 = .ok (.iconst 0, 1) := by decide +kernel
theorem d44_3 : decode (ix_by 44) 3 = .ok (.istore_n 3, 1) := by decide +kernel
theorem d44_4 : decode (ix_by 44) 4 = .ok (.iload_n 3, 1) := by decide +kernel
theorem d44_5 : decode (ix_by 44) 5 = .ok (.iload_n 1, 1) := by decide +kernel
theorem d44_6 : decode (ix_by 44) 6 = .ok (.if_icmp .ge 38, 3) := by decide +kernel
theorem d44_9 : decode (ix_by 44) 9 = .ok (.iload_n 3, 1) := by decide +kernel
theorem d44_10 : decode (ix_by 44) 10 = .ok (.aload_n 0, 1) := by decide +kernel
theorem d44_11 : decode (ix_by 44) 11 = .ok (.arraylength, 1) := by decide +kernel
theorem d44_12 : decode (ix_by 44) 12 = .ok (.if_icmp .ge 32, 3) := by decide +kernel
theorem d44_15 : decode (ix_by 44) 15 = .ok (.iconst 3, 1) := by decide +kernel
theorem d44_16 : decode (ix_by 44) 16 = .ok (.iload_n 3, 1) := by decide +kernel
theorem d44_17 : decode (ix_by 44) 17 = .ok (.iconst 4, 1) := by decide +kernel
theorem d44_18 : decode (ix_by 44) 18 = .ok (.irem, 1) := by decide +kernel
theorem d44_19 : decode (ix_by 44) 19 = .ok (.isub, 1) := by decide +kernel
theorem d44_20 : decode (ix_by 44) 20 = .ok (.istore 4, 2) := by decide +kernel
theorem d44_22 : decode (ix_by 44) 22 = .ok (.iload_n 2, 1) := by decide +kernel
theorem d44_23 : decode (ix_by 44) 23 = .ok (.aload_n 0, 1) := by decide +kernel
theorem d44_24 : decode (ix_by 44) 24 = .ok (.iload_n 3, 1) := by decide +kernel
theorem d44_25 : decode (ix_by 44) 25 = .ok (.baload, 1) := by decide +kernel
theorem d44_26 : decode (ix_by 44) 26 = .ok (.sipush 255, 3) := by decide +kernel
theorem d44_29 : decode (ix_by 44) 29 = .ok (.iand, 1) := by decide +kernel
theorem d44_30 : decode (ix_by 44) 30 = .ok (.bipush 8, 2) := by decide +kernel
theorem d44_32 : decode (ix_by 44) 32 = .ok (.iload 4, 2) := by decide +kernel
theorem d44_34 : decode (ix_by 44) 34 = .ok (.imul, 1) := by decide +kernel
theorem d44_35 : decode (ix_by 44) 35 = .ok (.ishl, 1) := by decide +kernel
theorem d44_36 : decode (ix_by 44) 36 = .ok (.iadd, 1) := by decide +kernel
theorem d44_37 : decode (ix_by 44) 37 = .ok (.istore_n 2, 1) := by decide +kernel
theorem d44_38 : decode (ix_by 44) 38 = .ok (.iinc 3 1, 3) := by decide +kernel
theorem d44_41 : decode (ix_by 44) 41 = .ok (.goto (-37), 3) := by decide +kernel
theorem d44_44 : decode (ix_by 44) 44 = .ok (.iload_n 2, 1) := by decide +kernel
theorem d44_45 : decode (ix_by 44) 45 = .ok (.ireturn, 1) := by decide +kernel
theorem d45_0 : decode (ix_by 45) 0 = .ok (.aload_n 0, 1) := by decide +kernel
theorem d45_1 : decode (ix_by 45) 1 = .ok (.getfield 24, 3) := by decide +kernel
theorem d45_4 : decode (ix_by 45) 4 = .ok (.iconst 2, 1) := by decide +kernel
theorem d45_5 : decode (ix_by 45) 5 = .ok (.if_icmp .ne 7, 3) := by decide +kernel
theorem d45_8 : decode (ix_by 45) 8 = .ok (.iconst 1, 1) := by decide +kernel
theorem d45_9 : decode (ix_by 45) 9 = .ok (.goto 4, 3) := by decide +kernel
theorem d45_12 : decode (ix_by 45) 12 = .ok (.iconst 0, 1) := by decide +kernel
theorem d45_13 : decode (ix_by 45) 13 = .ok (.ireturn, 1) := by decide +kernel
theorem d46_0 : decode (ix_by 46) 0 = .ok (.aload_n 0, 1) := by decide +kernel
theorem d46_1 : decode (ix_by 46) 1 = .ok (.getfield 58, 3) := by decide +kernel
theorem d46_4 : decode (ix_by 46) 4 = .ok (.ifCond .eq 13, 3) := by decide +kernel
theorem d46_7 : decode (ix_by 46) 7 = .ok (.aload_n 0, 1) := by decide +kernel
theorem d46_8 : decode (ix_by 46) 8 = .ok (.iconst 0, 1) := by decide +kernel
theorem d46_9 : decode (ix_by 46) 9 = .ok (.putfield 58, 3) := by decide +kernel
theorem d46_12 : decode (ix_by 46) 12 = .ok (.aload_n 0, 1) := by decide +kernel
theorem d46_13 : decode (ix_by 46) 13 = .ok (.invokevirtual 88, 3) := by decide +kernel
theorem d46_16 : decode (ix_by 46) 16 = .ok (.return_, 1) := by decide +kernel
theorem d46_17 : decode (ix_by 46) 17 = .ok (.iconst 0, 1) := by decide +kernel
theorem d46_18 : decode (ix_by 46) 18 = .ok (.istore_n 1, 1) := by decide +kernel
theorem d46_19 : decode (ix_by 46) 19 = .ok (.iload_n 1, 1) := by decide +kernel
theorem d46_20 : decode (ix_by 46) 20 = .ok (.aload_n 0, 1) := by decide +kernel
theorem d46_21 : decode (ix_by 46) 21 = .ok (.getfield 44, 3) := by decide +kernel
theorem d46_24 : decode (ix_by 46) 24 = .ok (.if_icmp .ge 40, 3) := by decide +kernel
theorem d46_27 : decode (ix_by 46) 27 = .ok (.iconst 1, 1) := by decide +kernel
theorem d46_28 : decode (ix_by 46) 28 = .ok (.iload_n 1, 1) := by decide +kernel
theorem d46_29 : decode (ix_by 46) 29 = .ok (.ishl, 1) := by decide +kernel
theorem d46_30 : decode (ix_by 46) 30 = .ok (.istore_n 2, 1) := by decide +kernel
theorem d46_31 : decode (ix_by 46) 31 = .ok (.aload_n 0, 1) := by decide +kernel
theorem d46_32 : decode (ix_by 46) 32 = .ok (.getfield 61, 3) := by decide +kernel
theorem d46_35 : decode (ix_by 46) 35 = .ok (.iload_n 2, 1) := by decide +kernel
theorem d46_36 : decode (ix_by 46) 36 = .ok (.iand, 1) := by decide +kernel
theorem d46_37 : decode (ix_by 46) 37 = .ok (.ifCond .eq 21, 3) := by decide +kernel
theorem d46_40 : decode (ix_by 46) 40 = .ok (.aload_n 0, 1) := by decide +kernel
theorem d46_41 : decode (ix_by 46) 41 = .ok (.dup, 1) := by decide +kernel
theorem d46_42 : decode (ix_by 46) 42 = .ok (.getfield 61, 3) := by decide +kernel
theorem d46_45 : decode (ix_by 46) 45 = .ok (.iload_n 2, 1) := by decide +kernel
theorem d46_46 : decode (ix_by 46) 46 = .ok (.iconst (-1), 1) := by decide +kernel
theorem d46_47 : decode (ix_by 46) 47 = .ok (.ixor, 1) := by decide +kernel
theorem d46_48 : decode (ix_by 46) 48 = .ok (.iand, 1) := by decide +kernel
theorem d46_49 : decode (ix_by 46) 49 = .ok (.putfield 61, 3) := by decide +kernel
theorem d46_52 : decode (ix_by 46) 52 = .ok (.aload_n 0, 1) := by decide +kernel
theorem d46_53 : decode (ix_by 46) 53 = .ok (.iload_n 1, 1) := by decide +kernel
theorem d46_54 : decode (ix_by 46) 54 = .ok (.invokevirtual 91, 3) := by decide +kernel
theorem d46_57 : decode (ix_by 46) 57 = .ok (.return_, 1) := by decide +kernel
theorem d46_58 : decode (ix_by 46) 58 = .ok (.iinc 1 1, 3) := by decide +kernel
theorem d46_61 : decode (ix_by 46) 61 = .ok (.goto (-42), 3) := by decide +kernel
theorem d46_64 : decode (ix_by 46) 64 = .ok (.return_, 1) := by decide +kernel
theorem d47_0 : decode (ix_by 47) 0 = .ok (.aload_n 0, 1) := by decide +kernel
theorem d47_1 : decode (ix_by 47) 1 = .ok (.getfield 73, 3) := by decide +kernel
theorem d47_4 : decode (ix_by 47) 4 = .ok (.aload_n 0, 1) := by decide +kernel
theorem d47_5 : decode (ix_by 47) 5 = .ok (.getfield 101, 3) := by decide +kernel
theorem d47_8 : decode (ix_by 47) 8 = .ok (.isub, 1) := by decide +kernel
theorem d47_9 : decode (ix_by 47) 9 = .ok (.aload_n 0, 1) := by decide +kernel
theorem d47_10 : decode (ix_by 47) 10 = .ok (.getfield 27, 3) := by decide +kernel
theorem d47_13 : decode (ix_by 47) 13 = .ok (.if_icmp .ge 4, 3) := by decide +kernel
theorem d47_16 : decode (ix_by 47) 16 = .ok (.return_, 1) := by decide +kernel
theorem d47_17 : decode (ix_by 47) 17 = .ok (.aload_n 0, 1) := by decide +kernel
theorem d47_18 : decode (ix_by 47) 18 = .ok (.getfield 64, 3) := by decide +kernel
theorem d47_21 : decode (ix_by 47) 21 = .ok (.iconst 3, 1) := by decide +kernel
theorem d47_22 : decode (ix_by 47) 22 = .ok (.if_icmp .lt 11, 3) := by decide +kernel
theorem d47_25 : decode (ix_by 47) 25 = .ok (.aload_n 0, 1) := by decide +kernel
theorem d47_26 : decode (ix_by 47) 26 = .ok (.iconst 3, 1) := by decide +kernel
theorem d47_27 : decode (ix_by 47) 27 = .ok (.putfield 47, 3) := by decide +kernel
theorem d47_30 : decode (ix_by 47) 30 = .ok (.goto 7, 3) := by decide +kernel
theorem d47_33 : decode (ix_by 47) 33 = .ok (.aload_n 0, 1) := by decide +kernel
theorem d47_34 : decode (ix_by 47) 34 = .ok (.invokevirtual 95, 3) := by decide +kernel
theorem d47_37 : decode (ix_by 47) 37 = .ok (.return_, 1) := by decide +kernel
end
section
/-! decode rows (written by wip/whole/gen4.py) -/
theorem d48_0 : decode (ix_by 48) 0 = .ok (.aload_n 0, 1) := by decide +kernel
theorem d48_1 : decode (ix_by 48) 1 = .ok (.getfield 37, 3) := by decide +kernel
theorem d48_4 : decode (ix_by 48) 4 = .ok (.ifCond .eq 4, 3) := by decide +kernel
theorem d48_7 : decode (ix_by 48) 7 = .ok (.return_, 1) := by decide +kernel
theorem d48_8 : decode (ix_by 48) 8 = .ok (.iload_n 1, 1) := by decide +kernel
theorem d48_9 : decode (ix_by 48) 9 = .ok (.aload_n 0, 1) := by decide +kernel
theorem d48_10 : decode (ix_by 48) 10 = .ok (.getfield 41, 3) := by decide +kernel
theorem d48_13 : decode (ix_by 48) 13 = .ok (.isub, 1) := by decide +kernel
theorem d48_14 : decode (ix_by 48) 14 = .ok (.istore_n 2, 1) := by decide +kernel
theorem d48_15 : decode (ix_by 48) 15 = .ok (.aload_n 0, 1) := by decide +kernel
theorem d48_16 : decode (ix_by 48) 16 = .ok (.invokevirtual 44, 3) := by decide +kernel
theorem d48_19 : decode (ix_by 48) 19 = .ok (.ifCond .eq 12, 3) := by decide +kernel
theorem d48_22 : decode (ix_by 48) 22 = .ok (.aload_n 0, 1) := by decide +kernel
theorem d48_23 : decode (ix_by 48) 23 = .ok (.iload_n 2, 1) := by decide +kernel
theorem d48_24 : decode (ix_by 48) 24 = .ok (.iload_n 1, 1) := by decide +kernel
theorem d48_25 : decode (ix_by 48) 25 = .ok (.invokevirtual 48, 3) := by decide +kernel
theorem d48_28 : decode (ix_by 48) 28 = .ok (.goto 93, 3) := by decide +kernel
theorem d48_31 : decode (ix_by 48) 31 = .ok (.aload_n 0, 1) := by decide +kernel
theorem d48_32 : decode (ix_by 48) 32 = .ok (.getfield 15, 3) := by decide +kernel
theorem d48_35 : decode (ix_by 48) 35 = .ok (.iconst (-1), 1) := by decide +kernel
theorem d48_36 : decode (ix_by 48) 36 = .ok (.if_icmp .ne 26, 3) := by decide +kernel
theorem d48_39 : decode (ix_by 48) 39 = .ok (.iload_n 2, 1) := by decide +kernel
theorem d48_40 : decode (ix_by 48) 40 = .ok (.iconst 4, 1) := by decide +kernel
theorem d48_41 : decode (ix_by 48) 41 = .ok (.aload_n 0, 1) := by decide +kernel
theorem d48_42 : decode (ix_by 48) 42 = .ok (.getfield 31, 3) := by decide +kernel
theorem d48_45 : decode (ix_by 48) 45 = .ok (.imul, 1) := by decide +kernel
theorem d48_46 : decode (ix_by 48) 46 = .ok (.if_icmp .lt 75, 3) := by decide +kernel
theorem d48_49 : decode (ix_by 48) 49 = .ok (.aload_n 0, 1) := by decide +kernel
theorem d48_50 : decode (ix_by 48) 50 = .ok (.iconst 3, 1) := by decide +kernel
theorem d48_51 : decode (ix_by 48) 51 = .ok (.putfield 34, 3) := by decide +kernel
theorem d48_54 : decode (ix_by 48) 54 = .ok (.aload_n 0, 1) := by decide +kernel
theorem d48_55 : decode (ix_by 48) 55 = .ok (.iconst 1, 1) := by decide +kernel
theorem d48_56 : decode (ix_by 48) 56 = .ok (.putfield 37, 3) := by decide +kernel
theorem d48_59 : decode (ix_by 48) 59 = .ok (.goto 62, 3) := by decide +kernel
theorem d48_62 : decode (ix_by 48) 62 = .ok (.iload_n 2, 1) := by decide +kernel
theorem d48_63 : decode (ix_by 48) 63 = .ok (.aload_n 0, 1) := by decide +kernel
theorem d48_64 : decode (ix_by 48) 64 = .ok (.getfield 19, 3) := by decide +kernel
theorem d48_67 : decode (ix_by 48) 67 = .ok (.invokevirtual 52, 3) := by decide +kernel
theorem d48_70 : decode (ix_by 48) 70 = .ok (.ifCond .eq 10, 3) := by decide +kernel
theorem d48_73 : decode (ix_by 48) 73 = .ok (.aload_n 0, 1) := by decide +kernel
theorem d48_74 : decode (ix_by 48) 74 = .ok (.getfield 31, 3) := by decide +kernel
theorem d48_77 : decode (ix_by 48) 77 = .ok (.goto 9, 3) := by decide +kernel
theorem d48_80 : decode (ix_by 48) 80 = .ok (.iconst 2, 1) := by decide +kernel
theorem d48_81 : decode (ix_by 48) 81 = .ok (.aload_n 0, 1) := by decide +kernel
theorem d48_82 : decode (ix_by 48) 82 = .ok (.getfield 31, 3) := by decide +kernel
theorem d48_85 : decode (ix_by 48) 85 = .ok (.imul, 1) := by decide +kernel
theorem d48_86 : decode (ix_by 48) 86 = .ok (.if_icmp .lt 35, 3) := by decide +kernel
theorem d48_89 : decode (ix_by 48) 89 = .ok (.aload_n 0, 1) := by decide +kernel
theorem d48_90 : decode (ix_by 48) 90 = .ok (.getfield 19, 3) := by decide +kernel
theorem d48_93 : decode (ix_by 48) 93 = .ok (.invokevirtual 52, 3) := by decide +kernel
theorem d48_96 : decode (ix_by 48) 96 = .ok (.ifCond .eq 19, 3) := by decide +kernel
theorem d48_99 : decode (ix_by 48) 99 = .ok (.aload_n 0, 1) := by decide +kernel
theorem d48_100 : decode (ix_by 48) 100 = .ok (.getfield 57, 3) := by decide +kernel
theorem d48_103 : decode (ix_by 48) 103 = .ok (.iconst 3, 1) := by decide +kernel
theorem d48_104 : decode (ix_by 48) 104 = .ok (.if_icmp .ge 11, 3) := by decide +kernel
theorem d48_107 : decode (ix_by 48) 107 = .ok (.aload_n 0, 1) := by decide +kernel
theorem d48_108 : decode (ix_by 48) 108 = .ok (.iload_n 1, 1) := by decide +kernel
theorem d48_109 : decode (ix_by 48) 109 = .ok (.invokevirtual 60, 3) := by decide +kernel
theorem d48_112 : decode (ix_by 48) 112 = .ok (.goto 9, 3) := by decide +kernel
theorem d48_115 : decode (ix_by 48) 115 = .ok (.aload_n 0, 1) := by decide +kernel
theorem d48_116 : decode (ix_by 48) 116 = .ok (.iconst 3, 1) := by decide +kernel
theorem d48_117 : decode (ix_by 48) 117 = .ok (.iload_n 1, 1) := by decide +kernel
theorem d48_118 : decode (ix_by 48) 118 = .ok (.invokevirtual 64, 3) := by decide +kernel
theorem d48_121 : decode (ix_by 48) 121 = .ok (.return_, 1) := by decide +kernel
theorem d49_0 : decode (ix_by 49) 0 = .ok (.aload_n 0, 1) := by decide +kernel
theorem d49_1 : decode (ix_by 49) 1 = .ok (.getfield 34, 3) := by decide +kernel
theorem d49_4 : decode (ix_by 49) 4 = .ok (.ifCond .eq 7, 3) := by decide +kernel
theorem d49_7 : decode (ix_by 49) 7 = .ok (.iconst 1, 1) := by decide +kernel
theorem d49_8 : decode (ix_by 49) 8 = .ok (.goto 4, 3) := by decide +kernel
theorem d49_11 : decode (ix_by 49) 11 = .ok (.iconst 0, 1) := by decide +kernel
theorem d49_12 : decode (ix_by 49) 12 = .ok (.ireturn, 1) := by decide +kernel
theorem d50_0 : decode (ix_by 50) 0 = .ok (.iload_n 1, 1) := by decide +kernel
theorem d50_1 : decode (ix_by 50) 1 = .ok (.aload_n 0, 1) := by decide +kernel
theorem d50_2 : decode (ix_by 50) 2 = .ok (.getfield 31, 3) := by decide +kernel
theorem d50_5 : decode (ix_by 50) 5 = .ok (.if_icmp .ge 4, 3) := by decide +kernel
theorem d50_8 : decode (ix_by 50) 8 = .ok (.return_, 1) := by decide +kernel
theorem d50_9 : decode (ix_by 50) 9 = .ok (.aload_n 0, 1) := by decide +kernel
theorem d50_10 : decode (ix_by 50) 10 = .ok (.getfield 57, 3) := by decide +kernel
theorem d50_13 : decode (ix_by 50) 13 = .ok (.iconst 3, 1) := by decide +kernel
theorem d50_14 : decode (ix_by 50) 14 = .ok (.if_icmp .ge 11, 3) := by decide +kernel
theorem d50_17 : decode (ix_by 50) 17 = .ok (.aload_n 0, 1) := by decide +kernel
theorem d50_18 : decode (ix_by 50) 18 = .ok (.iload_n 2, 1) := by decide +kernel
theorem d50_19 : decode (ix_by 50) 19 = .ok (.invokevirtual 67, 3) := by decide +kernel
theorem d50_22 : decode (ix_by 50) 22 = .ok (.goto 8, 3) := by decide +kernel
theorem d50_25 : decode (ix_by 50) 25 = .ok (.aload_n 0, 1) := by decide +kernel
theorem d50_26 : decode (ix_by 50) 26 = .ok (.iconst 1, 1) := by decide +kernel
theorem d50_27 : decode (ix_by 50) 27 = .ok (.putfield 37, 3) := by decide +kernel
theorem d50_30 : decode (ix_by 50) 30 = .ok (.return_, 1) := by decide +kernel
theorem d51_0 : decode (ix_by 51) 0 = .ok (.aload_n 0, 1) := by decide +kernel
theorem d51_1 : decode (ix_by 51) 1 = .ok (.dup, 1) := by decide +kernel
theorem d51_2 : decode (ix_by 51) 2 = .ok (.getfield 57, 3) := by decide +kernel
theorem d51_5 : decode (ix_by 51) 5 = .ok (.iconst 1, 1) := by decide +kernel
theorem d51_6 : decode (ix_by 51) 6 = .ok (.iadd, 1) := by decide +kernel
theorem d51_7 : decode (ix_by 51) 7 = .ok (.putfield 57, 3) := by decide +kernel
theorem d51_10 : decode (ix_by 51) 10 = .ok (.aload_n 0, 1) := by decide +kernel
theorem d51_11 : decode (ix_by 51) 11 = .ok (.iload_n 1, 1) := by decide +kernel
theorem d51_12 : decode (ix_by 51) 12 = .ok (.putfield 41, 3) := by decide +kernel
theorem d51_15 : decode (ix_by 51) 15 = .ok (.aload_n 0, 1) := by decide +kernel
theorem d51_16 : decode (ix_by 51) 16 = .ok (.iconst 4, 1) := by decide +kernel
theorem d51_17 : decode (ix_by 51) 17 = .ok (.aload_n 0, 1) := by decide +kernel
theorem d51_18 : decode (ix_by 51) 18 = .ok (.getfield 34, 3) := by decide +kernel
theorem d51_21 : decode (ix_by 51) 21 = .ok (.iconst 0, 1) := by decide +kernel
theorem d51_22 : decode (ix_by 51) 22 = .ok (.invokevirtual 75, 3) := by decide +kernel
theorem d51_25 : decode (ix_by 51) 25 = .ok (.return_, 1) := by decide +kernel
theorem d52_0 : decode (ix_by 52) 0 = .ok (.aload_n 0, 1) := by decide +kernel
theorem d52_1 : decode (ix_by 52) 1 = .ok (.getfield 27, 3) := by decide +kernel
theorem d52_4 : decode (ix_by 52) 4 = .ok (.new 71, 3) := by decide +kernel
theorem d52_7 : decode (ix_by 52) 7 = .ok (.dup, 1) := by decide +kernel
theorem d52_8 : decode (ix_by 52) 8 = .ok (.aload_n 0, 1) := by decide +kernel
theorem d52_9 : decode (ix_by 52) 9 = .ok (.getfield 19, 3) := by decide +kernel
theorem d52_12 : decode (ix_by 52) 12 = .ok (.iload_n 1, 1) := by decide +kernel
theorem d52_13 : decode (ix_by 52) 13 = .ok (.aload_n 0, 1) := by decide +kernel
theorem d52_14 : decode (ix_by 52) 14 = .ok (.getfield 19, 3) := by decide +kernel
theorem d52_17 : decode (ix_by 52) 17 = .ok (.getfield 165, 3) := by decide +kernel
theorem d52_20 : decode (ix_by 52) 20 = .ok (.iload_n 2, 1) := by decide +kernel
theorem d52_21 : decode (ix_by 52) 21 = .ok (.iconst 0, 1) := by decide +kernel
theorem d52_22 : decode (ix_by 52) 22 = .ok (.iload_n 3, 1) := by decide +kernel
theorem d52_23 : decode (ix_by 52) 23 = .ok (.invokespecial 168, 3) := by decide +kernel
theorem d52_26 : decode (ix_by 52) 26 = .ok (.invokevirtual 171, 3) := by decide +kernel
theorem d52_29 : decode (ix_by 52) 29 = .ok (.return_, 1) := by decide +kernel
theorem d53_0 : decode (ix_by 53) 0 = .ok (.aload_n 0, 1) := by decide +kernel
theorem d53_1 : decode (ix_by 53) 1 = .ok (.dup, 1) := by decide +kernel
theorem d53_2 : decode (ix_by 53) 2 = .ok (.getfield 57, 3) := by decide +kernel
theorem d53_5 : decode (ix_by 53) 5 = .ok (.iconst 1, 1) := by decide +kernel
theorem d53_6 : decode (ix_by 53) 6 = .ok (.iadd, 1) := by decide +kernel
theorem d53_7 : decode (ix_by 53) 7 = .ok (.putfield 57, 3) := by decide +kernel
theorem d53_10 : decode (ix_by 53) 10 = .ok (.aload_n 0, 1) := by decide +kernel
theorem d53_11 : decode (ix_by 53) 11 = .ok (.iload_n 1, 1) := by decide +kernel
theorem d53_12 : decode (ix_by 53) 12 = .ok (.putfield 41, 3) := by decide +kernel
theorem d53_15 : decode (ix_by 53) 15 = .ok (.aload_n 0, 1) := by decide +kernel
theorem d53_16 : decode (ix_by 53) 16 = .ok (.invokevirtual 118, 3) := by decide +kernel
theorem d53_19 : decode (ix_by 53) 19 = .ok (.istore_n 2, 1) := by decide +kernel
theorem d53_20 : decode (ix_by 53) 20 = .ok (.iconst 0, 1) := by decide +kernel
theorem d53_21 : decode (ix_by 53) 21 = .ok (.istore_n 3, 1) := by decide +kernel
theorem d53_22 : decode (ix_by 53) 22 = .ok (.iconst 0, 1) := by decide +kernel
theorem d53_23 : decode (ix_by 53) 23 = .ok (.istore 4, 2) := by decide +kernel
theorem d53_25 : decode (ix_by 53) 25 = .ok (.iconst 0, 1) := by decide +kernel
theorem d53_26 : decode (ix_by 53) 26 = .ok (.istore 5, 2) := by decide +kernel
theorem d53_28 : decode (ix_by 53) 28 = .ok (.iload 5, 2) := by decide +kernel
theorem d53_30 : decode (ix_by 53) 30 = .ok (.bipush 16, 2) := by decide +kernel
theorem d53_32 : decode (ix_by 53) 32 = .ok (.if_icmp .ge 83, 3) := by decide +kernel
theorem d53_35 : decode (ix_by 53) 35 = .ok (.iconst 1, 1) := by decide +kernel
theorem d53_36 : decode (ix_by 53) 36 = .ok (.iload 5, 2) := by decide +kernel
theorem d53_38 : decode (ix_by 53) 38 = .ok (.ishl, 1) := by decide +kernel
theorem d53_39 : decode (ix_by 53) 39 = .ok (.istore 6, 2) := by decide +kernel
theorem d53_41 : decode (ix_by 53) 41 = .ok (.iload_n 2, 1) := by decide +kernel
theorem d53_42 : decode (ix_by 53) 42 = .ok (.iload 6, 2) := by decide +kernel
theorem d53_44 : decode (ix_by 53) 44 = .ok (.iand, 1) := by decide +kernel
theorem d53_45 : decode (ix_by 53) 45 = .ok (.ifCond .eq 7, 3) := by decide +kernel
theorem d53_48 : decode (ix_by 53) 48 = .ok (.iconst 1, 1) := by decide +kernel
theorem d53_49 : decode (ix_by 53) 49 = .ok (.goto 4, 3) := by decide +kernel
theorem d53_52 : decode (ix_by 53) 52 = .ok (.iconst 0, 1) := by decide +kernel
theorem d53_53 : decode (ix_by 53) 53 = .ok (.istore 7, 2) := by decide +kernel
theorem d53_55 : decode (ix_by 53) 55 = .ok (.iload 7, 2) := by decide +kernel
theorem d53_57 : decode (ix_by 53) 57 = .ok (.ifCond .eq 16, 3) := by decide +kernel
theorem d53_60 : decode (ix_by 53) 60 = .ok (.iload_n 2, 1) := by decide +kernel
theorem d53_61 : decode (ix_by 53) 61 = .ok (.iload 6, 2) := by decide +kernel
theorem d53_63 : decode (ix_by 53) 63 = .ok (.iconst 1, 1) := by decide +kernel
theorem d53_64 : decode (ix_by 53) 64 = .ok (.ishr, 1) := by decide +kernel
theorem d53_65 : decode (ix_by 53) 65 = .ok (.iand, 1) := by decide +kernel
theorem d53_66 : decode (ix_by 53) 66 = .ok (.ifCond .ne 7, 3) := by decide +kernel
theorem d53_69 : decode (ix_by 53) 69 = .ok (.iconst 1, 1) := by decide +kernel
theorem d53_70 : decode (ix_by 53) 70 = .ok (.goto 4, 3) := by decide +kernel
theorem d53_73 : decode (ix_by 53) 73 = .ok (.iconst 0, 1) := by decide +kernel
theorem d53_74 : decode (ix_by 53) 74 = .ok (.istore 8, 2) := by decide +kernel
theorem d53_76 : decode (ix_by 53) 76 = .ok (.iload 8, 2) := by decide +kernel
theorem d53_78 : decode (ix_by 53) 78 = .ok (.ifCond .eq 11, 3) := by decide +kernel
theorem d53_81 : decode (ix_by 53) 81 = .ok (.iload_n 3, 1) := by decide +kernel
theorem d53_82 : decode (ix_by 53) 82 = .ok (.iconst 3, 1) := by decide +kernel
theorem d53_83 : decode (ix_by 53) 83 = .ok (.if_icmp .ne 6, 3) := by decide +kernel
theorem d53_86 : decode (ix_by 53) 86 = .ok (.goto 29, 3) := by decide +kernel
theorem d53_89 : decode (ix_by 53) 89 = .ok (.iload 8, 2) := by decide +kernel
theorem d53_91 : decode (ix_by 53) 91 = .ok (.ifCond .eq 6, 3) := by decide +kernel
theorem d53_94 : decode (ix_by 53) 94 = .ok (.iinc 3 1, 3) := by decide +kernel
theorem d53_97 : decode (ix_by 53) 97 = .ok (.iload 7, 2) := by decide +kernel
theorem d53_99 : decode (ix_by 53) 99 = .ok (.ifCond .eq 10, 3) := by decide +kernel
theorem d53_102 : decode (ix_by 53) 102 = .ok (.iload 4, 2) := by decide +kernel
theorem d53_104 : decode (ix_by 53) 104 = .ok (.iload 6, 2) := by decide +kernel
theorem d53_106 : decode (ix_by 53) 106 = .ok (.ior, 1) := by decide +kernel
theorem d53_107 : decode (ix_by 53) 107 = .ok (.istore 4, 2) := by decide +kernel
theorem d53_109 : decode (ix_by 53) 109 = .ok (.iinc 5 1, 3) := by decide +kernel
theorem d53_112 : decode (ix_by 53) 112 = .ok (.goto (-84), 3) := by decide +kernel
theorem d53_115 : decode (ix_by 53) 115 = .ok (.aload_n 0, 1) := by decide +kernel
theorem d53_116 : decode (ix_by 53) 116 = .ok (.bipush 6, 2) := by decide +kernel
theorem d53_118 : decode (ix_by 53) 118 = .ok (.aload_n 0, 1) := by decide +kernel
theorem d53_119 : decode (ix_by 53) 119 = .ok (.getfield 96, 3) := by decide +kernel
theorem d53_122 : decode (ix_by 53) 122 = .ok (.ifCond .eq 7, 3) := by decide +kernel
theorem d53_125 : decode (ix_by 53) 125 = .ok (.iload_n 3, 1) := by decide +kernel
theorem d53_126 : decode (ix_by 53) 126 = .ok (.goto 7, 3) := by decide +kernel
theorem d53_129 : decode (ix_by 53) 129 = .ok (.iload_n 3, 1) := by decide +kernel
theorem d53_130 : decode (ix_by 53) 130 = .ok (.bipush 8, 2) := by decide +kernel
theorem d53_132 : decode (ix_by 53) 132 = .ok (.iadd, 1) := by decide +kernel
theorem d53_133 : decode (ix_by 53) 133 = .ok (.iload 4, 2) := by decide +kernel
theorem d53_135 : decode (ix_by 53) 135 = .ok (.invokevirtual 75, 3) := by decide +kernel
theorem d53_138 : decode (ix_by 53) 138 = .ok (.return_, 1) := by decide +kernel
theorem d54_0 : decode (ix_by 54) 0 = .ok (.iconst 1, 1) := by decide +kernel
theorem d54_1 : decode (ix_by 54) 1 = .ok (.aload_n 0, 1) := by decide +kernel
theorem d54_2 : decode (ix_by 54) 2 = .ok (.getfield 15, 3) := by decide +kernel
theorem d54_5 : decode (ix_by 54) 5 = .ok (.invokestatic 114, 3) := by decide +kernel
theorem d54_8 : decode (ix_by 54) 8 = .ok (.ishl, 1) := by decide +kernel
theorem d54_9 : decode (ix_by 54) 9 = .ok (.iconst 1, 1) := by decide +kernel
theorem d54_10 : decode (ix_by 54) 10 = .ok (.isub, 1) := by decide +kernel
theorem d54_11 : decode (ix_by 54) 11 = .ok (.aload_n 0, 1) := by decide +kernel
theorem d54_12 : decode (ix_by 54) 12 = .ok (.getfield 108, 3) := by decide +kernel
theorem d54_15 : decode (ix_by 54) 15 = .ok (.iconst (-1), 1) := by decide +kernel
theorem d54_16 : decode (ix_by 54) 16 = .ok (.ixor, 1) := by decide +kernel
theorem d54_17 : decode (ix_by 54) 17 = .ok (.iand, 1) := by decide +kernel
theorem d54_18 : decode (ix_by 54) 18 = .ok (.ireturn, 1) := by decide +kernel
theorem d55_0 : decode (ix_by 55) 0 = .ok (.iload_n 0, 1) := by decide +kernel
theorem d55_1 : decode (ix_by 55) 1 = .ok (.iconst 4, 1) := by decide +kernel
theorem d55_2 : decode (ix_by 55) 2 = .ok (.iadd, 1) := by decide +kernel
theorem d55_3 : decode (ix_by 55) 3 = .ok (.iconst 1, 1) := by decide +kernel
theorem d55_4 : decode (ix_by 55) 4 = .ok (.isub, 1) := by decide +kernel
theorem d55_5 : decode (ix_by 55) 5 = .ok (.iconst 4, 1) := by decide +kernel
theorem d55_6 : decode (ix_by 55) 6 = .ok (.idiv, 1) := by decide +kernel
theorem d55_7 : decode (ix_by 55) 7 = .ok (.ireturn, 1) := by decide +kernel
theorem d56_0 : decode (ix_by 56) 0 = .ok (.aload_n 0, 1) := by decide +kernel
theorem d56_1 : decode (ix_by 56) 1 = .ok (.iload_n 1, 1) := by decide +kernel
theorem d56_2 : decode (ix_by 56) 2 = .ok (.putfield 34, 3) := by decide +kernel
theorem d56_5 : decode (ix_by 56) 5 = .ok (.aload_n 0, 1) := by decide +kernel
theorem d56_6 : decode (ix_by 56) 6 = .ok (.getfield 19, 3) := by decide +kernel
theorem d56_9 : decode (ix_by 56) 9 = .ok (.invokevirtual 52, 3) := by decide +kernel
theorem d56_12 : decode (ix_by 56) 12 = .ok (.ifCond .eq 16, 3) := by decide +kernel
theorem d56_15 : decode (ix_by 56) 15 = .ok (.aload_n 0, 1) := by decide +kernel
theorem d56_16 : decode (ix_by 56) 16 = .ok (.iconst 0, 1) := by decide +kernel
theorem d56_17 : decode (ix_by 56) 17 = .ok (.putfield 57, 3) := by decide +kernel
theorem d56_20 : decode (ix_by 56) 20 = .ok (.aload_n 0, 1) := by decide +kernel
theorem d56_21 : decode (ix_by 56) 21 = .ok (.iload_n 2, 1) := by decide +kernel
theorem d56_22 : decode (ix_by 56) 22 = .ok (.invokevirtual 67, 3) := by decide +kernel
theorem d56_25 : decode (ix_by 56) 25 = .ok (.goto 8, 3) := by decide +kernel
theorem d56_28 : decode (ix_by 56) 28 = .ok (.aload_n 0, 1) := by decide +kernel
theorem d56_29 : decode (ix_by 56) 29 = .ok (.iconst 1, 1) := by decide +kernel
theorem d56_30 : decode (ix_by 56) 30 = .ok (.putfield 37, 3) := by decide +kernel
theorem d56_33 : decode (ix_by 56) 33 = .ok (.return_, 1) := by decide +kernel
theorem d57_0 : decode (ix_by 57) 0 = .ok (.aload_n 0, 1) := by decide +kernel
theorem d57_1 : decode (ix_by 57) 1 = .ok (.getfield 23, 3) := by decide +kernel
theorem d57_4 : decode (ix_by 57) 4 = .ok (.invokevirtual 33, 3) := by decide +kernel
theorem d57_7 : decode (ix_by 57) 7 = .ok (.iconst 1, 1) := by decide +kernel
theorem d57_8 : decode (ix_by 57) 8 = .ok (.isub, 1) := by decide +kernel
theorem d57_9 : decode (ix_by 57) 9 = .ok (.istore_n 1, 1) := by decide +kernel
theorem d57_10 : decode (ix_by 57) 10 = .ok (.iload_n 1, 1) := by decide +kernel
theorem d57_11 : decode (ix_by 57) 11 = .ok (.ifCond .lt 35, 3) := by decide +kernel
theorem d57_14 : decode (ix_by 57) 14 = .ok (.aload_n 0, 1) := by decide +kernel
theorem d57_15 : decode (ix_by 57) 15 = .ok (.getfield 23, 3) := by decide +kernel
theorem d57_18 : decode (ix_by 57) 18 = .ok (.iload_n 1, 1) := by decide +kernel
theorem d57_19 : decode (ix_by 57) 19 = .ok (.invokevirtual 37, 3) := by decide +kernel
theorem d57_22 : decode (ix_by 57) 22 = .ok (.checkcast 41, 3) := by decide +kernel
theorem d57_25 : decode (ix_by 57) 25 = .ok (.invokevirtual 64, 3) := by decide +kernel
theorem d57_28 : decode (ix_by 57) 28 = .ok (.ifCond .ne 12, 3) := by decide +kernel
theorem d57_31 : decode (ix_by 57) 31 = .ok (.aload_n 0, 1) := by decide +kernel
theorem d57_32 : decode (ix_by 57) 32 = .ok (.getfield 23, 3) := by decide +kernel
theorem d57_35 : decode (ix_by 57) 35 = .ok (.iload_n 1, 1) := by decide +kernel
theorem d57_36 : decode (ix_by 57) 36 = .ok (.invokevirtual 68, 3) := by decide +kernel
theorem d57_39 : decode (ix_by 57) 39 = .ok (.pop, 1) := by decide +kernel
theorem d57_40 : decode (ix_by 57) 40 = .ok (.iinc 1 (-1), 3) := by decide +kernel
theorem d57_43 : decode (ix_by 57) 43 = .ok (.goto (-33), 3) := by decide +kernel
theorem d57_46 : decode (ix_by 57) 46 = .ok (.aload_n 0, 1) := by decide +kernel
theorem d57_47 : decode (ix_by 57) 47 = .ok (.getfield 26, 3) := by decide +kernel
theorem d57_50 : decode (ix_by 57) 50 = .ok (.invokevirtual 33, 3) := by decide +kernel
theorem d57_53 : decode (ix_by 57) 53 = .ok (.iconst 1, 1) := by decide +kernel
theorem d57_54 : decode (ix_by 57) 54 = .ok (.isub, 1) := by decide +kernel
theorem d57_55 : decode (ix_by 57) 55 = .ok (.istore_n 1, 1) := by decide +kernel
theorem d57_56 : decode (ix_by 57) 56 = .ok (.iload_n 1, 1) := by decide +kernel
theorem d57_57 : decode (ix_by 57) 57 = .ok (.ifCond .lt 35, 3) := by decide +kernel
theorem d57_60 : decode (ix_by 57) 60 = .ok (.aload_n 0, 1) := by decide +kernel
theorem d57_61 : decode (ix_by 57) 61 = .ok (.getfield 26, 3) := by decide +kernel
theorem d57_64 : decode (ix_by 57) 64 = .ok (.iload_n 1, 1) := by decide +kernel
theorem d57_65 : decode (ix_by 57) 65 = .ok (.invokevirtual 37, 3) := by decide +kernel
theorem d57_68 : decode (ix_by 57) 68 = .ok (.checkcast 56, 3) := by decide +kernel
theorem d57_71 : decode (ix_by 57) 71 = .ok (.getfield 71, 3) := by decide +kernel
theorem d57_74 : decode (ix_by 57) 74 = .ok (.ifCond .eq 12, 3) := by decide +kernel
theorem d57_77 : decode (ix_by 57) 77 = .ok (.aload_n 0, 1) := by decide +kernel
theorem d57_78 : decode (ix_by 57) 78 = .ok (.getfield 26, 3) := by decide +kernel
theorem d57_81 : decode (ix_by 57) 81 = .ok (.iload_n 1, 1) := by decide +kernel
theorem d57_82 : decode (ix_by 57) 82 = .ok (.invokevirtual 68, 3) := by decide +kernel
theorem d57_85 : decode (ix_by 57) 85 = .ok (.pop, 1) := by decide +kernel
theorem d57_86 : decode (ix_by 57) 86 = .ok (.iinc 1 (-1), 3) := by decide +kernel
theorem d57_89 : decode (ix_by 57) 89 = .ok (.goto (-33), 3) := by decide +kernel
theorem d57_92 : decode (ix_by 57) 92 = .ok (.return_, 1) := by decide +kernel
theorem d58_0 : decode (ix_by 58) 0 = .ok (.iload_n 1, 1) := by decide +kernel
theorem d58_1 : decode (ix_by 58) 1 = .ok (.aload_n 0, 1) := by decide +kernel
theorem d58_2 : decode (ix_by 58) 2 = .ok (.getfield 48, 3) := by decide +kernel
theorem d58_5 : decode (ix_by 58) 5 = .ok (.invokestatic 118, 3) := by decide +kernel
theorem d58_8 : decode (ix_by 58) 8 = .ok (.pop, 1) := by decide +kernel
theorem d58_9 : decode (ix_by 58) 9 = .ok (.aload_n 0, 1) := by decide +kernel
theorem d58_10 : decode (ix_by 58) 10 = .ok (.getfield 9, 3) := by decide +kernel
theorem d58_13 : decode (ix_by 58) 13 = .ok (.astore_n 2, 1) := by decide +kernel
theorem d58_14 : decode (ix_by 58) 14 = .ok (.aload_n 2, 1) := by decide +kernel
theorem d58_15 : decode (ix_by 58) 15 = .ok (.iload_n 1, 1) := by decide +kernel
theorem d58_16 : decode (ix_by 58) 16 = .ok (.aaload, 1) := by decide +kernel
theorem d58_17 : decode (ix_by 58) 17 = .ok (.astore_n 3, 1) := by decide +kernel
theorem d58_18 : decode (ix_by 58) 18 = .ok (.aload_n 0, 1) := by decide +kernel
theorem d58_19 : decode (ix_by 58) 19 = .ok (.aload_n 2, 1) := by decide +kernel
theorem d58_20 : decode (ix_by 58) 20 = .ok (.iload_n 1, 1) := by decide +kernel
theorem d58_21 : decode (ix_by 58) 21 = .ok (.invokevirtual 144, 3) := by decide +kernel
theorem d58_24 : decode (ix_by 58) 24 = .ok (.aload_n 3, 1) := by decide +kernel
theorem d58_25 : decode (ix_by 58) 25 = .ok (.areturn, 1) := by decide +kernel
theorem d59_0 : decode (ix_by 59) 0 = .ok (.aload_n 0, 1) := by decide +kernel
theorem d59_1 : decode (ix_by 59) 1 = .ok (.dup, 1) := by decide +kernel
theorem d59_2 : decode (ix_by 59) 2 = .ok (.getfield 63, 3) := by decide +kernel
theorem d59_5 : decode (ix_by 59) 5 = .ok (.iconst 1, 1) := by decide +kernel
theorem d59_6 : decode (ix_by 59) 6 = .ok (.iadd, 1) := by decide +kernel
theorem d59_7 : decode (ix_by 59) 7 = .ok (.putfield 63, 3) := by decide +kernel
theorem d59_10 : decode (ix_by 59) 10 = .ok (.aload_n 0, 1) := by decide +kernel
theorem d59_11 : decode (ix_by 59) 11 = .ok (.getfield 48, 3) := by decide +kernel
theorem d59_14 : decode (ix_by 59) 14 = .ok (.iconst 1, 1) := by decide +kernel
theorem d59_15 : decode (ix_by 59) 15 = .ok (.isub, 1) := by decide +kernel
theorem d59_16 : decode (ix_by 59) 16 = .ok (.dup, 1) := by decide +kernel
theorem d59_17 : decode (ix_by 59) 17 = .ok (.istore_n 3, 1) := by decide +kernel
theorem d59_18 : decode (ix_by 59) 18 = .ok (.iload_n 2, 1) := by decide +kernel
theorem d59_19 : decode (ix_by 59) 19 = .ok (.if_icmp .le 15, 3) := by decide +kernel
theorem d59_22 : decode (ix_by 59) 22 = .ok (.aload_n 1, 1) := by decide +kernel
theorem d59_23 : decode (ix_by 59) 23 = .ok (.iload_n 2, 1) := by decide +kernel
theorem d59_24 : decode (ix_by 59) 24 = .ok (.iconst 1, 1) := by decide +kernel
theorem d59_25 : decode (ix_by 59) 25 = .ok (.iadd, 1) := by decide +kernel
theorem d59_26 : decode (ix_by 59) 26 = .ok (.aload_n 1, 1) := by decide +kernel
theorem d59_27 : decode (ix_by 59) 27 = .ok (.iload_n 2, 1) := by decide +kernel
theorem d59_28 : decode (ix_by 59) 28 = .ok (.iload_n 3, 1) := by decide +kernel
theorem d59_29 : decode (ix_by 59) 29 = .ok (.iload_n 2, 1) := by decide +kernel
theorem d59_30 : decode (ix_by 59) 30 = .ok (.isub, 1) := by decide +kernel
theorem d59_31 : decode (ix_by 59) 31 = .ok (.invokestatic 112, 3) := by decide +kernel
theorem d59_34 : decode (ix_by 59) 34 = .ok (.aload_n 1, 1) := by decide +kernel
theorem d59_35 : decode (ix_by 59) 35 = .ok (.aload_n 0, 1) := by decide +kernel
theorem d59_36 : decode (ix_by 59) 36 = .ok (.iload_n 3, 1) := by decide +kernel
theorem d59_37 : decode (ix_by 59) 37 = .ok (.dup_x1, 1) := by decide +kernel
theorem d59_38 : decode (ix_by 59) 38 = .ok (.putfield 48, 3) := by decide +kernel
theorem d59_41 : decode (ix_by 59) 41 = .ok (.aconst_null, 1) := by decide +kernel
theorem d59_42 : decode (ix_by 59) 42 = .ok (.aastore, 1) := by decide +kernel
theorem d59_43 : decode (ix_by 59) 43 = .ok (.return_, 1) := by decide +kernel
theorem d60_0 : decode (ix_by 60) 0 = .ok (.aload_n 0, 1) := by decide +kernel
theorem d60_1 : decode (ix_by 60) 1 = .ok (.getfield 23, 3) := by decide +kernel
theorem d60_4 : decode (ix_by 60) 4 = .ok (.iload_n 1, 1) := by decide +kernel
theorem d60_5 : decode (ix_by 60) 5 = .ok (.invokevirtual 144, 3) := by decide +kernel
theorem d60_8 : decode (ix_by 60) 8 = .ok (.astore_n 2, 1) := by decide +kernel
theorem d60_9 : decode (ix_by 60) 9 = .ok (.aload_n 2, 1) := by decide +kernel
theorem d60_10 : decode (ix_by 60) 10 = .ok (.ifnonnull 5, 3) := by decide +kernel
theorem d60_13 : decode (ix_by 60) 13 = .ok (.iconst 0, 1) := by decide +kernel
theorem d60_14 : decode (ix_by 60) 14 = .ok (.ireturn, 1) := by decide +kernel
theorem d60_15 : decode (ix_by 60) 15 = .ok (.aload_n 2, 1) := by decide +kernel
theorem d60_16 : decode (ix_by 60) 16 = .ok (.getfield 148, 3) := by decide +kernel
theorem d60_19 : decode (ix_by 60) 19 = .ok (.aload_n 2, 1) := by decide +kernel
theorem d60_20 : decode (ix_by 60) 20 = .ok (.getfield 153, 3) := by decide +kernel
theorem d60_23 : decode (ix_by 60) 23 = .ok (.getfield 157, 3) := by decide +kernel
theorem d60_26 : decode (ix_by 60) 26 = .ok (.if_icmp .ne 11, 3) := by decide +kernel
theorem d60_29 : decode (ix_by 60) 29 = .ok (.aload_n 0, 1) := by decide +kernel
theorem d60_30 : decode (ix_by 60) 30 = .ok (.aload_n 2, 1) := by decide +kernel
theorem d60_31 : decode (ix_by 60) 31 = .ok (.invokevirtual 160, 3) := by decide +kernel
theorem d60_34 : decode (ix_by 60) 34 = .ok (.goto 8, 3) := by decide +kernel
theorem d60_37 : decode (ix_by 60) 37 = .ok (.aload_n 0, 1) := by decide +kernel
theorem d60_38 : decode (ix_by 60) 38 = .ok (.aload_n 2, 1) := by decide +kernel
theorem d60_39 : decode (ix_by 60) 39 = .ok (.invokevirtual 164, 3) := by decide +kernel
theorem d60_42 : decode (ix_by 60) 42 = .ok (.iconst 1, 1) := by decide +kernel
theorem d60_43 : decode (ix_by 60) 43 = .ok (.ireturn, 1) := by decide +kernel
theorem d61_0 : decode (ix_by 61) 0 = .ok (.aload_n 0, 1) := by decide +kernel
theorem d61_1 : decode (ix_by 61) 1 = .ok (.iload_n 1, 1) := by decide +kernel
theorem d61_2 : decode (ix_by 61) 2 = .ok (.invokevirtual 21, 3) := by decide +kernel
theorem d61_5 : decode (ix_by 61) 5 = .ok (.astore_n 2, 1) := by decide +kernel
theorem d61_6 : decode (ix_by 61) 6 = .ok (.aload_n 2, 1) := by decide +kernel
theorem d61_7 : decode (ix_by 61) 7 = .ok (.ifnull 53, 3) := by decide +kernel
theorem d61_10 : decode (ix_by 61) 10 = .ok (.aload_n 0, 1) := by decide +kernel
theorem d61_11 : decode (ix_by 61) 11 = .ok (.dup, 1) := by decide +kernel
theorem d61_12 : decode (ix_by 61) 12 = .ok (.getfield 17, 3) := by decide +kernel
theorem d61_15 : decode (ix_by 61) 15 = .ok (.iconst 1, 1) := by decide +kernel
theorem d61_16 : decode (ix_by 61) 16 = .ok (.isub, 1) := by decide +kernel
theorem d61_17 : decode (ix_by 61) 17 = .ok (.putfield 17, 3) := by decide +kernel
theorem d61_20 : decode (ix_by 61) 20 = .ok (.iload_n 1, 1) := by decide +kernel
theorem d61_21 : decode (ix_by 61) 21 = .ok (.istore_n 3, 1) := by decide +kernel
theorem d61_22 : decode (ix_by 61) 22 = .ok (.iload_n 3, 1) := by decide +kernel
theorem d61_23 : decode (ix_by 61) 23 = .ok (.aload_n 0, 1) := by decide +kernel
theorem d61_24 : decode (ix_by 61) 24 = .ok (.getfield 17, 3) := by decide +kernel
theorem d61_27 : decode (ix_by 61) 27 = .ok (.if_icmp .ge 23, 3) := by decide +kernel
theorem d61_30 : decode (ix_by 61) 30 = .ok (.aload_n 0, 1) := by decide +kernel
theorem d61_31 : decode (ix_by 61) 31 = .ok (.getfield 11, 3) := by decide +kernel
theorem d61_34 : decode (ix_by 61) 34 = .ok (.iload_n 3, 1) := by decide +kernel
theorem d61_35 : decode (ix_by 61) 35 = .ok (.aload_n 0, 1) := by decide +kernel
theorem d61_36 : decode (ix_by 61) 36 = .ok (.getfield 11, 3) := by decide +kernel
theorem d61_39 : decode (ix_by 61) 39 = .ok (.iload_n 3, 1) := by decide +kernel
theorem d61_40 : decode (ix_by 61) 40 = .ok (.iconst 1, 1) := by decide +kernel
theorem d61_41 : decode (ix_by 61) 41 = .ok (.iadd, 1) := by decide +kernel
theorem d61_42 : decode (ix_by 61) 42 = .ok (.aaload, 1) := by decide +kernel
theorem d61_43 : decode (ix_by 61) 43 = .ok (.aastore, 1) := by decide +kernel
theorem d61_44 : decode (ix_by 61) 44 = .ok (.iinc 3 1, 3) := by decide +kernel
theorem d61_47 : decode (ix_by 61) 47 = .ok (.goto (-25), 3) := by decide +kernel
theorem d61_50 : decode (ix_by 61) 50 = .ok (.aload_n 0, 1) := by decide +kernel
theorem d61_51 : decode (ix_by 61) 51 = .ok (.getfield 11, 3) := by decide +kernel
theorem d61_54 : decode (ix_by 61) 54 = .ok (.aload_n 0, 1) := by decide +kernel
theorem d61_55 : decode (ix_by 61) 55 = .ok (.getfield 17, 3) := by decide +kernel
theorem d61_58 : decode (ix_by 61) 58 = .ok (.aconst_null, 1) := by decide +kernel
theorem d61_59 : decode (ix_by 61) 59 = .ok (.aastore, 1) := by decide +kernel
theorem d61_60 : decode (ix_by 61) 60 = .ok (.aload_n 2, 1) := by decide +kernel
theorem d61_61 : decode (ix_by 61) 61 = .ok (.areturn, 1) := by decide +kernel
theorem d62_0 : decode (ix_by 62) 0 = .ok (.iload_n 1, 1) := by decide +kernel
theorem d62_1 : decode (ix_by 62) 1 = .ok (.ifCond .lt 20, 3) := by decide +kernel
theorem d62_4 : decode (ix_by 62) 4 = .ok (.iload_n 1, 1) := by decide +kernel
theorem d62_5 : decode (ix_by 62) 5 = .ok (.aload_n 0, 1) := by decide +kernel
theorem d62_6 : decode (ix_by 62) 6 = .ok (.getfield 17, 3) := by decide +kernel
theorem d62_9 : decode (ix_by 62) 9 = .ok (.if_icmp .ge 12, 3) := by decide +kernel
theorem d62_12 : decode (ix_by 62) 12 = .ok (.aload_n 0, 1) := by decide +kernel
theorem d62_13 : decode (ix_by 62) 13 = .ok (.getfield 11, 3) := by decide +kernel
theorem d62_16 : decode (ix_by 62) 16 = .ok (.iload_n 1, 1) := by decide +kernel
theorem d62_17 : decode (ix_by 62) 17 = .ok (.aaload, 1) := by decide +kernel
theorem d62_18 : decode (ix_by 62) 18 = .ok (.goto 4, 3) := by decide +kernel
theorem d62_21 : decode (ix_by 62) 21 = .ok (.aconst_null, 1) := by decide +kernel
theorem d62_22 : decode (ix_by 62) 22 = .ok (.areturn, 1) := by decide +kernel
theorem d63_0 : decode (ix_by 63) 0 = .ok (.aload_n 0, 1) := by decide +kernel
theorem d63_1 : decode (ix_by 63) 1 = .ok (.getfield 16, 3) := by decide +kernel
theorem d63_4 : decode (ix_by 63) 4 = .ok (.aload_n 1, 1) := by decide +kernel
theorem d63_5 : decode (ix_by 63) 5 = .ok (.getfield 148, 3) := by decide +kernel
theorem d63_8 : decode (ix_by 63) 8 = .ok (.aaload, 1) := by decide +kernel
theorem d63_9 : decode (ix_by 63) 9 = .ok (.astore_n 2, 1) := by decide +kernel
theorem d63_10 : decode (ix_by 63) 10 = .ok (.aload_n 2, 1) := by decide +kernel
theorem d63_11 : decode (ix_by 63) 11 = .ok (.aload_n 1, 1) := by decide +kernel
theorem d63_12 : decode (ix_by 63) 12 = .ok (.getfield 153, 3) := by decide +kernel
theorem d63_15 : decode (ix_by 63) 15 = .ok (.getfield 189, 3) := by decide +kernel
theorem d63_18 : decode (ix_by 63) 18 = .ok (.invokevirtual 221, 3) := by decide +kernel
theorem d63_21 : decode (ix_by 63) 21 = .ok (.astore_n 3, 1) := by decide +kernel
theorem d63_22 : decode (ix_by 63) 22 = .ok (.aload_n 3, 1) := by decide +kernel
theorem d63_23 : decode (ix_by 63) 23 = .ok (.ifnull 12, 3) := by decide +kernel
theorem d63_26 : decode (ix_by 63) 26 = .ok (.aload_n 3, 1) := by decide +kernel
theorem d63_27 : decode (ix_by 63) 27 = .ok (.aload_n 1, 1) := by decide +kernel
theorem d63_28 : decode (ix_by 63) 28 = .ok (.invokevirtual 230, 3) := by decide +kernel
theorem d63_31 : decode (ix_by 63) 31 = .ok (.aload_n 2, 1) := by decide +kernel
theorem d63_32 : decode (ix_by 63) 32 = .ok (.invokevirtual 233, 3) := by decide +kernel
theorem d63_35 : decode (ix_by 63) 35 = .ok (.return_, 1) := by decide +kernel
theorem d64_0 : decode (ix_by 64) 0 = .ok (.aload_n 0, 1) := by decide +kernel
theorem d64_1 : decode (ix_by 64) 1 = .ok (.getfield 15, 3) := by decide +kernel
theorem d64_4 : decode (ix_by 64) 4 = .ok (.invokevirtual 98, 3) := by decide +kernel
theorem d64_7 : decode (ix_by 64) 7 = .ok (.ifCond .ne 4, 3) := by decide +kernel
theorem d64_10 : decode (ix_by 64) 10 = .ok (.return_, 1) := by decide +kernel
theorem d64_11 : decode (ix_by 64) 11 = .ok (.aload_n 1, 1) := by decide +kernel
theorem d64_12 : decode (ix_by 64) 12 = .ok (.getfield 136, 3) := by decide +kernel
theorem d64_15 : decode (ix_by 64) 15 = .ok (.iconst 4, 1) := by decide +kernel
theorem d64_16 : decode (ix_by 64) 16 = .ok (.if_icmp .ne 29, 3) := by decide +kernel
theorem d64_19 : decode (ix_by 64) 19 = .ok (.aload_n 0, 1) := by decide +kernel
theorem d64_20 : decode (ix_by 64) 20 = .ok (.iconst 5, 1) := by decide +kernel
theorem d64_21 : decode (ix_by 64) 21 = .ok (.iconst 4, 1) := by decide +kernel
theorem d64_22 : decode (ix_by 64) 22 = .ok (.iconst 0, 1) := by decide +kernel
theorem d64_23 : decode (ix_by 64) 23 = .ok (.iconst 0, 1) := by decide +kernel
theorem d64_24 : decode (ix_by 64) 24 = .ok (.invokevirtual 107, 3) := by decide +kernel
theorem d64_27 : decode (ix_by 64) 27 = .ok (.aload_n 0, 1) := by decide +kernel
theorem d64_28 : decode (ix_by 64) 28 = .ok (.invokevirtual 50, 3) := by decide +kernel
theorem d64_31 : decode (ix_by 64) 31 = .ok (.ifCond .eq 34, 3) := by decide +kernel
theorem d64_34 : decode (ix_by 64) 34 = .ok (.aload_n 0, 1) := by decide +kernel
theorem d64_35 : decode (ix_by 64) 35 = .ok (.aload_n 1, 1) := by decide +kernel
theorem d64_36 : decode (ix_by 64) 36 = .ok (.getfield 139, 3) := by decide +kernel
theorem d64_39 : decode (ix_by 64) 39 = .ok (.putfield 47, 3) := by decide +kernel
theorem d64_42 : decode (ix_by 64) 42 = .ok (.goto 23, 3) := by decide +kernel
theorem d64_45 : decode (ix_by 64) 45 = .ok (.aload_n 0, 1) := by decide +kernel
theorem d64_46 : decode (ix_by 64) 46 = .ok (.invokevirtual 50, 3) := by decide +kernel
theorem d64_49 : decode (ix_by 64) 49 = .ok (.ifCond .eq 16, 3) := by decide +kernel
theorem d64_52 : decode (ix_by 64) 52 = .ok (.aload_n 0, 1) := by decide +kernel
theorem d64_53 : decode (ix_by 64) 53 = .ok (.aload_n 0, 1) := by decide +kernel
theorem d64_54 : decode (ix_by 64) 54 = .ok (.getfield 73, 3) := by decide +kernel
theorem d64_57 : decode (ix_by 64) 57 = .ok (.putfield 85, 3) := by decide +kernel
theorem d64_60 : decode (ix_by 64) 60 = .ok (.aload_n 0, 1) := by decide +kernel
theorem d64_61 : decode (ix_by 64) 61 = .ok (.aload_n 1, 1) := by decide +kernel
theorem d64_62 : decode (ix_by 64) 62 = .ok (.invokevirtual 142, 3) := by decide +kernel
theorem d64_65 : decode (ix_by 64) 65 = .ok (.return_, 1) := by decide +kernel
theorem d65_0 : decode (ix_by 65) 0 = .ok (.aload_n 0, 1) := by decide +kernel
theorem d65_1 : decode (ix_by 65) 1 = .ok (.getfield 64, 3) := by decide +kernel
theorem d65_4 : decode (ix_by 65) 4 = .ok (.ifCond .ne 4, 3) := by decide +kernel
theorem d65_7 : decode (ix_by 65) 7 = .ok (.return_, 1) := by decide +kernel
theorem d65_8 : decode (ix_by 65) 8 = .ok (.aload_n 1, 1) := by decide +kernel
theorem d65_9 : decode (ix_by 65) 9 = .ok (.getfield 136, 3) := by decide +kernel
theorem d65_12 : decode (ix_by 65) 12 = .ok (.iconst 5, 1) := by decide +kernel
theorem d65_13 : decode (ix_by 65) 13 = .ok (.if_icmp .ne 11, 3) := by decide +kernel
theorem d65_16 : decode (ix_by 65) 16 = .ok (.aload_n 0, 1) := by decide +kernel
theorem d65_17 : decode (ix_by 65) 17 = .ok (.iconst 1, 1) := by decide +kernel
theorem d65_18 : decode (ix_by 65) 18 = .ok (.putfield 67, 3) := by decide +kernel
theorem d65_21 : decode (ix_by 65) 21 = .ok (.goto 64, 3) := by decide +kernel
theorem d65_24 : decode (ix_by 65) 24 = .ok (.aload_n 1, 1) := by decide +kernel
theorem d65_25 : decode (ix_by 65) 25 = .ok (.getfield 136, 3) := by decide +kernel
theorem d65_28 : decode (ix_by 65) 28 = .ok (.bipush 6, 2) := by decide +kernel
theorem d65_30 : decode (ix_by 65) 30 = .ok (.if_icmp .ne 55, 3) := by decide +kernel
theorem d65_33 : decode (ix_by 65) 33 = .ok (.aload_n 0, 1) := by decide +kernel
theorem d65_34 : decode (ix_by 65) 34 = .ok (.getfield 54, 3) := by decide +kernel
theorem d65_37 : decode (ix_by 65) 37 = .ok (.ifCond .ne 48, 3) := by decide +kernel
theorem d65_40 : decode (ix_by 65) 40 = .ok (.aload_n 0, 1) := by decide +kernel
theorem d65_41 : decode (ix_by 65) 41 = .ok (.dup, 1) := by decide +kernel
theorem d65_42 : decode (ix_by 65) 42 = .ok (.getfield 58, 3) := by decide +kernel
theorem d65_45 : decode (ix_by 65) 45 = .ok (.aload_n 1, 1) := by decide +kernel
theorem d65_46 : decode (ix_by 65) 46 = .ok (.getfield 139, 3) := by decide +kernel
theorem d65_49 : decode (ix_by 65) 49 = .ok (.bipush 8, 2) := by decide +kernel
theorem d65_51 : decode (ix_by 65) 51 = .ok (.if_icmp .lt 7, 3) := by decide +kernel
theorem d65_54 : decode (ix_by 65) 54 = .ok (.iconst 1, 1) := by decide +kernel
theorem d65_55 : decode (ix_by 65) 55 = .ok (.goto 4, 3) := by decide +kernel
theorem d65_58 : decode (ix_by 65) 58 = .ok (.iconst 0, 1) := by decide +kernel
theorem d65_59 : decode (ix_by 65) 59 = .ok (.ior, 1) := by decide +kernel
theorem d65_60 : decode (ix_by 65) 60 = .ok (.putfield 58, 3) := by decide +kernel
theorem d65_63 : decode (ix_by 65) 63 = .ok (.aload_n 0, 1) := by decide +kernel
theorem d65_64 : decode (ix_by 65) 64 = .ok (.dup, 1) := by decide +kernel
theorem d65_65 : decode (ix_by 65) 65 = .ok (.getfield 61, 3) := by decide +kernel
theorem d65_68 : decode (ix_by 65) 68 = .ok (.aload_n 1, 1) := by decide +kernel
theorem d65_69 : decode (ix_by 65) 69 = .ok (.getfield 145, 3) := by decide +kernel
theorem d65_72 : decode (ix_by 65) 72 = .ok (.iconst 1, 1) := by decide +kernel
theorem d65_73 : decode (ix_by 65) 73 = .ok (.aload_n 0, 1) := by decide +kernel
theorem d65_74 : decode (ix_by 65) 74 = .ok (.getfield 44, 3) := by decide +kernel
theorem d65_77 : decode (ix_by 65) 77 = .ok (.ishl, 1) := by decide +kernel
theorem d65_78 : decode (ix_by 65) 78 = .ok (.iconst 1, 1) := by decide +kernel
theorem d65_79 : decode (ix_by 65) 79 = .ok (.isub, 1) := by decide +kernel
theorem d65_80 : decode (ix_by 65) 80 = .ok (.iand, 1) := by decide +kernel
theorem d65_81 : decode (ix_by 65) 81 = .ok (.ior, 1) := by decide +kernel
theorem d65_82 : decode (ix_by 65) 82 = .ok (.putfield 61, 3) := by decide +kernel
theorem d65_85 : decode (ix_by 65) 85 = .ok (.return_, 1) := by decide +kernel
theorem d66_0 : decode (ix_by 66) 0 = .ok (.aload_n 0, 1) := by decide +kernel
theorem d66_1 : decode (ix_by 66) 1 = .ok (.getfield 16, 3) := by decide +kernel
theorem d66_4 : decode (ix_by 66) 4 = .ok (.aload_n 1, 1) := by decide +kernel
theorem d66_5 : decode (ix_by 66) 5 = .ok (.getfield 148, 3) := by decide +kernel
theorem d66_8 : decode (ix_by 66) 8 = .ok (.aaload, 1) := by decide +kernel
theorem d66_9 : decode (ix_by 66) 9 = .ok (.astore_n 2, 1) := by decide +kernel
theorem d66_10 : decode (ix_by 66) 10 = .ok (.aload_n 1, 1) := by decide +kernel
theorem d66_11 : decode (ix_by 66) 11 = .ok (.getfield 153, 3) := by decide +kernel
theorem d66_14 : decode (ix_by 66) 14 = .ok (.getfield 226, 3) := by decide +kernel
theorem d66_17 : decode (ix_by 66) 17 = .ok (.ifnonnull 9, 3) := by decide +kernel
theorem d66_20 : decode (ix_by 66) 20 = .ok (.aload_n 0, 1) := by decide +kernel
theorem d66_21 : decode (ix_by 66) 21 = .ok (.aload_n 1, 1) := by decide +kernel
theorem d66_22 : decode (ix_by 66) 22 = .ok (.aload_n 2, 1) := by decide +kernel
theorem d66_23 : decode (ix_by 66) 23 = .ok (.invokevirtual 236, 3) := by decide +kernel
theorem d66_26 : decode (ix_by 66) 26 = .ok (.aload_n 1, 1) := by decide +kernel
theorem d66_27 : decode (ix_by 66) 27 = .ok (.getfield 153, 3) := by decide +kernel
theorem d66_30 : decode (ix_by 66) 30 = .ok (.getfield 226, 3) := by decide +kernel
theorem d66_33 : decode (ix_by 66) 33 = .ok (.astore_n 3, 1) := by decide +kernel
theorem d66_34 : decode (ix_by 66) 34 = .ok (.aload_n 3, 1) := by decide +kernel
theorem d66_35 : decode (ix_by 66) 35 = .ok (.ifnull 16, 3) := by decide +kernel
theorem d66_38 : decode (ix_by 66) 38 = .ok (.aload_n 3, 1) := by decide +kernel
theorem d66_39 : decode (ix_by 66) 39 = .ok (.aload_n 1, 1) := by decide +kernel
theorem d66_40 : decode (ix_by 66) 40 = .ok (.aload_n 0, 1) := by decide +kernel
theorem d66_41 : decode (ix_by 66) 41 = .ok (.getfield 27, 3) := by decide +kernel
theorem d66_44 : decode (ix_by 66) 44 = .ok (.invokevirtual 240, 3) := by decide +kernel
theorem d66_47 : decode (ix_by 66) 47 = .ok (.aload_n 2, 1) := by decide +kernel
theorem d66_48 : decode (ix_by 66) 48 = .ok (.invokevirtual 233, 3) := by decide +kernel
theorem d66_51 : decode (ix_by 66) 51 = .ok (.return_, 1) := by decide +kernel
theorem d67_0 : decode (ix_by 67) 0 = .ok (.aload_n 1, 1) := by decide +kernel
theorem d67_1 : decode (ix_by 67) 1 = .ok (.getfield 180, 3) := by decide +kernel
theorem d67_4 : decode (ix_by 67) 4 = .ok (.iconst 5, 1) := by decide +kernel
theorem d67_5 : decode (ix_by 67) 5 = .ok (.if_icmp .eq 52, 3) := by decide +kernel
theorem d67_8 : decode (ix_by 67) 8 = .ok (.aload_n 2, 1) := by decide +kernel
theorem d67_9 : decode (ix_by 67) 9 = .ok (.getfield 243, 3) := by decide +kernel
theorem d67_12 : decode (ix_by 67) 12 = .ok (.invokevirtual 104, 3) := by decide +kernel
theorem d67_15 : decode (ix_by 67) 15 = .ok (.iconst 3, 1) := by decide +kernel
theorem d67_16 : decode (ix_by 67) 16 = .ok (.if_icmp .ge 41, 3) := by decide +kernel
theorem d67_19 : decode (ix_by 67) 19 = .ok (.new 206, 3) := by decide +kernel
theorem d67_22 : decode (ix_by 67) 22 = .ok (.dup, 1) := by decide +kernel
theorem d67_23 : decode (ix_by 67) 23 = .ok (.aload_n 1, 1) := by decide +kernel
theorem d67_24 : decode (ix_by 67) 24 = .ok (.getfield 153, 3) := by decide +kernel
theorem d67_27 : decode (ix_by 67) 27 = .ok (.aload_n 2, 1) := by decide +kernel
theorem d67_28 : decode (ix_by 67) 28 = .ok (.aload_n 0, 1) := by decide +kernel
theorem d67_29 : decode (ix_by 67) 29 = .ok (.getfield 23, 3) := by decide +kernel
theorem d67_32 : decode (ix_by 67) 32 = .ok (.aload_n 0, 1) := by decide +kernel
theorem d67_33 : decode (ix_by 67) 33 = .ok (.getfield 7, 3) := by decide +kernel
theorem d67_36 : decode (ix_by 67) 36 = .ok (.invokespecial 246, 3) := by decide +kernel
theorem d67_39 : decode (ix_by 67) 39 = .ok (.astore_n 3, 1) := by decide +kernel
theorem d67_40 : decode (ix_by 67) 40 = .ok (.aload_n 1, 1) := by decide +kernel
theorem d67_41 : decode (ix_by 67) 41 = .ok (.getfield 153, 3) := by decide +kernel
theorem d67_44 : decode (ix_by 67) 44 = .ok (.aload_n 3, 1) := by decide +kernel
theorem d67_45 : decode (ix_by 67) 45 = .ok (.putfield 226, 3) := by decide +kernel
theorem d67_48 : decode (ix_by 67) 48 = .ok (.aload_n 2, 1) := by decide +kernel
theorem d67_49 : decode (ix_by 67) 49 = .ok (.getfield 243, 3) := by decide +kernel
theorem d67_52 : decode (ix_by 67) 52 = .ok (.aload_n 3, 1) := by decide +kernel
theorem d67_53 : decode (ix_by 67) 53 = .ok (.invokevirtual 249, 3) := by decide +kernel
theorem d67_56 : decode (ix_by 67) 56 = .ok (.pop, 1) := by decide +kernel
theorem d67_57 : decode (ix_by 67) 57 = .ok (.return_, 1) := by decide +kernel
theorem d68_0 : decode (ix_by 68) 0 = .ok (.aload_n 0, 1) := by decide +kernel
theorem d68_1 : decode (ix_by 68) 1 = .ok (.invokespecial 3, 3) := by decide +kernel
theorem d68_4 : decode (ix_by 68) 4 = .ok (.aload_n 0, 1) := by decide +kernel
theorem d68_5 : decode (ix_by 68) 5 = .ok (.bipush 64, 2) := by decide +kernel
theorem d68_7 : decode (ix_by 68) 7 = .ok (.newarray .byte, 2) := by decide +kernel
theorem d68_9 : decode (ix_by 68) 9 = .ok (.putfield 9, 3) := by decide +kernel
theorem d68_12 : decode (ix_by 68) 12 = .ok (.aload_n 0, 1) := by decide +kernel
theorem d68_13 : decode (ix_by 68) 13 = .ok (.iconst (-1), 1) := by decide +kernel
theorem d68_14 : decode (ix_by 68) 14 = .ok (.putfield 15, 3) := by decide +kernel
theorem d68_17 : decode (ix_by 68) 17 = .ok (.aload_n 0, 1) := by decide +kernel
theorem d68_18 : decode (ix_by 68) 18 = .ok (.aload_n 1, 1) := by decide +kernel
theorem d68_19 : decode (ix_by 68) 19 = .ok (.putfield 19, 3) := by decide +kernel
theorem d68_22 : decode (ix_by 68) 22 = .ok (.aload_n 0, 1) := by decide +kernel
theorem d68_23 : decode (ix_by 68) 23 = .ok (.aload_n 2, 1) := by decide +kernel
theorem d68_24 : decode (ix_by 68) 24 = .ok (.putfield 23, 3) := by decide +kernel
theorem d68_27 : decode (ix_by 68) 27 = .ok (.aload_n 0, 1) := by decide +kernel
theorem d68_28 : decode (ix_by 68) 28 = .ok (.aload_n 3, 1) := by decide +kernel
theorem d68_29 : decode (ix_by 68) 29 = .ok (.putfield 27, 3) := by decide +kernel
theorem d68_32 : decode (ix_by 68) 32 = .ok (.aload_n 0, 1) := by decide +kernel
theorem d68_33 : decode (ix_by 68) 33 = .ok (.iload 4, 2) := by decide +kernel
theorem d68_35 : decode (ix_by 68) 35 = .ok (.putfield 31, 3) := by decide +kernel
theorem d68_38 : decode (ix_by 68) 38 = .ok (.return_, 1) := by decide +kernel
theorem d69_0 : decode (ix_by 69) 0 = .ok (.aload_n 0, 1) := by decide +kernel
theorem d69_1 : decode (ix_by 69) 1 = .ok (.dup, 1) := by decide +kernel
theorem d69_2 : decode (ix_by 69) 2 = .ok (.getfield 63, 3) := by decide +kernel
theorem d69_5 : decode (ix_by 69) 5 = .ok (.iconst 1, 1) := by decide +kernel
theorem d69_6 : decode (ix_by 69) 6 = .ok (.iadd, 1) := by decide +kernel
theorem d69_7 : decode (ix_by 69) 7 = .ok (.putfield 63, 3) := by decide +kernel
theorem d69_10 : decode (ix_by 69) 10 = .ok (.aload_n 0, 1) := by decide +kernel
theorem d69_11 : decode (ix_by 69) 11 = .ok (.aload_n 1, 1) := by decide +kernel
theorem d69_12 : decode (ix_by 69) 12 = .ok (.aload_n 0, 1) := by decide +kernel
theorem d69_13 : decode (ix_by 69) 13 = .ok (.getfield 9, 3) := by decide +kernel
theorem d69_16 : decode (ix_by 69) 16 = .ok (.aload_n 0, 1) := by decide +kernel
theorem d69_17 : decode (ix_by 69) 17 = .ok (.getfield 48, 3) := by decide +kernel
theorem d69_20 : decode (ix_by 69) 20 = .ok (.invokevirtual 131, 3) := by decide +kernel
theorem d69_23 : decode (ix_by 69) 23 = .ok (.iconst 1, 1) := by decide +kernel
theorem d69_24 : decode (ix_by 69) 24 = .ok (.ireturn, 1) := by decide +kernel
theorem d70_0 : decode (ix_by 70) 0 = .ok (.iload_n 3, 1) := by decide +kernel
theorem d70_1 : decode (ix_by 70) 1 = .ok (.aload_n 2, 1) := by decide +kernel
theorem d70_2 : decode (ix_by 70) 2 = .ok (.arraylength, 1) := by decide +kernel
theorem d70_3 : decode (ix_by 70) 3 = .ok (.if_icmp .ne 8, 3) := by decide +kernel
theorem d70_6 : decode (ix_by 70) 6 = .ok (.aload_n 0, 1) := by decide +kernel
theorem d70_7 : decode (ix_by 70) 7 = .ok (.invokevirtual 129, 3) := by decide +kernel
theorem d70_10 : decode (ix_by 70) 10 = .ok (.astore_n 2, 1) := by decide +kernel
theorem d70_11 : decode (ix_by 70) 11 = .ok (.aload_n 2, 1) := by decide +kernel
theorem d70_12 : decode (ix_by 70) 12 = .ok (.iload_n 3, 1) := by decide +kernel
theorem d70_13 : decode (ix_by 70) 13 = .ok (.aload_n 1, 1) := by decide +kernel
theorem d70_14 : decode (ix_by 70) 14 = .ok (.aastore, 1) := by decide +kernel
theorem d70_15 : decode (ix_by 70) 15 = .ok (.aload_n 0, 1) := by decide +kernel
theorem d70_16 : decode (ix_by 70) 16 = .ok (.iload_n 3, 1) := by decide +kernel
theorem d70_17 : decode (ix_by 70) 17 = .ok (.iconst 1, 1) := by decide +kernel
theorem d70_18 : decode (ix_by 70) 18 = .ok (.iadd, 1) := by decide +kernel
theorem d70_19 : decode (ix_by 70) 19 = .ok (.putfield 48, 3) := by decide +kernel
theorem d70_22 : decode (ix_by 70) 22 = .ok (.return_, 1) := by decide +kernel
theorem d71_0 : decode (ix_by 71) 0 = .ok (.aload_n 0, 1) := by decide +kernel
theorem d71_1 : decode (ix_by 71) 1 = .ok (.aload_n 0, 1) := by decide +kernel
theorem d71_2 : decode (ix_by 71) 2 = .ok (.getfield 48, 3) := by decide +kernel
theorem d71_5 : decode (ix_by 71) 5 = .ok (.iconst 1, 1) := by decide +kernel
theorem d71_6 : decode (ix_by 71) 6 = .ok (.iadd, 1) := by decide +kernel
theorem d71_7 : decode (ix_by 71) 7 = .ok (.invokevirtual 69, 3) := by decide +kernel
theorem d71_10 : decode (ix_by 71) 10 = .ok (.areturn, 1) := by decide +kernel
theorem d72_0 : decode (ix_by 72) 0 = .ok (.aload_n 0, 1) := by decide +kernel
theorem d72_1 : decode (ix_by 72) 1 = .ok (.getfield 9, 3) := by decide +kernel
theorem d72_4 : decode (ix_by 72) 4 = .ok (.arraylength, 1) := by decide +kernel
theorem d72_5 : decode (ix_by 72) 5 = .ok (.istore_n 2, 1) := by decide +kernel
theorem d72_6 : decode (ix_by 72) 6 = .ok (.iload_n 2, 1) := by decide +kernel
theorem d72_7 : decode (ix_by 72) 7 = .ok (.ifCond .gt 13, 3) := by decide +kernel
theorem d72_10 : decode (ix_by 72) 10 = .ok (.aload_n 0, 1) := by decide +kernel
theorem d72_11 : decode (ix_by 72) 11 = .ok (.getfield 9, 3) := by decide +kernel
theorem d72_14 : decode (ix_by 72) 14 = .ok (.getstatic 39, 3) := by decide +kernel
theorem d72_17 : decode (ix_by 72) 17 = .ok (.if_acmp .eq 28, 3) := by decide +kernel
theorem d72_20 : decode (ix_by 72) 20 = .ok (.iload_n 2, 1) := by decide +kernel
theorem d72_21 : decode (ix_by 72) 21 = .ok (.iload_n 1, 1) := by decide +kernel
theorem d72_22 : decode (ix_by 72) 22 = .ok (.iload_n 2, 1) := by decide +kernel
theorem d72_23 : decode (ix_by 72) 23 = .ok (.isub, 1) := by decide +kernel
theorem d72_24 : decode (ix_by 72) 24 = .ok (.iload_n 2, 1) := by decide +kernel
theorem d72_25 : decode (ix_by 72) 25 = .ok (.iconst 1, 1) := by decide +kernel
theorem d72_26 : decode (ix_by 72) 26 = .ok (.ishr, 1) := by decide +kernel
theorem d72_27 : decode (ix_by 72) 27 = .ok (.invokestatic 73, 3) := by decide +kernel
theorem d72_30 : decode (ix_by 72) 30 = .ok (.istore_n 3, 1) := by decide +kernel
theorem d72_31 : decode (ix_by 72) 31 = .ok (.aload_n 0, 1) := by decide +kernel
theorem d72_32 : decode (ix_by 72) 32 = .ok (.aload_n 0, 1) := by decide +kernel
theorem d72_33 : decode (ix_by 72) 33 = .ok (.getfield 9, 3) := by decide +kernel
theorem d72_36 : decode (ix_by 72) 36 = .ok (.iload_n 3, 1) := by decide +kernel
theorem d72_37 : decode (ix_by 72) 37 = .ok (.invokestatic 66, 3) := by decide +kernel
theorem d72_40 : decode (ix_by 72) 40 = .ok (.dup_x1, 1) := by decide +kernel
theorem d72_41 : decode (ix_by 72) 41 = .ok (.putfield 9, 3) := by decide +kernel
theorem d72_44 : decode (ix_by 72) 44 = .ok (.areturn, 1) := by decide +kernel
theorem d72_45 : decode (ix_by 72) 45 = .ok (.aload_n 0, 1) := by decide +kernel
theorem d72_46 : decode (ix_by 72) 46 = .ok (.bipush 10, 2) := by decide +kernel
theorem d72_48 : decode (ix_by 72) 48 = .ok (.iload_n 1, 1) := by decide +kernel
theorem d72_49 : decode (ix_by 72) 49 = .ok (.invokestatic 79, 3) := by decide +kernel
theorem d72_52 : decode (ix_by 72) 52 = .ok (.anewarray 7, 3) := by decide +kernel
theorem d72_55 : decode (ix_by 72) 55 = .ok (.dup_x1, 1) := by decide +kernel
theorem d72_56 : decode (ix_by 72) 56 = .ok (.putfield 9, 3) := by decide +kernel
theorem d72_59 : decode (ix_by 72) 59 = .ok (.areturn, 1) := by decide +kernel
theorem d73_0 : decode (ix_by 73) 0 = .ok (.iload_n 0, 1) := by decide +kernel
theorem d73_1 : decode (ix_by 73) 1 = .ok (.iload_n 1, 1) := by decide +kernel
theorem d73_2 : decode (ix_by 73) 2 = .ok (.iload_n 2, 1) := by decide +kernel
theorem d73_3 : decode (ix_by 73) 3 = .ok (.invokestatic 194, 3) := by decide +kernel
theorem d73_6 : decode (ix_by 73) 6 = .ok (.iadd, 1) := by decide +kernel
theorem d73_7 : decode (ix_by 73) 7 = .ok (.istore_n 3, 1) := by decide +kernel
theorem d73_8 : decode (ix_by 73) 8 = .ok (.iconst 0, 1) := by decide +kernel
theorem d73_9 : decode (ix_by 73) 9 = .ok (.iload_n 3, 1) := by decide +kernel
theorem d73_10 : decode (ix_by 73) 10 = .ok (.if_icmp .ge 11, 3) := by decide +kernel
theorem d73_13 : decode (ix_by 73) 13 = .ok (.iload_n 3, 1) := by decide +kernel
theorem d73_14 : decode (ix_by 73) 14 = .ok (.ldc 200, 2) := by decide +kernel
theorem d73_16 : decode (ix_by 73) 16 = .ok (.if_icmp .gt 5, 3) := by decide +kernel
theorem d73_19 : decode (ix_by 73) 19 = .ok (.iload_n 3, 1) := by decide +kernel
theorem d73_20 : decode (ix_by 73) 20 = .ok (.ireturn, 1) := by decide +kernel
theorem d73_21 : decode (ix_by 73) 21 = .ok (.iload_n 0, 1) := by decide +kernel
theorem d73_22 : decode (ix_by 73) 22 = .ok (.iload_n 1, 1) := by decide +kernel
theorem d73_23 : decode (ix_by 73) 23 = .ok (.invokestatic 201, 3) := by decide +kernel
theorem d73_26 : decode (ix_by 73) 26 = .ok (.ireturn, 1) := by decide +kernel
theorem d74_0 : decode (ix_by 74) 0 = .ok (.iload_n 0, 1) := by decide +kernel
theorem d74_1 : decode (ix_by 74) 1 = .ok (.iload_n 1, 1) := by decide +kernel
theorem d74_2 : decode (ix_by 74) 2 = .ok (.if_icmp .lt 7, 3) := by decide +kernel
theorem d74_5 : decode (ix_by 74) 5 = .ok (.iload_n 0, 1) := by decide +kernel
theorem d74_6 : decode (ix_by 74) 6 = .ok (.goto 4, 3) := by decide +kernel
theorem d74_9 : decode (ix_by 74) 9 = .ok (.iload_n 1, 1) := by decide +kernel
theorem d74_10 : decode (ix_by 74) 10 = .ok (.ireturn, 1) := by decide +kernel
theorem d75_0 : decode (ix_by 75) 0 = .ok (.iload_n 0, 1) := by decide +kernel
theorem d75_1 : decode (ix_by 75) 1 = .ok (.iload_n 1, 1) := by decide +kernel
theorem d75_2 : decode (ix_by 75) 2 = .ok (.iadd, 1) := by decide +kernel
theorem d75_3 : decode (ix_by 75) 3 = .ok (.istore_n 2, 1) := by decide +kernel
theorem d75_4 : decode (ix_by 75) 4 = .ok (.iload_n 2, 1) := by decide +kernel
theorem d75_5 : decode (ix_by 75) 5 = .ok (.ifCond .ge 44, 3) := by decide +kernel
theorem d75_8 : decode (ix_by 75) 8 = .ok (.new 204, 3) := by decide +kernel
theorem d75_11 : decode (ix_by 75) 11 = .ok (.dup, 1) := by decide +kernel
theorem d75_12 : decode (ix_by 75) 12 = .ok (.new 89, 3) := by decide +kernel
theorem d75_15 : decode (ix_by 75) 15 = .ok (.dup, 1) := by decide +kernel
theorem d75_16 : decode (ix_by 75) 16 = .ok (.invokespecial 91, 3) := by decide +kernel
theorem d75_19 : decode (ix_by 75) 19 = .ok (.ldc 206, 2) := by decide +kernel
theorem d75_21 : decode (ix_by 75) 21 = .ok (.invokevirtual 94, 3) := by decide +kernel
theorem d75_24 : decode (ix_by 75) 24 = .ok (.iload_n 0, 1) := by decide +kernel
theorem d75_25 : decode (ix_by 75) 25 = .ok (.invokevirtual 98, 3) := by decide +kernel
theorem d75_28 : decode (ix_by 75) 28 = .ok (.ldc 208, 2) := by decide +kernel
theorem d75_30 : decode (ix_by 75) 30 = .ok (.invokevirtual 94, 3) := by decide +kernel
theorem d75_33 : decode (ix_by 75) 33 = .ok (.iload_n 1, 1) := by decide +kernel
theorem d75_34 : decode (ix_by 75) 34 = .ok (.invokevirtual 98, 3) := by decide +kernel
theorem d75_37 : decode (ix_by 75) 37 = .ok (.ldc 210, 2) := by decide +kernel
theorem d75_39 : decode (ix_by 75) 39 = .ok (.invokevirtual 94, 3) := by decide +kernel
theorem d75_42 : decode (ix_by 75) 42 = .ok (.invokevirtual 101, 3) := by decide +kernel
theorem d75_45 : decode (ix_by 75) 45 = .ok (.invokespecial 212, 3) := by decide +kernel
theorem d75_48 : decode (ix_by 75) 48 = .ok (.athrow, 1) := by decide +kernel
theorem d75_49 : decode (ix_by 75) 49 = .ok (.iload_n 2, 1) := by decide +kernel
theorem d75_50 : decode (ix_by 75) 50 = .ok (.ldc 200, 2) := by decide +kernel
theorem d75_52 : decode (ix_by 75) 52 = .ok (.if_icmp .gt 6, 3) := by decide +kernel
theorem d75_55 : decode (ix_by 75) 55 = .ok (.ldc 200, 2) := by decide +kernel
theorem d75_57 : decode (ix_by 75) 57 = .ok (.ireturn, 1) := by decide +kernel
theorem d75_58 : decode (ix_by 75) 58 = .ok (.iload_n 2, 1) := by decide +kernel
theorem d75_59 : decode (ix_by 75) 59 = .ok (.ireturn, 1) := by decide +kernel
end
section
/-! decode rows (written by wip/whole/gen4.py) -/
theorem d76_0 : decode (ix_by 76) 0 = .ok (.aload_n 0, 1) := by decide +kernel
theorem d76_1 : decode (ix_by 76) 1 = .ok (.iload_n 1, 1) := by decide +kernel
theorem d76_2 : decode (ix_by 76) 2 = .ok (.aload_n 0, 1) := by decide +kernel
theorem d76_3 : decode (ix_by 76) 3 = .ok (.invokevirtual 86, 3) := by decide +kernel
theorem d76_6 : decode (ix_by 76) 6 = .ok (.invokestatic 300, 3) := by decide +kernel
theorem d76_9 : decode (ix_by 76) 9 = .ok (.areturn, 1) := by decide +kernel
theorem d77_0 : decode (ix_by 77) 0 = .ok (.aload_n 2, 1) := by decide +kernel
theorem d77_1 : decode (ix_by 77) 1 = .ok (.ldc 110, 2) := by decide +kernel
theorem d77_3 : decode (ix_by 77) 3 = .ok (.if_acmp .ne 10, 3) := by decide +kernel
theorem d77_6 : decode (ix_by 77) 6 = .ok (.iload_n 1, 1) := by decide +kernel
theorem d77_7 : decode (ix_by 77) 7 = .ok (.anewarray 2, 3) := by decide +kernel
theorem d77_10 : decode (ix_by 77) 10 = .ok (.goto 14, 3) := by decide +kernel
theorem d77_13 : decode (ix_by 77) 13 = .ok (.aload_n 2, 1) := by decide +kernel
theorem d77_14 : decode (ix_by 77) 14 = .ok (.invokevirtual 90, 3) := by decide +kernel
theorem d77_17 : decode (ix_by 77) 17 = .ok (.iload_n 1, 1) := by decide +kernel
theorem d77_18 : decode (ix_by 77) 18 = .ok (.invokestatic 95, 3) := by decide +kernel
theorem d77_21 : decode (ix_by 77) 21 = .ok (.checkcast 110, 3) := by decide +kernel
theorem d77_24 : decode (ix_by 77) 24 = .ok (.astore_n 3, 1) := by decide +kernel
theorem d77_25 : decode (ix_by 77) 25 = .ok (.aload_n 0, 1) := by decide +kernel
theorem d77_26 : decode (ix_by 77) 26 = .ok (.iconst 0, 1) := by decide +kernel
theorem d77_27 : decode (ix_by 77) 27 = .ok (.aload_n 3, 1) := by decide +kernel
theorem d77_28 : decode (ix_by 77) 28 = .ok (.iconst 0, 1) := by decide +kernel
theorem d77_29 : decode (ix_by 77) 29 = .ok (.aload_n 0, 1) := by decide +kernel
theorem d77_30 : decode (ix_by 77) 30 = .ok (.arraylength, 1) := by decide +kernel
theorem d77_31 : decode (ix_by 77) 31 = .ok (.iload_n 1, 1) := by decide +kernel
theorem d77_32 : decode (ix_by 77) 32 = .ok (.invokestatic 304, 3) := by decide +kernel
theorem d77_35 : decode (ix_by 77) 35 = .ok (.invokestatic 150, 3) := by decide +kernel
theorem d77_38 : decode (ix_by 77) 38 = .ok (.aload_n 3, 1) := by decide +kernel
theorem d77_39 : decode (ix_by 77) 39 = .ok (.areturn, 1) := by decide +kernel
theorem d78_0 : decode (ix_by 78) 0 = .ok (.iload_n 0, 1) := by decide +kernel
theorem d78_1 : decode (ix_by 78) 1 = .ok (.iload_n 1, 1) := by decide +kernel
theorem d78_2 : decode (ix_by 78) 2 = .ok (.if_icmp .gt 7, 3) := by decide +kernel
theorem d78_5 : decode (ix_by 78) 5 = .ok (.iload_n 0, 1) := by decide +kernel
theorem d78_6 : decode (ix_by 78) 6 = .ok (.goto 4, 3) := by decide +kernel
theorem d78_9 : decode (ix_by 78) 9 = .ok (.iload_n 1, 1) := by decide +kernel
theorem d78_10 : decode (ix_by 78) 10 = .ok (.ireturn, 1) := by decide +kernel
theorem d79_0 : decode (ix_by 79) 0 = .ok (.aload_n 1, 1) := by decide +kernel
theorem d79_1 : decode (ix_by 79) 1 = .ok (.getfield 70, 3) := by decide +kernel
theorem d79_4 : decode (ix_by 79) 4 = .ok (.iconst 3, 1) := by decide +kernel
theorem d79_5 : decode (ix_by 79) 5 = .ok (.if_icmp .ne 20, 3) := by decide +kernel
theorem d79_8 : decode (ix_by 79) 8 = .ok (.aload_n 0, 1) := by decide +kernel
theorem d79_9 : decode (ix_by 79) 9 = .ok (.getfield 19, 3) := by decide +kernel
theorem d79_12 : decode (ix_by 79) 12 = .ok (.invokevirtual 52, 3) := by decide +kernel
theorem d79_15 : decode (ix_by 79) 15 = .ok (.ifCond .eq 10, 3) := by decide +kernel
theorem d79_18 : decode (ix_by 79) 18 = .ok (.aload_n 0, 1) := by decide +kernel
theorem d79_19 : decode (ix_by 79) 19 = .ok (.iconst 5, 1) := by decide +kernel
theorem d79_20 : decode (ix_by 79) 20 = .ok (.iconst 3, 1) := by decide +kernel
theorem d79_21 : decode (ix_by 79) 21 = .ok (.iconst 0, 1) := by decide +kernel
theorem d79_22 : decode (ix_by 79) 22 = .ok (.invokevirtual 75, 3) := by decide +kernel
theorem d79_25 : decode (ix_by 79) 25 = .ok (.aload_n 0, 1) := by decide +kernel
theorem d79_26 : decode (ix_by 79) 26 = .ok (.getfield 37, 3) := by decide +kernel
theorem d79_29 : decode (ix_by 79) 29 = .ok (.ifCond .ne 10, 3) := by decide +kernel
theorem d79_32 : decode (ix_by 79) 32 = .ok (.aload_n 0, 1) := by decide +kernel
theorem d79_33 : decode (ix_by 79) 33 = .ok (.invokevirtual 44, 3) := by decide +kernel
theorem d79_36 : decode (ix_by 79) 36 = .ok (.ifCond .eq 26, 3) := by decide +kernel
theorem d79_39 : decode (ix_by 79) 39 = .ok (.aload_n 0, 1) := by decide +kernel
theorem d79_40 : decode (ix_by 79) 40 = .ok (.dup, 1) := by decide +kernel
theorem d79_41 : decode (ix_by 79) 41 = .ok (.getfield 37, 3) := by decide +kernel
theorem d79_44 : decode (ix_by 79) 44 = .ok (.aload_n 1, 1) := by decide +kernel
theorem d79_45 : decode (ix_by 79) 45 = .ok (.getfield 70, 3) := by decide +kernel
theorem d79_48 : decode (ix_by 79) 48 = .ok (.iconst 5, 1) := by decide +kernel
theorem d79_49 : decode (ix_by 79) 49 = .ok (.if_icmp .ne 7, 3) := by decide +kernel
theorem d79_52 : decode (ix_by 79) 52 = .ok (.iconst 1, 1) := by decide +kernel
theorem d79_53 : decode (ix_by 79) 53 = .ok (.goto 4, 3) := by decide +kernel
theorem d79_56 : decode (ix_by 79) 56 = .ok (.iconst 0, 1) := by decide +kernel
theorem d79_57 : decode (ix_by 79) 57 = .ok (.ior, 1) := by decide +kernel
theorem d79_58 : decode (ix_by 79) 58 = .ok (.putfield 37, 3) := by decide +kernel
theorem d79_61 : decode (ix_by 79) 61 = .ok (.return_, 1) := by decide +kernel
theorem d79_62 : decode (ix_by 79) 62 = .ok (.aload_n 0, 1) := by decide +kernel
theorem d79_63 : decode (ix_by 79) 63 = .ok (.getfield 15, 3) := by decide +kernel
theorem d79_66 : decode (ix_by 79) 66 = .ok (.iconst (-1), 1) := by decide +kernel
theorem d79_67 : decode (ix_by 79) 67 = .ok (.if_icmp .ne 7, 3) := by decide +kernel
theorem d79_70 : decode (ix_by 79) 70 = .ok (.iconst 1, 1) := by decide +kernel
theorem d79_71 : decode (ix_by 79) 71 = .ok (.goto 4, 3) := by decide +kernel
theorem d79_74 : decode (ix_by 79) 74 = .ok (.iconst 0, 1) := by decide +kernel
theorem d79_75 : decode (ix_by 79) 75 = .ok (.istore_n 3, 1) := by decide +kernel
theorem d79_76 : decode (ix_by 79) 76 = .ok (.aload_n 0, 1) := by decide +kernel
theorem d79_77 : decode (ix_by 79) 77 = .ok (.aload_n 1, 1) := by decide +kernel
theorem d79_78 : decode (ix_by 79) 78 = .ok (.invokevirtual 79, 3) := by decide +kernel
theorem d79_81 : decode (ix_by 79) 81 = .ok (.aload_n 1, 1) := by decide +kernel
theorem d79_82 : decode (ix_by 79) 82 = .ok (.getfield 70, 3) := by decide +kernel
theorem d79_85 : decode (ix_by 79) 85 = .ok (.iconst 3, 1) := by decide +kernel
theorem d79_86 : decode (ix_by 79) 86 = .ok (.if_icmp .ne 20, 3) := by decide +kernel
theorem d79_89 : decode (ix_by 79) 89 = .ok (.aload_n 1, 1) := by decide +kernel
theorem d79_90 : decode (ix_by 79) 90 = .ok (.getfield 83, 3) := by decide +kernel
theorem d79_93 : decode (ix_by 79) 93 = .ok (.iconst (-1), 1) := by decide +kernel
theorem d79_94 : decode (ix_by 79) 94 = .ok (.if_icmp .ne 12, 3) := by decide +kernel
theorem d79_97 : decode (ix_by 79) 97 = .ok (.aload_n 0, 1) := by decide +kernel
theorem d79_98 : decode (ix_by 79) 98 = .ok (.iconst 2, 1) := by decide +kernel
theorem d79_99 : decode (ix_by 79) 99 = .ok (.iload_n 2, 1) := by decide +kernel
theorem d79_100 : decode (ix_by 79) 100 = .ok (.invokevirtual 64, 3) := by decide +kernel
theorem d79_103 : decode (ix_by 79) 103 = .ok (.goto 47, 3) := by decide +kernel
theorem d79_106 : decode (ix_by 79) 106 = .ok (.aload_n 0, 1) := by decide +kernel
theorem d79_107 : decode (ix_by 79) 107 = .ok (.getfield 15, 3) := by decide +kernel
theorem d79_110 : decode (ix_by 79) 110 = .ok (.iconst (-1), 1) := by decide +kernel
theorem d79_111 : decode (ix_by 79) 111 = .ok (.if_icmp .ne 11, 3) := by decide +kernel
theorem d79_114 : decode (ix_by 79) 114 = .ok (.aload_n 0, 1) := by decide +kernel
theorem d79_115 : decode (ix_by 79) 115 = .ok (.iload_n 2, 1) := by decide +kernel
theorem d79_116 : decode (ix_by 79) 116 = .ok (.putfield 41, 3) := by decide +kernel
theorem d79_119 : decode (ix_by 79) 119 = .ok (.goto 31, 3) := by decide +kernel
theorem d79_122 : decode (ix_by 79) 122 = .ok (.aload_n 0, 1) := by decide +kernel
theorem d79_123 : decode (ix_by 79) 123 = .ok (.invokevirtual 86, 3) := by decide +kernel
theorem d79_126 : decode (ix_by 79) 126 = .ok (.ifCond .eq 15, 3) := by decide +kernel
theorem d79_129 : decode (ix_by 79) 129 = .ok (.aload_n 0, 1) := by decide +kernel
theorem d79_130 : decode (ix_by 79) 130 = .ok (.aload_n 0, 1) := by decide +kernel
theorem d79_131 : decode (ix_by 79) 131 = .ok (.invokevirtual 89, 3) := by decide +kernel
theorem d79_134 : decode (ix_by 79) 134 = .ok (.iload_n 2, 1) := by decide +kernel
theorem d79_135 : decode (ix_by 79) 135 = .ok (.invokevirtual 64, 3) := by decide +kernel
theorem d79_138 : decode (ix_by 79) 138 = .ok (.goto 12, 3) := by decide +kernel
theorem d79_141 : decode (ix_by 79) 141 = .ok (.iload_n 3, 1) := by decide +kernel
theorem d79_142 : decode (ix_by 79) 142 = .ok (.ifCond .eq 8, 3) := by decide +kernel
theorem d79_145 : decode (ix_by 79) 145 = .ok (.aload_n 0, 1) := by decide +kernel
theorem d79_146 : decode (ix_by 79) 146 = .ok (.iload_n 2, 1) := by decide +kernel
theorem d79_147 : decode (ix_by 79) 147 = .ok (.invokevirtual 93, 3) := by decide +kernel
theorem d79_150 : decode (ix_by 79) 150 = .ok (.return_, 1) := by decide +kernel
theorem d80_0 : decode (ix_by 80) 0 = .ok (.aload_n 1, 1) := by decide +kernel
theorem d80_1 : decode (ix_by 80) 1 = .ok (.getfield 70, 3) := by decide +kernel
theorem d80_4 : decode (ix_by 80) 4 = .ok (.iconst 1, 1) := by decide +kernel
theorem d80_5 : decode (ix_by 80) 5 = .ok (.if_icmp .ne 11, 3) := by decide +kernel
theorem d80_8 : decode (ix_by 80) 8 = .ok (.aload_n 0, 1) := by decide +kernel
theorem d80_9 : decode (ix_by 80) 9 = .ok (.iconst 1, 1) := by decide +kernel
theorem d80_10 : decode (ix_by 80) 10 = .ok (.putfield 96, 3) := by decide +kernel
theorem d80_13 : decode (ix_by 80) 13 = .ok (.goto 59, 3) := by decide +kernel
theorem d80_16 : decode (ix_by 80) 16 = .ok (.aload_n 1, 1) := by decide +kernel
theorem d80_17 : decode (ix_by 80) 17 = .ok (.getfield 70, 3) := by decide +kernel
theorem d80_20 : decode (ix_by 80) 20 = .ok (.iconst 2, 1) := by decide +kernel
theorem d80_21 : decode (ix_by 80) 21 = .ok (.if_icmp .ne 11, 3) := by decide +kernel
theorem d80_24 : decode (ix_by 80) 24 = .ok (.aload_n 0, 1) := by decide +kernel
theorem d80_25 : decode (ix_by 80) 25 = .ok (.aload_n 1, 1) := by decide +kernel
theorem d80_26 : decode (ix_by 80) 26 = .ok (.invokevirtual 99, 3) := by decide +kernel
theorem d80_29 : decode (ix_by 80) 29 = .ok (.goto 43, 3) := by decide +kernel
theorem d80_32 : decode (ix_by 80) 32 = .ok (.aload_n 1, 1) := by decide +kernel
theorem d80_33 : decode (ix_by 80) 33 = .ok (.getfield 70, 3) := by decide +kernel
theorem d80_36 : decode (ix_by 80) 36 = .ok (.iconst 3, 1) := by decide +kernel
theorem d80_37 : decode (ix_by 80) 37 = .ok (.if_icmp .ne 35, 3) := by decide +kernel
theorem d80_40 : decode (ix_by 80) 40 = .ok (.aload_n 0, 1) := by decide +kernel
theorem d80_41 : decode (ix_by 80) 41 = .ok (.getfield 15, 3) := by decide +kernel
theorem d80_44 : decode (ix_by 80) 44 = .ok (.iconst (-1), 1) := by decide +kernel
theorem d80_45 : decode (ix_by 80) 45 = .ok (.if_icmp .ne 27, 3) := by decide +kernel
theorem d80_48 : decode (ix_by 80) 48 = .ok (.aload_n 1, 1) := by decide +kernel
theorem d80_49 : decode (ix_by 80) 49 = .ok (.getfield 83, 3) := by decide +kernel
theorem d80_52 : decode (ix_by 80) 52 = .ok (.iconst (-1), 1) := by decide +kernel
theorem d80_53 : decode (ix_by 80) 53 = .ok (.if_icmp .eq 19, 3) := by decide +kernel
theorem d80_56 : decode (ix_by 80) 56 = .ok (.aload_n 0, 1) := by decide +kernel
theorem d80_57 : decode (ix_by 80) 57 = .ok (.aload_n 1, 1) := by decide +kernel
theorem d80_58 : decode (ix_by 80) 58 = .ok (.getfield 83, 3) := by decide +kernel
theorem d80_61 : decode (ix_by 80) 61 = .ok (.putfield 15, 3) := by decide +kernel
theorem d80_64 : decode (ix_by 80) 64 = .ok (.aload_n 0, 1) := by decide +kernel
theorem d80_65 : decode (ix_by 80) 65 = .ok (.aload_n 1, 1) := by decide +kernel
theorem d80_66 : decode (ix_by 80) 66 = .ok (.getfield 102, 3) := by decide +kernel
theorem d80_69 : decode (ix_by 80) 69 = .ok (.putfield 105, 3) := by decide +kernel
theorem d80_72 : decode (ix_by 80) 72 = .ok (.return_, 1) := by decide +kernel
theorem d81_0 : decode (ix_by 81) 0 = .ok (.aload_n 1, 1) := by decide +kernel
theorem d81_1 : decode (ix_by 81) 1 = .ok (.getfield 83, 3) := by decide +kernel
theorem d81_4 : decode (ix_by 81) 4 = .ok (.istore_n 2, 1) := by decide +kernel
theorem d81_5 : decode (ix_by 81) 5 = .ok (.iload_n 2, 1) := by decide +kernel
theorem d81_6 : decode (ix_by 81) 6 = .ok (.ifCond .lt 20, 3) := by decide +kernel
theorem d81_9 : decode (ix_by 81) 9 = .ok (.iload_n 2, 1) := by decide +kernel
theorem d81_10 : decode (ix_by 81) 10 = .ok (.bipush 16, 2) := by decide +kernel
theorem d81_12 : decode (ix_by 81) 12 = .ok (.if_icmp .ge 14, 3) := by decide +kernel
theorem d81_15 : decode (ix_by 81) 15 = .ok (.aload_n 0, 1) := by decide +kernel
theorem d81_16 : decode (ix_by 81) 16 = .ok (.getfield 108, 3) := by decide +kernel
theorem d81_19 : decode (ix_by 81) 19 = .ok (.iconst 1, 1) := by decide +kernel
theorem d81_20 : decode (ix_by 81) 20 = .ok (.iload_n 2, 1) := by decide +kernel
theorem d81_21 : decode (ix_by 81) 21 = .ok (.ishl, 1) := by decide +kernel
theorem d81_22 : decode (ix_by 81) 22 = .ok (.iand, 1) := by decide +kernel
theorem d81_23 : decode (ix_by 81) 23 = .ok (.ifCond .eq 4, 3) := by decide +kernel
theorem d81_26 : decode (ix_by 81) 26 = .ok (.return_, 1) := by decide +kernel
theorem d81_27 : decode (ix_by 81) 27 = .ok (.aload_n 0, 1) := by decide +kernel
theorem d81_28 : decode (ix_by 81) 28 = .ok (.dup, 1) := by decide +kernel
theorem d81_29 : decode (ix_by 81) 29 = .ok (.getfield 108, 3) := by decide +kernel
theorem d81_32 : decode (ix_by 81) 32 = .ok (.iconst 1, 1) := by decide +kernel
theorem d81_33 : decode (ix_by 81) 33 = .ok (.iload_n 2, 1) := by decide +kernel
theorem d81_34 : decode (ix_by 81) 34 = .ok (.ishl, 1) := by decide +kernel
theorem d81_35 : decode (ix_by 81) 35 = .ok (.ior, 1) := by decide +kernel
theorem d81_36 : decode (ix_by 81) 36 = .ok (.putfield 108, 3) := by decide +kernel
theorem d81_39 : decode (ix_by 81) 39 = .ok (.iconst 0, 1) := by decide +kernel
theorem d81_40 : decode (ix_by 81) 40 = .ok (.istore_n 3, 1) := by decide +kernel
theorem d81_41 : decode (ix_by 81) 41 = .ok (.iload_n 3, 1) := by decide +kernel
theorem d81_42 : decode (ix_by 81) 42 = .ok (.aload_n 1, 1) := by decide +kernel
theorem d81_43 : decode (ix_by 81) 43 = .ok (.getfield 111, 3) := by decide +kernel
theorem d81_46 : decode (ix_by 81) 46 = .ok (.if_icmp .ge 34, 3) := by decide +kernel
theorem d81_49 : decode (ix_by 81) 49 = .ok (.iload_n 3, 1) := by decide +kernel
theorem d81_50 : decode (ix_by 81) 50 = .ok (.iconst 4, 1) := by decide +kernel
theorem d81_51 : decode (ix_by 81) 51 = .ok (.if_icmp .ge 29, 3) := by decide +kernel
theorem d81_54 : decode (ix_by 81) 54 = .ok (.aload_n 0, 1) := by decide +kernel
theorem d81_55 : decode (ix_by 81) 55 = .ok (.getfield 9, 3) := by decide +kernel
theorem d81_58 : decode (ix_by 81) 58 = .ok (.iload_n 2, 1) := by decide +kernel
theorem d81_59 : decode (ix_by 81) 59 = .ok (.iconst 4, 1) := by decide +kernel
theorem d81_60 : decode (ix_by 81) 60 = .ok (.imul, 1) := by decide +kernel
theorem d81_61 : decode (ix_by 81) 61 = .ok (.iload_n 3, 1) := by decide +kernel
theorem d81_62 : decode (ix_by 81) 62 = .ok (.iadd, 1) := by decide +kernel
theorem d81_63 : decode (ix_by 81) 63 = .ok (.aload_n 1, 1) := by decide +kernel
theorem d81_64 : decode (ix_by 81) 64 = .ok (.getfield 102, 3) := by decide +kernel
theorem d81_67 : decode (ix_by 81) 67 = .ok (.bipush 8, 2) := by decide +kernel
theorem d81_69 : decode (ix_by 81) 69 = .ok (.iload_n 3, 1) := by decide +kernel
theorem d81_70 : decode (ix_by 81) 70 = .ok (.imul, 1) := by decide +kernel
theorem d81_71 : decode (ix_by 81) 71 = .ok (.ishr, 1) := by decide +kernel
theorem d81_72 : decode (ix_by 81) 72 = .ok (.i2b, 1) := by decide +kernel
theorem d81_73 : decode (ix_by 81) 73 = .ok (.bastore, 1) := by decide +kernel
theorem d81_74 : decode (ix_by 81) 74 = .ok (.iinc 3 1, 3) := by decide +kernel
theorem d81_77 : decode (ix_by 81) 77 = .ok (.goto (-36), 3) := by decide +kernel
theorem d81_80 : decode (ix_by 81) 80 = .ok (.return_, 1) := by decide +kernel
theorem d82_0 : decode (ix_by 82) 0 = .ok (.aload_n 0, 1) := by decide +kernel
theorem d82_1 : decode (ix_by 82) 1 = .ok (.getfield 96, 3) := by decide +kernel
theorem d82_4 : decode (ix_by 82) 4 = .ok (.ifCond .eq 14, 3) := by decide +kernel
theorem d82_7 : decode (ix_by 82) 7 = .ok (.aload_n 0, 1) := by decide +kernel
theorem d82_8 : decode (ix_by 82) 8 = .ok (.invokevirtual 118, 3) := by decide +kernel
theorem d82_11 : decode (ix_by 82) 11 = .ok (.ifCond .ne 7, 3) := by decide +kernel
theorem d82_14 : decode (ix_by 82) 14 = .ok (.iconst 1, 1) := by decide +kernel
theorem d82_15 : decode (ix_by 82) 15 = .ok (.goto 4, 3) := by decide +kernel
theorem d82_18 : decode (ix_by 82) 18 = .ok (.iconst 0, 1) := by decide +kernel
theorem d82_19 : decode (ix_by 82) 19 = .ok (.ireturn, 1) := by decide +kernel
theorem d83_0 : decode (ix_by 83) 0 = .ok (.aload_n 0, 1) := by decide +kernel
theorem d83_1 : decode (ix_by 83) 1 = .ok (.getfield 9, 3) := by decide +kernel
theorem d83_4 : decode (ix_by 83) 4 = .ok (.aload_n 0, 1) := by decide +kernel
theorem d83_5 : decode (ix_by 83) 5 = .ok (.getfield 15, 3) := by decide +kernel
theorem d83_8 : decode (ix_by 83) 8 = .ok (.invokestatic 121, 3) := by decide +kernel
theorem d83_11 : decode (ix_by 83) 11 = .ok (.aload_n 0, 1) := by decide +kernel
theorem d83_12 : decode (ix_by 83) 12 = .ok (.getfield 105, 3) := by decide +kernel
theorem d83_15 : decode (ix_by 83) 15 = .ok (.if_icmp .eq 5, 3) := by decide +kernel
theorem d83_18 : decode (ix_by 83) 18 = .ok (.iconst 3, 1) := by decide +kernel
theorem d83_19 : decode (ix_by 83) 19 = .ok (.ireturn, 1) := by decide +kernel
theorem d83_20 : decode (ix_by 83) 20 = .ok (.aload_n 0, 1) := by decide +kernel
theorem d83_21 : decode (ix_by 83) 21 = .ok (.getfield 23, 3) := by decide +kernel
theorem d83_24 : decode (ix_by 83) 24 = .ok (.aload_n 0, 1) := by decide +kernel
theorem d83_25 : decode (ix_by 83) 25 = .ok (.getfield 19, 3) := by decide +kernel
theorem d83_28 : decode (ix_by 83) 28 = .ok (.getfield 125, 3) := by decide +kernel
theorem d83_31 : decode (ix_by 83) 31 = .ok (.invokevirtual 128, 3) := by decide +kernel
theorem d83_34 : decode (ix_by 83) 34 = .ok (.ifCond .eq 5, 3) := by decide +kernel
theorem d83_37 : decode (ix_by 83) 37 = .ok (.iconst 4, 1) := by decide +kernel
theorem d83_38 : decode (ix_by 83) 38 = .ok (.ireturn, 1) := by decide +kernel
theorem d83_39 : decode (ix_by 83) 39 = .ok (.aload_n 0, 1) := by decide +kernel
theorem d83_40 : decode (ix_by 83) 40 = .ok (.getfield 23, 3) := by decide +kernel
theorem d83_43 : decode (ix_by 83) 43 = .ok (.getfield 134, 3) := by decide +kernel
theorem d83_46 : decode (ix_by 83) 46 = .ok (.aload_n 0, 1) := by decide +kernel
theorem d83_47 : decode (ix_by 83) 47 = .ok (.getfield 19, 3) := by decide +kernel
theorem d83_50 : decode (ix_by 83) 50 = .ok (.getfield 125, 3) := by decide +kernel
theorem d83_53 : decode (ix_by 83) 53 = .ok (.aload_n 0, 1) := by decide +kernel
theorem d83_54 : decode (ix_by 83) 54 = .ok (.getfield 9, 3) := by decide +kernel
theorem d83_57 : decode (ix_by 83) 57 = .ok (.aload_n 0, 1) := by decide +kernel
theorem d83_58 : decode (ix_by 83) 58 = .ok (.getfield 15, 3) := by decide +kernel
theorem d83_61 : decode (ix_by 83) 61 = .ok (.invokevirtual 138, 3) := by decide +kernel
theorem d83_64 : decode (ix_by 83) 64 = .ok (.aload_n 0, 1) := by decide +kernel
theorem d83_65 : decode (ix_by 83) 65 = .ok (.getfield 19, 3) := by decide +kernel
theorem d83_68 : decode (ix_by 83) 68 = .ok (.getfield 144, 3) := by decide +kernel
theorem d83_71 : decode (ix_by 83) 71 = .ok (.ifCond .eq 19, 3) := by decide +kernel
theorem d83_74 : decode (ix_by 83) 74 = .ok (.aload_n 0, 1) := by decide +kernel
theorem d83_75 : decode (ix_by 83) 75 = .ok (.aload_n 0, 1) := by decide +kernel
theorem d83_76 : decode (ix_by 83) 76 = .ok (.invokevirtual 147, 3) := by decide +kernel
theorem d83_79 : decode (ix_by 83) 79 = .ok (.ifCond .eq 7, 3) := by decide +kernel
theorem d83_82 : decode (ix_by 83) 82 = .ok (.iconst 1, 1) := by decide +kernel
theorem d83_83 : decode (ix_by 83) 83 = .ok (.goto 4, 3) := by decide +kernel
theorem d83_86 : decode (ix_by 83) 86 = .ok (.iconst 2, 1) := by decide +kernel
theorem d83_87 : decode (ix_by 83) 87 = .ok (.putfield 150, 3) := by decide +kernel
theorem d83_90 : decode (ix_by 83) 90 = .ok (.iconst 1, 1) := by decide +kernel
theorem d83_91 : decode (ix_by 83) 91 = .ok (.ireturn, 1) := by decide +kernel
theorem d84_0 : decode (ix_by 84) 0 = .ok (.iconst 0, 1) := by decide +kernel
theorem d84_1 : decode (ix_by 84) 1 = .ok (.istore_n 2, 1) := by decide +kernel
theorem d84_2 : decode (ix_by 84) 2 = .ok (.iload_n 2, 1) := by decide +kernel
theorem d84_3 : decode (ix_by 84) 3 = .ok (.aload_n 0, 1) := by decide +kernel
theorem d84_4 : decode (ix_by 84) 4 = .ok (.getfield 23, 3) := by decide +kernel
theorem d84_7 : decode (ix_by 84) 7 = .ok (.invokevirtual 33, 3) := by decide +kernel
theorem d84_10 : decode (ix_by 84) 10 = .ok (.if_icmp .ge 32, 3) := by decide +kernel
theorem d84_13 : decode (ix_by 84) 13 = .ok (.aload_n 0, 1) := by decide +kernel
theorem d84_14 : decode (ix_by 84) 14 = .ok (.getfield 23, 3) := by decide +kernel
theorem d84_17 : decode (ix_by 84) 17 = .ok (.iload_n 2, 1) := by decide +kernel
theorem d84_18 : decode (ix_by 84) 18 = .ok (.invokevirtual 37, 3) := by decide +kernel
theorem d84_21 : decode (ix_by 84) 21 = .ok (.checkcast 41, 3) := by decide +kernel
theorem d84_24 : decode (ix_by 84) 24 = .ok (.getfield 43, 3) := by decide +kernel
theorem d84_27 : decode (ix_by 84) 27 = .ok (.getfield 47, 3) := by decide +kernel
theorem d84_30 : decode (ix_by 84) 30 = .ok (.iload_n 1, 1) := by decide +kernel
theorem d84_31 : decode (ix_by 84) 31 = .ok (.if_icmp .ne 5, 3) := by decide +kernel
theorem d84_34 : decode (ix_by 84) 34 = .ok (.iconst 1, 1) := by decide +kernel
theorem d84_35 : decode (ix_by 84) 35 = .ok (.ireturn, 1) := by decide +kernel
theorem d84_36 : decode (ix_by 84) 36 = .ok (.iinc 2 1, 3) := by decide +kernel
theorem d84_39 : decode (ix_by 84) 39 = .ok (.goto (-37), 3) := by decide +kernel
theorem d84_42 : decode (ix_by 84) 42 = .ok (.iconst 0, 1) := by decide +kernel
theorem d84_43 : decode (ix_by 84) 43 = .ok (.ireturn, 1) := by decide +kernel
theorem d85_0 : decode (ix_by 85) 0 = .ok (.aload_n 2, 1) := by decide +kernel
theorem d85_1 : decode (ix_by 85) 1 = .ok (.iconst 0, 1) := by decide +kernel
theorem d85_2 : decode (ix_by 85) 2 = .ok (.aload_n 0, 1) := by decide +kernel
theorem d85_3 : decode (ix_by 85) 3 = .ok (.getfield 11, 3) := by decide +kernel
theorem d85_6 : decode (ix_by 85) 6 = .ok (.iload_n 1, 1) := by decide +kernel
theorem d85_7 : decode (ix_by 85) 7 = .ok (.aaload, 1) := by decide +kernel
theorem d85_8 : decode (ix_by 85) 8 = .ok (.iconst 0, 1) := by decide +kernel
theorem d85_9 : decode (ix_by 85) 9 = .ok (.iload_n 3, 1) := by decide +kernel
theorem d85_10 : decode (ix_by 85) 10 = .ok (.invokestatic 31, 3) := by decide +kernel
theorem d85_13 : decode (ix_by 85) 13 = .ok (.aload_n 0, 1) := by decide +kernel
theorem d85_14 : decode (ix_by 85) 14 = .ok (.getfield 16, 3) := by decide +kernel
theorem d85_17 : decode (ix_by 85) 17 = .ok (.iload_n 1, 1) := by decide +kernel
theorem d85_18 : decode (ix_by 85) 18 = .ok (.iload_n 3, 1) := by decide +kernel
theorem d85_19 : decode (ix_by 85) 19 = .ok (.iastore, 1) := by decide +kernel
theorem d85_20 : decode (ix_by 85) 20 = .ok (.return_, 1) := by decide +kernel
theorem d86_0 : decode (ix_by 86) 0 = .ok (.aload_n 0, 1) := by decide +kernel
theorem d86_1 : decode (ix_by 86) 1 = .ok (.getfield 23, 3) := by decide +kernel
theorem d86_4 : decode (ix_by 86) 4 = .ok (.aload_n 0, 1) := by decide +kernel
theorem d86_5 : decode (ix_by 86) 5 = .ok (.getfield 19, 3) := by decide +kernel
theorem d86_8 : decode (ix_by 86) 8 = .ok (.getfield 153, 3) := by decide +kernel
theorem d86_11 : decode (ix_by 86) 11 = .ok (.invokevirtual 128, 3) := by decide +kernel
theorem d86_14 : decode (ix_by 86) 14 = .ok (.ifCond .eq 5, 3) := by decide +kernel
theorem d86_17 : decode (ix_by 86) 17 = .ok (.iconst 0, 1) := by decide +kernel
theorem d86_18 : decode (ix_by 86) 18 = .ok (.ireturn, 1) := by decide +kernel
theorem d86_19 : decode (ix_by 86) 19 = .ok (.aload_n 0, 1) := by decide +kernel
theorem d86_20 : decode (ix_by 86) 20 = .ok (.getfield 19, 3) := by decide +kernel
theorem d86_23 : decode (ix_by 86) 23 = .ok (.getfield 144, 3) := by decide +kernel
theorem d86_26 : decode (ix_by 86) 26 = .ok (.iconst 2, 1) := by decide +kernel
theorem d86_27 : decode (ix_by 86) 27 = .ok (.if_icmp .ne 29, 3) := by decide +kernel
theorem d86_30 : decode (ix_by 86) 30 = .ok (.aload_n 0, 1) := by decide +kernel
theorem d86_31 : decode (ix_by 86) 31 = .ok (.getfield 23, 3) := by decide +kernel
theorem d86_34 : decode (ix_by 86) 34 = .ok (.getfield 134, 3) := by decide +kernel
theorem d86_37 : decode (ix_by 86) 37 = .ok (.aload_n 0, 1) := by decide +kernel
theorem d86_38 : decode (ix_by 86) 38 = .ok (.getfield 19, 3) := by decide +kernel
theorem d86_41 : decode (ix_by 86) 41 = .ok (.getfield 125, 3) := by decide +kernel
theorem d86_44 : decode (ix_by 86) 44 = .ok (.aload_n 0, 1) := by decide +kernel
theorem d86_45 : decode (ix_by 86) 45 = .ok (.getfield 19, 3) := by decide +kernel
theorem d86_48 : decode (ix_by 86) 48 = .ok (.getfield 153, 3) := by decide +kernel
theorem d86_51 : decode (ix_by 86) 51 = .ok (.invokevirtual 156, 3) := by decide +kernel
theorem d86_54 : decode (ix_by 86) 54 = .ok (.iconst 1, 1) := by decide +kernel
theorem d86_55 : decode (ix_by 86) 55 = .ok (.ireturn, 1) := by decide +kernel
theorem d86_56 : decode (ix_by 86) 56 = .ok (.aload_n 0, 1) := by decide +kernel
theorem d86_57 : decode (ix_by 86) 57 = .ok (.getfield 19, 3) := by decide +kernel
theorem d86_60 : decode (ix_by 86) 60 = .ok (.getfield 144, 3) := by decide +kernel
theorem d86_63 : decode (ix_by 86) 63 = .ok (.iconst 1, 1) := by decide +kernel
theorem d86_64 : decode (ix_by 86) 64 = .ok (.if_icmp .ne 23, 3) := by decide +kernel
theorem d86_67 : decode (ix_by 86) 67 = .ok (.aload_n 0, 1) := by decide +kernel
theorem d86_68 : decode (ix_by 86) 68 = .ok (.getfield 23, 3) := by decide +kernel
theorem d86_71 : decode (ix_by 86) 71 = .ok (.getfield 134, 3) := by decide +kernel
theorem d86_74 : decode (ix_by 86) 74 = .ok (.aload_n 0, 1) := by decide +kernel
theorem d86_75 : decode (ix_by 86) 75 = .ok (.getfield 19, 3) := by decide +kernel
theorem d86_78 : decode (ix_by 86) 78 = .ok (.getfield 153, 3) := by decide +kernel
theorem d86_81 : decode (ix_by 86) 81 = .ok (.invokevirtual 159, 3) := by decide +kernel
theorem d86_84 : decode (ix_by 86) 84 = .ok (.ifCond .ne 5, 3) := by decide +kernel
theorem d86_87 : decode (ix_by 86) 87 = .ok (.iconst 0, 1) := by decide +kernel
theorem d86_88 : decode (ix_by 86) 88 = .ok (.ireturn, 1) := by decide +kernel
theorem d86_89 : decode (ix_by 86) 89 = .ok (.aload_n 0, 1) := by decide +kernel
theorem d86_90 : decode (ix_by 86) 90 = .ok (.getfield 23, 3) := by decide +kernel
theorem d86_93 : decode (ix_by 86) 93 = .ok (.getfield 134, 3) := by decide +kernel
theorem d86_96 : decode (ix_by 86) 96 = .ok (.aload_n 0, 1) := by decide +kernel
theorem d86_97 : decode (ix_by 86) 97 = .ok (.getfield 19, 3) := by decide +kernel
theorem d86_100 : decode (ix_by 86) 100 = .ok (.getfield 153, 3) := by decide +kernel
theorem d86_103 : decode (ix_by 86) 103 = .ok (.invokevirtual 162, 3) := by decide +kernel
theorem d86_106 : decode (ix_by 86) 106 = .ok (.iconst 1, 1) := by decide +kernel
theorem d86_107 : decode (ix_by 86) 107 = .ok (.ireturn, 1) := by decide +kernel
theorem d87_0 : decode (ix_by 87) 0 = .ok (.aload_n 0, 1) := by decide +kernel
theorem d87_1 : decode (ix_by 87) 1 = .ok (.iload_n 2, 1) := by decide +kernel
theorem d87_2 : decode (ix_by 87) 2 = .ok (.aload_n 0, 1) := by decide +kernel
theorem d87_3 : decode (ix_by 87) 3 = .ok (.getfield 11, 3) := by decide +kernel
theorem d87_6 : decode (ix_by 87) 6 = .ok (.iload_n 1, 1) := by decide +kernel
theorem d87_7 : decode (ix_by 87) 7 = .ok (.aaload, 1) := by decide +kernel
theorem d87_8 : decode (ix_by 87) 8 = .ok (.aload_n 0, 1) := by decide +kernel
theorem d87_9 : decode (ix_by 87) 9 = .ok (.getfield 16, 3) := by decide +kernel
theorem d87_12 : decode (ix_by 87) 12 = .ok (.iload_n 1, 1) := by decide +kernel
theorem d87_13 : decode (ix_by 87) 13 = .ok (.iaload, 1) := by decide +kernel
theorem d87_14 : decode (ix_by 87) 14 = .ok (.invokevirtual 37, 3) := by decide +kernel
theorem d87_17 : decode (ix_by 87) 17 = .ok (.return_, 1) := by decide +kernel
theorem d88_0 : decode (ix_by 88) 0 = .ok (.aload_n 0, 1) := by decide +kernel
theorem d88_1 : decode (ix_by 88) 1 = .ok (.getfield 16, 3) := by decide +kernel
theorem d88_4 : decode (ix_by 88) 4 = .ok (.iload_n 1, 1) := by decide +kernel
theorem d88_5 : decode (ix_by 88) 5 = .ok (.iconst (-1), 1) := by decide +kernel
theorem d88_6 : decode (ix_by 88) 6 = .ok (.iastore, 1) := by decide +kernel
theorem d88_7 : decode (ix_by 88) 7 = .ok (.return_, 1) := by decide +kernel
theorem d89_0 : decode (ix_by 89) 0 = .ok (.aload_n 0, 1) := by decide +kernel
theorem d89_1 : decode (ix_by 89) 1 = .ok (.iload_n 1, 1) := by decide +kernel
theorem d89_2 : decode (ix_by 89) 2 = .ok (.putfield 41, 3) := by decide +kernel
theorem d89_5 : decode (ix_by 89) 5 = .ok (.aload_n 0, 1) := by decide +kernel
theorem d89_6 : decode (ix_by 89) 6 = .ok (.getfield 19, 3) := by decide +kernel
theorem d89_9 : decode (ix_by 89) 9 = .ok (.invokevirtual 52, 3) := by decide +kernel
theorem d89_12 : decode (ix_by 89) 12 = .ok (.ifCond .eq 8, 3) := by decide +kernel
theorem d89_15 : decode (ix_by 89) 15 = .ok (.aload_n 0, 1) := by decide +kernel
theorem d89_16 : decode (ix_by 89) 16 = .ok (.iload_n 1, 1) := by decide +kernel
theorem d89_17 : decode (ix_by 89) 17 = .ok (.invokevirtual 60, 3) := by decide +kernel
theorem d89_20 : decode (ix_by 89) 20 = .ok (.return_, 1) := by decide +kernel
theorem d90_0 : decode (ix_by 90) 0 = .ok (.aload_n 0, 1) := by decide +kernel
theorem d90_1 : decode (ix_by 90) 1 = .ok (.getfield 23, 3) := by decide +kernel
theorem d90_4 : decode (ix_by 90) 4 = .ok (.iload_n 1, 1) := by decide +kernel
theorem d90_5 : decode (ix_by 90) 5 = .ok (.invokevirtual 144, 3) := by decide +kernel
theorem d90_8 : decode (ix_by 90) 8 = .ok (.ifnull 7, 3) := by decide +kernel
theorem d90_11 : decode (ix_by 90) 11 = .ok (.iconst 1, 1) := by decide +kernel
theorem d90_12 : decode (ix_by 90) 12 = .ok (.goto 4, 3) := by decide +kernel
theorem d90_15 : decode (ix_by 90) 15 = .ok (.iconst 0, 1) := by decide +kernel
theorem d90_16 : decode (ix_by 90) 16 = .ok (.ireturn, 1) := by decide +kernel
theorem d91_0 : decode (ix_by 91) 0 = .ok (.aload_n 0, 1) := by decide +kernel
theorem d91_1 : decode (ix_by 91) 1 = .ok (.getfield 23, 3) := by decide +kernel
theorem d91_4 : decode (ix_by 91) 4 = .ok (.iload_n 1, 1) := by decide +kernel
theorem d91_5 : decode (ix_by 91) 5 = .ok (.invokevirtual 167, 3) := by decide +kernel
theorem d91_8 : decode (ix_by 91) 8 = .ok (.astore_n 2, 1) := by decide +kernel
theorem d91_9 : decode (ix_by 91) 9 = .ok (.aload_n 2, 1) := by decide +kernel
theorem d91_10 : decode (ix_by 91) 10 = .ok (.ifnull 13, 3) := by decide +kernel
theorem d91_13 : decode (ix_by 91) 13 = .ok (.aload_n 0, 1) := by decide +kernel
theorem d91_14 : decode (ix_by 91) 14 = .ok (.getfield 23, 3) := by decide +kernel
theorem d91_17 : decode (ix_by 91) 17 = .ok (.invokevirtual 170, 3) := by decide +kernel
theorem d91_20 : decode (ix_by 91) 20 = .ok (.ifCond .eq 5, 3) := by decide +kernel
theorem d91_23 : decode (ix_by 91) 23 = .ok (.iconst 0, 1) := by decide +kernel
theorem d91_24 : decode (ix_by 91) 24 = .ok (.ireturn, 1) := by decide +kernel
theorem d91_25 : decode (ix_by 91) 25 = .ok (.aload_n 0, 1) := by decide +kernel
theorem d91_26 : decode (ix_by 91) 26 = .ok (.getfield 23, 3) := by decide +kernel
theorem d91_29 : decode (ix_by 91) 29 = .ok (.aload_n 2, 1) := by decide +kernel
theorem d91_30 : decode (ix_by 91) 30 = .ok (.invokevirtual 173, 3) := by decide +kernel
theorem d91_33 : decode (ix_by 91) 33 = .ok (.invokevirtual 177, 3) := by decide +kernel
theorem d91_36 : decode (ix_by 91) 36 = .ok (.iconst 1, 1) := by decide +kernel
theorem d91_37 : decode (ix_by 91) 37 = .ok (.ireturn, 1) := by decide +kernel
theorem d92_0 : decode (ix_by 92) 0 = .ok (.aload_n 0, 1) := by decide +kernel
theorem d92_1 : decode (ix_by 92) 1 = .ok (.getfield 17, 3) := by decide +kernel
theorem d92_4 : decode (ix_by 92) 4 = .ok (.bipush 24, 2) := by decide +kernel
theorem d92_6 : decode (ix_by 92) 6 = .ok (.if_icmp .lt 7, 3) := by decide +kernel
theorem d92_9 : decode (ix_by 92) 9 = .ok (.iconst 1, 1) := by decide +kernel
theorem d92_10 : decode (ix_by 92) 10 = .ok (.goto 4, 3) := by decide +kernel
theorem d92_13 : decode (ix_by 92) 13 = .ok (.iconst 0, 1) := by decide +kernel
theorem d92_14 : decode (ix_by 92) 14 = .ok (.ireturn, 1) := by decide +kernel
theorem d93_0 : decode (ix_by 93) 0 = .ok (.new 8, 3) := by decide +kernel
theorem d93_3 : decode (ix_by 93) 3 = .ok (.dup, 1) := by decide +kernel
theorem d93_4 : decode (ix_by 93) 4 = .ok (.aload_n 0, 1) := by decide +kernel
theorem d93_5 : decode (ix_by 93) 5 = .ok (.getfield 7, 3) := by decide +kernel
theorem d93_8 : decode (ix_by 93) 8 = .ok (.aload_n 0, 1) := by decide +kernel
theorem d93_9 : decode (ix_by 93) 9 = .ok (.getfield 13, 3) := by decide +kernel
theorem d93_12 : decode (ix_by 93) 12 = .ok (.aload_n 0, 1) := by decide +kernel
theorem d93_13 : decode (ix_by 93) 13 = .ok (.getfield 17, 3) := by decide +kernel
theorem d93_16 : decode (ix_by 93) 16 = .ok (.aload_n 0, 1) := by decide +kernel
theorem d93_17 : decode (ix_by 93) 17 = .ok (.getfield 20, 3) := by decide +kernel
theorem d93_20 : decode (ix_by 93) 20 = .ok (.aload_n 0, 1) := by decide +kernel
theorem d93_21 : decode (ix_by 93) 21 = .ok (.getfield 23, 3) := by decide +kernel
theorem d93_24 : decode (ix_by 93) 24 = .ok (.aload_n 0, 1) := by decide +kernel
theorem d93_25 : decode (ix_by 93) 25 = .ok (.getfield 26, 3) := by decide +kernel
theorem d93_28 : decode (ix_by 93) 28 = .ok (.invokespecial 29, 3) := by decide +kernel
theorem d93_31 : decode (ix_by 93) 31 = .ok (.areturn, 1) := by decide +kernel
theorem d94_0 : decode (ix_by 94) 0 = .ok (.aload_n 0, 1) := by decide +kernel
theorem d94_1 : decode (ix_by 94) 1 = .ok (.getfield 23, 3) := by decide +kernel
theorem d94_4 : decode (ix_by 94) 4 = .ok (.iload_n 1, 1) := by decide +kernel
theorem d94_5 : decode (ix_by 94) 5 = .ok (.invokevirtual 167, 3) := by decide +kernel
theorem d94_8 : decode (ix_by 94) 8 = .ok (.astore_n 3, 1) := by decide +kernel
theorem d94_9 : decode (ix_by 94) 9 = .ok (.aload_n 3, 1) := by decide +kernel
theorem d94_10 : decode (ix_by 94) 10 = .ok (.ifnull 11, 3) := by decide +kernel
theorem d94_13 : decode (ix_by 94) 13 = .ok (.aload_n 3, 1) := by decide +kernel
theorem d94_14 : decode (ix_by 94) 14 = .ok (.getfield 180, 3) := by decide +kernel
theorem d94_17 : decode (ix_by 94) 17 = .ok (.iconst 2, 1) := by decide +kernel
theorem d94_18 : decode (ix_by 94) 18 = .ok (.if_icmp .eq 5, 3) := by decide +kernel
theorem d94_21 : decode (ix_by 94) 21 = .ok (.iconst 0, 1) := by decide +kernel
theorem d94_22 : decode (ix_by 94) 22 = .ok (.ireturn, 1) := by decide +kernel
theorem d94_23 : decode (ix_by 94) 23 = .ok (.aload_n 3, 1) := by decide +kernel
theorem d94_24 : decode (ix_by 94) 24 = .ok (.dup, 1) := by decide +kernel
theorem d94_25 : decode (ix_by 94) 25 = .ok (.getfield 183, 3) := by decide +kernel
theorem d94_28 : decode (ix_by 94) 28 = .ok (.iload_n 2, 1) := by decide +kernel
theorem d94_29 : decode (ix_by 94) 29 = .ok (.ixor, 1) := by decide +kernel
theorem d94_30 : decode (ix_by 94) 30 = .ok (.putfield 183, 3) := by decide +kernel
theorem d94_33 : decode (ix_by 94) 33 = .ok (.iconst 1, 1) := by decide +kernel
theorem d94_34 : decode (ix_by 94) 34 = .ok (.ireturn, 1) := by decide +kernel
theorem d95_0 : decode (ix_by 95) 0 = .ok (.aload_n 0, 1) := by decide +kernel
theorem d95_1 : decode (ix_by 95) 1 = .ok (.getfield 23, 3) := by decide +kernel
theorem d95_4 : decode (ix_by 95) 4 = .ok (.getfield 186, 3) := by decide +kernel
theorem d95_7 : decode (ix_by 95) 7 = .ok (.ireturn, 1) := by decide +kernel
theorem d96_0 : decode (ix_by 96) 0 = .ok (.aload_n 0, 1) := by decide +kernel
theorem d96_1 : decode (ix_by 96) 1 = .ok (.getfield 23, 3) := by decide +kernel
theorem d96_4 : decode (ix_by 96) 4 = .ok (.iload_n 1, 1) := by decide +kernel
theorem d96_5 : decode (ix_by 96) 5 = .ok (.invokevirtual 167, 3) := by decide +kernel
theorem d96_8 : decode (ix_by 96) 8 = .ok (.astore_n 3, 1) := by decide +kernel
theorem d96_9 : decode (ix_by 96) 9 = .ok (.aload_n 3, 1) := by decide +kernel
theorem d96_10 : decode (ix_by 96) 10 = .ok (.ifnonnull 5, 3) := by decide +kernel
theorem d96_13 : decode (ix_by 96) 13 = .ok (.iconst (-1), 1) := by decide +kernel
theorem d96_14 : decode (ix_by 96) 14 = .ok (.ireturn, 1) := by decide +kernel
theorem d96_15 : decode (ix_by 96) 15 = .ok (.iload_n 2, 1) := by decide +kernel
theorem d96_16 : decode (ix_by 96) 16 = .ok (.tableswitch 55 0 3 #[32, 37, 42, 50], 32) := by decide +kernel
theorem d96_48 : decode (ix_by 96) 48 = .ok (.aload_n 3, 1) := by decide +kernel
theorem d96_49 : decode (ix_by 96) 49 = .ok (.getfield 180, 3) := by decide +kernel
theorem d96_52 : decode (ix_by 96) 52 = .ok (.ireturn, 1) := by decide +kernel
theorem d96_53 : decode (ix_by 96) 53 = .ok (.aload_n 3, 1) := by decide +kernel
theorem d96_54 : decode (ix_by 96) 54 = .ok (.getfield 148, 3) := by decide +kernel
theorem d96_57 : decode (ix_by 96) 57 = .ok (.ireturn, 1) := by decide +kernel
theorem d96_58 : decode (ix_by 96) 58 = .ok (.aload_n 3, 1) := by decide +kernel
theorem d96_59 : decode (ix_by 96) 59 = .ok (.getfield 153, 3) := by decide +kernel
theorem d96_62 : decode (ix_by 96) 62 = .ok (.getfield 189, 3) := by decide +kernel
theorem d96_65 : decode (ix_by 96) 65 = .ok (.ireturn, 1) := by decide +kernel
theorem d96_66 : decode (ix_by 96) 66 = .ok (.aload_n 3, 1) := by decide +kernel
theorem d96_67 : decode (ix_by 96) 67 = .ok (.getfield 192, 3) := by decide +kernel
theorem d96_70 : decode (ix_by 96) 70 = .ok (.ireturn, 1) := by decide +kernel
theorem d96_71 : decode (ix_by 96) 71 = .ok (.iconst (-1), 1) := by decide +kernel
theorem d96_72 : decode (ix_by 96) 72 = .ok (.ireturn, 1) := by decide +kernel
theorem d97_0 : decode (ix_by 97) 0 = .ok (.aload_n 0, 1) := by decide +kernel
theorem d97_1 : decode (ix_by 97) 1 = .ok (.iload_n 1, 1) := by decide +kernel
theorem d97_2 : decode (ix_by 97) 2 = .ok (.iload_n 2, 1) := by decide +kernel
theorem d97_3 : decode (ix_by 97) 3 = .ok (.invokevirtual 129, 3) := by decide +kernel
theorem d97_6 : decode (ix_by 97) 6 = .ok (.astore_n 3, 1) := by decide +kernel
theorem d97_7 : decode (ix_by 97) 7 = .ok (.aload_n 3, 1) := by decide +kernel
theorem d97_8 : decode (ix_by 97) 8 = .ok (.ifnonnull 5, 3) := by decide +kernel
theorem d97_11 : decode (ix_by 97) 11 = .ok (.iconst 0, 1) := by decide +kernel
theorem d97_12 : decode (ix_by 97) 12 = .ok (.ireturn, 1) := by decide +kernel
theorem d97_13 : decode (ix_by 97) 13 = .ok (.aload_n 3, 1) := by decide +kernel
theorem d97_14 : decode (ix_by 97) 14 = .ok (.invokevirtual 195, 3) := by decide +kernel
theorem d97_17 : decode (ix_by 97) 17 = .ok (.ifCond .eq 7, 3) := by decide +kernel
theorem d97_20 : decode (ix_by 97) 20 = .ok (.iconst 5, 1) := by decide +kernel
theorem d97_21 : decode (ix_by 97) 21 = .ok (.goto 7, 3) := by decide +kernel
theorem d97_24 : decode (ix_by 97) 24 = .ok (.aload_n 3, 1) := by decide +kernel
theorem d97_25 : decode (ix_by 97) 25 = .ok (.getfield 198, 3) := by decide +kernel
theorem d97_28 : decode (ix_by 97) 28 = .ok (.ireturn, 1) := by decide +kernel
theorem d98_0 : decode (ix_by 98) 0 = .ok (.aload_n 0, 1) := by decide +kernel
theorem d98_1 : decode (ix_by 98) 1 = .ok (.iload_n 1, 1) := by decide +kernel
theorem d98_2 : decode (ix_by 98) 2 = .ok (.iload_n 2, 1) := by decide +kernel
theorem d98_3 : decode (ix_by 98) 3 = .ok (.invokevirtual 201, 3) := by decide +kernel
theorem d98_6 : decode (ix_by 98) 6 = .ok (.astore_n 3, 1) := by decide +kernel
theorem d98_7 : decode (ix_by 98) 7 = .ok (.aload_n 3, 1) := by decide +kernel
theorem d98_8 : decode (ix_by 98) 8 = .ok (.ifnonnull 5, 3) := by decide +kernel
theorem d98_11 : decode (ix_by 98) 11 = .ok (.iconst 0, 1) := by decide +kernel
theorem d98_12 : decode (ix_by 98) 12 = .ok (.ireturn, 1) := by decide +kernel
theorem d98_13 : decode (ix_by 98) 13 = .ok (.aload_n 3, 1) := by decide +kernel
theorem d98_14 : decode (ix_by 98) 14 = .ok (.getfield 205, 3) := by decide +kernel
theorem d98_17 : decode (ix_by 98) 17 = .ok (.ifCond .eq 8, 3) := by decide +kernel
theorem d98_20 : decode (ix_by 98) 20 = .ok (.aload_n 3, 1) := by decide +kernel
theorem d98_21 : decode (ix_by 98) 21 = .ok (.getfield 211, 3) := by decide +kernel
theorem d98_24 : decode (ix_by 98) 24 = .ok (.ireturn, 1) := by decide +kernel
theorem d98_25 : decode (ix_by 98) 25 = .ok (.aload_n 3, 1) := by decide +kernel
theorem d98_26 : decode (ix_by 98) 26 = .ok (.invokevirtual 212, 3) := by decide +kernel
theorem d98_29 : decode (ix_by 98) 29 = .ok (.ifCond .eq 8, 3) := by decide +kernel
theorem d98_32 : decode (ix_by 98) 32 = .ok (.bipush 6, 2) := by decide +kernel
theorem d98_34 : decode (ix_by 98) 34 = .ok (.goto 4, 3) := by decide +kernel
theorem d98_37 : decode (ix_by 98) 37 = .ok (.iconst 5, 1) := by decide +kernel
theorem d98_38 : decode (ix_by 98) 38 = .ok (.ireturn, 1) := by decide +kernel
theorem d99_0 : decode (ix_by 99) 0 = .ok (.aload_n 0, 1) := by decide +kernel
theorem d99_1 : decode (ix_by 99) 1 = .ok (.iload_n 1, 1) := by decide +kernel
theorem d99_2 : decode (ix_by 99) 2 = .ok (.iload_n 2, 1) := by decide +kernel
theorem d99_3 : decode (ix_by 99) 3 = .ok (.invokevirtual 129, 3) := by decide +kernel
theorem d99_6 : decode (ix_by 99) 6 = .ok (.astore_n 3, 1) := by decide +kernel
theorem d99_7 : decode (ix_by 99) 7 = .ok (.aload_n 3, 1) := by decide +kernel
theorem d99_8 : decode (ix_by 99) 8 = .ok (.ifnonnull 7, 3) := by decide +kernel
theorem d99_11 : decode (ix_by 99) 11 = .ok (.aconst_null, 1) := by decide +kernel
theorem d99_12 : decode (ix_by 99) 12 = .ok (.goto 10, 3) := by decide +kernel
theorem d99_15 : decode (ix_by 99) 15 = .ok (.aload_n 3, 1) := by decide +kernel
theorem d99_16 : decode (ix_by 99) 16 = .ok (.getfield 225, 3) := by decide +kernel
theorem d99_19 : decode (ix_by 99) 19 = .ok (.getfield 226, 3) := by decide +kernel
theorem d99_22 : decode (ix_by 99) 22 = .ok (.areturn, 1) := by decide +kernel
theorem d100_0 : decode (ix_by 100) 0 = .ok (.aload_n 0, 1) := by decide +kernel
theorem d100_1 : decode (ix_by 100) 1 = .ok (.iload_n 1, 1) := by decide +kernel
theorem d100_2 : decode (ix_by 100) 2 = .ok (.iload_n 2, 1) := by decide +kernel
theorem d100_3 : decode (ix_by 100) 3 = .ok (.invokevirtual 201, 3) := by decide +kernel
theorem d100_6 : decode (ix_by 100) 6 = .ok (.astore_n 3, 1) := by decide +kernel
theorem d100_7 : decode (ix_by 100) 7 = .ok (.aload_n 3, 1) := by decide +kernel
theorem d100_8 : decode (ix_by 100) 8 = .ok (.ifnonnull 7, 3) := by decide +kernel
theorem d100_11 : decode (ix_by 100) 11 = .ok (.iconst 0, 1) := by decide +kernel
theorem d100_12 : decode (ix_by 100) 12 = .ok (.goto 7, 3) := by decide +kernel
theorem d100_15 : decode (ix_by 100) 15 = .ok (.aload_n 3, 1) := by decide +kernel
theorem d100_16 : decode (ix_by 100) 16 = .ok (.getfield 215, 3) := by decide +kernel
theorem d100_19 : decode (ix_by 100) 19 = .ok (.ireturn, 1) := by decide +kernel
theorem d101_0 : decode (ix_by 101) 0 = .ok (.iload_n 1, 1) := by decide +kernel
theorem d101_1 : decode (ix_by 101) 1 = .ok (.aload_n 0, 1) := by decide +kernel
theorem d101_2 : decode (ix_by 101) 2 = .ok (.arraylength, 1) := by decide +kernel
theorem d101_3 : decode (ix_by 101) 3 = .ok (.if_icmp .ge 9, 3) := by decide +kernel
theorem d101_6 : decode (ix_by 101) 6 = .ok (.aload_n 0, 1) := by decide +kernel
theorem d101_7 : decode (ix_by 101) 7 = .ok (.iload_n 1, 1) := by decide +kernel
theorem d101_8 : decode (ix_by 101) 8 = .ok (.iaload, 1) := by decide +kernel
theorem d101_9 : decode (ix_by 101) 9 = .ok (.goto 4, 3) := by decide +kernel
theorem d101_12 : decode (ix_by 101) 12 = .ok (.iconst 0, 1) := by decide +kernel
theorem d101_13 : decode (ix_by 101) 13 = .ok (.ireturn, 1) := by decide +kernel
theorem d102_0 : decode (ix_by 102) 0 = .ok (.aload 6, 2) := by decide +kernel
theorem d102_2 : decode (ix_by 102) 2 = .ok (.iconst 0, 1) := by decide +kernel
theorem d102_3 : decode (ix_by 102) 3 = .ok (.aload_n 0, 1) := by decide +kernel
theorem d102_4 : decode (ix_by 102) 4 = .ok (.iload_n 1, 1) := by decide +kernel
theorem d102_5 : decode (ix_by 102) 5 = .ok (.iload_n 2, 1) := by decide +kernel
theorem d102_6 : decode (ix_by 102) 6 = .ok (.iload_n 3, 1) := by decide +kernel
theorem d102_7 : decode (ix_by 102) 7 = .ok (.lload 4, 2) := by decide +kernel
theorem d102_9 : decode (ix_by 102) 9 = .ok (.invokevirtual 7, 3) := by decide +kernel
theorem d102_12 : decode (ix_by 102) 12 = .ok (.i2l, 1) := by decide +kernel
theorem d102_13 : decode (ix_by 102) 13 = .ok (.lastore, 1) := by decide +kernel
theorem d102_14 : decode (ix_by 102) 14 = .ok (.goto 15, 3) := by decide +kernel
theorem d102_17 : decode (ix_by 102) 17 = .ok (.astore 7, 2) := by decide +kernel
theorem d102_19 : decode (ix_by 102) 19 = .ok (.iconst 1, 1) := by decide +kernel
theorem d102_20 : decode (ix_by 102) 20 = .ok (.ireturn, 1) := by decide +kernel
theorem d102_21 : decode (ix_by 102) 21 = .ok (.astore 7, 2) := by decide +kernel
theorem d102_23 : decode (ix_by 102) 23 = .ok (.iconst 2, 1) := by decide +kernel
theorem d102_24 : decode (ix_by 102) 24 = .ok (.ireturn, 1) := by decide +kernel
theorem d102_25 : decode (ix_by 102) 25 = .ok (.astore 7, 2) := by decide +kernel
theorem d102_27 : decode (ix_by 102) 27 = .ok (.iconst 3, 1) := by decide +kernel
theorem d102_28 : decode (ix_by 102) 28 = .ok (.ireturn, 1) := by decide +kernel
theorem d102_29 : decode (ix_by 102) 29 = .ok (.iconst 0, 1) := by decide +kernel
theorem d102_30 : decode (ix_by 102) 30 = .ok (.ireturn, 1) := by decide +kernel
theorem d103_0 : decode (ix_by 103) 0 = .ok (.iload_n 1, 1) := by decide +kernel
theorem d103_1 : decode (ix_by 103) 1 = .ok (.iload_n 2, 1) := by decide +kernel
theorem d103_2 : decode (ix_by 103) 2 = .ok (.invokestatic 30, 3) := by decide +kernel
theorem d103_5 : decode (ix_by 103) 5 = .ok (.ifCond .eq 14, 3) := by decide +kernel
theorem d103_8 : decode (ix_by 103) 8 = .ok (.iload_n 3, 1) := by decide +kernel
theorem d103_9 : decode (ix_by 103) 9 = .ok (.iconst 1, 1) := by decide +kernel
theorem d103_10 : decode (ix_by 103) 10 = .ok (.if_icmp .lt 9, 3) := by decide +kernel
theorem d103_13 : decode (ix_by 103) 13 = .ok (.iload_n 3, 1) := by decide +kernel
theorem d103_14 : decode (ix_by 103) 14 = .ok (.bipush 8, 2) := by decide +kernel
theorem d103_16 : decode (ix_by 103) 16 = .ok (.if_icmp .le 13, 3) := by decide +kernel
theorem d103_19 : decode (ix_by 103) 19 = .ok (.new 48, 3) := by decide +kernel
theorem d103_22 : decode (ix_by 103) 22 = .ok (.dup, 1) := by decide +kernel
theorem d103_23 : decode (ix_by 103) 23 = .ok (.ldc 50, 2) := by decide +kernel
theorem d103_25 : decode (ix_by 103) 25 = .ok (.invokespecial 52, 3) := by decide +kernel
theorem d103_28 : decode (ix_by 103) 28 = .ok (.athrow, 1) := by decide +kernel
theorem d103_29 : decode (ix_by 103) 29 = .ok (.aload_n 0, 1) := by decide +kernel
theorem d103_30 : decode (ix_by 103) 30 = .ok (.getfield 16, 3) := by decide +kernel
theorem d103_33 : decode (ix_by 103) 33 = .ok (.iload_n 1, 1) := by decide +kernel
theorem d103_34 : decode (ix_by 103) 34 = .ok (.aaload, 1) := by decide +kernel
theorem d103_35 : decode (ix_by 103) 35 = .ok (.astore 6, 2) := by decide +kernel
theorem d103_37 : decode (ix_by 103) 37 = .ok (.aload 6, 2) := by decide +kernel
theorem d103_39 : decode (ix_by 103) 39 = .ok (.getfield 34, 3) := by decide +kernel
theorem d103_42 : decode (ix_by 103) 42 = .ok (.iload_n 2, 1) := by decide +kernel
theorem d103_43 : decode (ix_by 103) 43 = .ok (.invokevirtual 38, 3) := by decide +kernel
theorem d103_46 : decode (ix_by 103) 46 = .ok (.ifCond .ne 13, 3) := by decide +kernel
theorem d103_49 : decode (ix_by 103) 49 = .ok (.new 55, 3) := by decide +kernel
theorem d103_52 : decode (ix_by 103) 52 = .ok (.dup, 1) := by decide +kernel
theorem d103_53 : decode (ix_by 103) 53 = .ok (.ldc 57, 2) := by decide +kernel
theorem d103_55 : decode (ix_by 103) 55 = .ok (.invokespecial 59, 3) := by decide +kernel
theorem d103_58 : decode (ix_by 103) 58 = .ok (.athrow, 1) := by decide +kernel
theorem d103_59 : decode (ix_by 103) 59 = .ok (.aload 6, 2) := by decide +kernel
theorem d103_61 : decode (ix_by 103) 61 = .ok (.iload_n 2, 1) := by decide +kernel
theorem d103_62 : decode (ix_by 103) 62 = .ok (.invokevirtual 60, 3) := by decide +kernel
theorem d103_65 : decode (ix_by 103) 65 = .ok (.ifCond .ne 19, 3) := by decide +kernel
theorem d103_68 : decode (ix_by 103) 68 = .ok (.aload 6, 2) := by decide +kernel
theorem d103_70 : decode (ix_by 103) 70 = .ok (.getfield 34, 3) := by decide +kernel
theorem d103_73 : decode (ix_by 103) 73 = .ok (.iload_n 2, 1) := by decide +kernel
theorem d103_74 : decode (ix_by 103) 74 = .ok (.invokevirtual 63, 3) := by decide +kernel
theorem d103_77 : decode (ix_by 103) 77 = .ok (.iload_n 3, 1) := by decide +kernel
theorem d103_78 : decode (ix_by 103) 78 = .ok (.iadd, 1) := by decide +kernel
theorem d103_79 : decode (ix_by 103) 79 = .ok (.bipush 64, 2) := by decide +kernel
theorem d103_81 : decode (ix_by 103) 81 = .ok (.if_icmp .le 13, 3) := by decide +kernel
theorem d103_84 : decode (ix_by 103) 84 = .ok (.new 67, 3) := by decide +kernel
theorem d103_87 : decode (ix_by 103) 87 = .ok (.dup, 1) := by decide +kernel
theorem d103_88 : decode (ix_by 103) 88 = .ok (.ldc 69, 2) := by decide +kernel
theorem d103_90 : decode (ix_by 103) 90 = .ok (.invokespecial 71, 3) := by decide +kernel
theorem d103_93 : decode (ix_by 103) 93 = .ok (.athrow, 1) := by decide +kernel
theorem d103_94 : decode (ix_by 103) 94 = .ok (.aload 6, 2) := by decide +kernel
theorem d103_96 : decode (ix_by 103) 96 = .ok (.getfield 34, 3) := by decide +kernel
theorem d103_99 : decode (ix_by 103) 99 = .ok (.iload_n 2, 1) := by decide +kernel
theorem d103_100 : decode (ix_by 103) 100 = .ok (.iload_n 3, 1) := by decide +kernel
theorem d103_101 : decode (ix_by 103) 101 = .ok (.lload 4, 2) := by decide +kernel
theorem d103_103 : decode (ix_by 103) 103 = .ok (.invokevirtual 72, 3) := by decide +kernel
theorem d103_106 : decode (ix_by 103) 106 = .ok (.aload 6, 2) := by decide +kernel
theorem d103_108 : decode (ix_by 103) 108 = .ok (.getfield 34, 3) := by decide +kernel
theorem d103_111 : decode (ix_by 103) 111 = .ok (.iload_n 2, 1) := by decide +kernel
theorem d103_112 : decode (ix_by 103) 112 = .ok (.invokevirtual 63, 3) := by decide +kernel
theorem d103_115 : decode (ix_by 103) 115 = .ok (.ireturn, 1) := by decide +kernel
theorem d104_0 : decode (ix_by 104) 0 = .ok (.iconst 0, 1) := by decide +kernel
theorem d104_1 : decode (ix_by 104) 1 = .ok (.istore 5, 2) := by decide +kernel
theorem d104_3 : decode (ix_by 104) 3 = .ok (.iload 5, 2) := by decide +kernel
theorem d104_5 : decode (ix_by 104) 5 = .ok (.iload_n 2, 1) := by decide +kernel
theorem d104_6 : decode (ix_by 104) 6 = .ok (.if_icmp .ge 34, 3) := by decide +kernel
theorem d104_9 : decode (ix_by 104) 9 = .ok (.aload_n 0, 1) := by decide +kernel
theorem d104_10 : decode (ix_by 104) 10 = .ok (.getfield 11, 3) := by decide +kernel
theorem d104_13 : decode (ix_by 104) 13 = .ok (.iload_n 1, 1) := by decide +kernel
theorem d104_14 : decode (ix_by 104) 14 = .ok (.aaload, 1) := by decide +kernel
theorem d104_15 : decode (ix_by 104) 15 = .ok (.aload_n 0, 1) := by decide +kernel
theorem d104_16 : decode (ix_by 104) 16 = .ok (.getfield 16, 3) := by decide +kernel
theorem d104_19 : decode (ix_by 104) 19 = .ok (.iload_n 1, 1) := by decide +kernel
theorem d104_20 : decode (ix_by 104) 20 = .ok (.iaload, 1) := by decide +kernel
theorem d104_21 : decode (ix_by 104) 21 = .ok (.iload 5, 2) := by decide +kernel
theorem d104_23 : decode (ix_by 104) 23 = .ok (.iadd, 1) := by decide +kernel
theorem d104_24 : decode (ix_by 104) 24 = .ok (.lload_n 3, 1) := by decide +kernel
theorem d104_25 : decode (ix_by 104) 25 = .ok (.bipush 8, 2) := by decide +kernel
theorem d104_27 : decode (ix_by 104) 27 = .ok (.iload 5, 2) := by decide +kernel
theorem d104_29 : decode (ix_by 104) 29 = .ok (.imul, 1) := by decide +kernel
theorem d104_30 : decode (ix_by 104) 30 = .ok (.lshr, 1) := by decide +kernel
theorem d104_31 : decode (ix_by 104) 31 = .ok (.l2i, 1) := by decide +kernel
theorem d104_32 : decode (ix_by 104) 32 = .ok (.i2b, 1) := by decide +kernel
theorem d104_33 : decode (ix_by 104) 33 = .ok (.bastore, 1) := by decide +kernel
theorem d104_34 : decode (ix_by 104) 34 = .ok (.iinc 5 1, 3) := by decide +kernel
theorem d104_37 : decode (ix_by 104) 37 = .ok (.goto (-34), 3) := by decide +kernel
theorem d104_40 : decode (ix_by 104) 40 = .ok (.aload_n 0, 1) := by decide +kernel
theorem d104_41 : decode (ix_by 104) 41 = .ok (.getfield 16, 3) := by decide +kernel
theorem d104_44 : decode (ix_by 104) 44 = .ok (.iload_n 1, 1) := by decide +kernel
theorem d104_45 : decode (ix_by 104) 45 = .ok (.dup2, 1) := by decide +kernel
theorem d104_46 : decode (ix_by 104) 46 = .ok (.iaload, 1) := by decide +kernel
theorem d104_47 : decode (ix_by 104) 47 = .ok (.iload_n 2, 1) := by decide +kernel
theorem d104_48 : decode (ix_by 104) 48 = .ok (.iadd, 1) := by decide +kernel
theorem d104_49 : decode (ix_by 104) 49 = .ok (.iastore, 1) := by decide +kernel
theorem d104_50 : decode (ix_by 104) 50 = .ok (.return_, 1) := by decide +kernel
theorem d105_0 : decode (ix_by 105) 0 = .ok (.aload_n 3, 1) := by decide +kernel
theorem d105_1 : decode (ix_by 105) 1 = .ok (.iconst 0, 1) := by decide +kernel
theorem d105_2 : decode (ix_by 105) 2 = .ok (.aload_n 0, 1) := by decide +kernel
theorem d105_3 : decode (ix_by 105) 3 = .ok (.iload_n 1, 1) := by decide +kernel
theorem d105_4 : decode (ix_by 105) 4 = .ok (.iload_n 2, 1) := by decide +kernel
theorem d105_5 : decode (ix_by 105) 5 = .ok (.invokevirtual 19, 3) := by decide +kernel
theorem d105_8 : decode (ix_by 105) 8 = .ok (.ifCond .eq 7, 3) := by decide +kernel
theorem d105_11 : decode (ix_by 105) 11 = .ok (.lconst 1, 1) := by decide +kernel
theorem d105_12 : decode (ix_by 105) 12 = .ok (.goto 4, 3) := by decide +kernel
theorem d105_15 : decode (ix_by 105) 15 = .ok (.lconst 0, 1) := by decide +kernel
theorem d105_16 : decode (ix_by 105) 16 = .ok (.lastore, 1) := by decide +kernel
theorem d105_17 : decode (ix_by 105) 17 = .ok (.goto 11, 3) := by decide +kernel
theorem d105_20 : decode (ix_by 105) 20 = .ok (.astore 4, 2) := by decide +kernel
theorem d105_22 : decode (ix_by 105) 22 = .ok (.iconst 1, 1) := by decide +kernel
theorem d105_23 : decode (ix_by 105) 23 = .ok (.ireturn, 1) := by decide +kernel
theorem d105_24 : decode (ix_by 105) 24 = .ok (.astore 4, 2) := by decide +kernel
theorem d105_26 : decode (ix_by 105) 26 = .ok (.iconst 2, 1) := by decide +kernel
theorem d105_27 : decode (ix_by 105) 27 = .ok (.ireturn, 1) := by decide +kernel
theorem d105_28 : decode (ix_by 105) 28 = .ok (.iconst 0, 1) := by decide +kernel
theorem d105_29 : decode (ix_by 105) 29 = .ok (.ireturn, 1) := by decide +kernel
theorem d106_0 : decode (ix_by 106) 0 = .ok (.aload_n 0, 1) := by decide +kernel
theorem d106_1 : decode (ix_by 106) 1 = .ok (.iload_n 1, 1) := by decide +kernel
theorem d106_2 : decode (ix_by 106) 2 = .ok (.iload_n 2, 1) := by decide +kernel
theorem d106_3 : decode (ix_by 106) 3 = .ok (.invokevirtual 76, 3) := by decide +kernel
theorem d106_6 : decode (ix_by 106) 6 = .ok (.ifCond .ne 13, 3) := by decide +kernel
theorem d106_9 : decode (ix_by 106) 9 = .ok (.new 55, 3) := by decide +kernel
theorem d106_12 : decode (ix_by 106) 12 = .ok (.dup, 1) := by decide +kernel
theorem d106_13 : decode (ix_by 106) 13 = .ok (.ldc 57, 2) := by decide +kernel
theorem d106_15 : decode (ix_by 106) 15 = .ok (.invokespecial 59, 3) := by decide +kernel
theorem d106_18 : decode (ix_by 106) 18 = .ok (.athrow, 1) := by decide +kernel
theorem d106_19 : decode (ix_by 106) 19 = .ok (.aload_n 0, 1) := by decide +kernel
theorem d106_20 : decode (ix_by 106) 20 = .ok (.getfield 16, 3) := by decide +kernel
theorem d106_23 : decode (ix_by 106) 23 = .ok (.iload_n 1, 1) := by decide +kernel
theorem d106_24 : decode (ix_by 106) 24 = .ok (.aaload, 1) := by decide +kernel
theorem d106_25 : decode (ix_by 106) 25 = .ok (.iload_n 2, 1) := by decide +kernel
theorem d106_26 : decode (ix_by 106) 26 = .ok (.invokevirtual 60, 3) := by decide +kernel
theorem d106_29 : decode (ix_by 106) 29 = .ok (.ifCond .eq 13, 3) := by decide +kernel
theorem d106_32 : decode (ix_by 106) 32 = .ok (.new 67, 3) := by decide +kernel
theorem d106_35 : decode (ix_by 106) 35 = .ok (.dup, 1) := by decide +kernel
theorem d106_36 : decode (ix_by 106) 36 = .ok (.ldc 79, 2) := by decide +kernel
theorem d106_38 : decode (ix_by 106) 38 = .ok (.invokespecial 71, 3) := by decide +kernel
theorem d106_41 : decode (ix_by 106) 41 = .ok (.athrow, 1) := by decide +kernel
theorem d106_42 : decode (ix_by 106) 42 = .ok (.aload_n 0, 1) := by decide +kernel
theorem d106_43 : decode (ix_by 106) 43 = .ok (.getfield 16, 3) := by decide +kernel
theorem d106_46 : decode (ix_by 106) 46 = .ok (.iload_n 1, 1) := by decide +kernel
theorem d106_47 : decode (ix_by 106) 47 = .ok (.aaload, 1) := by decide +kernel
theorem d106_48 : decode (ix_by 106) 48 = .ok (.getfield 34, 3) := by decide +kernel
theorem d106_51 : decode (ix_by 106) 51 = .ok (.iload_n 2, 1) := by decide +kernel
theorem d106_52 : decode (ix_by 106) 52 = .ok (.invokevirtual 81, 3) := by decide +kernel
theorem d106_55 : decode (ix_by 106) 55 = .ok (.iconst 1, 1) := by decide +kernel
theorem d106_56 : decode (ix_by 106) 56 = .ok (.ireturn, 1) := by decide +kernel
end
section
/-! decode rows (written by wip/whole/gen4.py) -/
theorem d107_0 : decode (ix_by 107) 0 = .ok (.aload 4, 2) := by decide +kernel
theorem d107_2 : decode (ix_by 107) 2 = .ok (.iconst 0, 1) := by decide +kernel
theorem d107_3 : decode (ix_by 107) 3 = .ok (.aload_n 0, 1) := by decide +kernel
theorem d107_4 : decode (ix_by 107) 4 = .ok (.iload_n 1, 1) := by decide +kernel
theorem d107_5 : decode (ix_by 107) 5 = .ok (.iload_n 2, 1) := by decide +kernel
theorem d107_6 : decode (ix_by 107) 6 = .ok (.iload_n 3, 1) := by decide +kernel
theorem d107_7 : decode (ix_by 107) 7 = .ok (.invokevirtual 23, 3) := by decide +kernel
theorem d107_10 : decode (ix_by 107) 10 = .ok (.i2l, 1) := by decide +kernel
theorem d107_11 : decode (ix_by 107) 11 = .ok (.lastore, 1) := by decide +kernel
theorem d107_12 : decode (ix_by 107) 12 = .ok (.goto 11, 3) := by decide +kernel
theorem d107_15 : decode (ix_by 107) 15 = .ok (.astore 5, 2) := by decide +kernel
theorem d107_17 : decode (ix_by 107) 17 = .ok (.iconst 1, 1) := by decide +kernel
theorem d107_18 : decode (ix_by 107) 18 = .ok (.ireturn, 1) := by decide +kernel
theorem d107_19 : decode (ix_by 107) 19 = .ok (.astore 5, 2) := by decide +kernel
theorem d107_21 : decode (ix_by 107) 21 = .ok (.iconst 2, 1) := by decide +kernel
theorem d107_22 : decode (ix_by 107) 22 = .ok (.ireturn, 1) := by decide +kernel
theorem d107_23 : decode (ix_by 107) 23 = .ok (.iconst 0, 1) := by decide +kernel
theorem d107_24 : decode (ix_by 107) 24 = .ok (.ireturn, 1) := by decide +kernel
theorem d108_0 : decode (ix_by 108) 0 = .ok (.aload_n 0, 1) := by decide +kernel
theorem d108_1 : decode (ix_by 108) 1 = .ok (.iload_n 1, 1) := by decide +kernel
theorem d108_2 : decode (ix_by 108) 2 = .ok (.iload_n 2, 1) := by decide +kernel
theorem d108_3 : decode (ix_by 108) 3 = .ok (.invokevirtual 76, 3) := by decide +kernel
theorem d108_6 : decode (ix_by 108) 6 = .ok (.ifCond .ne 13, 3) := by decide +kernel
theorem d108_9 : decode (ix_by 108) 9 = .ok (.new 55, 3) := by decide +kernel
theorem d108_12 : decode (ix_by 108) 12 = .ok (.dup, 1) := by decide +kernel
theorem d108_13 : decode (ix_by 108) 13 = .ok (.ldc 57, 2) := by decide +kernel
theorem d108_15 : decode (ix_by 108) 15 = .ok (.invokespecial 59, 3) := by decide +kernel
theorem d108_18 : decode (ix_by 108) 18 = .ok (.athrow, 1) := by decide +kernel
theorem d108_19 : decode (ix_by 108) 19 = .ok (.iload_n 3, 1) := by decide +kernel
theorem d108_20 : decode (ix_by 108) 20 = .ok (.ifCond .lt 20, 3) := by decide +kernel
theorem d108_23 : decode (ix_by 108) 23 = .ok (.iload_n 3, 1) := by decide +kernel
theorem d108_24 : decode (ix_by 108) 24 = .ok (.aload_n 0, 1) := by decide +kernel
theorem d108_25 : decode (ix_by 108) 25 = .ok (.getfield 16, 3) := by decide +kernel
theorem d108_28 : decode (ix_by 108) 28 = .ok (.iload_n 1, 1) := by decide +kernel
theorem d108_29 : decode (ix_by 108) 29 = .ok (.aaload, 1) := by decide +kernel
theorem d108_30 : decode (ix_by 108) 30 = .ok (.getfield 34, 3) := by decide +kernel
theorem d108_33 : decode (ix_by 108) 33 = .ok (.iload_n 2, 1) := by decide +kernel
theorem d108_34 : decode (ix_by 108) 34 = .ok (.invokevirtual 63, 3) := by decide +kernel
theorem d108_37 : decode (ix_by 108) 37 = .ok (.if_icmp .lt 13, 3) := by decide +kernel
theorem d108_40 : decode (ix_by 108) 40 = .ok (.new 84, 3) := by decide +kernel
theorem d108_43 : decode (ix_by 108) 43 = .ok (.dup, 1) := by decide +kernel
theorem d108_44 : decode (ix_by 108) 44 = .ok (.ldc 86, 2) := by decide +kernel
theorem d108_46 : decode (ix_by 108) 46 = .ok (.invokespecial 88, 3) := by decide +kernel
theorem d108_49 : decode (ix_by 108) 49 = .ok (.athrow, 1) := by decide +kernel
theorem d108_50 : decode (ix_by 108) 50 = .ok (.aload_n 0, 1) := by decide +kernel
theorem d108_51 : decode (ix_by 108) 51 = .ok (.getfield 16, 3) := by decide +kernel
theorem d108_54 : decode (ix_by 108) 54 = .ok (.iload_n 1, 1) := by decide +kernel
theorem d108_55 : decode (ix_by 108) 55 = .ok (.aaload, 1) := by decide +kernel
theorem d108_56 : decode (ix_by 108) 56 = .ok (.getfield 34, 3) := by decide +kernel
theorem d108_59 : decode (ix_by 108) 59 = .ok (.iload_n 2, 1) := by decide +kernel
theorem d108_60 : decode (ix_by 108) 60 = .ok (.iload_n 3, 1) := by decide +kernel
theorem d108_61 : decode (ix_by 108) 61 = .ok (.invokevirtual 89, 3) := by decide +kernel
theorem d108_64 : decode (ix_by 108) 64 = .ok (.ireturn, 1) := by decide +kernel
theorem d109_0 : decode (ix_by 109) 0 = .ok (.aload 7, 2) := by decide +kernel
theorem d109_2 : decode (ix_by 109) 2 = .ok (.iconst 0, 1) := by decide +kernel
theorem d109_3 : decode (ix_by 109) 3 = .ok (.aload_n 0, 1) := by decide +kernel
theorem d109_4 : decode (ix_by 109) 4 = .ok (.iload_n 1, 1) := by decide +kernel
theorem d109_5 : decode (ix_by 109) 5 = .ok (.iload_n 2, 1) := by decide +kernel
theorem d109_6 : decode (ix_by 109) 6 = .ok (.iload_n 3, 1) := by decide +kernel
theorem d109_7 : decode (ix_by 109) 7 = .ok (.iload 4, 2) := by decide +kernel
theorem d109_9 : decode (ix_by 109) 9 = .ok (.iload 5, 2) := by decide +kernel
theorem d109_11 : decode (ix_by 109) 11 = .ok (.iload 6, 2) := by decide +kernel
theorem d109_13 : decode (ix_by 109) 13 = .ok (.invokevirtual 29, 3) := by decide +kernel
theorem d109_16 : decode (ix_by 109) 16 = .ok (.i2l, 1) := by decide +kernel
theorem d109_17 : decode (ix_by 109) 17 = .ok (.lastore, 1) := by decide +kernel
theorem d109_18 : decode (ix_by 109) 18 = .ok (.goto 15, 3) := by decide +kernel
theorem d109_21 : decode (ix_by 109) 21 = .ok (.astore 8, 2) := by decide +kernel
theorem d109_23 : decode (ix_by 109) 23 = .ok (.iconst 1, 1) := by decide +kernel
theorem d109_24 : decode (ix_by 109) 24 = .ok (.ireturn, 1) := by decide +kernel
theorem d109_25 : decode (ix_by 109) 25 = .ok (.astore 8, 2) := by decide +kernel
theorem d109_27 : decode (ix_by 109) 27 = .ok (.iconst 2, 1) := by decide +kernel
theorem d109_28 : decode (ix_by 109) 28 = .ok (.ireturn, 1) := by decide +kernel
theorem d109_29 : decode (ix_by 109) 29 = .ok (.astore 8, 2) := by decide +kernel
theorem d109_31 : decode (ix_by 109) 31 = .ok (.iconst 3, 1) := by decide +kernel
theorem d109_32 : decode (ix_by 109) 32 = .ok (.ireturn, 1) := by decide +kernel
theorem d109_33 : decode (ix_by 109) 33 = .ok (.iconst 0, 1) := by decide +kernel
theorem d109_34 : decode (ix_by 109) 34 = .ok (.ireturn, 1) := by decide +kernel
theorem d110_0 : decode (ix_by 110) 0 = .ok (.iload_n 1, 1) := by decide +kernel
theorem d110_1 : decode (ix_by 110) 1 = .ok (.iload_n 2, 1) := by decide +kernel
theorem d110_2 : decode (ix_by 110) 2 = .ok (.invokestatic 30, 3) := by decide +kernel
theorem d110_5 : decode (ix_by 110) 5 = .ok (.ifCond .eq 18, 3) := by decide +kernel
theorem d110_8 : decode (ix_by 110) 8 = .ok (.iload_n 3, 1) := by decide +kernel
theorem d110_9 : decode (ix_by 110) 9 = .ok (.invokestatic 93, 3) := by decide +kernel
theorem d110_12 : decode (ix_by 110) 12 = .ok (.ifCond .eq 11, 3) := by decide +kernel
theorem d110_15 : decode (ix_by 110) 15 = .ok (.iload 6, 2) := by decide +kernel
theorem d110_17 : decode (ix_by 110) 17 = .ok (.invokestatic 93, 3) := by decide +kernel
theorem d110_20 : decode (ix_by 110) 20 = .ok (.ifCond .ne 13, 3) := by decide +kernel
theorem d110_23 : decode (ix_by 110) 23 = .ok (.new 48, 3) := by decide +kernel
theorem d110_26 : decode (ix_by 110) 26 = .ok (.dup, 1) := by decide +kernel
theorem d110_27 : decode (ix_by 110) 27 = .ok (.ldc 96, 2) := by decide +kernel
theorem d110_29 : decode (ix_by 110) 29 = .ok (.invokespecial 52, 3) := by decide +kernel
theorem d110_32 : decode (ix_by 110) 32 = .ok (.athrow, 1) := by decide +kernel
theorem d110_33 : decode (ix_by 110) 33 = .ok (.iload 4, 2) := by decide +kernel
theorem d110_35 : decode (ix_by 110) 35 = .ok (.iconst 1, 1) := by decide +kernel
theorem d110_36 : decode (ix_by 110) 36 = .ok (.if_icmp .lt 20, 3) := by decide +kernel
theorem d110_39 : decode (ix_by 110) 39 = .ok (.iload 4, 2) := by decide +kernel
theorem d110_41 : decode (ix_by 110) 41 = .ok (.iconst 2, 1) := by decide +kernel
theorem d110_42 : decode (ix_by 110) 42 = .ok (.if_icmp .gt 14, 3) := by decide +kernel
theorem d110_45 : decode (ix_by 110) 45 = .ok (.iload 5, 2) := by decide +kernel
theorem d110_47 : decode (ix_by 110) 47 = .ok (.ifCond .lt 9, 3) := by decide +kernel
theorem d110_50 : decode (ix_by 110) 50 = .ok (.iload 5, 2) := by decide +kernel
theorem d110_52 : decode (ix_by 110) 52 = .ok (.iconst 2, 1) := by decide +kernel
theorem d110_53 : decode (ix_by 110) 53 = .ok (.if_icmp .le 13, 3) := by decide +kernel
theorem d110_56 : decode (ix_by 110) 56 = .ok (.new 48, 3) := by decide +kernel
theorem d110_59 : decode (ix_by 110) 59 = .ok (.dup, 1) := by decide +kernel
theorem d110_60 : decode (ix_by 110) 60 = .ok (.ldc 98, 2) := by decide +kernel
theorem d110_62 : decode (ix_by 110) 62 = .ok (.invokespecial 52, 3) := by decide +kernel
theorem d110_65 : decode (ix_by 110) 65 = .ok (.athrow, 1) := by decide +kernel
theorem d110_66 : decode (ix_by 110) 66 = .ok (.aload_n 0, 1) := by decide +kernel
theorem d110_67 : decode (ix_by 110) 67 = .ok (.getfield 16, 3) := by decide +kernel
theorem d110_70 : decode (ix_by 110) 70 = .ok (.iload_n 1, 1) := by decide +kernel
theorem d110_71 : decode (ix_by 110) 71 = .ok (.aaload, 1) := by decide +kernel
theorem d110_72 : decode (ix_by 110) 72 = .ok (.astore 7, 2) := by decide +kernel
theorem d110_74 : decode (ix_by 110) 74 = .ok (.aload 7, 2) := by decide +kernel
theorem d110_76 : decode (ix_by 110) 76 = .ok (.getfield 34, 3) := by decide +kernel
theorem d110_79 : decode (ix_by 110) 79 = .ok (.iload_n 2, 1) := by decide +kernel
theorem d110_80 : decode (ix_by 110) 80 = .ok (.invokevirtual 38, 3) := by decide +kernel
theorem d110_83 : decode (ix_by 110) 83 = .ok (.ifCond .ne 13, 3) := by decide +kernel
theorem d110_86 : decode (ix_by 110) 86 = .ok (.new 55, 3) := by decide +kernel
theorem d110_89 : decode (ix_by 110) 89 = .ok (.dup, 1) := by decide +kernel
theorem d110_90 : decode (ix_by 110) 90 = .ok (.ldc 57, 2) := by decide +kernel
theorem d110_92 : decode (ix_by 110) 92 = .ok (.invokespecial 59, 3) := by decide +kernel
theorem d110_95 : decode (ix_by 110) 95 = .ok (.athrow, 1) := by decide +kernel
theorem d110_96 : decode (ix_by 110) 96 = .ok (.aload 7, 2) := by decide +kernel
theorem d110_98 : decode (ix_by 110) 98 = .ok (.getfield 100, 3) := by decide +kernel
theorem d110_101 : decode (ix_by 110) 101 = .ok (.invokevirtual 104, 3) := by decide +kernel
theorem d110_104 : decode (ix_by 110) 104 = .ok (.iconst 3, 1) := by decide +kernel
theorem d110_105 : decode (ix_by 110) 105 = .ok (.if_icmp .ge 17, 3) := by decide +kernel
theorem d110_108 : decode (ix_by 110) 108 = .ok (.aload 7, 2) := by decide +kernel
theorem d110_110 : decode (ix_by 110) 110 = .ok (.getfield 110, 3) := by decide +kernel
theorem d110_113 : decode (ix_by 110) 113 = .ok (.invokevirtual 104, 3) := by decide +kernel
theorem d110_116 : decode (ix_by 110) 116 = .ok (.sipush 512, 3) := by decide +kernel
theorem d110_119 : decode (ix_by 110) 119 = .ok (.if_icmp .lt 13, 3) := by decide +kernel
theorem d110_122 : decode (ix_by 110) 122 = .ok (.new 67, 3) := by decide +kernel
theorem d110_125 : decode (ix_by 110) 125 = .ok (.dup, 1) := by decide +kernel
theorem d110_126 : decode (ix_by 110) 126 = .ok (.ldc 113, 2) := by decide +kernel
theorem d110_128 : decode (ix_by 110) 128 = .ok (.invokespecial 71, 3) := by decide +kernel
theorem d110_131 : decode (ix_by 110) 131 = .ok (.athrow, 1) := by decide +kernel
theorem d110_132 : decode (ix_by 110) 132 = .ok (.aload 7, 2) := by decide +kernel
theorem d110_134 : decode (ix_by 110) 134 = .ok (.getfield 110, 3) := by decide +kernel
theorem d110_137 : decode (ix_by 110) 137 = .ok (.invokevirtual 104, 3) := by decide +kernel
theorem d110_140 : decode (ix_by 110) 140 = .ok (.iconst 1, 1) := by decide +kernel
theorem d110_141 : decode (ix_by 110) 141 = .ok (.iadd, 1) := by decide +kernel
theorem d110_142 : decode (ix_by 110) 142 = .ok (.istore 8, 2) := by decide +kernel
theorem d110_144 : decode (ix_by 110) 144 = .ok (.new 115, 3) := by decide +kernel
theorem d110_147 : decode (ix_by 110) 147 = .ok (.dup, 1) := by decide +kernel
theorem d110_148 : decode (ix_by 110) 148 = .ok (.iload_n 1, 1) := by decide +kernel
theorem d110_149 : decode (ix_by 110) 149 = .ok (.iload 8, 2) := by decide +kernel
theorem d110_151 : decode (ix_by 110) 151 = .ok (.iload_n 2, 1) := by decide +kernel
theorem d110_152 : decode (ix_by 110) 152 = .ok (.iload_n 3, 1) := by decide +kernel
theorem d110_153 : decode (ix_by 110) 153 = .ok (.iload 4, 2) := by decide +kernel
theorem d110_155 : decode (ix_by 110) 155 = .ok (.iload 5, 2) := by decide +kernel
theorem d110_157 : decode (ix_by 110) 157 = .ok (.iload 6, 2) := by decide +kernel
theorem d110_159 : decode (ix_by 110) 159 = .ok (.invokespecial 117, 3) := by decide +kernel
theorem d110_162 : decode (ix_by 110) 162 = .ok (.astore 9, 2) := by decide +kernel
theorem d110_164 : decode (ix_by 110) 164 = .ok (.aload 7, 2) := by decide +kernel
theorem d110_166 : decode (ix_by 110) 166 = .ok (.new 120, 3) := by decide +kernel
theorem d110_169 : decode (ix_by 110) 169 = .ok (.dup, 1) := by decide +kernel
theorem d110_170 : decode (ix_by 110) 170 = .ok (.aload 9, 2) := by decide +kernel
theorem d110_172 : decode (ix_by 110) 172 = .ok (.aload 7, 2) := by decide +kernel
theorem d110_174 : decode (ix_by 110) 174 = .ok (.getfield 34, 3) := by decide +kernel
theorem d110_177 : decode (ix_by 110) 177 = .ok (.aload_n 0, 1) := by decide +kernel
theorem d110_178 : decode (ix_by 110) 178 = .ok (.getfield 23, 3) := by decide +kernel
theorem d110_181 : decode (ix_by 110) 181 = .ok (.aload_n 0, 1) := by decide +kernel
theorem d110_182 : decode (ix_by 110) 182 = .ok (.getfield 7, 3) := by decide +kernel
theorem d110_185 : decode (ix_by 110) 185 = .ok (.invokespecial 122, 3) := by decide +kernel
theorem d110_188 : decode (ix_by 110) 188 = .ok (.invokevirtual 125, 3) := by decide +kernel
theorem d110_191 : decode (ix_by 110) 191 = .ok (.iload 8, 2) := by decide +kernel
theorem d110_193 : decode (ix_by 110) 193 = .ok (.ireturn, 1) := by decide +kernel
theorem d111_0 : decode (ix_by 111) 0 = .ok (.aload_n 0, 1) := by decide +kernel
theorem d111_1 : decode (ix_by 111) 1 = .ok (.invokespecial 3, 3) := by decide +kernel
theorem d111_4 : decode (ix_by 111) 4 = .ok (.aload_n 0, 1) := by decide +kernel
theorem d111_5 : decode (ix_by 111) 5 = .ok (.iload_n 1, 1) := by decide +kernel
theorem d111_6 : decode (ix_by 111) 6 = .ok (.putfield 9, 3) := by decide +kernel
theorem d111_9 : decode (ix_by 111) 9 = .ok (.aload_n 0, 1) := by decide +kernel
theorem d111_10 : decode (ix_by 111) 10 = .ok (.iload_n 2, 1) := by decide +kernel
theorem d111_11 : decode (ix_by 111) 11 = .ok (.putfield 15, 3) := by decide +kernel
theorem d111_14 : decode (ix_by 111) 14 = .ok (.aload_n 0, 1) := by decide +kernel
theorem d111_15 : decode (ix_by 111) 15 = .ok (.iload_n 3, 1) := by decide +kernel
theorem d111_16 : decode (ix_by 111) 16 = .ok (.putfield 18, 3) := by decide +kernel
theorem d111_19 : decode (ix_by 111) 19 = .ok (.aload_n 0, 1) := by decide +kernel
theorem d111_20 : decode (ix_by 111) 20 = .ok (.iload 4, 2) := by decide +kernel
theorem d111_22 : decode (ix_by 111) 22 = .ok (.putfield 21, 3) := by decide +kernel
theorem d111_25 : decode (ix_by 111) 25 = .ok (.aload_n 0, 1) := by decide +kernel
theorem d111_26 : decode (ix_by 111) 26 = .ok (.iload 5, 2) := by decide +kernel
theorem d111_28 : decode (ix_by 111) 28 = .ok (.putfield 24, 3) := by decide +kernel
theorem d111_31 : decode (ix_by 111) 31 = .ok (.aload_n 0, 1) := by decide +kernel
theorem d111_32 : decode (ix_by 111) 32 = .ok (.iload 6, 2) := by decide +kernel
theorem d111_34 : decode (ix_by 111) 34 = .ok (.putfield 27, 3) := by decide +kernel
theorem d111_37 : decode (ix_by 111) 37 = .ok (.aload_n 0, 1) := by decide +kernel
theorem d111_38 : decode (ix_by 111) 38 = .ok (.iload 7, 2) := by decide +kernel
theorem d111_40 : decode (ix_by 111) 40 = .ok (.putfield 30, 3) := by decide +kernel
theorem d111_43 : decode (ix_by 111) 43 = .ok (.return_, 1) := by decide +kernel
theorem d112_0 : decode (ix_by 112) 0 = .ok (.aload_n 0, 1) := by decide +kernel
theorem d112_1 : decode (ix_by 112) 1 = .ok (.invokespecial 3, 3) := by decide +kernel
theorem d112_4 : decode (ix_by 112) 4 = .ok (.aload_n 0, 1) := by decide +kernel
theorem d112_5 : decode (ix_by 112) 5 = .ok (.iconst (-1), 1) := by decide +kernel
theorem d112_6 : decode (ix_by 112) 6 = .ok (.putfield 11, 3) := by decide +kernel
theorem d112_9 : decode (ix_by 112) 9 = .ok (.aload_n 0, 1) := by decide +kernel
theorem d112_10 : decode (ix_by 112) 10 = .ok (.aload_n 1, 1) := by decide +kernel
theorem d112_11 : decode (ix_by 112) 11 = .ok (.putfield 15, 3) := by decide +kernel
theorem d112_14 : decode (ix_by 112) 14 = .ok (.aload_n 0, 1) := by decide +kernel
theorem d112_15 : decode (ix_by 112) 15 = .ok (.aload_n 2, 1) := by decide +kernel
theorem d112_16 : decode (ix_by 112) 16 = .ok (.putfield 19, 3) := by decide +kernel
theorem d112_19 : decode (ix_by 112) 19 = .ok (.aload_n 0, 1) := by decide +kernel
theorem d112_20 : decode (ix_by 112) 20 = .ok (.aload_n 3, 1) := by decide +kernel
theorem d112_21 : decode (ix_by 112) 21 = .ok (.putfield 23, 3) := by decide +kernel
theorem d112_24 : decode (ix_by 112) 24 = .ok (.aload_n 0, 1) := by decide +kernel
theorem d112_25 : decode (ix_by 112) 25 = .ok (.iload 4, 2) := by decide +kernel
theorem d112_27 : decode (ix_by 112) 27 = .ok (.putfield 27, 3) := by decide +kernel
theorem d112_30 : decode (ix_by 112) 30 = .ok (.aload_n 0, 1) := by decide +kernel
theorem d112_31 : decode (ix_by 112) 31 = .ok (.aload_n 2, 1) := by decide +kernel
theorem d112_32 : decode (ix_by 112) 32 = .ok (.aload_n 1, 1) := by decide +kernel
theorem d112_33 : decode (ix_by 112) 33 = .ok (.getfield 30, 3) := by decide +kernel
theorem d112_36 : decode (ix_by 112) 36 = .ok (.invokevirtual 35, 3) := by decide +kernel
theorem d112_39 : decode (ix_by 112) 39 = .ok (.invokestatic 41, 3) := by decide +kernel
theorem d112_42 : decode (ix_by 112) 42 = .ok (.putfield 44, 3) := by decide +kernel
theorem d112_45 : decode (ix_by 112) 45 = .ok (.return_, 1) := by decide +kernel
theorem d113_0 : decode (ix_by 113) 0 = .ok (.aload_n 0, 1) := by decide +kernel
theorem d113_1 : decode (ix_by 113) 1 = .ok (.getfield 19, 3) := by decide +kernel
theorem d113_4 : decode (ix_by 113) 4 = .ok (.aload_n 1, 1) := by decide +kernel
theorem d113_5 : decode (ix_by 113) 5 = .ok (.invokevirtual 29, 3) := by decide +kernel
theorem d113_8 : decode (ix_by 113) 8 = .ok (.pop, 1) := by decide +kernel
theorem d113_9 : decode (ix_by 113) 9 = .ok (.aload_n 0, 1) := by decide +kernel
theorem d113_10 : decode (ix_by 113) 10 = .ok (.getfield 23, 3) := by decide +kernel
theorem d113_13 : decode (ix_by 113) 13 = .ok (.aload_n 1, 1) := by decide +kernel
theorem d113_14 : decode (ix_by 113) 14 = .ok (.invokevirtual 29, 3) := by decide +kernel
theorem d113_17 : decode (ix_by 113) 17 = .ok (.pop, 1) := by decide +kernel
theorem d113_18 : decode (ix_by 113) 18 = .ok (.return_, 1) := by decide +kernel
theorem d114_0 : decode (ix_by 114) 0 = .ok (.aload_n 0, 1) := by decide +kernel
theorem d114_1 : decode (ix_by 114) 1 = .ok (.invokespecial 1, 3) := by decide +kernel
theorem d114_4 : decode (ix_by 114) 4 = .ok (.aload_n 0, 1) := by decide +kernel
theorem d114_5 : decode (ix_by 114) 5 = .ok (.bipush 12, 2) := by decide +kernel
theorem d114_7 : decode (ix_by 114) 7 = .ok (.newarray .boolean, 2) := by decide +kernel
theorem d114_9 : decode (ix_by 114) 9 = .ok (.putfield 7, 3) := by decide +kernel
theorem d114_12 : decode (ix_by 114) 12 = .ok (.aload_n 0, 1) := by decide +kernel
theorem d114_13 : decode (ix_by 114) 13 = .ok (.bipush 12, 2) := by decide +kernel
theorem d114_15 : decode (ix_by 114) 15 = .ok (.newarray .int, 2) := by decide +kernel
theorem d114_17 : decode (ix_by 114) 17 = .ok (.putfield 13, 3) := by decide +kernel
theorem d114_20 : decode (ix_by 114) 20 = .ok (.aload_n 0, 1) := by decide +kernel
theorem d114_21 : decode (ix_by 114) 21 = .ok (.sipush 768, 3) := by decide +kernel
theorem d114_24 : decode (ix_by 114) 24 = .ok (.newarray .int, 2) := by decide +kernel
theorem d114_26 : decode (ix_by 114) 26 = .ok (.putfield 17, 3) := by decide +kernel
theorem d114_29 : decode (ix_by 114) 29 = .ok (.aload_n 0, 1) := by decide +kernel
theorem d114_30 : decode (ix_by 114) 30 = .ok (.iconst 2, 1) := by decide +kernel
theorem d114_31 : decode (ix_by 114) 31 = .ok (.newarray .int, 2) := by decide +kernel
theorem d114_33 : decode (ix_by 114) 33 = .ok (.putfield 20, 3) := by decide +kernel
theorem d114_36 : decode (ix_by 114) 36 = .ok (.aload_n 0, 1) := by decide +kernel
theorem d114_37 : decode (ix_by 114) 37 = .ok (.sipush 640, 3) := by decide +kernel
theorem d114_40 : decode (ix_by 114) 40 = .ok (.newarray .int, 2) := by decide +kernel
theorem d114_42 : decode (ix_by 114) 42 = .ok (.putfield 23, 3) := by decide +kernel
theorem d114_45 : decode (ix_by 114) 45 = .ok (.aload_n 0, 1) := by decide +kernel
theorem d114_46 : decode (ix_by 114) 46 = .ok (.sipush 640, 3) := by decide +kernel
theorem d114_49 : decode (ix_by 114) 49 = .ok (.newarray .int, 2) := by decide +kernel
theorem d114_51 : decode (ix_by 114) 51 = .ok (.putfield 26, 3) := by decide +kernel
theorem d114_54 : decode (ix_by 114) 54 = .ok (.aload_n 0, 1) := by decide +kernel
theorem d114_55 : decode (ix_by 114) 55 = .ok (.sipush 640, 3) := by decide +kernel
theorem d114_58 : decode (ix_by 114) 58 = .ok (.newarray .int, 2) := by decide +kernel
theorem d114_60 : decode (ix_by 114) 60 = .ok (.putfield 29, 3) := by decide +kernel
theorem d114_63 : decode (ix_by 114) 63 = .ok (.aload_n 0, 1) := by decide +kernel
theorem d114_64 : decode (ix_by 114) 64 = .ok (.sipush 640, 3) := by decide +kernel
theorem d114_67 : decode (ix_by 114) 67 = .ok (.newarray .int, 2) := by decide +kernel
theorem d114_69 : decode (ix_by 114) 69 = .ok (.putfield 32, 3) := by decide +kernel
theorem d114_72 : decode (ix_by 114) 72 = .ok (.aload_n 0, 1) := by decide +kernel
theorem d114_73 : decode (ix_by 114) 73 = .ok (.sipush 640, 3) := by decide +kernel
theorem d114_76 : decode (ix_by 114) 76 = .ok (.newarray .int, 2) := by decide +kernel
theorem d114_78 : decode (ix_by 114) 78 = .ok (.putfield 35, 3) := by decide +kernel
theorem d114_81 : decode (ix_by 114) 81 = .ok (.aload_n 0, 1) := by decide +kernel
theorem d114_82 : decode (ix_by 114) 82 = .ok (.sipush 640, 3) := by decide +kernel
theorem d114_85 : decode (ix_by 114) 85 = .ok (.newarray .int, 2) := by decide +kernel
theorem d114_87 : decode (ix_by 114) 87 = .ok (.putfield 38, 3) := by decide +kernel
theorem d114_90 : decode (ix_by 114) 90 = .ok (.aload_n 0, 1) := by decide +kernel
theorem d114_91 : decode (ix_by 114) 91 = .ok (.sipush 640, 3) := by decide +kernel
theorem d114_94 : decode (ix_by 114) 94 = .ok (.newarray .int, 2) := by decide +kernel
theorem d114_96 : decode (ix_by 114) 96 = .ok (.putfield 41, 3) := by decide +kernel
theorem d114_99 : decode (ix_by 114) 99 = .ok (.aload_n 0, 1) := by decide +kernel
theorem d114_100 : decode (ix_by 114) 100 = .ok (.sipush 640, 3) := by decide +kernel
theorem d114_103 : decode (ix_by 114) 103 = .ok (.newarray .int, 2) := by decide +kernel
theorem d114_105 : decode (ix_by 114) 105 = .ok (.putfield 44, 3) := by decide +kernel
theorem d114_108 : decode (ix_by 114) 108 = .ok (.aload_n 0, 1) := by decide +kernel
theorem d114_109 : decode (ix_by 114) 109 = .ok (.sipush 640, 3) := by decide +kernel
theorem d114_112 : decode (ix_by 114) 112 = .ok (.newarray .int, 2) := by decide +kernel
theorem d114_114 : decode (ix_by 114) 114 = .ok (.putfield 47, 3) := by decide +kernel
theorem d114_117 : decode (ix_by 114) 117 = .ok (.aload_n 0, 1) := by decide +kernel
theorem d114_118 : decode (ix_by 114) 118 = .ok (.sipush 640, 3) := by decide +kernel
theorem d114_121 : decode (ix_by 114) 121 = .ok (.newarray .int, 2) := by decide +kernel
theorem d114_123 : decode (ix_by 114) 123 = .ok (.putfield 50, 3) := by decide +kernel
theorem d114_126 : decode (ix_by 114) 126 = .ok (.aload_n 0, 1) := by decide +kernel
theorem d114_127 : decode (ix_by 114) 127 = .ok (.sipush 640, 3) := by decide +kernel
theorem d114_130 : decode (ix_by 114) 130 = .ok (.newarray .int, 2) := by decide +kernel
theorem d114_132 : decode (ix_by 114) 132 = .ok (.putfield 53, 3) := by decide +kernel
theorem d114_135 : decode (ix_by 114) 135 = .ok (.aload_n 0, 1) := by decide +kernel
theorem d114_136 : decode (ix_by 114) 136 = .ok (.sipush 640, 3) := by decide +kernel
theorem d114_139 : decode (ix_by 114) 139 = .ok (.newarray .int, 2) := by decide +kernel
theorem d114_141 : decode (ix_by 114) 141 = .ok (.putfield 56, 3) := by decide +kernel
theorem d114_144 : decode (ix_by 114) 144 = .ok (.aload_n 0, 1) := by decide +kernel
theorem d114_145 : decode (ix_by 114) 145 = .ok (.sipush 640, 3) := by decide +kernel
theorem d114_148 : decode (ix_by 114) 148 = .ok (.newarray .boolean, 2) := by decide +kernel
theorem d114_150 : decode (ix_by 114) 150 = .ok (.putfield 59, 3) := by decide +kernel
theorem d114_153 : decode (ix_by 114) 153 = .ok (.aload_n 0, 1) := by decide +kernel
theorem d114_154 : decode (ix_by 114) 154 = .ok (.sipush 640, 3) := by decide +kernel
theorem d114_157 : decode (ix_by 114) 157 = .ok (.newarray .boolean, 2) := by decide +kernel
theorem d114_159 : decode (ix_by 114) 159 = .ok (.putfield 62, 3) := by decide +kernel
theorem d114_162 : decode (ix_by 114) 162 = .ok (.aload_n 0, 1) := by decide +kernel
theorem d114_163 : decode (ix_by 114) 163 = .ok (.sipush 640, 3) := by decide +kernel
theorem d114_166 : decode (ix_by 114) 166 = .ok (.newarray .boolean, 2) := by decide +kernel
theorem d114_168 : decode (ix_by 114) 168 = .ok (.putfield 65, 3) := by decide +kernel
theorem d114_171 : decode (ix_by 114) 171 = .ok (.aload_n 0, 1) := by decide +kernel
theorem d114_172 : decode (ix_by 114) 172 = .ok (.sipush 640, 3) := by decide +kernel
theorem d114_175 : decode (ix_by 114) 175 = .ok (.newarray .int, 2) := by decide +kernel
theorem d114_177 : decode (ix_by 114) 177 = .ok (.putfield 68, 3) := by decide +kernel
theorem d114_180 : decode (ix_by 114) 180 = .ok (.aload_n 0, 1) := by decide +kernel
theorem d114_181 : decode (ix_by 114) 181 = .ok (.sipush 640, 3) := by decide +kernel
theorem d114_184 : decode (ix_by 114) 184 = .ok (.newarray .int, 2) := by decide +kernel
theorem d114_186 : decode (ix_by 114) 186 = .ok (.putfield 71, 3) := by decide +kernel
theorem d114_189 : decode (ix_by 114) 189 = .ok (.aload_n 0, 1) := by decide +kernel
theorem d114_190 : decode (ix_by 114) 190 = .ok (.sipush 640, 3) := by decide +kernel
theorem d114_193 : decode (ix_by 114) 193 = .ok (.newarray .int, 2) := by decide +kernel
theorem d114_195 : decode (ix_by 114) 195 = .ok (.putfield 74, 3) := by decide +kernel
theorem d114_198 : decode (ix_by 114) 198 = .ok (.aload_n 0, 1) := by decide +kernel
theorem d114_199 : decode (ix_by 114) 199 = .ok (.bipush 6, 2) := by decide +kernel
theorem d114_201 : decode (ix_by 114) 201 = .ok (.newarray .int, 2) := by decide +kernel
theorem d114_203 : decode (ix_by 114) 203 = .ok (.putfield 77, 3) := by decide +kernel
theorem d114_206 : decode (ix_by 114) 206 = .ok (.aload_n 0, 1) := by decide +kernel
theorem d114_207 : decode (ix_by 114) 207 = .ok (.bipush 6, 2) := by decide +kernel
theorem d114_209 : decode (ix_by 114) 209 = .ok (.newarray .int, 2) := by decide +kernel
theorem d114_211 : decode (ix_by 114) 211 = .ok (.putfield 80, 3) := by decide +kernel
theorem d114_214 : decode (ix_by 114) 214 = .ok (.aload_n 0, 1) := by decide +kernel
theorem d114_215 : decode (ix_by 114) 215 = .ok (.bipush 6, 2) := by decide +kernel
theorem d114_217 : decode (ix_by 114) 217 = .ok (.newarray .int, 2) := by decide +kernel
theorem d114_219 : decode (ix_by 114) 219 = .ok (.putfield 83, 3) := by decide +kernel
theorem d114_222 : decode (ix_by 114) 222 = .ok (.aload_n 0, 1) := by decide +kernel
theorem d114_223 : decode (ix_by 114) 223 = .ok (.bipush 6, 2) := by decide +kernel
theorem d114_225 : decode (ix_by 114) 225 = .ok (.newarray .int, 2) := by decide +kernel
theorem d114_227 : decode (ix_by 114) 227 = .ok (.putfield 86, 3) := by decide +kernel
theorem d114_230 : decode (ix_by 114) 230 = .ok (.aload_n 0, 1) := by decide +kernel
theorem d114_231 : decode (ix_by 114) 231 = .ok (.bipush 6, 2) := by decide +kernel
theorem d114_233 : decode (ix_by 114) 233 = .ok (.newarray .int, 2) := by decide +kernel
theorem d114_235 : decode (ix_by 114) 235 = .ok (.putfield 89, 3) := by decide +kernel
theorem d114_238 : decode (ix_by 114) 238 = .ok (.aload_n 0, 1) := by decide +kernel
theorem d114_239 : decode (ix_by 114) 239 = .ok (.bipush 6, 2) := by decide +kernel
theorem d114_241 : decode (ix_by 114) 241 = .ok (.newarray .int, 2) := by decide +kernel
theorem d114_243 : decode (ix_by 114) 243 = .ok (.putfield 92, 3) := by decide +kernel
theorem d114_246 : decode (ix_by 114) 246 = .ok (.aload_n 0, 1) := by decide +kernel
theorem d114_247 : decode (ix_by 114) 247 = .ok (.bipush 6, 2) := by decide +kernel
theorem d114_249 : decode (ix_by 114) 249 = .ok (.newarray .int, 2) := by decide +kernel
theorem d114_251 : decode (ix_by 114) 251 = .ok (.putfield 95, 3) := by decide +kernel
theorem d114_254 : decode (ix_by 114) 254 = .ok (.aload_n 0, 1) := by decide +kernel
theorem d114_255 : decode (ix_by 114) 255 = .ok (.bipush 6, 2) := by decide +kernel
theorem d114_257 : decode (ix_by 114) 257 = .ok (.newarray .int, 2) := by decide +kernel
theorem d114_259 : decode (ix_by 114) 259 = .ok (.putfield 98, 3) := by decide +kernel
theorem d114_262 : decode (ix_by 114) 262 = .ok (.aload_n 0, 1) := by decide +kernel
theorem d114_263 : decode (ix_by 114) 263 = .ok (.bipush 6, 2) := by decide +kernel
theorem d114_265 : decode (ix_by 114) 265 = .ok (.newarray .int, 2) := by decide +kernel
theorem d114_267 : decode (ix_by 114) 267 = .ok (.putfield 101, 3) := by decide +kernel
theorem d114_270 : decode (ix_by 114) 270 = .ok (.aload_n 0, 1) := by decide +kernel
theorem d114_271 : decode (ix_by 114) 271 = .ok (.bipush 6, 2) := by decide +kernel
theorem d114_273 : decode (ix_by 114) 273 = .ok (.newarray .boolean, 2) := by decide +kernel
theorem d114_275 : decode (ix_by 114) 275 = .ok (.putfield 104, 3) := by decide +kernel
theorem d114_278 : decode (ix_by 114) 278 = .ok (.aload_n 0, 1) := by decide +kernel
theorem d114_279 : decode (ix_by 114) 279 = .ok (.bipush 6, 2) := by decide +kernel
theorem d114_281 : decode (ix_by 114) 281 = .ok (.newarray .boolean, 2) := by decide +kernel
theorem d114_283 : decode (ix_by 114) 283 = .ok (.putfield 107, 3) := by decide +kernel
theorem d114_286 : decode (ix_by 114) 286 = .ok (.aload_n 0, 1) := by decide +kernel
theorem d114_287 : decode (ix_by 114) 287 = .ok (.bipush 6, 2) := by decide +kernel
theorem d114_289 : decode (ix_by 114) 289 = .ok (.newarray .boolean, 2) := by decide +kernel
theorem d114_291 : decode (ix_by 114) 291 = .ok (.putfield 110, 3) := by decide +kernel
theorem d114_294 : decode (ix_by 114) 294 = .ok (.aload_n 0, 1) := by decide +kernel
theorem d114_295 : decode (ix_by 114) 295 = .ok (.bipush 96, 2) := by decide +kernel
theorem d114_297 : decode (ix_by 114) 297 = .ok (.newarray .int, 2) := by decide +kernel
theorem d114_299 : decode (ix_by 114) 299 = .ok (.putfield 113, 3) := by decide +kernel
theorem d114_302 : decode (ix_by 114) 302 = .ok (.aload_n 0, 1) := by decide +kernel
theorem d114_303 : decode (ix_by 114) 303 = .ok (.bipush 96, 2) := by decide +kernel
theorem d114_305 : decode (ix_by 114) 305 = .ok (.newarray .int, 2) := by decide +kernel
theorem d114_307 : decode (ix_by 114) 307 = .ok (.putfield 116, 3) := by decide +kernel
theorem d114_310 : decode (ix_by 114) 310 = .ok (.aload_n 0, 1) := by decide +kernel
theorem d114_311 : decode (ix_by 114) 311 = .ok (.bipush 6, 2) := by decide +kernel
theorem d114_313 : decode (ix_by 114) 313 = .ok (.newarray .int, 2) := by decide +kernel
theorem d114_315 : decode (ix_by 114) 315 = .ok (.putfield 119, 3) := by decide +kernel
theorem d114_318 : decode (ix_by 114) 318 = .ok (.aload_n 0, 1) := by decide +kernel
theorem d114_319 : decode (ix_by 114) 319 = .ok (.bipush 6, 2) := by decide +kernel
theorem d114_321 : decode (ix_by 114) 321 = .ok (.newarray .int, 2) := by decide +kernel
theorem d114_323 : decode (ix_by 114) 323 = .ok (.putfield 122, 3) := by decide +kernel
theorem d114_326 : decode (ix_by 114) 326 = .ok (.aload_n 0, 1) := by decide +kernel
theorem d114_327 : decode (ix_by 114) 327 = .ok (.iconst 2, 1) := by decide +kernel
theorem d114_328 : decode (ix_by 114) 328 = .ok (.newarray .int, 2) := by decide +kernel
theorem d114_330 : decode (ix_by 114) 330 = .ok (.putfield 125, 3) := by decide +kernel
theorem d114_333 : decode (ix_by 114) 333 = .ok (.aload_n 0, 1) := by decide +kernel
theorem d114_334 : decode (ix_by 114) 334 = .ok (.iconst 2, 1) := by decide +kernel
theorem d114_335 : decode (ix_by 114) 335 = .ok (.newarray .int, 2) := by decide +kernel
theorem d114_337 : decode (ix_by 114) 337 = .ok (.putfield 128, 3) := by decide +kernel
theorem d114_340 : decode (ix_by 114) 340 = .ok (.aload_n 0, 1) := by decide +kernel
theorem d114_341 : decode (ix_by 114) 341 = .ok (.sipush 264, 3) := by decide +kernel
theorem d114_344 : decode (ix_by 114) 344 = .ok (.newarray .int, 2) := by decide +kernel
theorem d114_346 : decode (ix_by 114) 346 = .ok (.putfield 131, 3) := by decide +kernel
theorem d114_349 : decode (ix_by 114) 349 = .ok (.aload_n 0, 1) := by decide +kernel
theorem d114_350 : decode (ix_by 114) 350 = .ok (.bipush 11, 2) := by decide +kernel
theorem d114_352 : decode (ix_by 114) 352 = .ok (.newarray .int, 2) := by decide +kernel
theorem d114_354 : decode (ix_by 114) 354 = .ok (.putfield 134, 3) := by decide +kernel
theorem d114_357 : decode (ix_by 114) 357 = .ok (.aload_n 0, 1) := by decide +kernel
theorem d114_358 : decode (ix_by 114) 358 = .ok (.bipush 6, 2) := by decide +kernel
theorem d114_360 : decode (ix_by 114) 360 = .ok (.newarray .int, 2) := by decide +kernel
theorem d114_362 : decode (ix_by 114) 362 = .ok (.putfield 137, 3) := by decide +kernel
theorem d114_365 : decode (ix_by 114) 365 = .ok (.aload_n 0, 1) := by decide +kernel
theorem d114_366 : decode (ix_by 114) 366 = .ok (.iconst 4, 1) := by decide +kernel
theorem d114_367 : decode (ix_by 114) 367 = .ok (.iload_n 1, 1) := by decide +kernel
theorem d114_368 : decode (ix_by 114) 368 = .ok (.bipush 7, 2) := by decide +kernel
theorem d114_370 : decode (ix_by 114) 370 = .ok (.iand, 1) := by decide +kernel
theorem d114_371 : decode (ix_by 114) 371 = .ok (.iadd, 1) := by decide +kernel
theorem d114_372 : decode (ix_by 114) 372 = .ok (.putfield 140, 3) := by decide +kernel
theorem d114_375 : decode (ix_by 114) 375 = .ok (.return_, 1) := by decide +kernel
theorem d115_0 : decode (ix_by 115) 0 = .ok (.aload_n 0, 1) := by decide +kernel
theorem d115_1 : decode (ix_by 115) 1 = .ok (.getfield 144, 3) := by decide +kernel
theorem d115_4 : decode (ix_by 115) 4 = .ok (.ireturn, 1) := by decide +kernel
theorem d116_0 : decode (ix_by 116) 0 = .ok (.aload_n 0, 1) := by decide +kernel
theorem d116_1 : decode (ix_by 116) 1 = .ok (.iconst 0, 1) := by decide +kernel
theorem d116_2 : decode (ix_by 116) 2 = .ok (.putfield 144, 3) := by decide +kernel
theorem d116_5 : decode (ix_by 116) 5 = .ok (.iload_n 1, 1) := by decide +kernel
theorem d116_6 : decode (ix_by 116) 6 = .ok (.iload_n 2, 1) := by decide +kernel
theorem d116_7 : decode (ix_by 116) 7 = .ok (.invokestatic 151, 3) := by decide +kernel
theorem d116_10 : decode (ix_by 116) 10 = .ok (.ifCond .eq 17, 3) := by decide +kernel
theorem d116_13 : decode (ix_by 116) 13 = .ok (.aload_n 0, 1) := by decide +kernel
theorem d116_14 : decode (ix_by 116) 14 = .ok (.getfield 7, 3) := by decide +kernel
theorem d116_17 : decode (ix_by 116) 17 = .ok (.bipush 6, 2) := by decide +kernel
theorem d116_19 : decode (ix_by 116) 19 = .ok (.iload_n 1, 1) := by decide +kernel
theorem d116_20 : decode (ix_by 116) 20 = .ok (.imul, 1) := by decide +kernel
theorem d116_21 : decode (ix_by 116) 21 = .ok (.iload_n 2, 1) := by decide +kernel
theorem d116_22 : decode (ix_by 116) 22 = .ok (.iadd, 1) := by decide +kernel
theorem d116_23 : decode (ix_by 116) 23 = .ok (.baload, 1) := by decide +kernel
theorem d116_24 : decode (ix_by 116) 24 = .ok (.ifCond .eq 5, 3) := by decide +kernel
theorem d116_27 : decode (ix_by 116) 27 = .ok (.iconst 0, 1) := by decide +kernel
theorem d116_28 : decode (ix_by 116) 28 = .ok (.ireturn, 1) := by decide +kernel
theorem d116_29 : decode (ix_by 116) 29 = .ok (.aload_n 0, 1) := by decide +kernel
theorem d116_30 : decode (ix_by 116) 30 = .ok (.getfield 7, 3) := by decide +kernel
theorem d116_33 : decode (ix_by 116) 33 = .ok (.bipush 6, 2) := by decide +kernel
theorem d116_35 : decode (ix_by 116) 35 = .ok (.iload_n 1, 1) := by decide +kernel
theorem d116_36 : decode (ix_by 116) 36 = .ok (.imul, 1) := by decide +kernel
theorem d116_37 : decode (ix_by 116) 37 = .ok (.iload_n 2, 1) := by decide +kernel
theorem d116_38 : decode (ix_by 116) 38 = .ok (.iadd, 1) := by decide +kernel
theorem d116_39 : decode (ix_by 116) 39 = .ok (.iconst 1, 1) := by decide +kernel
theorem d116_40 : decode (ix_by 116) 40 = .ok (.bastore, 1) := by decide +kernel
theorem d116_41 : decode (ix_by 116) 41 = .ok (.aload_n 0, 1) := by decide +kernel
theorem d116_42 : decode (ix_by 116) 42 = .ok (.getfield 13, 3) := by decide +kernel
theorem d116_45 : decode (ix_by 116) 45 = .ok (.bipush 6, 2) := by decide +kernel
theorem d116_47 : decode (ix_by 116) 47 = .ok (.iload_n 1, 1) := by decide +kernel
theorem d116_48 : decode (ix_by 116) 48 = .ok (.imul, 1) := by decide +kernel
theorem d116_49 : decode (ix_by 116) 49 = .ok (.iload_n 2, 1) := by decide +kernel
theorem d116_50 : decode (ix_by 116) 50 = .ok (.iadd, 1) := by decide +kernel
theorem d116_51 : decode (ix_by 116) 51 = .ok (.iconst 0, 1) := by decide +kernel
theorem d116_52 : decode (ix_by 116) 52 = .ok (.iastore, 1) := by decide +kernel
theorem d116_53 : decode (ix_by 116) 53 = .ok (.iconst 1, 1) := by decide +kernel
theorem d116_54 : decode (ix_by 116) 54 = .ok (.ireturn, 1) := by decide +kernel
theorem d117_0 : decode (ix_by 117) 0 = .ok (.iload_n 0, 1) := by decide +kernel
theorem d117_1 : decode (ix_by 117) 1 = .ok (.iconst 0, 1) := by decide +kernel
theorem d117_2 : decode (ix_by 117) 2 = .ok (.iconst 1, 1) := by decide +kernel
theorem d117_3 : decode (ix_by 117) 3 = .ok (.invokestatic 147, 3) := by decide +kernel
theorem d117_6 : decode (ix_by 117) 6 = .ok (.ifCond .eq 16, 3) := by decide +kernel
theorem d117_9 : decode (ix_by 117) 9 = .ok (.iload_n 1, 1) := by decide +kernel
theorem d117_10 : decode (ix_by 117) 10 = .ok (.iconst 0, 1) := by decide +kernel
theorem d117_11 : decode (ix_by 117) 11 = .ok (.iconst 5, 1) := by decide +kernel
theorem d117_12 : decode (ix_by 117) 12 = .ok (.invokestatic 147, 3) := by decide +kernel
theorem d117_15 : decode (ix_by 117) 15 = .ok (.ifCond .eq 7, 3) := by decide +kernel
theorem d117_18 : decode (ix_by 117) 18 = .ok (.iconst 1, 1) := by decide +kernel
theorem d117_19 : decode (ix_by 117) 19 = .ok (.goto 4, 3) := by decide +kernel
theorem d117_22 : decode (ix_by 117) 22 = .ok (.iconst 0, 1) := by decide +kernel
theorem d117_23 : decode (ix_by 117) 23 = .ok (.ireturn, 1) := by decide +kernel
theorem d118_0 : decode (ix_by 118) 0 = .ok (.iload_n 0, 1) := by decide +kernel
theorem d118_1 : decode (ix_by 118) 1 = .ok (.iload_n 1, 1) := by decide +kernel
theorem d118_2 : decode (ix_by 118) 2 = .ok (.if_icmp .lt 12, 3) := by decide +kernel
theorem d118_5 : decode (ix_by 118) 5 = .ok (.iload_n 0, 1) := by decide +kernel
theorem d118_6 : decode (ix_by 118) 6 = .ok (.iload_n 2, 1) := by decide +kernel
theorem d118_7 : decode (ix_by 118) 7 = .ok (.if_icmp .gt 7, 3) := by decide +kernel
theorem d118_10 : decode (ix_by 118) 10 = .ok (.iconst 1, 1) := by decide +kernel
theorem d118_11 : decode (ix_by 118) 11 = .ok (.goto 4, 3) := by decide +kernel
theorem d118_14 : decode (ix_by 118) 14 = .ok (.iconst 0, 1) := by decide +kernel
theorem d118_15 : decode (ix_by 118) 15 = .ok (.ireturn, 1) := by decide +kernel
theorem d119_0 : decode (ix_by 119) 0 = .ok (.aload_n 0, 1) := by decide +kernel
theorem d119_1 : decode (ix_by 119) 1 = .ok (.iconst 0, 1) := by decide +kernel
theorem d119_2 : decode (ix_by 119) 2 = .ok (.putfield 144, 3) := by decide +kernel
theorem d119_5 : decode (ix_by 119) 5 = .ok (.iload_n 1, 1) := by decide +kernel
theorem d119_6 : decode (ix_by 119) 6 = .ok (.iload_n 2, 1) := by decide +kernel
theorem d119_7 : decode (ix_by 119) 7 = .ok (.invokestatic 151, 3) := by decide +kernel
theorem d119_10 : decode (ix_by 119) 10 = .ok (.ifCond .eq 13, 3) := by decide +kernel
theorem d119_13 : decode (ix_by 119) 13 = .ok (.iload_n 3, 1) := by decide +kernel
theorem d119_14 : decode (ix_by 119) 14 = .ok (.iconst 1, 1) := by decide +kernel
theorem d119_15 : decode (ix_by 119) 15 = .ok (.bipush 8, 2) := by decide +kernel
theorem d119_17 : decode (ix_by 119) 17 = .ok (.invokestatic 147, 3) := by decide +kernel
theorem d119_20 : decode (ix_by 119) 20 = .ok (.ifCond .ne 9, 3) := by decide +kernel
theorem d119_23 : decode (ix_by 119) 23 = .ok (.aload_n 0, 1) := by decide +kernel
theorem d119_24 : decode (ix_by 119) 24 = .ok (.iconst 1, 1) := by decide +kernel
theorem d119_25 : decode (ix_by 119) 25 = .ok (.invokevirtual 155, 3) := by decide +kernel
theorem d119_28 : decode (ix_by 119) 28 = .ok (.ireturn, 1) := by decide +kernel
theorem d119_29 : decode (ix_by 119) 29 = .ok (.bipush 6, 2) := by decide +kernel
theorem d119_31 : decode (ix_by 119) 31 = .ok (.iload_n 1, 1) := by decide +kernel
theorem d119_32 : decode (ix_by 119) 32 = .ok (.imul, 1) := by decide +kernel
theorem d119_33 : decode (ix_by 119) 33 = .ok (.iload_n 2, 1) := by decide +kernel
theorem d119_34 : decode (ix_by 119) 34 = .ok (.iadd, 1) := by decide +kernel
theorem d119_35 : decode (ix_by 119) 35 = .ok (.istore 6, 2) := by decide +kernel
theorem d119_37 : decode (ix_by 119) 37 = .ok (.aload_n 0, 1) := by decide +kernel
theorem d119_38 : decode (ix_by 119) 38 = .ok (.getfield 7, 3) := by decide +kernel
theorem d119_41 : decode (ix_by 119) 41 = .ok (.iload 6, 2) := by decide +kernel
theorem d119_43 : decode (ix_by 119) 43 = .ok (.baload, 1) := by decide +kernel
theorem d119_44 : decode (ix_by 119) 44 = .ok (.ifCond .ne 9, 3) := by decide +kernel
theorem d119_47 : decode (ix_by 119) 47 = .ok (.aload_n 0, 1) := by decide +kernel
theorem d119_48 : decode (ix_by 119) 48 = .ok (.iconst 2, 1) := by decide +kernel
theorem d119_49 : decode (ix_by 119) 49 = .ok (.invokevirtual 155, 3) := by decide +kernel
theorem d119_52 : decode (ix_by 119) 52 = .ok (.ireturn, 1) := by decide +kernel
theorem d119_53 : decode (ix_by 119) 53 = .ok (.aload_n 0, 1) := by decide +kernel
theorem d119_54 : decode (ix_by 119) 54 = .ok (.iload_n 1, 1) := by decide +kernel
theorem d119_55 : decode (ix_by 119) 55 = .ok (.iload_n 2, 1) := by decide +kernel
theorem d119_56 : decode (ix_by 119) 56 = .ok (.invokevirtual 159, 3) := by decide +kernel
theorem d119_59 : decode (ix_by 119) 59 = .ok (.ifCond .ne 17, 3) := by decide +kernel
theorem d119_62 : decode (ix_by 119) 62 = .ok (.aload_n 0, 1) := by decide +kernel
theorem d119_63 : decode (ix_by 119) 63 = .ok (.getfield 13, 3) := by decide +kernel
theorem d119_66 : decode (ix_by 119) 66 = .ok (.iload 6, 2) := by decide +kernel
theorem d119_68 : decode (ix_by 119) 68 = .ok (.iaload, 1) := by decide +kernel
theorem d119_69 : decode (ix_by 119) 69 = .ok (.iload_n 3, 1) := by decide +kernel
theorem d119_70 : decode (ix_by 119) 70 = .ok (.iadd, 1) := by decide +kernel
theorem d119_71 : decode (ix_by 119) 71 = .ok (.bipush 64, 2) := by decide +kernel
theorem d119_73 : decode (ix_by 119) 73 = .ok (.if_icmp .le 9, 3) := by decide +kernel
theorem d119_76 : decode (ix_by 119) 76 = .ok (.aload_n 0, 1) := by decide +kernel
theorem d119_77 : decode (ix_by 119) 77 = .ok (.iconst 3, 1) := by decide +kernel
theorem d119_78 : decode (ix_by 119) 78 = .ok (.invokevirtual 155, 3) := by decide +kernel
theorem d119_81 : decode (ix_by 119) 81 = .ok (.ireturn, 1) := by decide +kernel
theorem d119_82 : decode (ix_by 119) 82 = .ok (.iconst 0, 1) := by decide +kernel
theorem d119_83 : decode (ix_by 119) 83 = .ok (.istore 7, 2) := by decide +kernel
theorem d119_85 : decode (ix_by 119) 85 = .ok (.iload 7, 2) := by decide +kernel
theorem d119_87 : decode (ix_by 119) 87 = .ok (.iload_n 3, 1) := by decide +kernel
theorem d119_88 : decode (ix_by 119) 88 = .ok (.if_icmp .ge 43, 3) := by decide +kernel
theorem d119_91 : decode (ix_by 119) 91 = .ok (.aload_n 0, 1) := by decide +kernel
theorem d119_92 : decode (ix_by 119) 92 = .ok (.getfield 17, 3) := by decide +kernel
theorem d119_95 : decode (ix_by 119) 95 = .ok (.bipush 64, 2) := by decide +kernel
theorem d119_97 : decode (ix_by 119) 97 = .ok (.iload 6, 2) := by decide +kernel
theorem d119_99 : decode (ix_by 119) 99 = .ok (.imul, 1) := by decide +kernel
theorem d119_100 : decode (ix_by 119) 100 = .ok (.aload_n 0, 1) := by decide +kernel
theorem d119_101 : decode (ix_by 119) 101 = .ok (.getfield 13, 3) := by decide +kernel
theorem d119_104 : decode (ix_by 119) 104 = .ok (.iload 6, 2) := by decide +kernel
theorem d119_106 : decode (ix_by 119) 106 = .ok (.iaload, 1) := by decide +kernel
theorem d119_107 : decode (ix_by 119) 107 = .ok (.iadd, 1) := by decide +kernel
theorem d119_108 : decode (ix_by 119) 108 = .ok (.iload 7, 2) := by decide +kernel
theorem d119_110 : decode (ix_by 119) 110 = .ok (.iadd, 1) := by decide +kernel
theorem d119_111 : decode (ix_by 119) 111 = .ok (.lload 4, 2) := by decide +kernel
theorem d119_113 : decode (ix_by 119) 113 = .ok (.bipush 8, 2) := by decide +kernel
theorem d119_115 : decode (ix_by 119) 115 = .ok (.iload 7, 2) := by decide +kernel
theorem d119_117 : decode (ix_by 119) 117 = .ok (.imul, 1) := by decide +kernel
theorem d119_118 : decode (ix_by 119) 118 = .ok (.lshr, 1) := by decide +kernel
theorem d119_119 : decode (ix_by 119) 119 = .ok (.ldc2_w 162, 3) := by decide +kernel
theorem d119_122 : decode (ix_by 119) 122 = .ok (.land, 1) := by decide +kernel
theorem d119_123 : decode (ix_by 119) 123 = .ok (.l2i, 1) := by decide +kernel
theorem d119_124 : decode (ix_by 119) 124 = .ok (.iastore, 1) := by decide +kernel
theorem d119_125 : decode (ix_by 119) 125 = .ok (.iinc 7 1, 3) := by decide +kernel
theorem d119_128 : decode (ix_by 119) 128 = .ok (.goto (-43), 3) := by decide +kernel
theorem d119_131 : decode (ix_by 119) 131 = .ok (.aload_n 0, 1) := by decide +kernel
theorem d119_132 : decode (ix_by 119) 132 = .ok (.getfield 13, 3) := by decide +kernel
theorem d119_135 : decode (ix_by 119) 135 = .ok (.iload 6, 2) := by decide +kernel
theorem d119_137 : decode (ix_by 119) 137 = .ok (.aload_n 0, 1) := by decide +kernel
theorem d119_138 : decode (ix_by 119) 138 = .ok (.getfield 13, 3) := by decide +kernel
theorem d119_141 : decode (ix_by 119) 141 = .ok (.iload 6, 2) := by decide +kernel
theorem d119_143 : decode (ix_by 119) 143 = .ok (.iaload, 1) := by decide +kernel
theorem d119_144 : decode (ix_by 119) 144 = .ok (.iload_n 3, 1) := by decide +kernel
theorem d119_145 : decode (ix_by 119) 145 = .ok (.iadd, 1) := by decide +kernel
theorem d119_146 : decode (ix_by 119) 146 = .ok (.iastore, 1) := by decide +kernel
theorem d119_147 : decode (ix_by 119) 147 = .ok (.aload_n 0, 1) := by decide +kernel
theorem d119_148 : decode (ix_by 119) 148 = .ok (.getfield 13, 3) := by decide +kernel
theorem d119_151 : decode (ix_by 119) 151 = .ok (.iload 6, 2) := by decide +kernel
theorem d119_153 : decode (ix_by 119) 153 = .ok (.iaload, 1) := by decide +kernel
theorem d119_154 : decode (ix_by 119) 154 = .ok (.ireturn, 1) := by decide +kernel
theorem d120_0 : decode (ix_by 120) 0 = .ok (.aload_n 0, 1) := by decide +kernel
theorem d120_1 : decode (ix_by 120) 1 = .ok (.iload_n 1, 1) := by decide +kernel
theorem d120_2 : decode (ix_by 120) 2 = .ok (.putfield 144, 3) := by decide +kernel
theorem d120_5 : decode (ix_by 120) 5 = .ok (.iconst 0, 1) := by decide +kernel
theorem d120_6 : decode (ix_by 120) 6 = .ok (.ireturn, 1) := by decide +kernel
theorem d121_0 : decode (ix_by 121) 0 = .ok (.iconst 0, 1) := by decide +kernel
theorem d121_1 : decode (ix_by 121) 1 = .ok (.istore_n 3, 1) := by decide +kernel
theorem d121_2 : decode (ix_by 121) 2 = .ok (.iconst 0, 1) := by decide +kernel
theorem d121_3 : decode (ix_by 121) 3 = .ok (.istore 4, 2) := by decide +kernel
theorem d121_5 : decode (ix_by 121) 5 = .ok (.iload 4, 2) := by decide +kernel
theorem d121_7 : decode (ix_by 121) 7 = .ok (.aload_n 0, 1) := by decide +kernel
theorem d121_8 : decode (ix_by 121) 8 = .ok (.getfield 125, 3) := by decide +kernel
theorem d121_11 : decode (ix_by 121) 11 = .ok (.iload_n 1, 1) := by decide +kernel
theorem d121_12 : decode (ix_by 121) 12 = .ok (.iaload, 1) := by decide +kernel
theorem d121_13 : decode (ix_by 121) 13 = .ok (.if_icmp .ge 39, 3) := by decide +kernel
theorem d121_16 : decode (ix_by 121) 16 = .ok (.iload_n 3, 1) := by decide +kernel
theorem d121_17 : decode (ix_by 121) 17 = .ok (.ifCond .ne 23, 3) := by decide +kernel
theorem d121_20 : decode (ix_by 121) 20 = .ok (.aload_n 0, 1) := by decide +kernel
theorem d121_21 : decode (ix_by 121) 21 = .ok (.getfield 26, 3) := by decide +kernel
theorem d121_24 : decode (ix_by 121) 24 = .ok (.aload_n 0, 1) := by decide +kernel
theorem d121_25 : decode (ix_by 121) 25 = .ok (.getfield 119, 3) := by decide +kernel
theorem d121_28 : decode (ix_by 121) 28 = .ok (.iconst 3, 1) := by decide +kernel
theorem d121_29 : decode (ix_by 121) 29 = .ok (.iload_n 1, 1) := by decide +kernel
theorem d121_30 : decode (ix_by 121) 30 = .ok (.imul, 1) := by decide +kernel
theorem d121_31 : decode (ix_by 121) 31 = .ok (.iload 4, 2) := by decide +kernel
theorem d121_33 : decode (ix_by 121) 33 = .ok (.iadd, 1) := by decide +kernel
theorem d121_34 : decode (ix_by 121) 34 = .ok (.iaload, 1) := by decide +kernel
theorem d121_35 : decode (ix_by 121) 35 = .ok (.iaload, 1) := by decide +kernel
theorem d121_36 : decode (ix_by 121) 36 = .ok (.iload_n 2, 1) := by decide +kernel
theorem d121_37 : decode (ix_by 121) 37 = .ok (.if_icmp .ne 7, 3) := by decide +kernel
theorem d121_40 : decode (ix_by 121) 40 = .ok (.iconst 1, 1) := by decide +kernel
theorem d121_41 : decode (ix_by 121) 41 = .ok (.goto 4, 3) := by decide +kernel
theorem d121_44 : decode (ix_by 121) 44 = .ok (.iconst 0, 1) := by decide +kernel
theorem d121_45 : decode (ix_by 121) 45 = .ok (.istore_n 3, 1) := by decide +kernel
theorem d121_46 : decode (ix_by 121) 46 = .ok (.iinc 4 1, 3) := by decide +kernel
theorem d121_49 : decode (ix_by 121) 49 = .ok (.goto (-44), 3) := by decide +kernel
theorem d121_52 : decode (ix_by 121) 52 = .ok (.iload_n 3, 1) := by decide +kernel
theorem d121_53 : decode (ix_by 121) 53 = .ok (.ireturn, 1) := by decide +kernel
theorem d122_0 : decode (ix_by 122) 0 = .ok (.aload_n 0, 1) := by decide +kernel
theorem d122_1 : decode (ix_by 122) 1 = .ok (.iconst 0, 1) := by decide +kernel
theorem d122_2 : decode (ix_by 122) 2 = .ok (.putfield 144, 3) := by decide +kernel
theorem d122_5 : decode (ix_by 122) 5 = .ok (.iload_n 1, 1) := by decide +kernel
theorem d122_6 : decode (ix_by 122) 6 = .ok (.iload_n 2, 1) := by decide +kernel
theorem d122_7 : decode (ix_by 122) 7 = .ok (.invokestatic 151, 3) := by decide +kernel
theorem d122_10 : decode (ix_by 122) 10 = .ok (.ifCond .eq 17, 3) := by decide +kernel
theorem d122_13 : decode (ix_by 122) 13 = .ok (.aload_n 0, 1) := by decide +kernel
theorem d122_14 : decode (ix_by 122) 14 = .ok (.getfield 7, 3) := by decide +kernel
theorem d122_17 : decode (ix_by 122) 17 = .ok (.bipush 6, 2) := by decide +kernel
theorem d122_19 : decode (ix_by 122) 19 = .ok (.iload_n 1, 1) := by decide +kernel
theorem d122_20 : decode (ix_by 122) 20 = .ok (.imul, 1) := by decide +kernel
theorem d122_21 : decode (ix_by 122) 21 = .ok (.iload_n 2, 1) := by decide +kernel
theorem d122_22 : decode (ix_by 122) 22 = .ok (.iadd, 1) := by decide +kernel
theorem d122_23 : decode (ix_by 122) 23 = .ok (.baload, 1) := by decide +kernel
theorem d122_24 : decode (ix_by 122) 24 = .ok (.ifCond .ne 11, 3) := by decide +kernel
theorem d122_27 : decode (ix_by 122) 27 = .ok (.aload_n 0, 1) := by decide +kernel
theorem d122_28 : decode (ix_by 122) 28 = .ok (.iconst 1, 1) := by decide +kernel
theorem d122_29 : decode (ix_by 122) 29 = .ok (.putfield 144, 3) := by decide +kernel
theorem d122_32 : decode (ix_by 122) 32 = .ok (.goto 32, 3) := by decide +kernel
theorem d122_35 : decode (ix_by 122) 35 = .ok (.aload_n 0, 1) := by decide +kernel
theorem d122_36 : decode (ix_by 122) 36 = .ok (.iload_n 1, 1) := by decide +kernel
theorem d122_37 : decode (ix_by 122) 37 = .ok (.iload_n 2, 1) := by decide +kernel
theorem d122_38 : decode (ix_by 122) 38 = .ok (.invokevirtual 159, 3) := by decide +kernel
theorem d122_41 : decode (ix_by 122) 41 = .ok (.ifCond .eq 11, 3) := by decide +kernel
theorem d122_44 : decode (ix_by 122) 44 = .ok (.aload_n 0, 1) := by decide +kernel
theorem d122_45 : decode (ix_by 122) 45 = .ok (.iconst 2, 1) := by decide +kernel
theorem d122_46 : decode (ix_by 122) 46 = .ok (.putfield 144, 3) := by decide +kernel
theorem d122_49 : decode (ix_by 122) 49 = .ok (.goto 15, 3) := by decide +kernel
theorem d122_52 : decode (ix_by 122) 52 = .ok (.aload_n 0, 1) := by decide +kernel
theorem d122_53 : decode (ix_by 122) 53 = .ok (.getfield 7, 3) := by decide +kernel
theorem d122_56 : decode (ix_by 122) 56 = .ok (.bipush 6, 2) := by decide +kernel
theorem d122_58 : decode (ix_by 122) 58 = .ok (.iload_n 1, 1) := by decide +kernel
theorem d122_59 : decode (ix_by 122) 59 = .ok (.imul, 1) := by decide +kernel
theorem d122_60 : decode (ix_by 122) 60 = .ok (.iload_n 2, 1) := by decide +kernel
theorem d122_61 : decode (ix_by 122) 61 = .ok (.iadd, 1) := by decide +kernel
theorem d122_62 : decode (ix_by 122) 62 = .ok (.iconst 0, 1) := by decide +kernel
theorem d122_63 : decode (ix_by 122) 63 = .ok (.bastore, 1) := by decide +kernel
theorem d122_64 : decode (ix_by 122) 64 = .ok (.aload_n 0, 1) := by decide +kernel
theorem d122_65 : decode (ix_by 122) 65 = .ok (.getfield 144, 3) := by decide +kernel
theorem d122_68 : decode (ix_by 122) 68 = .ok (.ifCond .ne 7, 3) := by decide +kernel
theorem d122_71 : decode (ix_by 122) 71 = .ok (.iconst 1, 1) := by decide +kernel
theorem d122_72 : decode (ix_by 122) 72 = .ok (.goto 4, 3) := by decide +kernel
theorem d122_75 : decode (ix_by 122) 75 = .ok (.iconst 0, 1) := by decide +kernel
theorem d122_76 : decode (ix_by 122) 76 = .ok (.ireturn, 1) := by decide +kernel
theorem d123_0 : decode (ix_by 123) 0 = .ok (.aload_n 0, 1) := by decide +kernel
theorem d123_1 : decode (ix_by 123) 1 = .ok (.iconst 0, 1) := by decide +kernel
theorem d123_2 : decode (ix_by 123) 2 = .ok (.putfield 144, 3) := by decide +kernel
theorem d123_5 : decode (ix_by 123) 5 = .ok (.iload_n 1, 1) := by decide +kernel
theorem d123_6 : decode (ix_by 123) 6 = .ok (.iload_n 2, 1) := by decide +kernel
theorem d123_7 : decode (ix_by 123) 7 = .ok (.invokestatic 151, 3) := by decide +kernel
theorem d123_10 : decode (ix_by 123) 10 = .ok (.ifCond .eq 31, 3) := by decide +kernel
theorem d123_13 : decode (ix_by 123) 13 = .ok (.aload_n 0, 1) := by decide +kernel
theorem d123_14 : decode (ix_by 123) 14 = .ok (.getfield 7, 3) := by decide +kernel
theorem d123_17 : decode (ix_by 123) 17 = .ok (.bipush 6, 2) := by decide +kernel
theorem d123_19 : decode (ix_by 123) 19 = .ok (.iload_n 1, 1) := by decide +kernel
theorem d123_20 : decode (ix_by 123) 20 = .ok (.imul, 1) := by decide +kernel
theorem d123_21 : decode (ix_by 123) 21 = .ok (.iload_n 2, 1) := by decide +kernel
theorem d123_22 : decode (ix_by 123) 22 = .ok (.iadd, 1) := by decide +kernel
theorem d123_23 : decode (ix_by 123) 23 = .ok (.baload, 1) := by decide +kernel
theorem d123_24 : decode (ix_by 123) 24 = .ok (.ifCond .eq 17, 3) := by decide +kernel
theorem d123_27 : decode (ix_by 123) 27 = .ok (.aload_n 0, 1) := by decide +kernel
theorem d123_28 : decode (ix_by 123) 28 = .ok (.getfield 13, 3) := by decide +kernel
theorem d123_31 : decode (ix_by 123) 31 = .ok (.bipush 6, 2) := by decide +kernel
theorem d123_33 : decode (ix_by 123) 33 = .ok (.iload_n 1, 1) := by decide +kernel
theorem d123_34 : decode (ix_by 123) 34 = .ok (.imul, 1) := by decide +kernel
theorem d123_35 : decode (ix_by 123) 35 = .ok (.iload_n 2, 1) := by decide +kernel
theorem d123_36 : decode (ix_by 123) 36 = .ok (.iadd, 1) := by decide +kernel
theorem d123_37 : decode (ix_by 123) 37 = .ok (.iaload, 1) := by decide +kernel
theorem d123_38 : decode (ix_by 123) 38 = .ok (.goto 4, 3) := by decide +kernel
theorem d123_41 : decode (ix_by 123) 41 = .ok (.iconst (-1), 1) := by decide +kernel
theorem d123_42 : decode (ix_by 123) 42 = .ok (.ireturn, 1) := by decide +kernel
theorem d124_0 : decode (ix_by 124) 0 = .ok (.aload_n 0, 1) := by decide +kernel
theorem d124_1 : decode (ix_by 124) 1 = .ok (.iconst 0, 1) := by decide +kernel
theorem d124_2 : decode (ix_by 124) 2 = .ok (.putfield 144, 3) := by decide +kernel
theorem d124_5 : decode (ix_by 124) 5 = .ok (.iload_n 1, 1) := by decide +kernel
theorem d124_6 : decode (ix_by 124) 6 = .ok (.iload_n 2, 1) := by decide +kernel
theorem d124_7 : decode (ix_by 124) 7 = .ok (.invokestatic 151, 3) := by decide +kernel
theorem d124_10 : decode (ix_by 124) 10 = .ok (.ifCond .eq 17, 3) := by decide +kernel
theorem d124_13 : decode (ix_by 124) 13 = .ok (.aload_n 0, 1) := by decide +kernel
theorem d124_14 : decode (ix_by 124) 14 = .ok (.getfield 7, 3) := by decide +kernel
theorem d124_17 : decode (ix_by 124) 17 = .ok (.bipush 6, 2) := by decide +kernel
theorem d124_19 : decode (ix_by 124) 19 = .ok (.iload_n 1, 1) := by decide +kernel
theorem d124_20 : decode (ix_by 124) 20 = .ok (.imul, 1) := by decide +kernel
theorem d124_21 : decode (ix_by 124) 21 = .ok (.iload_n 2, 1) := by decide +kernel
theorem d124_22 : decode (ix_by 124) 22 = .ok (.iadd, 1) := by decide +kernel
theorem d124_23 : decode (ix_by 124) 23 = .ok (.baload, 1) := by decide +kernel
theorem d124_24 : decode (ix_by 124) 24 = .ok (.ifCond .ne 9, 3) := by decide +kernel
theorem d124_27 : decode (ix_by 124) 27 = .ok (.aload_n 0, 1) := by decide +kernel
theorem d124_28 : decode (ix_by 124) 28 = .ok (.iconst 1, 1) := by decide +kernel
theorem d124_29 : decode (ix_by 124) 29 = .ok (.invokevirtual 155, 3) := by decide +kernel
theorem d124_32 : decode (ix_by 124) 32 = .ok (.ireturn, 1) := by decide +kernel
theorem d124_33 : decode (ix_by 124) 33 = .ok (.iload_n 3, 1) := by decide +kernel
theorem d124_34 : decode (ix_by 124) 34 = .ok (.ifCond .lt 18, 3) := by decide +kernel
theorem d124_37 : decode (ix_by 124) 37 = .ok (.iload_n 3, 1) := by decide +kernel
theorem d124_38 : decode (ix_by 124) 38 = .ok (.aload_n 0, 1) := by decide +kernel
theorem d124_39 : decode (ix_by 124) 39 = .ok (.getfield 13, 3) := by decide +kernel
theorem d124_42 : decode (ix_by 124) 42 = .ok (.bipush 6, 2) := by decide +kernel
theorem d124_44 : decode (ix_by 124) 44 = .ok (.iload_n 1, 1) := by decide +kernel
theorem d124_45 : decode (ix_by 124) 45 = .ok (.imul, 1) := by decide +kernel
theorem d124_46 : decode (ix_by 124) 46 = .ok (.iload_n 2, 1) := by decide +kernel
theorem d124_47 : decode (ix_by 124) 47 = .ok (.iadd, 1) := by decide +kernel
theorem d124_48 : decode (ix_by 124) 48 = .ok (.iaload, 1) := by decide +kernel
theorem d124_49 : decode (ix_by 124) 49 = .ok (.if_icmp .lt 9, 3) := by decide +kernel
theorem d124_52 : decode (ix_by 124) 52 = .ok (.aload_n 0, 1) := by decide +kernel
theorem d124_53 : decode (ix_by 124) 53 = .ok (.iconst 2, 1) := by decide +kernel
theorem d124_54 : decode (ix_by 124) 54 = .ok (.invokevirtual 155, 3) := by decide +kernel
theorem d124_57 : decode (ix_by 124) 57 = .ok (.ireturn, 1) := by decide +kernel
theorem d124_58 : decode (ix_by 124) 58 = .ok (.aload_n 0, 1) := by decide +kernel
theorem d124_59 : decode (ix_by 124) 59 = .ok (.getfield 17, 3) := by decide +kernel
theorem d124_62 : decode (ix_by 124) 62 = .ok (.bipush 64, 2) := by decide +kernel
theorem d124_64 : decode (ix_by 124) 64 = .ok (.bipush 6, 2) := by decide +kernel
theorem d124_66 : decode (ix_by 124) 66 = .ok (.iload_n 1, 1) := by decide +kernel
theorem d124_67 : decode (ix_by 124) 67 = .ok (.imul, 1) := by decide +kernel
theorem d124_68 : decode (ix_by 124) 68 = .ok (.iload_n 2, 1) := by decide +kernel
theorem d124_69 : decode (ix_by 124) 69 = .ok (.iadd, 1) := by decide +kernel
theorem d124_70 : decode (ix_by 124) 70 = .ok (.imul, 1) := by decide +kernel
theorem d124_71 : decode (ix_by 124) 71 = .ok (.iload_n 3, 1) := by decide +kernel
theorem d124_72 : decode (ix_by 124) 72 = .ok (.iadd, 1) := by decide +kernel
theorem d124_73 : decode (ix_by 124) 73 = .ok (.iaload, 1) := by decide +kernel
theorem d124_74 : decode (ix_by 124) 74 = .ok (.ireturn, 1) := by decide +kernel
end
section
/-! decode rows (written by wip/whole/gen4.py) -/
theorem d125_0 : decode (ix_by 125) 0 = .ok (.aload_n 0, 1) := by decide +kernel
theorem d125_1 : decode (ix_by 125) 1 = .ok (.iconst 0, 1) := by decide +kernel
theorem d125_2 : decode (ix_by 125) 2 = .ok (.putfield 144, 3) := by decide +kernel
theorem d125_5 : decode (ix_by 125) 5 = .ok (.iload_n 1, 1) := by decide +kernel
theorem d125_6 : decode (ix_by 125) 6 = .ok (.iload_n 2, 1) := by decide +kernel
theorem d125_7 : decode (ix_by 125) 7 = .ok (.invokestatic 151, 3) := by decide +kernel
theorem d125_10 : decode (ix_by 125) 10 = .ok (.ifCond .eq 42, 3) := by decide +kernel
theorem d125_13 : decode (ix_by 125) 13 = .ok (.iload_n 3, 1) := by decide +kernel
theorem d125_14 : decode (ix_by 125) 14 = .ok (.iconst 0, 1) := by decide +kernel
theorem d125_15 : decode (ix_by 125) 15 = .ok (.iconst 5, 1) := by decide +kernel
theorem d125_16 : decode (ix_by 125) 16 = .ok (.invokestatic 147, 3) := by decide +kernel
theorem d125_19 : decode (ix_by 125) 19 = .ok (.ifCond .eq 33, 3) := by decide +kernel
theorem d125_22 : decode (ix_by 125) 22 = .ok (.iload 6, 2) := by decide +kernel
theorem d125_24 : decode (ix_by 125) 24 = .ok (.iconst 0, 1) := by decide +kernel
theorem d125_25 : decode (ix_by 125) 25 = .ok (.iconst 5, 1) := by decide +kernel
theorem d125_26 : decode (ix_by 125) 26 = .ok (.invokestatic 147, 3) := by decide +kernel
theorem d125_29 : decode (ix_by 125) 29 = .ok (.ifCond .eq 23, 3) := by decide +kernel
theorem d125_32 : decode (ix_by 125) 32 = .ok (.iload 4, 2) := by decide +kernel
theorem d125_34 : decode (ix_by 125) 34 = .ok (.iconst 1, 1) := by decide +kernel
theorem d125_35 : decode (ix_by 125) 35 = .ok (.iconst 2, 1) := by decide +kernel
theorem d125_36 : decode (ix_by 125) 36 = .ok (.invokestatic 147, 3) := by decide +kernel
theorem d125_39 : decode (ix_by 125) 39 = .ok (.ifCond .eq 13, 3) := by decide +kernel
theorem d125_42 : decode (ix_by 125) 42 = .ok (.iload 5, 2) := by decide +kernel
theorem d125_44 : decode (ix_by 125) 44 = .ok (.iconst 0, 1) := by decide +kernel
theorem d125_45 : decode (ix_by 125) 45 = .ok (.iconst 2, 1) := by decide +kernel
theorem d125_46 : decode (ix_by 125) 46 = .ok (.invokestatic 147, 3) := by decide +kernel
theorem d125_49 : decode (ix_by 125) 49 = .ok (.ifCond .ne 9, 3) := by decide +kernel
theorem d125_52 : decode (ix_by 125) 52 = .ok (.aload_n 0, 1) := by decide +kernel
theorem d125_53 : decode (ix_by 125) 53 = .ok (.iconst 1, 1) := by decide +kernel
theorem d125_54 : decode (ix_by 125) 54 = .ok (.invokevirtual 155, 3) := by decide +kernel
theorem d125_57 : decode (ix_by 125) 57 = .ok (.ireturn, 1) := by decide +kernel
theorem d125_58 : decode (ix_by 125) 58 = .ok (.aload_n 0, 1) := by decide +kernel
theorem d125_59 : decode (ix_by 125) 59 = .ok (.getfield 7, 3) := by decide +kernel
theorem d125_62 : decode (ix_by 125) 62 = .ok (.bipush 6, 2) := by decide +kernel
theorem d125_64 : decode (ix_by 125) 64 = .ok (.iload_n 1, 1) := by decide +kernel
theorem d125_65 : decode (ix_by 125) 65 = .ok (.imul, 1) := by decide +kernel
theorem d125_66 : decode (ix_by 125) 66 = .ok (.iload_n 2, 1) := by decide +kernel
theorem d125_67 : decode (ix_by 125) 67 = .ok (.iadd, 1) := by decide +kernel
theorem d125_68 : decode (ix_by 125) 68 = .ok (.baload, 1) := by decide +kernel
theorem d125_69 : decode (ix_by 125) 69 = .ok (.ifCond .ne 9, 3) := by decide +kernel
theorem d125_72 : decode (ix_by 125) 72 = .ok (.aload_n 0, 1) := by decide +kernel
theorem d125_73 : decode (ix_by 125) 73 = .ok (.iconst 2, 1) := by decide +kernel
theorem d125_74 : decode (ix_by 125) 74 = .ok (.invokevirtual 155, 3) := by decide +kernel
theorem d125_77 : decode (ix_by 125) 77 = .ok (.ireturn, 1) := by decide +kernel
theorem d125_78 : decode (ix_by 125) 78 = .ok (.aload_n 0, 1) := by decide +kernel
theorem d125_79 : decode (ix_by 125) 79 = .ok (.getfield 125, 3) := by decide +kernel
theorem d125_82 : decode (ix_by 125) 82 = .ok (.iload_n 1, 1) := by decide +kernel
theorem d125_83 : decode (ix_by 125) 83 = .ok (.iaload, 1) := by decide +kernel
theorem d125_84 : decode (ix_by 125) 84 = .ok (.iconst 3, 1) := by decide +kernel
theorem d125_85 : decode (ix_by 125) 85 = .ok (.if_icmp .ne 9, 3) := by decide +kernel
theorem d125_88 : decode (ix_by 125) 88 = .ok (.aload_n 0, 1) := by decide +kernel
theorem d125_89 : decode (ix_by 125) 89 = .ok (.iconst 3, 1) := by decide +kernel
theorem d125_90 : decode (ix_by 125) 90 = .ok (.invokevirtual 155, 3) := by decide +kernel
theorem d125_93 : decode (ix_by 125) 93 = .ok (.ireturn, 1) := by decide +kernel
theorem d125_94 : decode (ix_by 125) 94 = .ok (.aload_n 0, 1) := by decide +kernel
theorem d125_95 : decode (ix_by 125) 95 = .ok (.getfield 20, 3) := by decide +kernel
theorem d125_98 : decode (ix_by 125) 98 = .ok (.iload_n 1, 1) := by decide +kernel
theorem d125_99 : decode (ix_by 125) 99 = .ok (.dup2, 1) := by decide +kernel
theorem d125_100 : decode (ix_by 125) 100 = .ok (.iaload, 1) := by decide +kernel
theorem d125_101 : decode (ix_by 125) 101 = .ok (.iconst 1, 1) := by decide +kernel
theorem d125_102 : decode (ix_by 125) 102 = .ok (.iadd, 1) := by decide +kernel
theorem d125_103 : decode (ix_by 125) 103 = .ok (.iastore, 1) := by decide +kernel
theorem d125_104 : decode (ix_by 125) 104 = .ok (.sipush 320, 3) := by decide +kernel
theorem d125_107 : decode (ix_by 125) 107 = .ok (.iload_n 1, 1) := by decide +kernel
theorem d125_108 : decode (ix_by 125) 108 = .ok (.imul, 1) := by decide +kernel
theorem d125_109 : decode (ix_by 125) 109 = .ok (.aload_n 0, 1) := by decide +kernel
theorem d125_110 : decode (ix_by 125) 110 = .ok (.getfield 20, 3) := by decide +kernel
theorem d125_113 : decode (ix_by 125) 113 = .ok (.iload_n 1, 1) := by decide +kernel
theorem d125_114 : decode (ix_by 125) 114 = .ok (.iaload, 1) := by decide +kernel
theorem d125_115 : decode (ix_by 125) 115 = .ok (.iadd, 1) := by decide +kernel
theorem d125_116 : decode (ix_by 125) 116 = .ok (.istore 7, 2) := by decide +kernel
theorem d125_118 : decode (ix_by 125) 118 = .ok (.aload_n 0, 1) := by decide +kernel
theorem d125_119 : decode (ix_by 125) 119 = .ok (.getfield 23, 3) := by decide +kernel
theorem d125_122 : decode (ix_by 125) 122 = .ok (.iload 7, 2) := by decide +kernel
theorem d125_124 : decode (ix_by 125) 124 = .ok (.iload 4, 2) := by decide +kernel
theorem d125_126 : decode (ix_by 125) 126 = .ok (.iastore, 1) := by decide +kernel
theorem d125_127 : decode (ix_by 125) 127 = .ok (.aload_n 0, 1) := by decide +kernel
theorem d125_128 : decode (ix_by 125) 128 = .ok (.getfield 26, 3) := by decide +kernel
theorem d125_131 : decode (ix_by 125) 131 = .ok (.iload 7, 2) := by decide +kernel
theorem d125_133 : decode (ix_by 125) 133 = .ok (.iload_n 2, 1) := by decide +kernel
theorem d125_134 : decode (ix_by 125) 134 = .ok (.iastore, 1) := by decide +kernel
theorem d125_135 : decode (ix_by 125) 135 = .ok (.aload_n 0, 1) := by decide +kernel
theorem d125_136 : decode (ix_by 125) 136 = .ok (.getfield 29, 3) := by decide +kernel
theorem d125_139 : decode (ix_by 125) 139 = .ok (.iload 7, 2) := by decide +kernel
theorem d125_141 : decode (ix_by 125) 141 = .ok (.iload_n 3, 1) := by decide +kernel
theorem d125_142 : decode (ix_by 125) 142 = .ok (.iastore, 1) := by decide +kernel
theorem d125_143 : decode (ix_by 125) 143 = .ok (.aload_n 0, 1) := by decide +kernel
theorem d125_144 : decode (ix_by 125) 144 = .ok (.getfield 32, 3) := by decide +kernel
theorem d125_147 : decode (ix_by 125) 147 = .ok (.iload 7, 2) := by decide +kernel
theorem d125_149 : decode (ix_by 125) 149 = .ok (.iload 5, 2) := by decide +kernel
theorem d125_151 : decode (ix_by 125) 151 = .ok (.iastore, 1) := by decide +kernel
theorem d125_152 : decode (ix_by 125) 152 = .ok (.aload_n 0, 1) := by decide +kernel
theorem d125_153 : decode (ix_by 125) 153 = .ok (.getfield 35, 3) := by decide +kernel
theorem d125_156 : decode (ix_by 125) 156 = .ok (.iload 7, 2) := by decide +kernel
theorem d125_158 : decode (ix_by 125) 158 = .ok (.iload 6, 2) := by decide +kernel
theorem d125_160 : decode (ix_by 125) 160 = .ok (.iastore, 1) := by decide +kernel
theorem d125_161 : decode (ix_by 125) 161 = .ok (.aload_n 0, 1) := by decide +kernel
theorem d125_162 : decode (ix_by 125) 162 = .ok (.getfield 38, 3) := by decide +kernel
theorem d125_165 : decode (ix_by 125) 165 = .ok (.iload 7, 2) := by decide +kernel
theorem d125_167 : decode (ix_by 125) 167 = .ok (.iconst 5, 1) := by decide +kernel
theorem d125_168 : decode (ix_by 125) 168 = .ok (.iastore, 1) := by decide +kernel
theorem d125_169 : decode (ix_by 125) 169 = .ok (.aload_n 0, 1) := by decide +kernel
theorem d125_170 : decode (ix_by 125) 170 = .ok (.getfield 119, 3) := by decide +kernel
theorem d125_173 : decode (ix_by 125) 173 = .ok (.iconst 3, 1) := by decide +kernel
theorem d125_174 : decode (ix_by 125) 174 = .ok (.iload_n 1, 1) := by decide +kernel
theorem d125_175 : decode (ix_by 125) 175 = .ok (.imul, 1) := by decide +kernel
theorem d125_176 : decode (ix_by 125) 176 = .ok (.aload_n 0, 1) := by decide +kernel
theorem d125_177 : decode (ix_by 125) 177 = .ok (.getfield 125, 3) := by decide +kernel
theorem d125_180 : decode (ix_by 125) 180 = .ok (.iload_n 1, 1) := by decide +kernel
theorem d125_181 : decode (ix_by 125) 181 = .ok (.iaload, 1) := by decide +kernel
theorem d125_182 : decode (ix_by 125) 182 = .ok (.iadd, 1) := by decide +kernel
theorem d125_183 : decode (ix_by 125) 183 = .ok (.iload 7, 2) := by decide +kernel
theorem d125_185 : decode (ix_by 125) 185 = .ok (.iastore, 1) := by decide +kernel
theorem d125_186 : decode (ix_by 125) 186 = .ok (.aload_n 0, 1) := by decide +kernel
theorem d125_187 : decode (ix_by 125) 187 = .ok (.getfield 125, 3) := by decide +kernel
theorem d125_190 : decode (ix_by 125) 190 = .ok (.iload_n 1, 1) := by decide +kernel
theorem d125_191 : decode (ix_by 125) 191 = .ok (.dup2, 1) := by decide +kernel
theorem d125_192 : decode (ix_by 125) 192 = .ok (.iaload, 1) := by decide +kernel
theorem d125_193 : decode (ix_by 125) 193 = .ok (.iconst 1, 1) := by decide +kernel
theorem d125_194 : decode (ix_by 125) 194 = .ok (.iadd, 1) := by decide +kernel
theorem d125_195 : decode (ix_by 125) 195 = .ok (.iastore, 1) := by decide +kernel
theorem d125_196 : decode (ix_by 125) 196 = .ok (.aload_n 0, 1) := by decide +kernel
theorem d125_197 : decode (ix_by 125) 197 = .ok (.getfield 20, 3) := by decide +kernel
theorem d125_200 : decode (ix_by 125) 200 = .ok (.iload_n 1, 1) := by decide +kernel
theorem d125_201 : decode (ix_by 125) 201 = .ok (.iaload, 1) := by decide +kernel
theorem d125_202 : decode (ix_by 125) 202 = .ok (.ireturn, 1) := by decide +kernel
theorem d126_0 : decode (ix_by 126) 0 = .ok (.aload_n 0, 1) := by decide +kernel
theorem d126_1 : decode (ix_by 126) 1 = .ok (.iconst 0, 1) := by decide +kernel
theorem d126_2 : decode (ix_by 126) 2 = .ok (.putfield 144, 3) := by decide +kernel
theorem d126_5 : decode (ix_by 126) 5 = .ok (.aload_n 0, 1) := by decide +kernel
theorem d126_6 : decode (ix_by 126) 6 = .ok (.iload_n 1, 1) := by decide +kernel
theorem d126_7 : decode (ix_by 126) 7 = .ok (.iload_n 2, 1) := by decide +kernel
theorem d126_8 : decode (ix_by 126) 8 = .ok (.invokevirtual 174, 3) := by decide +kernel
theorem d126_11 : decode (ix_by 126) 11 = .ok (.istore_n 3, 1) := by decide +kernel
theorem d126_12 : decode (ix_by 126) 12 = .ok (.iload_n 3, 1) := by decide +kernel
theorem d126_13 : decode (ix_by 126) 13 = .ok (.ifCond .lt 22, 3) := by decide +kernel
theorem d126_16 : decode (ix_by 126) 16 = .ok (.aload_n 0, 1) := by decide +kernel
theorem d126_17 : decode (ix_by 126) 17 = .ok (.getfield 38, 3) := by decide +kernel
theorem d126_20 : decode (ix_by 126) 20 = .ok (.iload_n 3, 1) := by decide +kernel
theorem d126_21 : decode (ix_by 126) 21 = .ok (.iaload, 1) := by decide +kernel
theorem d126_22 : decode (ix_by 126) 22 = .ok (.iconst 5, 1) := by decide +kernel
theorem d126_23 : decode (ix_by 126) 23 = .ok (.if_icmp .ne 12, 3) := by decide +kernel
theorem d126_26 : decode (ix_by 126) 26 = .ok (.aload_n 0, 1) := by decide +kernel
theorem d126_27 : decode (ix_by 126) 27 = .ok (.getfield 62, 3) := by decide +kernel
theorem d126_30 : decode (ix_by 126) 30 = .ok (.iload_n 3, 1) := by decide +kernel
theorem d126_31 : decode (ix_by 126) 31 = .ok (.baload, 1) := by decide +kernel
theorem d126_32 : decode (ix_by 126) 32 = .ok (.ifCond .eq 5, 3) := by decide +kernel
theorem d126_35 : decode (ix_by 126) 35 = .ok (.iconst 0, 1) := by decide +kernel
theorem d126_36 : decode (ix_by 126) 36 = .ok (.ireturn, 1) := by decide +kernel
theorem d126_37 : decode (ix_by 126) 37 = .ok (.aload_n 0, 1) := by decide +kernel
theorem d126_38 : decode (ix_by 126) 38 = .ok (.getfield 62, 3) := by decide +kernel
theorem d126_41 : decode (ix_by 126) 41 = .ok (.iload_n 3, 1) := by decide +kernel
theorem d126_42 : decode (ix_by 126) 42 = .ok (.iconst 1, 1) := by decide +kernel
theorem d126_43 : decode (ix_by 126) 43 = .ok (.bastore, 1) := by decide +kernel
theorem d126_44 : decode (ix_by 126) 44 = .ok (.aload_n 0, 1) := by decide +kernel
theorem d126_45 : decode (ix_by 126) 45 = .ok (.getfield 44, 3) := by decide +kernel
theorem d126_48 : decode (ix_by 126) 48 = .ok (.iload_n 3, 1) := by decide +kernel
theorem d126_49 : decode (ix_by 126) 49 = .ok (.iconst 0, 1) := by decide +kernel
theorem d126_50 : decode (ix_by 126) 50 = .ok (.iastore, 1) := by decide +kernel
theorem d126_51 : decode (ix_by 126) 51 = .ok (.aload_n 0, 1) := by decide +kernel
theorem d126_52 : decode (ix_by 126) 52 = .ok (.getfield 59, 3) := by decide +kernel
theorem d126_55 : decode (ix_by 126) 55 = .ok (.iload_n 3, 1) := by decide +kernel
theorem d126_56 : decode (ix_by 126) 56 = .ok (.iconst 0, 1) := by decide +kernel
theorem d126_57 : decode (ix_by 126) 57 = .ok (.bastore, 1) := by decide +kernel
theorem d126_58 : decode (ix_by 126) 58 = .ok (.aload_n 0, 1) := by decide +kernel
theorem d126_59 : decode (ix_by 126) 59 = .ok (.getfield 56, 3) := by decide +kernel
theorem d126_62 : decode (ix_by 126) 62 = .ok (.iload_n 3, 1) := by decide +kernel
theorem d126_63 : decode (ix_by 126) 63 = .ok (.iconst 0, 1) := by decide +kernel
theorem d126_64 : decode (ix_by 126) 64 = .ok (.iastore, 1) := by decide +kernel
theorem d126_65 : decode (ix_by 126) 65 = .ok (.iconst 1, 1) := by decide +kernel
theorem d126_66 : decode (ix_by 126) 66 = .ok (.ireturn, 1) := by decide +kernel
theorem d127_0 : decode (ix_by 127) 0 = .ok (.iload_n 1, 1) := by decide +kernel
theorem d127_1 : decode (ix_by 127) 1 = .ok (.iconst 0, 1) := by decide +kernel
theorem d127_2 : decode (ix_by 127) 2 = .ok (.iconst 1, 1) := by decide +kernel
theorem d127_3 : decode (ix_by 127) 3 = .ok (.invokestatic 147, 3) := by decide +kernel
theorem d127_6 : decode (ix_by 127) 6 = .ok (.ifCond .eq 28, 3) := by decide +kernel
theorem d127_9 : decode (ix_by 127) 9 = .ok (.iload_n 2, 1) := by decide +kernel
theorem d127_10 : decode (ix_by 127) 10 = .ok (.iconst 1, 1) := by decide +kernel
theorem d127_11 : decode (ix_by 127) 11 = .ok (.if_icmp .lt 23, 3) := by decide +kernel
theorem d127_14 : decode (ix_by 127) 14 = .ok (.iload_n 2, 1) := by decide +kernel
theorem d127_15 : decode (ix_by 127) 15 = .ok (.aload_n 0, 1) := by decide +kernel
theorem d127_16 : decode (ix_by 127) 16 = .ok (.getfield 20, 3) := by decide +kernel
theorem d127_19 : decode (ix_by 127) 19 = .ok (.iload_n 1, 1) := by decide +kernel
theorem d127_20 : decode (ix_by 127) 20 = .ok (.iaload, 1) := by decide +kernel
theorem d127_21 : decode (ix_by 127) 21 = .ok (.if_icmp .gt 13, 3) := by decide +kernel
theorem d127_24 : decode (ix_by 127) 24 = .ok (.sipush 320, 3) := by decide +kernel
theorem d127_27 : decode (ix_by 127) 27 = .ok (.iload_n 1, 1) := by decide +kernel
theorem d127_28 : decode (ix_by 127) 28 = .ok (.imul, 1) := by decide +kernel
theorem d127_29 : decode (ix_by 127) 29 = .ok (.iload_n 2, 1) := by decide +kernel
theorem d127_30 : decode (ix_by 127) 30 = .ok (.iadd, 1) := by decide +kernel
theorem d127_31 : decode (ix_by 127) 31 = .ok (.goto 4, 3) := by decide +kernel
theorem d127_34 : decode (ix_by 127) 34 = .ok (.iconst (-1), 1) := by decide +kernel
theorem d127_35 : decode (ix_by 127) 35 = .ok (.ireturn, 1) := by decide +kernel
theorem d128_0 : decode (ix_by 128) 0 = .ok (.aload_n 0, 1) := by decide +kernel
theorem d128_1 : decode (ix_by 128) 1 = .ok (.iconst 0, 1) := by decide +kernel
theorem d128_2 : decode (ix_by 128) 2 = .ok (.putfield 144, 3) := by decide +kernel
theorem d128_5 : decode (ix_by 128) 5 = .ok (.aload_n 0, 1) := by decide +kernel
theorem d128_6 : decode (ix_by 128) 6 = .ok (.iload_n 1, 1) := by decide +kernel
theorem d128_7 : decode (ix_by 128) 7 = .ok (.iload_n 2, 1) := by decide +kernel
theorem d128_8 : decode (ix_by 128) 8 = .ok (.invokevirtual 174, 3) := by decide +kernel
theorem d128_11 : decode (ix_by 128) 11 = .ok (.istore 4, 2) := by decide +kernel
theorem d128_13 : decode (ix_by 128) 13 = .ok (.iload 4, 2) := by decide +kernel
theorem d128_15 : decode (ix_by 128) 15 = .ok (.ifCond .lt 25, 3) := by decide +kernel
theorem d128_18 : decode (ix_by 128) 18 = .ok (.aload_n 0, 1) := by decide +kernel
theorem d128_19 : decode (ix_by 128) 19 = .ok (.getfield 38, 3) := by decide +kernel
theorem d128_22 : decode (ix_by 128) 22 = .ok (.iload 4, 2) := by decide +kernel
theorem d128_24 : decode (ix_by 128) 24 = .ok (.iaload, 1) := by decide +kernel
theorem d128_25 : decode (ix_by 128) 25 = .ok (.iconst 5, 1) := by decide +kernel
theorem d128_26 : decode (ix_by 128) 26 = .ok (.if_icmp .ne 14, 3) := by decide +kernel
theorem d128_29 : decode (ix_by 128) 29 = .ok (.aload_n 0, 1) := by decide +kernel
theorem d128_30 : decode (ix_by 128) 30 = .ok (.getfield 65, 3) := by decide +kernel
theorem d128_33 : decode (ix_by 128) 33 = .ok (.iload 4, 2) := by decide +kernel
theorem d128_35 : decode (ix_by 128) 35 = .ok (.baload, 1) := by decide +kernel
theorem d128_36 : decode (ix_by 128) 36 = .ok (.iload_n 3, 1) := by decide +kernel
theorem d128_37 : decode (ix_by 128) 37 = .ok (.if_icmp .ne 5, 3) := by decide +kernel
theorem d128_40 : decode (ix_by 128) 40 = .ok (.iconst 0, 1) := by decide +kernel
theorem d128_41 : decode (ix_by 128) 41 = .ok (.ireturn, 1) := by decide +kernel
theorem d128_42 : decode (ix_by 128) 42 = .ok (.aload_n 0, 1) := by decide +kernel
theorem d128_43 : decode (ix_by 128) 43 = .ok (.getfield 65, 3) := by decide +kernel
theorem d128_46 : decode (ix_by 128) 46 = .ok (.iload 4, 2) := by decide +kernel
theorem d128_48 : decode (ix_by 128) 48 = .ok (.iload_n 3, 1) := by decide +kernel
theorem d128_49 : decode (ix_by 128) 49 = .ok (.bastore, 1) := by decide +kernel
theorem d128_50 : decode (ix_by 128) 50 = .ok (.iconst 1, 1) := by decide +kernel
theorem d128_51 : decode (ix_by 128) 51 = .ok (.ireturn, 1) := by decide +kernel
theorem d129_0 : decode (ix_by 129) 0 = .ok (.aload_n 0, 1) := by decide +kernel
theorem d129_1 : decode (ix_by 129) 1 = .ok (.iconst 0, 1) := by decide +kernel
theorem d129_2 : decode (ix_by 129) 2 = .ok (.putfield 144, 3) := by decide +kernel
theorem d129_5 : decode (ix_by 129) 5 = .ok (.aload_n 0, 1) := by decide +kernel
theorem d129_6 : decode (ix_by 129) 6 = .ok (.aload_n 0, 1) := by decide +kernel
theorem d129_7 : decode (ix_by 129) 7 = .ok (.getfield 215, 3) := by decide +kernel
theorem d129_10 : decode (ix_by 129) 10 = .ok (.iconst 1, 1) := by decide +kernel
theorem d129_11 : decode (ix_by 129) 11 = .ok (.iadd, 1) := by decide +kernel
theorem d129_12 : decode (ix_by 129) 12 = .ok (.putfield 234, 3) := by decide +kernel
theorem d129_15 : decode (ix_by 129) 15 = .ok (.iconst 0, 1) := by decide +kernel
theorem d129_16 : decode (ix_by 129) 16 = .ok (.istore_n 1, 1) := by decide +kernel
theorem d129_17 : decode (ix_by 129) 17 = .ok (.iload_n 1, 1) := by decide +kernel
theorem d129_18 : decode (ix_by 129) 18 = .ok (.iconst 2, 1) := by decide +kernel
theorem d129_19 : decode (ix_by 129) 19 = .ok (.if_icmp .ge 114, 3) := by decide +kernel
theorem d129_22 : decode (ix_by 129) 22 = .ok (.iconst 0, 1) := by decide +kernel
theorem d129_23 : decode (ix_by 129) 23 = .ok (.istore_n 2, 1) := by decide +kernel
theorem d129_24 : decode (ix_by 129) 24 = .ok (.iload_n 2, 1) := by decide +kernel
theorem d129_25 : decode (ix_by 129) 25 = .ok (.aload_n 0, 1) := by decide +kernel
theorem d129_26 : decode (ix_by 129) 26 = .ok (.getfield 125, 3) := by decide +kernel
theorem d129_29 : decode (ix_by 129) 29 = .ok (.iload_n 1, 1) := by decide +kernel
theorem d129_30 : decode (ix_by 129) 30 = .ok (.iaload, 1) := by decide +kernel
theorem d129_31 : decode (ix_by 129) 31 = .ok (.if_icmp .ge 38, 3) := by decide +kernel
theorem d129_34 : decode (ix_by 129) 34 = .ok (.aload_n 0, 1) := by decide +kernel
theorem d129_35 : decode (ix_by 129) 35 = .ok (.getfield 119, 3) := by decide +kernel
theorem d129_38 : decode (ix_by 129) 38 = .ok (.iconst 3, 1) := by decide +kernel
theorem d129_39 : decode (ix_by 129) 39 = .ok (.iload_n 1, 1) := by decide +kernel
theorem d129_40 : decode (ix_by 129) 40 = .ok (.imul, 1) := by decide +kernel
theorem d129_41 : decode (ix_by 129) 41 = .ok (.iload_n 2, 1) := by decide +kernel
theorem d129_42 : decode (ix_by 129) 42 = .ok (.iadd, 1) := by decide +kernel
theorem d129_43 : decode (ix_by 129) 43 = .ok (.iaload, 1) := by decide +kernel
theorem d129_44 : decode (ix_by 129) 44 = .ok (.istore_n 3, 1) := by decide +kernel
theorem d129_45 : decode (ix_by 129) 45 = .ok (.aload_n 0, 1) := by decide +kernel
theorem d129_46 : decode (ix_by 129) 46 = .ok (.iload_n 3, 1) := by decide +kernel
theorem d129_47 : decode (ix_by 129) 47 = .ok (.invokevirtual 243, 3) := by decide +kernel
theorem d129_50 : decode (ix_by 129) 50 = .ok (.aload_n 0, 1) := by decide +kernel
theorem d129_51 : decode (ix_by 129) 51 = .ok (.getfield 38, 3) := by decide +kernel
theorem d129_54 : decode (ix_by 129) 54 = .ok (.iload_n 3, 1) := by decide +kernel
theorem d129_55 : decode (ix_by 129) 55 = .ok (.iaload, 1) := by decide +kernel
theorem d129_56 : decode (ix_by 129) 56 = .ok (.iconst 5, 1) := by decide +kernel
theorem d129_57 : decode (ix_by 129) 57 = .ok (.if_icmp .eq 6, 3) := by decide +kernel
theorem d129_60 : decode (ix_by 129) 60 = .ok (.iinc 2 (-1), 3) := by decide +kernel
theorem d129_63 : decode (ix_by 129) 63 = .ok (.iinc 2 1, 3) := by decide +kernel
theorem d129_66 : decode (ix_by 129) 66 = .ok (.goto (-42), 3) := by decide +kernel
theorem d129_69 : decode (ix_by 129) 69 = .ok (.iconst 0, 1) := by decide +kernel
theorem d129_70 : decode (ix_by 129) 70 = .ok (.istore_n 2, 1) := by decide +kernel
theorem d129_71 : decode (ix_by 129) 71 = .ok (.iload_n 2, 1) := by decide +kernel
theorem d129_72 : decode (ix_by 129) 72 = .ok (.aload_n 0, 1) := by decide +kernel
theorem d129_73 : decode (ix_by 129) 73 = .ok (.getfield 128, 3) := by decide +kernel
theorem d129_76 : decode (ix_by 129) 76 = .ok (.iload_n 1, 1) := by decide +kernel
theorem d129_77 : decode (ix_by 129) 77 = .ok (.iaload, 1) := by decide +kernel
theorem d129_78 : decode (ix_by 129) 78 = .ok (.if_icmp .ge 49, 3) := by decide +kernel
theorem d129_81 : decode (ix_by 129) 81 = .ok (.aload_n 0, 1) := by decide +kernel
theorem d129_82 : decode (ix_by 129) 82 = .ok (.getfield 122, 3) := by decide +kernel
theorem d129_85 : decode (ix_by 129) 85 = .ok (.iconst 3, 1) := by decide +kernel
theorem d129_86 : decode (ix_by 129) 86 = .ok (.iload_n 1, 1) := by decide +kernel
theorem d129_87 : decode (ix_by 129) 87 = .ok (.imul, 1) := by decide +kernel
theorem d129_88 : decode (ix_by 129) 88 = .ok (.iload_n 2, 1) := by decide +kernel
theorem d129_89 : decode (ix_by 129) 89 = .ok (.iadd, 1) := by decide +kernel
theorem d129_90 : decode (ix_by 129) 90 = .ok (.iaload, 1) := by decide +kernel
theorem d129_91 : decode (ix_by 129) 91 = .ok (.istore_n 3, 1) := by decide +kernel
theorem d129_92 : decode (ix_by 129) 92 = .ok (.aload_n 0, 1) := by decide +kernel
theorem d129_93 : decode (ix_by 129) 93 = .ok (.iload_n 3, 1) := by decide +kernel
theorem d129_94 : decode (ix_by 129) 94 = .ok (.invokevirtual 246, 3) := by decide +kernel
theorem d129_97 : decode (ix_by 129) 97 = .ok (.aload_n 0, 1) := by decide +kernel
theorem d129_98 : decode (ix_by 129) 98 = .ok (.getfield 68, 3) := by decide +kernel
theorem d129_101 : decode (ix_by 129) 101 = .ok (.iload_n 3, 1) := by decide +kernel
theorem d129_102 : decode (ix_by 129) 102 = .ok (.iaload, 1) := by decide +kernel
theorem d129_103 : decode (ix_by 129) 103 = .ok (.iconst 5, 1) := by decide +kernel
theorem d129_104 : decode (ix_by 129) 104 = .ok (.if_icmp .eq 17, 3) := by decide +kernel
theorem d129_107 : decode (ix_by 129) 107 = .ok (.aload_n 0, 1) := by decide +kernel
theorem d129_108 : decode (ix_by 129) 108 = .ok (.getfield 68, 3) := by decide +kernel
theorem d129_111 : decode (ix_by 129) 111 = .ok (.iload_n 3, 1) := by decide +kernel
theorem d129_112 : decode (ix_by 129) 112 = .ok (.iaload, 1) := by decide +kernel
theorem d129_113 : decode (ix_by 129) 113 = .ok (.bipush 6, 2) := by decide +kernel
theorem d129_115 : decode (ix_by 129) 115 = .ok (.if_icmp .eq 6, 3) := by decide +kernel
theorem d129_118 : decode (ix_by 129) 118 = .ok (.iinc 2 (-1), 3) := by decide +kernel
theorem d129_121 : decode (ix_by 129) 121 = .ok (.iinc 2 1, 3) := by decide +kernel
theorem d129_124 : decode (ix_by 129) 124 = .ok (.goto (-53), 3) := by decide +kernel
theorem d129_127 : decode (ix_by 129) 127 = .ok (.iinc 1 1, 3) := by decide +kernel
theorem d129_130 : decode (ix_by 129) 130 = .ok (.goto (-113), 3) := by decide +kernel
theorem d129_133 : decode (ix_by 129) 133 = .ok (.aload_n 0, 1) := by decide +kernel
theorem d129_134 : decode (ix_by 129) 134 = .ok (.aload_n 0, 1) := by decide +kernel
theorem d129_135 : decode (ix_by 129) 135 = .ok (.getfield 234, 3) := by decide +kernel
theorem d129_138 : decode (ix_by 129) 138 = .ok (.putfield 215, 3) := by decide +kernel
theorem d129_141 : decode (ix_by 129) 141 = .ok (.aload_n 0, 1) := by decide +kernel
theorem d129_142 : decode (ix_by 129) 142 = .ok (.getfield 215, 3) := by decide +kernel
theorem d129_145 : decode (ix_by 129) 145 = .ok (.ireturn, 1) := by decide +kernel
theorem d130_0 : decode (ix_by 130) 0 = .ok (.aload_n 0, 1) := by decide +kernel
theorem d130_1 : decode (ix_by 130) 1 = .ok (.getfield 65, 3) := by decide +kernel
theorem d130_4 : decode (ix_by 130) 4 = .ok (.iload_n 1, 1) := by decide +kernel
theorem d130_5 : decode (ix_by 130) 5 = .ok (.baload, 1) := by decide +kernel
theorem d130_6 : decode (ix_by 130) 6 = .ok (.ifCond .eq 4, 3) := by decide +kernel
theorem d130_9 : decode (ix_by 130) 9 = .ok (.return_, 1) := by decide +kernel
theorem d130_10 : decode (ix_by 130) 10 = .ok (.aload_n 0, 1) := by decide +kernel
theorem d130_11 : decode (ix_by 130) 11 = .ok (.getfield 47, 3) := by decide +kernel
theorem d130_14 : decode (ix_by 130) 14 = .ok (.iload_n 1, 1) := by decide +kernel
theorem d130_15 : decode (ix_by 130) 15 = .ok (.dup2, 1) := by decide +kernel
theorem d130_16 : decode (ix_by 130) 16 = .ok (.iaload, 1) := by decide +kernel
theorem d130_17 : decode (ix_by 130) 17 = .ok (.iconst 1, 1) := by decide +kernel
theorem d130_18 : decode (ix_by 130) 18 = .ok (.iadd, 1) := by decide +kernel
theorem d130_19 : decode (ix_by 130) 19 = .ok (.iastore, 1) := by decide +kernel
theorem d130_20 : decode (ix_by 130) 20 = .ok (.aload_n 0, 1) := by decide +kernel
theorem d130_21 : decode (ix_by 130) 21 = .ok (.getfield 13, 3) := by decide +kernel
theorem d130_24 : decode (ix_by 130) 24 = .ok (.aload_n 0, 1) := by decide +kernel
theorem d130_25 : decode (ix_by 130) 25 = .ok (.iload_n 1, 1) := by decide +kernel
theorem d130_26 : decode (ix_by 130) 26 = .ok (.invokevirtual 181, 3) := by decide +kernel
theorem d130_29 : decode (ix_by 130) 29 = .ok (.iaload, 1) := by decide +kernel
theorem d130_30 : decode (ix_by 130) 30 = .ok (.invokestatic 164, 3) := by decide +kernel
theorem d130_33 : decode (ix_by 130) 33 = .ok (.istore_n 2, 1) := by decide +kernel
theorem d130_34 : decode (ix_by 130) 34 = .ok (.aload_n 0, 1) := by decide +kernel
theorem d130_35 : decode (ix_by 130) 35 = .ok (.getfield 44, 3) := by decide +kernel
theorem d130_38 : decode (ix_by 130) 38 = .ok (.iload_n 1, 1) := by decide +kernel
theorem d130_39 : decode (ix_by 130) 39 = .ok (.iaload, 1) := by decide +kernel
theorem d130_40 : decode (ix_by 130) 40 = .ok (.ifCond .ne 85, 3) := by decide +kernel
theorem d130_43 : decode (ix_by 130) 43 = .ok (.aload_n 0, 1) := by decide +kernel
theorem d130_44 : decode (ix_by 130) 44 = .ok (.getfield 53, 3) := by decide +kernel
theorem d130_47 : decode (ix_by 130) 47 = .ok (.iload_n 1, 1) := by decide +kernel
theorem d130_48 : decode (ix_by 130) 48 = .ok (.aload_n 0, 1) := by decide +kernel
theorem d130_49 : decode (ix_by 130) 49 = .ok (.getfield 47, 3) := by decide +kernel
theorem d130_52 : decode (ix_by 130) 52 = .ok (.iload_n 1, 1) := by decide +kernel
theorem d130_53 : decode (ix_by 130) 53 = .ok (.iaload, 1) := by decide +kernel
theorem d130_54 : decode (ix_by 130) 54 = .ok (.iastore, 1) := by decide +kernel
theorem d130_55 : decode (ix_by 130) 55 = .ok (.aload_n 0, 1) := by decide +kernel
theorem d130_56 : decode (ix_by 130) 56 = .ok (.getfield 62, 3) := by decide +kernel
theorem d130_59 : decode (ix_by 130) 59 = .ok (.iload_n 1, 1) := by decide +kernel
theorem d130_60 : decode (ix_by 130) 60 = .ok (.baload, 1) := by decide +kernel
theorem d130_61 : decode (ix_by 130) 61 = .ok (.ifCond .ne 13, 3) := by decide +kernel
theorem d130_64 : decode (ix_by 130) 64 = .ok (.aload_n 0, 1) := by decide +kernel
theorem d130_65 : decode (ix_by 130) 65 = .ok (.getfield 41, 3) := by decide +kernel
theorem d130_68 : decode (ix_by 130) 68 = .ok (.iload_n 1, 1) := by decide +kernel
theorem d130_69 : decode (ix_by 130) 69 = .ok (.iaload, 1) := by decide +kernel
theorem d130_70 : decode (ix_by 130) 70 = .ok (.iload_n 2, 1) := by decide +kernel
theorem d130_71 : decode (ix_by 130) 71 = .ok (.if_icmp .le 11, 3) := by decide +kernel
theorem d130_74 : decode (ix_by 130) 74 = .ok (.aload_n 0, 1) := by decide +kernel
theorem d130_75 : decode (ix_by 130) 75 = .ok (.iload_n 1, 1) := by decide +kernel
theorem d130_76 : decode (ix_by 130) 76 = .ok (.invokevirtual 191, 3) := by decide +kernel
theorem d130_79 : decode (ix_by 130) 79 = .ok (.goto 170, 3) := by decide +kernel
theorem d130_82 : decode (ix_by 130) 82 = .ok (.aload_n 0, 1) := by decide +kernel
theorem d130_83 : decode (ix_by 130) 83 = .ok (.getfield 41, 3) := by decide +kernel
theorem d130_86 : decode (ix_by 130) 86 = .ok (.iload_n 1, 1) := by decide +kernel
theorem d130_87 : decode (ix_by 130) 87 = .ok (.iaload, 1) := by decide +kernel
theorem d130_88 : decode (ix_by 130) 88 = .ok (.ifCond .ne 11, 3) := by decide +kernel
theorem d130_91 : decode (ix_by 130) 91 = .ok (.aload_n 0, 1) := by decide +kernel
theorem d130_92 : decode (ix_by 130) 92 = .ok (.iload_n 1, 1) := by decide +kernel
theorem d130_93 : decode (ix_by 130) 93 = .ok (.invokevirtual 195, 3) := by decide +kernel
theorem d130_96 : decode (ix_by 130) 96 = .ok (.goto 16, 3) := by decide +kernel
theorem d130_99 : decode (ix_by 130) 99 = .ok (.aload_n 0, 1) := by decide +kernel
theorem d130_100 : decode (ix_by 130) 100 = .ok (.iload_n 1, 1) := by decide +kernel
theorem d130_101 : decode (ix_by 130) 101 = .ok (.aload_n 0, 1) := by decide +kernel
theorem d130_102 : decode (ix_by 130) 102 = .ok (.getfield 41, 3) := by decide +kernel
theorem d130_105 : decode (ix_by 130) 105 = .ok (.iload_n 1, 1) := by decide +kernel
theorem d130_106 : decode (ix_by 130) 106 = .ok (.iaload, 1) := by decide +kernel
theorem d130_107 : decode (ix_by 130) 107 = .ok (.iconst 1, 1) := by decide +kernel
theorem d130_108 : decode (ix_by 130) 108 = .ok (.isub, 1) := by decide +kernel
theorem d130_109 : decode (ix_by 130) 109 = .ok (.invokevirtual 198, 3) := by decide +kernel
theorem d130_112 : decode (ix_by 130) 112 = .ok (.aload_n 0, 1) := by decide +kernel
theorem d130_113 : decode (ix_by 130) 113 = .ok (.getfield 41, 3) := by decide +kernel
theorem d130_116 : decode (ix_by 130) 116 = .ok (.iload_n 1, 1) := by decide +kernel
theorem d130_117 : decode (ix_by 130) 117 = .ok (.dup2, 1) := by decide +kernel
theorem d130_118 : decode (ix_by 130) 118 = .ok (.iaload, 1) := by decide +kernel
theorem d130_119 : decode (ix_by 130) 119 = .ok (.iconst 1, 1) := by decide +kernel
theorem d130_120 : decode (ix_by 130) 120 = .ok (.iadd, 1) := by decide +kernel
theorem d130_121 : decode (ix_by 130) 121 = .ok (.iastore, 1) := by decide +kernel
theorem d130_122 : decode (ix_by 130) 122 = .ok (.goto 127, 3) := by decide +kernel
theorem d130_125 : decode (ix_by 130) 125 = .ok (.aload_n 0, 1) := by decide +kernel
theorem d130_126 : decode (ix_by 130) 126 = .ok (.getfield 56, 3) := by decide +kernel
theorem d130_129 : decode (ix_by 130) 129 = .ok (.iload_n 1, 1) := by decide +kernel
theorem d130_130 : decode (ix_by 130) 130 = .ok (.iaload, 1) := by decide +kernel
theorem d130_131 : decode (ix_by 130) 131 = .ok (.ifCond .eq 23, 3) := by decide +kernel
theorem d130_134 : decode (ix_by 130) 134 = .ok (.aload_n 0, 1) := by decide +kernel
theorem d130_135 : decode (ix_by 130) 135 = .ok (.getfield 53, 3) := by decide +kernel
theorem d130_138 : decode (ix_by 130) 138 = .ok (.iload_n 1, 1) := by decide +kernel
theorem d130_139 : decode (ix_by 130) 139 = .ok (.aload_n 0, 1) := by decide +kernel
theorem d130_140 : decode (ix_by 130) 140 = .ok (.getfield 47, 3) := by decide +kernel
theorem d130_143 : decode (ix_by 130) 143 = .ok (.iload_n 1, 1) := by decide +kernel
theorem d130_144 : decode (ix_by 130) 144 = .ok (.iaload, 1) := by decide +kernel
theorem d130_145 : decode (ix_by 130) 145 = .ok (.iastore, 1) := by decide +kernel
theorem d130_146 : decode (ix_by 130) 146 = .ok (.aload_n 0, 1) := by decide +kernel
theorem d130_147 : decode (ix_by 130) 147 = .ok (.iload_n 1, 1) := by decide +kernel
theorem d130_148 : decode (ix_by 130) 148 = .ok (.invokevirtual 201, 3) := by decide +kernel
theorem d130_151 : decode (ix_by 130) 151 = .ok (.goto 98, 3) := by decide +kernel
theorem d130_154 : decode (ix_by 130) 154 = .ok (.aload_n 0, 1) := by decide +kernel
theorem d130_155 : decode (ix_by 130) 155 = .ok (.getfield 59, 3) := by decide +kernel
theorem d130_158 : decode (ix_by 130) 158 = .ok (.iload_n 1, 1) := by decide +kernel
theorem d130_159 : decode (ix_by 130) 159 = .ok (.baload, 1) := by decide +kernel
theorem d130_160 : decode (ix_by 130) 160 = .ok (.ifCond .ne 61, 3) := by decide +kernel
theorem d130_163 : decode (ix_by 130) 163 = .ok (.aload_n 0, 1) := by decide +kernel
theorem d130_164 : decode (ix_by 130) 164 = .ok (.getfield 47, 3) := by decide +kernel
theorem d130_167 : decode (ix_by 130) 167 = .ok (.iload_n 1, 1) := by decide +kernel
theorem d130_168 : decode (ix_by 130) 168 = .ok (.iaload, 1) := by decide +kernel
theorem d130_169 : decode (ix_by 130) 169 = .ok (.aload_n 0, 1) := by decide +kernel
theorem d130_170 : decode (ix_by 130) 170 = .ok (.getfield 50, 3) := by decide +kernel
theorem d130_173 : decode (ix_by 130) 173 = .ok (.iload_n 1, 1) := by decide +kernel
theorem d130_174 : decode (ix_by 130) 174 = .ok (.iaload, 1) := by decide +kernel
theorem d130_175 : decode (ix_by 130) 175 = .ok (.isub, 1) := by decide +kernel
theorem d130_176 : decode (ix_by 130) 176 = .ok (.aload_n 0, 1) := by decide +kernel
theorem d130_177 : decode (ix_by 130) 177 = .ok (.getfield 140, 3) := by decide +kernel
theorem d130_180 : decode (ix_by 130) 180 = .ok (.if_icmp .ge 4, 3) := by decide +kernel
theorem d130_183 : decode (ix_by 130) 183 = .ok (.return_, 1) := by decide +kernel
theorem d130_184 : decode (ix_by 130) 184 = .ok (.aload_n 0, 1) := by decide +kernel
theorem d130_185 : decode (ix_by 130) 185 = .ok (.getfield 44, 3) := by decide +kernel
theorem d130_188 : decode (ix_by 130) 188 = .ok (.iload_n 1, 1) := by decide +kernel
theorem d130_189 : decode (ix_by 130) 189 = .ok (.iaload, 1) := by decide +kernel
theorem d130_190 : decode (ix_by 130) 190 = .ok (.iconst 3, 1) := by decide +kernel
theorem d130_191 : decode (ix_by 130) 191 = .ok (.if_icmp .ne 10, 3) := by decide +kernel
theorem d130_194 : decode (ix_by 130) 194 = .ok (.aload_n 0, 1) := by decide +kernel
theorem d130_195 : decode (ix_by 130) 195 = .ok (.iload_n 1, 1) := by decide +kernel
theorem d130_196 : decode (ix_by 130) 196 = .ok (.iconst 3, 1) := by decide +kernel
theorem d130_197 : decode (ix_by 130) 197 = .ok (.invokevirtual 187, 3) := by decide +kernel
theorem d130_200 : decode (ix_by 130) 200 = .ok (.return_, 1) := by decide +kernel
theorem d130_201 : decode (ix_by 130) 201 = .ok (.aload_n 0, 1) := by decide +kernel
theorem d130_202 : decode (ix_by 130) 202 = .ok (.getfield 53, 3) := by decide +kernel
theorem d130_205 : decode (ix_by 130) 205 = .ok (.iload_n 1, 1) := by decide +kernel
theorem d130_206 : decode (ix_by 130) 206 = .ok (.aload_n 0, 1) := by decide +kernel
theorem d130_207 : decode (ix_by 130) 207 = .ok (.getfield 47, 3) := by decide +kernel
theorem d130_210 : decode (ix_by 130) 210 = .ok (.iload_n 1, 1) := by decide +kernel
theorem d130_211 : decode (ix_by 130) 211 = .ok (.iaload, 1) := by decide +kernel
theorem d130_212 : decode (ix_by 130) 212 = .ok (.iastore, 1) := by decide +kernel
theorem d130_213 : decode (ix_by 130) 213 = .ok (.aload_n 0, 1) := by decide +kernel
theorem d130_214 : decode (ix_by 130) 214 = .ok (.iload_n 1, 1) := by decide +kernel
theorem d130_215 : decode (ix_by 130) 215 = .ok (.invokevirtual 191, 3) := by decide +kernel
theorem d130_218 : decode (ix_by 130) 218 = .ok (.goto 31, 3) := by decide +kernel
theorem d130_221 : decode (ix_by 130) 221 = .ok (.aload_n 0, 1) := by decide +kernel
theorem d130_222 : decode (ix_by 130) 222 = .ok (.getfield 47, 3) := by decide +kernel
theorem d130_225 : decode (ix_by 130) 225 = .ok (.iload_n 1, 1) := by decide +kernel
theorem d130_226 : decode (ix_by 130) 226 = .ok (.iaload, 1) := by decide +kernel
theorem d130_227 : decode (ix_by 130) 227 = .ok (.aload_n 0, 1) := by decide +kernel
theorem d130_228 : decode (ix_by 130) 228 = .ok (.getfield 53, 3) := by decide +kernel
theorem d130_231 : decode (ix_by 130) 231 = .ok (.iload_n 1, 1) := by decide +kernel
theorem d130_232 : decode (ix_by 130) 232 = .ok (.iaload, 1) := by decide +kernel
theorem d130_233 : decode (ix_by 130) 233 = .ok (.isub, 1) := by decide +kernel
theorem d130_234 : decode (ix_by 130) 234 = .ok (.iconst 4, 1) := by decide +kernel
theorem d130_235 : decode (ix_by 130) 235 = .ok (.aload_n 0, 1) := by decide +kernel
theorem d130_236 : decode (ix_by 130) 236 = .ok (.getfield 140, 3) := by decide +kernel
theorem d130_239 : decode (ix_by 130) 239 = .ok (.imul, 1) := by decide +kernel
theorem d130_240 : decode (ix_by 130) 240 = .ok (.if_icmp .lt 9, 3) := by decide +kernel
theorem d130_243 : decode (ix_by 130) 243 = .ok (.aload_n 0, 1) := by decide +kernel
theorem d130_244 : decode (ix_by 130) 244 = .ok (.iload_n 1, 1) := by decide +kernel
theorem d130_245 : decode (ix_by 130) 245 = .ok (.iconst 3, 1) := by decide +kernel
theorem d130_246 : decode (ix_by 130) 246 = .ok (.invokevirtual 187, 3) := by decide +kernel
theorem d130_249 : decode (ix_by 130) 249 = .ok (.return_, 1) := by decide +kernel
theorem d131_0 : decode (ix_by 131) 0 = .ok (.bipush 6, 2) := by decide +kernel
theorem d131_2 : decode (ix_by 131) 2 = .ok (.iload_n 1, 1) := by decide +kernel
theorem d131_3 : decode (ix_by 131) 3 = .ok (.sipush 320, 3) := by decide +kernel
theorem d131_6 : decode (ix_by 131) 6 = .ok (.idiv, 1) := by decide +kernel
theorem d131_7 : decode (ix_by 131) 7 = .ok (.imul, 1) := by decide +kernel
theorem d131_8 : decode (ix_by 131) 8 = .ok (.aload_n 0, 1) := by decide +kernel
theorem d131_9 : decode (ix_by 131) 9 = .ok (.getfield 26, 3) := by decide +kernel
theorem d131_12 : decode (ix_by 131) 12 = .ok (.iload_n 1, 1) := by decide +kernel
theorem d131_13 : decode (ix_by 131) 13 = .ok (.iaload, 1) := by decide +kernel
theorem d131_14 : decode (ix_by 131) 14 = .ok (.iadd, 1) := by decide +kernel
theorem d131_15 : decode (ix_by 131) 15 = .ok (.ireturn, 1) := by decide +kernel
theorem d132_0 : decode (ix_by 132) 0 = .ok (.iload_n 0, 1) := by decide +kernel
theorem d132_1 : decode (ix_by 132) 1 = .ok (.iconst 3, 1) := by decide +kernel
theorem d132_2 : decode (ix_by 132) 2 = .ok (.iadd, 1) := by decide +kernel
theorem d132_3 : decode (ix_by 132) 3 = .ok (.iconst 4, 1) := by decide +kernel
theorem d132_4 : decode (ix_by 132) 4 = .ok (.idiv, 1) := by decide +kernel
theorem d132_5 : decode (ix_by 132) 5 = .ok (.ireturn, 1) := by decide +kernel
theorem d133_0 : decode (ix_by 133) 0 = .ok (.aload_n 0, 1) := by decide +kernel
theorem d133_1 : decode (ix_by 133) 1 = .ok (.iload_n 1, 1) := by decide +kernel
theorem d133_2 : decode (ix_by 133) 2 = .ok (.invokevirtual 181, 3) := by decide +kernel
theorem d133_5 : decode (ix_by 133) 5 = .ok (.istore_n 2, 1) := by decide +kernel
theorem d133_6 : decode (ix_by 133) 6 = .ok (.aload_n 0, 1) := by decide +kernel
theorem d133_7 : decode (ix_by 133) 7 = .ok (.iconst 3, 1) := by decide +kernel
theorem d133_8 : decode (ix_by 133) 8 = .ok (.iconst 1, 1) := by decide +kernel
theorem d133_9 : decode (ix_by 133) 9 = .ok (.iload_n 1, 1) := by decide +kernel
theorem d133_10 : decode (ix_by 133) 10 = .ok (.sipush 320, 3) := by decide +kernel
theorem d133_13 : decode (ix_by 133) 13 = .ok (.idiv, 1) := by decide +kernel
theorem d133_14 : decode (ix_by 133) 14 = .ok (.isub, 1) := by decide +kernel
theorem d133_15 : decode (ix_by 133) 15 = .ok (.iload_n 1, 1) := by decide +kernel
theorem d133_16 : decode (ix_by 133) 16 = .ok (.aload_n 0, 1) := by decide +kernel
theorem d133_17 : decode (ix_by 133) 17 = .ok (.getfield 62, 3) := by decide +kernel
theorem d133_20 : decode (ix_by 133) 20 = .ok (.iload_n 1, 1) := by decide +kernel
theorem d133_21 : decode (ix_by 133) 21 = .ok (.baload, 1) := by decide +kernel
theorem d133_22 : decode (ix_by 133) 22 = .ok (.ifCond .eq 7, 3) := by decide +kernel
theorem d133_25 : decode (ix_by 133) 25 = .ok (.iconst (-1), 1) := by decide +kernel
theorem d133_26 : decode (ix_by 133) 26 = .ok (.goto 9, 3) := by decide +kernel
theorem d133_29 : decode (ix_by 133) 29 = .ok (.aload_n 0, 1) := by decide +kernel
theorem d133_30 : decode (ix_by 133) 30 = .ok (.getfield 13, 3) := by decide +kernel
theorem d133_33 : decode (ix_by 133) 33 = .ok (.iload_n 2, 1) := by decide +kernel
theorem d133_34 : decode (ix_by 133) 34 = .ok (.iaload, 1) := by decide +kernel
theorem d133_35 : decode (ix_by 133) 35 = .ok (.aload_n 0, 1) := by decide +kernel
theorem d133_36 : decode (ix_by 133) 36 = .ok (.getfield 62, 3) := by decide +kernel
theorem d133_39 : decode (ix_by 133) 39 = .ok (.iload_n 1, 1) := by decide +kernel
theorem d133_40 : decode (ix_by 133) 40 = .ok (.baload, 1) := by decide +kernel
theorem d133_41 : decode (ix_by 133) 41 = .ok (.ifCond .eq 7, 3) := by decide +kernel
theorem d133_44 : decode (ix_by 133) 44 = .ok (.iconst 0, 1) := by decide +kernel
theorem d133_45 : decode (ix_by 133) 45 = .ok (.goto 8, 3) := by decide +kernel
theorem d133_48 : decode (ix_by 133) 48 = .ok (.aload_n 0, 1) := by decide +kernel
theorem d133_49 : decode (ix_by 133) 49 = .ok (.iload_n 2, 1) := by decide +kernel
theorem d133_50 : decode (ix_by 133) 50 = .ok (.invokevirtual 184, 3) := by decide +kernel
theorem d133_53 : decode (ix_by 133) 53 = .ok (.iconst 0, 1) := by decide +kernel
theorem d133_54 : decode (ix_by 133) 54 = .ok (.invokevirtual 177, 3) := by decide +kernel
theorem d133_57 : decode (ix_by 133) 57 = .ok (.ifCond .eq 27, 3) := by decide +kernel
theorem d133_60 : decode (ix_by 133) 60 = .ok (.aload_n 0, 1) := by decide +kernel
theorem d133_61 : decode (ix_by 133) 61 = .ok (.getfield 131, 3) := by decide +kernel
theorem d133_64 : decode (ix_by 133) 64 = .ok (.bipush 11, 2) := by decide +kernel
theorem d133_66 : decode (ix_by 133) 66 = .ok (.aload_n 0, 1) := by decide +kernel
theorem d133_67 : decode (ix_by 133) 67 = .ok (.getfield 171, 3) := by decide +kernel
theorem d133_70 : decode (ix_by 133) 70 = .ok (.imul, 1) := by decide +kernel
theorem d133_71 : decode (ix_by 133) 71 = .ok (.bipush 11, 2) := by decide +kernel
theorem d133_73 : decode (ix_by 133) 73 = .ok (.isub, 1) := by decide +kernel
theorem d133_74 : decode (ix_by 133) 74 = .ok (.bipush 6, 2) := by decide +kernel
theorem d133_76 : decode (ix_by 133) 76 = .ok (.iadd, 1) := by decide +kernel
theorem d133_77 : decode (ix_by 133) 77 = .ok (.aload_n 0, 1) := by decide +kernel
theorem d133_78 : decode (ix_by 133) 78 = .ok (.getfield 23, 3) := by decide +kernel
theorem d133_81 : decode (ix_by 133) 81 = .ok (.iload_n 1, 1) := by decide +kernel
theorem d133_82 : decode (ix_by 133) 82 = .ok (.iaload, 1) := by decide +kernel
theorem d133_83 : decode (ix_by 133) 83 = .ok (.iastore, 1) := by decide +kernel
theorem d133_84 : decode (ix_by 133) 84 = .ok (.aload_n 0, 1) := by decide +kernel
theorem d133_85 : decode (ix_by 133) 85 = .ok (.getfield 44, 3) := by decide +kernel
theorem d133_88 : decode (ix_by 133) 88 = .ok (.iload_n 1, 1) := by decide +kernel
theorem d133_89 : decode (ix_by 133) 89 = .ok (.dup2, 1) := by decide +kernel
theorem d133_90 : decode (ix_by 133) 90 = .ok (.iaload, 1) := by decide +kernel
theorem d133_91 : decode (ix_by 133) 91 = .ok (.iconst 1, 1) := by decide +kernel
theorem d133_92 : decode (ix_by 133) 92 = .ok (.iadd, 1) := by decide +kernel
theorem d133_93 : decode (ix_by 133) 93 = .ok (.iastore, 1) := by decide +kernel
theorem d133_94 : decode (ix_by 133) 94 = .ok (.aload_n 0, 1) := by decide +kernel
theorem d133_95 : decode (ix_by 133) 95 = .ok (.getfield 50, 3) := by decide +kernel
theorem d133_98 : decode (ix_by 133) 98 = .ok (.iload_n 1, 1) := by decide +kernel
theorem d133_99 : decode (ix_by 133) 99 = .ok (.aload_n 0, 1) := by decide +kernel
theorem d133_100 : decode (ix_by 133) 100 = .ok (.getfield 47, 3) := by decide +kernel
theorem d133_103 : decode (ix_by 133) 103 = .ok (.iload_n 1, 1) := by decide +kernel
theorem d133_104 : decode (ix_by 133) 104 = .ok (.iaload, 1) := by decide +kernel
theorem d133_105 : decode (ix_by 133) 105 = .ok (.iastore, 1) := by decide +kernel
theorem d133_106 : decode (ix_by 133) 106 = .ok (.aload_n 0, 1) := by decide +kernel
theorem d133_107 : decode (ix_by 133) 107 = .ok (.getfield 23, 3) := by decide +kernel
theorem d133_110 : decode (ix_by 133) 110 = .ok (.iload_n 1, 1) := by decide +kernel
theorem d133_111 : decode (ix_by 133) 111 = .ok (.iaload, 1) := by decide +kernel
theorem d133_112 : decode (ix_by 133) 112 = .ok (.iconst 1, 1) := by decide +kernel
theorem d133_113 : decode (ix_by 133) 113 = .ok (.if_icmp .ne 22, 3) := by decide +kernel
theorem d133_116 : decode (ix_by 133) 116 = .ok (.aload_n 0, 1) := by decide +kernel
theorem d133_117 : decode (ix_by 133) 117 = .ok (.iload_n 1, 1) := by decide +kernel
theorem d133_118 : decode (ix_by 133) 118 = .ok (.aload_n 0, 1) := by decide +kernel
theorem d133_119 : decode (ix_by 133) 119 = .ok (.getfield 62, 3) := by decide +kernel
theorem d133_122 : decode (ix_by 133) 122 = .ok (.iload_n 1, 1) := by decide +kernel
theorem d133_123 : decode (ix_by 133) 123 = .ok (.baload, 1) := by decide +kernel
theorem d133_124 : decode (ix_by 133) 124 = .ok (.ifCond .eq 7, 3) := by decide +kernel
theorem d133_127 : decode (ix_by 133) 127 = .ok (.iconst 2, 1) := by decide +kernel
theorem d133_128 : decode (ix_by 133) 128 = .ok (.goto 4, 3) := by decide +kernel
theorem d133_131 : decode (ix_by 133) 131 = .ok (.iconst 1, 1) := by decide +kernel
theorem d133_132 : decode (ix_by 133) 132 = .ok (.invokevirtual 187, 3) := by decide +kernel
theorem d133_135 : decode (ix_by 133) 135 = .ok (.return_, 1) := by decide +kernel
theorem d134_0 : decode (ix_by 134) 0 = .ok (.iconst 0, 1) := by decide +kernel
theorem d134_1 : decode (ix_by 134) 1 = .ok (.istore_n 2, 1) := by decide +kernel
theorem d134_2 : decode (ix_by 134) 2 = .ok (.iconst 0, 1) := by decide +kernel
theorem d134_3 : decode (ix_by 134) 3 = .ok (.istore_n 3, 1) := by decide +kernel
theorem d134_4 : decode (ix_by 134) 4 = .ok (.iload_n 3, 1) := by decide +kernel
theorem d134_5 : decode (ix_by 134) 5 = .ok (.aload_n 0, 1) := by decide +kernel
theorem d134_6 : decode (ix_by 134) 6 = .ok (.getfield 13, 3) := by decide +kernel
theorem d134_9 : decode (ix_by 134) 9 = .ok (.iload_n 1, 1) := by decide +kernel
theorem d134_10 : decode (ix_by 134) 10 = .ok (.iaload, 1) := by decide +kernel
theorem d134_11 : decode (ix_by 134) 11 = .ok (.invokestatic 164, 3) := by decide +kernel
theorem d134_14 : decode (ix_by 134) 14 = .ok (.if_icmp .ge 18, 3) := by decide +kernel
theorem d134_17 : decode (ix_by 134) 17 = .ok (.iload_n 2, 1) := by decide +kernel
theorem d134_18 : decode (ix_by 134) 18 = .ok (.aload_n 0, 1) := by decide +kernel
theorem d134_19 : decode (ix_by 134) 19 = .ok (.iload_n 1, 1) := by decide +kernel
theorem d134_20 : decode (ix_by 134) 20 = .ok (.iload_n 3, 1) := by decide +kernel
theorem d134_21 : decode (ix_by 134) 21 = .ok (.invokevirtual 167, 3) := by decide +kernel
theorem d134_24 : decode (ix_by 134) 24 = .ok (.iadd, 1) := by decide +kernel
theorem d134_25 : decode (ix_by 134) 25 = .ok (.istore_n 2, 1) := by decide +kernel
theorem d134_26 : decode (ix_by 134) 26 = .ok (.iinc 3 1, 3) := by decide +kernel
theorem d134_29 : decode (ix_by 134) 29 = .ok (.goto (-25), 3) := by decide +kernel
theorem d134_32 : decode (ix_by 134) 32 = .ok (.iload_n 2, 1) := by decide +kernel
theorem d134_33 : decode (ix_by 134) 33 = .ok (.ireturn, 1) := by decide +kernel
theorem d135_0 : decode (ix_by 135) 0 = .ok (.iconst 0, 1) := by decide +kernel
theorem d135_1 : decode (ix_by 135) 1 = .ok (.istore_n 3, 1) := by decide +kernel
theorem d135_2 : decode (ix_by 135) 2 = .ok (.iconst 0, 1) := by decide +kernel
theorem d135_3 : decode (ix_by 135) 3 = .ok (.istore 4, 2) := by decide +kernel
theorem d135_5 : decode (ix_by 135) 5 = .ok (.iload 4, 2) := by decide +kernel
theorem d135_7 : decode (ix_by 135) 7 = .ok (.iconst 4, 1) := by decide +kernel
theorem d135_8 : decode (ix_by 135) 8 = .ok (.if_icmp .ge 50, 3) := by decide +kernel
theorem d135_11 : decode (ix_by 135) 11 = .ok (.iload_n 3, 1) := by decide +kernel
theorem d135_12 : decode (ix_by 135) 12 = .ok (.bipush 8, 2) := by decide +kernel
theorem d135_14 : decode (ix_by 135) 14 = .ok (.ishl, 1) := by decide +kernel
theorem d135_15 : decode (ix_by 135) 15 = .ok (.iconst 4, 1) := by decide +kernel
theorem d135_16 : decode (ix_by 135) 16 = .ok (.iload_n 2, 1) := by decide +kernel
theorem d135_17 : decode (ix_by 135) 17 = .ok (.imul, 1) := by decide +kernel
theorem d135_18 : decode (ix_by 135) 18 = .ok (.iload 4, 2) := by decide +kernel
theorem d135_20 : decode (ix_by 135) 20 = .ok (.iadd, 1) := by decide +kernel
theorem d135_21 : decode (ix_by 135) 21 = .ok (.aload_n 0, 1) := by decide +kernel
theorem d135_22 : decode (ix_by 135) 22 = .ok (.getfield 13, 3) := by decide +kernel
theorem d135_25 : decode (ix_by 135) 25 = .ok (.iload_n 1, 1) := by decide +kernel
theorem d135_26 : decode (ix_by 135) 26 = .ok (.iaload, 1) := by decide +kernel
theorem d135_27 : decode (ix_by 135) 27 = .ok (.if_icmp .ge 22, 3) := by decide +kernel
theorem d135_30 : decode (ix_by 135) 30 = .ok (.aload_n 0, 1) := by decide +kernel
theorem d135_31 : decode (ix_by 135) 31 = .ok (.getfield 17, 3) := by decide +kernel
theorem d135_34 : decode (ix_by 135) 34 = .ok (.bipush 64, 2) := by decide +kernel
theorem d135_36 : decode (ix_by 135) 36 = .ok (.iload_n 1, 1) := by decide +kernel
theorem d135_37 : decode (ix_by 135) 37 = .ok (.imul, 1) := by decide +kernel
theorem d135_38 : decode (ix_by 135) 38 = .ok (.iconst 4, 1) := by decide +kernel
theorem d135_39 : decode (ix_by 135) 39 = .ok (.iload_n 2, 1) := by decide +kernel
theorem d135_40 : decode (ix_by 135) 40 = .ok (.imul, 1) := by decide +kernel
theorem d135_41 : decode (ix_by 135) 41 = .ok (.iadd, 1) := by decide +kernel
theorem d135_42 : decode (ix_by 135) 42 = .ok (.iload 4, 2) := by decide +kernel
theorem d135_44 : decode (ix_by 135) 44 = .ok (.iadd, 1) := by decide +kernel
theorem d135_45 : decode (ix_by 135) 45 = .ok (.iaload, 1) := by decide +kernel
theorem d135_46 : decode (ix_by 135) 46 = .ok (.goto 4, 3) := by decide +kernel
theorem d135_49 : decode (ix_by 135) 49 = .ok (.iconst 0, 1) := by decide +kernel
theorem d135_50 : decode (ix_by 135) 50 = .ok (.ior, 1) := by decide +kernel
theorem d135_51 : decode (ix_by 135) 51 = .ok (.istore_n 3, 1) := by decide +kernel
theorem d135_52 : decode (ix_by 135) 52 = .ok (.iinc 4 1, 3) := by decide +kernel
theorem d135_55 : decode (ix_by 135) 55 = .ok (.goto (-50), 3) := by decide +kernel
theorem d135_58 : decode (ix_by 135) 58 = .ok (.iload_n 3, 1) := by decide +kernel
theorem d135_59 : decode (ix_by 135) 59 = .ok (.ireturn, 1) := by decide +kernel
theorem d136_0 : decode (ix_by 136) 0 = .ok (.aload_n 0, 1) := by decide +kernel
theorem d136_1 : decode (ix_by 136) 1 = .ok (.getfield 171, 3) := by decide +kernel
theorem d136_4 : decode (ix_by 136) 4 = .ok (.bipush 24, 2) := by decide +kernel
theorem d136_6 : decode (ix_by 136) 6 = .ok (.if_icmp .ne 5, 3) := by decide +kernel
theorem d136_9 : decode (ix_by 136) 9 = .ok (.iconst 0, 1) := by decide +kernel
theorem d136_10 : decode (ix_by 136) 10 = .ok (.ireturn, 1) := by decide +kernel
theorem d136_11 : decode (ix_by 136) 11 = .ok (.bipush 11, 2) := by decide +kernel
theorem d136_13 : decode (ix_by 136) 13 = .ok (.aload_n 0, 1) := by decide +kernel
theorem d136_14 : decode (ix_by 136) 14 = .ok (.getfield 171, 3) := by decide +kernel
theorem d136_17 : decode (ix_by 136) 17 = .ok (.imul, 1) := by decide +kernel
theorem d136_18 : decode (ix_by 136) 18 = .ok (.istore 7, 2) := by decide +kernel
theorem d136_20 : decode (ix_by 136) 20 = .ok (.iconst 0, 1) := by decide +kernel
theorem d136_21 : decode (ix_by 136) 21 = .ok (.istore 8, 2) := by decide +kernel
theorem d136_23 : decode (ix_by 136) 23 = .ok (.iload 8, 2) := by decide +kernel
theorem d136_25 : decode (ix_by 136) 25 = .ok (.bipush 11, 2) := by decide +kernel
theorem d136_27 : decode (ix_by 136) 27 = .ok (.if_icmp .ge 20, 3) := by decide +kernel
theorem d136_30 : decode (ix_by 136) 30 = .ok (.aload_n 0, 1) := by decide +kernel
theorem d136_31 : decode (ix_by 136) 31 = .ok (.getfield 131, 3) := by decide +kernel
theorem d136_34 : decode (ix_by 136) 34 = .ok (.iload 7, 2) := by decide +kernel
theorem d136_36 : decode (ix_by 136) 36 = .ok (.iload 8, 2) := by decide +kernel
theorem d136_38 : decode (ix_by 136) 38 = .ok (.iadd, 1) := by decide +kernel
theorem d136_39 : decode (ix_by 136) 39 = .ok (.iconst 0, 1) := by decide +kernel
theorem d136_40 : decode (ix_by 136) 40 = .ok (.iastore, 1) := by decide +kernel
theorem d136_41 : decode (ix_by 136) 41 = .ok (.iinc 8 1, 3) := by decide +kernel
theorem d136_44 : decode (ix_by 136) 44 = .ok (.goto (-21), 3) := by decide +kernel
theorem d136_47 : decode (ix_by 136) 47 = .ok (.aload_n 0, 1) := by decide +kernel
theorem d136_48 : decode (ix_by 136) 48 = .ok (.getfield 131, 3) := by decide +kernel
theorem d136_51 : decode (ix_by 136) 51 = .ok (.iload 7, 2) := by decide +kernel
theorem d136_53 : decode (ix_by 136) 53 = .ok (.iload_n 1, 1) := by decide +kernel
theorem d136_54 : decode (ix_by 136) 54 = .ok (.iastore, 1) := by decide +kernel
theorem d136_55 : decode (ix_by 136) 55 = .ok (.aload_n 0, 1) := by decide +kernel
theorem d136_56 : decode (ix_by 136) 56 = .ok (.getfield 131, 3) := by decide +kernel
theorem d136_59 : decode (ix_by 136) 59 = .ok (.iload 7, 2) := by decide +kernel
theorem d136_61 : decode (ix_by 136) 61 = .ok (.iconst 1, 1) := by decide +kernel
theorem d136_62 : decode (ix_by 136) 62 = .ok (.iadd, 1) := by decide +kernel
theorem d136_63 : decode (ix_by 136) 63 = .ok (.iload_n 2, 1) := by decide +kernel
theorem d136_64 : decode (ix_by 136) 64 = .ok (.iastore, 1) := by decide +kernel
theorem d136_65 : decode (ix_by 136) 65 = .ok (.aload_n 0, 1) := by decide +kernel
theorem d136_66 : decode (ix_by 136) 66 = .ok (.getfield 131, 3) := by decide +kernel
theorem d136_69 : decode (ix_by 136) 69 = .ok (.iload 7, 2) := by decide +kernel
theorem d136_71 : decode (ix_by 136) 71 = .ok (.iconst 2, 1) := by decide +kernel
theorem d136_72 : decode (ix_by 136) 72 = .ok (.iadd, 1) := by decide +kernel
theorem d136_73 : decode (ix_by 136) 73 = .ok (.iload_n 3, 1) := by decide +kernel
theorem d136_74 : decode (ix_by 136) 74 = .ok (.iastore, 1) := by decide +kernel
theorem d136_75 : decode (ix_by 136) 75 = .ok (.aload_n 0, 1) := by decide +kernel
theorem d136_76 : decode (ix_by 136) 76 = .ok (.getfield 131, 3) := by decide +kernel
theorem d136_79 : decode (ix_by 136) 79 = .ok (.iload 7, 2) := by decide +kernel
theorem d136_81 : decode (ix_by 136) 81 = .ok (.iconst 3, 1) := by decide +kernel
theorem d136_82 : decode (ix_by 136) 82 = .ok (.iadd, 1) := by decide +kernel
theorem d136_83 : decode (ix_by 136) 83 = .ok (.iload 4, 2) := by decide +kernel
theorem d136_85 : decode (ix_by 136) 85 = .ok (.iastore, 1) := by decide +kernel
theorem d136_86 : decode (ix_by 136) 86 = .ok (.aload_n 0, 1) := by decide +kernel
theorem d136_87 : decode (ix_by 136) 87 = .ok (.getfield 131, 3) := by decide +kernel
theorem d136_90 : decode (ix_by 136) 90 = .ok (.iload 7, 2) := by decide +kernel
theorem d136_92 : decode (ix_by 136) 92 = .ok (.iconst 4, 1) := by decide +kernel
theorem d136_93 : decode (ix_by 136) 93 = .ok (.iadd, 1) := by decide +kernel
theorem d136_94 : decode (ix_by 136) 94 = .ok (.iload 5, 2) := by decide +kernel
theorem d136_96 : decode (ix_by 136) 96 = .ok (.iastore, 1) := by decide +kernel
theorem d136_97 : decode (ix_by 136) 97 = .ok (.aload_n 0, 1) := by decide +kernel
theorem d136_98 : decode (ix_by 136) 98 = .ok (.getfield 131, 3) := by decide +kernel
theorem d136_101 : decode (ix_by 136) 101 = .ok (.iload 7, 2) := by decide +kernel
theorem d136_103 : decode (ix_by 136) 103 = .ok (.iconst 5, 1) := by decide +kernel
theorem d136_104 : decode (ix_by 136) 104 = .ok (.iadd, 1) := by decide +kernel
theorem d136_105 : decode (ix_by 136) 105 = .ok (.iload 6, 2) := by decide +kernel
theorem d136_107 : decode (ix_by 136) 107 = .ok (.iastore, 1) := by decide +kernel
theorem d136_108 : decode (ix_by 136) 108 = .ok (.aload_n 0, 1) := by decide +kernel
theorem d136_109 : decode (ix_by 136) 109 = .ok (.dup, 1) := by decide +kernel
theorem d136_110 : decode (ix_by 136) 110 = .ok (.getfield 171, 3) := by decide +kernel
theorem d136_113 : decode (ix_by 136) 113 = .ok (.iconst 1, 1) := by decide +kernel
theorem d136_114 : decode (ix_by 136) 114 = .ok (.iadd, 1) := by decide +kernel
theorem d136_115 : decode (ix_by 136) 115 = .ok (.putfield 171, 3) := by decide +kernel
theorem d136_118 : decode (ix_by 136) 118 = .ok (.iconst 1, 1) := by decide +kernel
theorem d136_119 : decode (ix_by 136) 119 = .ok (.ireturn, 1) := by decide +kernel
end
section
/-! decode rows (written by wip/whole/gen4.py) -/
theorem d137_0 : decode (ix_by 137) 0 = .ok (.aload_n 0, 1) := by decide +kernel
theorem d137_1 : decode (ix_by 137) 1 = .ok (.getfield 38, 3) := by decide +kernel
theorem d137_4 : decode (ix_by 137) 4 = .ok (.iload_n 1, 1) := by decide +kernel
theorem d137_5 : decode (ix_by 137) 5 = .ok (.iload_n 2, 1) := by decide +kernel
theorem d137_6 : decode (ix_by 137) 6 = .ok (.iastore, 1) := by decide +kernel
theorem d137_7 : decode (ix_by 137) 7 = .ok (.iload_n 1, 1) := by decide +kernel
theorem d137_8 : decode (ix_by 137) 8 = .ok (.sipush 320, 3) := by decide +kernel
theorem d137_11 : decode (ix_by 137) 11 = .ok (.idiv, 1) := by decide +kernel
theorem d137_12 : decode (ix_by 137) 12 = .ok (.istore_n 3, 1) := by decide +kernel
theorem d137_13 : decode (ix_by 137) 13 = .ok (.iconst 0, 1) := by decide +kernel
theorem d137_14 : decode (ix_by 137) 14 = .ok (.istore 4, 2) := by decide +kernel
theorem d137_16 : decode (ix_by 137) 16 = .ok (.aload_n 0, 1) := by decide +kernel
theorem d137_17 : decode (ix_by 137) 17 = .ok (.getfield 119, 3) := by decide +kernel
theorem d137_20 : decode (ix_by 137) 20 = .ok (.iconst 3, 1) := by decide +kernel
theorem d137_21 : decode (ix_by 137) 21 = .ok (.iload_n 3, 1) := by decide +kernel
theorem d137_22 : decode (ix_by 137) 22 = .ok (.imul, 1) := by decide +kernel
theorem d137_23 : decode (ix_by 137) 23 = .ok (.iload 4, 2) := by decide +kernel
theorem d137_25 : decode (ix_by 137) 25 = .ok (.iadd, 1) := by decide +kernel
theorem d137_26 : decode (ix_by 137) 26 = .ok (.iaload, 1) := by decide +kernel
theorem d137_27 : decode (ix_by 137) 27 = .ok (.iload_n 1, 1) := by decide +kernel
theorem d137_28 : decode (ix_by 137) 28 = .ok (.if_icmp .eq 9, 3) := by decide +kernel
theorem d137_31 : decode (ix_by 137) 31 = .ok (.iinc 4 1, 3) := by decide +kernel
theorem d137_34 : decode (ix_by 137) 34 = .ok (.goto (-18), 3) := by decide +kernel
theorem d137_37 : decode (ix_by 137) 37 = .ok (.aload_n 0, 1) := by decide +kernel
theorem d137_38 : decode (ix_by 137) 38 = .ok (.getfield 125, 3) := by decide +kernel
theorem d137_41 : decode (ix_by 137) 41 = .ok (.iload_n 3, 1) := by decide +kernel
theorem d137_42 : decode (ix_by 137) 42 = .ok (.dup2, 1) := by decide +kernel
theorem d137_43 : decode (ix_by 137) 43 = .ok (.iaload, 1) := by decide +kernel
theorem d137_44 : decode (ix_by 137) 44 = .ok (.iconst 1, 1) := by decide +kernel
theorem d137_45 : decode (ix_by 137) 45 = .ok (.isub, 1) := by decide +kernel
theorem d137_46 : decode (ix_by 137) 46 = .ok (.iastore, 1) := by decide +kernel
theorem d137_47 : decode (ix_by 137) 47 = .ok (.iload 4, 2) := by decide +kernel
theorem d137_49 : decode (ix_by 137) 49 = .ok (.istore 5, 2) := by decide +kernel
theorem d137_51 : decode (ix_by 137) 51 = .ok (.iload 5, 2) := by decide +kernel
theorem d137_53 : decode (ix_by 137) 53 = .ok (.aload_n 0, 1) := by decide +kernel
theorem d137_54 : decode (ix_by 137) 54 = .ok (.getfield 125, 3) := by decide +kernel
theorem d137_57 : decode (ix_by 137) 57 = .ok (.iload_n 3, 1) := by decide +kernel
theorem d137_58 : decode (ix_by 137) 58 = .ok (.iaload, 1) := by decide +kernel
theorem d137_59 : decode (ix_by 137) 59 = .ok (.if_icmp .ge 33, 3) := by decide +kernel
theorem d137_62 : decode (ix_by 137) 62 = .ok (.aload_n 0, 1) := by decide +kernel
theorem d137_63 : decode (ix_by 137) 63 = .ok (.getfield 119, 3) := by decide +kernel
theorem d137_66 : decode (ix_by 137) 66 = .ok (.iconst 3, 1) := by decide +kernel
theorem d137_67 : decode (ix_by 137) 67 = .ok (.iload_n 3, 1) := by decide +kernel
theorem d137_68 : decode (ix_by 137) 68 = .ok (.imul, 1) := by decide +kernel
theorem d137_69 : decode (ix_by 137) 69 = .ok (.iload 5, 2) := by decide +kernel
theorem d137_71 : decode (ix_by 137) 71 = .ok (.iadd, 1) := by decide +kernel
theorem d137_72 : decode (ix_by 137) 72 = .ok (.aload_n 0, 1) := by decide +kernel
theorem d137_73 : decode (ix_by 137) 73 = .ok (.getfield 119, 3) := by decide +kernel
theorem d137_76 : decode (ix_by 137) 76 = .ok (.iconst 3, 1) := by decide +kernel
theorem d137_77 : decode (ix_by 137) 77 = .ok (.iload_n 3, 1) := by decide +kernel
theorem d137_78 : decode (ix_by 137) 78 = .ok (.imul, 1) := by decide +kernel
theorem d137_79 : decode (ix_by 137) 79 = .ok (.iload 5, 2) := by decide +kernel
theorem d137_81 : decode (ix_by 137) 81 = .ok (.iadd, 1) := by decide +kernel
theorem d137_82 : decode (ix_by 137) 82 = .ok (.iconst 1, 1) := by decide +kernel
theorem d137_83 : decode (ix_by 137) 83 = .ok (.iadd, 1) := by decide +kernel
theorem d137_84 : decode (ix_by 137) 84 = .ok (.iaload, 1) := by decide +kernel
theorem d137_85 : decode (ix_by 137) 85 = .ok (.iastore, 1) := by decide +kernel
theorem d137_86 : decode (ix_by 137) 86 = .ok (.iinc 5 1, 3) := by decide +kernel
theorem d137_89 : decode (ix_by 137) 89 = .ok (.goto (-38), 3) := by decide +kernel
theorem d137_92 : decode (ix_by 137) 92 = .ok (.return_, 1) := by decide +kernel
theorem d138_0 : decode (ix_by 138) 0 = .ok (.aload_n 0, 1) := by decide +kernel
theorem d138_1 : decode (ix_by 138) 1 = .ok (.iconst 1, 1) := by decide +kernel
theorem d138_2 : decode (ix_by 138) 2 = .ok (.iconst 1, 1) := by decide +kernel
theorem d138_3 : decode (ix_by 138) 3 = .ok (.iload_n 1, 1) := by decide +kernel
theorem d138_4 : decode (ix_by 138) 4 = .ok (.sipush 320, 3) := by decide +kernel
theorem d138_7 : decode (ix_by 138) 7 = .ok (.idiv, 1) := by decide +kernel
theorem d138_8 : decode (ix_by 138) 8 = .ok (.isub, 1) := by decide +kernel
theorem d138_9 : decode (ix_by 138) 9 = .ok (.iload_n 1, 1) := by decide +kernel
theorem d138_10 : decode (ix_by 138) 10 = .ok (.aload_n 0, 1) := by decide +kernel
theorem d138_11 : decode (ix_by 138) 11 = .ok (.getfield 29, 3) := by decide +kernel
theorem d138_14 : decode (ix_by 138) 14 = .ok (.iload_n 1, 1) := by decide +kernel
theorem d138_15 : decode (ix_by 138) 15 = .ok (.iaload, 1) := by decide +kernel
theorem d138_16 : decode (ix_by 138) 16 = .ok (.aload_n 0, 1) := by decide +kernel
theorem d138_17 : decode (ix_by 138) 17 = .ok (.getfield 32, 3) := by decide +kernel
theorem d138_20 : decode (ix_by 138) 20 = .ok (.iload_n 1, 1) := by decide +kernel
theorem d138_21 : decode (ix_by 138) 21 = .ok (.iaload, 1) := by decide +kernel
theorem d138_22 : decode (ix_by 138) 22 = .ok (.aload_n 0, 1) := by decide +kernel
theorem d138_23 : decode (ix_by 138) 23 = .ok (.getfield 35, 3) := by decide +kernel
theorem d138_26 : decode (ix_by 138) 26 = .ok (.iload_n 1, 1) := by decide +kernel
theorem d138_27 : decode (ix_by 138) 27 = .ok (.iaload, 1) := by decide +kernel
theorem d138_28 : decode (ix_by 138) 28 = .ok (.invokevirtual 177, 3) := by decide +kernel
theorem d138_31 : decode (ix_by 138) 31 = .ok (.ifCond .eq 27, 3) := by decide +kernel
theorem d138_34 : decode (ix_by 138) 34 = .ok (.aload_n 0, 1) := by decide +kernel
theorem d138_35 : decode (ix_by 138) 35 = .ok (.getfield 131, 3) := by decide +kernel
theorem d138_38 : decode (ix_by 138) 38 = .ok (.bipush 11, 2) := by decide +kernel
theorem d138_40 : decode (ix_by 138) 40 = .ok (.aload_n 0, 1) := by decide +kernel
theorem d138_41 : decode (ix_by 138) 41 = .ok (.getfield 171, 3) := by decide +kernel
theorem d138_44 : decode (ix_by 138) 44 = .ok (.imul, 1) := by decide +kernel
theorem d138_45 : decode (ix_by 138) 45 = .ok (.bipush 11, 2) := by decide +kernel
theorem d138_47 : decode (ix_by 138) 47 = .ok (.isub, 1) := by decide +kernel
theorem d138_48 : decode (ix_by 138) 48 = .ok (.bipush 6, 2) := by decide +kernel
theorem d138_50 : decode (ix_by 138) 50 = .ok (.iadd, 1) := by decide +kernel
theorem d138_51 : decode (ix_by 138) 51 = .ok (.aload_n 0, 1) := by decide +kernel
theorem d138_52 : decode (ix_by 138) 52 = .ok (.getfield 23, 3) := by decide +kernel
theorem d138_55 : decode (ix_by 138) 55 = .ok (.iload_n 1, 1) := by decide +kernel
theorem d138_56 : decode (ix_by 138) 56 = .ok (.iaload, 1) := by decide +kernel
theorem d138_57 : decode (ix_by 138) 57 = .ok (.iastore, 1) := by decide +kernel
theorem d138_58 : decode (ix_by 138) 58 = .ok (.return_, 1) := by decide +kernel
theorem d139_0 : decode (ix_by 139) 0 = .ok (.aload_n 0, 1) := by decide +kernel
theorem d139_1 : decode (ix_by 139) 1 = .ok (.iload_n 1, 1) := by decide +kernel
theorem d139_2 : decode (ix_by 139) 2 = .ok (.invokevirtual 181, 3) := by decide +kernel
theorem d139_5 : decode (ix_by 139) 5 = .ok (.istore_n 3, 1) := by decide +kernel
theorem d139_6 : decode (ix_by 139) 6 = .ok (.aload_n 0, 1) := by decide +kernel
theorem d139_7 : decode (ix_by 139) 7 = .ok (.getfield 13, 3) := by decide +kernel
theorem d139_10 : decode (ix_by 139) 10 = .ok (.iload_n 3, 1) := by decide +kernel
theorem d139_11 : decode (ix_by 139) 11 = .ok (.iaload, 1) := by decide +kernel
theorem d139_12 : decode (ix_by 139) 12 = .ok (.iconst 4, 1) := by decide +kernel
theorem d139_13 : decode (ix_by 139) 13 = .ok (.iload_n 2, 1) := by decide +kernel
theorem d139_14 : decode (ix_by 139) 14 = .ok (.imul, 1) := by decide +kernel
theorem d139_15 : decode (ix_by 139) 15 = .ok (.isub, 1) := by decide +kernel
theorem d139_16 : decode (ix_by 139) 16 = .ok (.iconst 4, 1) := by decide +kernel
theorem d139_17 : decode (ix_by 139) 17 = .ok (.if_icmp .ge 16, 3) := by decide +kernel
theorem d139_20 : decode (ix_by 139) 20 = .ok (.aload_n 0, 1) := by decide +kernel
theorem d139_21 : decode (ix_by 139) 21 = .ok (.getfield 13, 3) := by decide +kernel
theorem d139_24 : decode (ix_by 139) 24 = .ok (.iload_n 3, 1) := by decide +kernel
theorem d139_25 : decode (ix_by 139) 25 = .ok (.iaload, 1) := by decide +kernel
theorem d139_26 : decode (ix_by 139) 26 = .ok (.iconst 4, 1) := by decide +kernel
theorem d139_27 : decode (ix_by 139) 27 = .ok (.iload_n 2, 1) := by decide +kernel
theorem d139_28 : decode (ix_by 139) 28 = .ok (.imul, 1) := by decide +kernel
theorem d139_29 : decode (ix_by 139) 29 = .ok (.isub, 1) := by decide +kernel
theorem d139_30 : decode (ix_by 139) 30 = .ok (.goto 4, 3) := by decide +kernel
theorem d139_33 : decode (ix_by 139) 33 = .ok (.iconst 4, 1) := by decide +kernel
theorem d139_34 : decode (ix_by 139) 34 = .ok (.istore 4, 2) := by decide +kernel
theorem d139_36 : decode (ix_by 139) 36 = .ok (.aload_n 0, 1) := by decide +kernel
theorem d139_37 : decode (ix_by 139) 37 = .ok (.iconst 2, 1) := by decide +kernel
theorem d139_38 : decode (ix_by 139) 38 = .ok (.iconst 1, 1) := by decide +kernel
theorem d139_39 : decode (ix_by 139) 39 = .ok (.iload_n 1, 1) := by decide +kernel
theorem d139_40 : decode (ix_by 139) 40 = .ok (.sipush 320, 3) := by decide +kernel
theorem d139_43 : decode (ix_by 139) 43 = .ok (.idiv, 1) := by decide +kernel
theorem d139_44 : decode (ix_by 139) 44 = .ok (.isub, 1) := by decide +kernel
theorem d139_45 : decode (ix_by 139) 45 = .ok (.iload_n 1, 1) := by decide +kernel
theorem d139_46 : decode (ix_by 139) 46 = .ok (.iload_n 2, 1) := by decide +kernel
theorem d139_47 : decode (ix_by 139) 47 = .ok (.iload 4, 2) := by decide +kernel
theorem d139_49 : decode (ix_by 139) 49 = .ok (.aload_n 0, 1) := by decide +kernel
theorem d139_50 : decode (ix_by 139) 50 = .ok (.iload_n 3, 1) := by decide +kernel
theorem d139_51 : decode (ix_by 139) 51 = .ok (.iload_n 2, 1) := by decide +kernel
theorem d139_52 : decode (ix_by 139) 52 = .ok (.invokevirtual 167, 3) := by decide +kernel
theorem d139_55 : decode (ix_by 139) 55 = .ok (.invokevirtual 177, 3) := by decide +kernel
theorem d139_58 : decode (ix_by 139) 58 = .ok (.ifCond .eq 27, 3) := by decide +kernel
theorem d139_61 : decode (ix_by 139) 61 = .ok (.aload_n 0, 1) := by decide +kernel
theorem d139_62 : decode (ix_by 139) 62 = .ok (.getfield 131, 3) := by decide +kernel
theorem d139_65 : decode (ix_by 139) 65 = .ok (.bipush 11, 2) := by decide +kernel
theorem d139_67 : decode (ix_by 139) 67 = .ok (.aload_n 0, 1) := by decide +kernel
theorem d139_68 : decode (ix_by 139) 68 = .ok (.getfield 171, 3) := by decide +kernel
theorem d139_71 : decode (ix_by 139) 71 = .ok (.imul, 1) := by decide +kernel
theorem d139_72 : decode (ix_by 139) 72 = .ok (.bipush 11, 2) := by decide +kernel
theorem d139_74 : decode (ix_by 139) 74 = .ok (.isub, 1) := by decide +kernel
theorem d139_75 : decode (ix_by 139) 75 = .ok (.bipush 6, 2) := by decide +kernel
theorem d139_77 : decode (ix_by 139) 77 = .ok (.iadd, 1) := by decide +kernel
theorem d139_78 : decode (ix_by 139) 78 = .ok (.aload_n 0, 1) := by decide +kernel
theorem d139_79 : decode (ix_by 139) 79 = .ok (.getfield 23, 3) := by decide +kernel
theorem d139_82 : decode (ix_by 139) 82 = .ok (.iload_n 1, 1) := by decide +kernel
theorem d139_83 : decode (ix_by 139) 83 = .ok (.iaload, 1) := by decide +kernel
theorem d139_84 : decode (ix_by 139) 84 = .ok (.iastore, 1) := by decide +kernel
theorem d139_85 : decode (ix_by 139) 85 = .ok (.return_, 1) := by decide +kernel
theorem d140_0 : decode (ix_by 140) 0 = .ok (.aload_n 0, 1) := by decide +kernel
theorem d140_1 : decode (ix_by 140) 1 = .ok (.getfield 56, 3) := by decide +kernel
theorem d140_4 : decode (ix_by 140) 4 = .ok (.iload_n 1, 1) := by decide +kernel
theorem d140_5 : decode (ix_by 140) 5 = .ok (.iaload, 1) := by decide +kernel
theorem d140_6 : decode (ix_by 140) 6 = .ok (.bipush 16, 2) := by decide +kernel
theorem d140_8 : decode (ix_by 140) 8 = .ok (.ishr, 1) := by decide +kernel
theorem d140_9 : decode (ix_by 140) 9 = .ok (.iconst 1, 1) := by decide +kernel
theorem d140_10 : decode (ix_by 140) 10 = .ok (.iand, 1) := by decide +kernel
theorem d140_11 : decode (ix_by 140) 11 = .ok (.iconst 1, 1) := by decide +kernel
theorem d140_12 : decode (ix_by 140) 12 = .ok (.if_icmp .ne 24, 3) := by decide +kernel
theorem d140_15 : decode (ix_by 140) 15 = .ok (.aload_n 0, 1) := by decide +kernel
theorem d140_16 : decode (ix_by 140) 16 = .ok (.getfield 56, 3) := by decide +kernel
theorem d140_19 : decode (ix_by 140) 19 = .ok (.iload_n 1, 1) := by decide +kernel
theorem d140_20 : decode (ix_by 140) 20 = .ok (.aload_n 0, 1) := by decide +kernel
theorem d140_21 : decode (ix_by 140) 21 = .ok (.getfield 56, 3) := by decide +kernel
theorem d140_24 : decode (ix_by 140) 24 = .ok (.iload_n 1, 1) := by decide +kernel
theorem d140_25 : decode (ix_by 140) 25 = .ok (.iaload, 1) := by decide +kernel
theorem d140_26 : decode (ix_by 140) 26 = .ok (.ldc 204, 2) := by decide +kernel
theorem d140_28 : decode (ix_by 140) 28 = .ok (.iand, 1) := by decide +kernel
theorem d140_29 : decode (ix_by 140) 29 = .ok (.iastore, 1) := by decide +kernel
theorem d140_30 : decode (ix_by 140) 30 = .ok (.aload_n 0, 1) := by decide +kernel
theorem d140_31 : decode (ix_by 140) 31 = .ok (.iload_n 1, 1) := by decide +kernel
theorem d140_32 : decode (ix_by 140) 32 = .ok (.invokevirtual 195, 3) := by decide +kernel
theorem d140_35 : decode (ix_by 140) 35 = .ok (.return_, 1) := by decide +kernel
theorem d140_36 : decode (ix_by 140) 36 = .ok (.iconst 0, 1) := by decide +kernel
theorem d140_37 : decode (ix_by 140) 37 = .ok (.istore_n 2, 1) := by decide +kernel
theorem d140_38 : decode (ix_by 140) 38 = .ok (.aload_n 0, 1) := by decide +kernel
theorem d140_39 : decode (ix_by 140) 39 = .ok (.getfield 56, 3) := by decide +kernel
theorem d140_42 : decode (ix_by 140) 42 = .ok (.iload_n 1, 1) := by decide +kernel
theorem d140_43 : decode (ix_by 140) 43 = .ok (.iaload, 1) := by decide +kernel
theorem d140_44 : decode (ix_by 140) 44 = .ok (.iload_n 2, 1) := by decide +kernel
theorem d140_45 : decode (ix_by 140) 45 = .ok (.ishr, 1) := by decide +kernel
theorem d140_46 : decode (ix_by 140) 46 = .ok (.iconst 1, 1) := by decide +kernel
theorem d140_47 : decode (ix_by 140) 47 = .ok (.iand, 1) := by decide +kernel
theorem d140_48 : decode (ix_by 140) 48 = .ok (.ifCond .ne 9, 3) := by decide +kernel
theorem d140_51 : decode (ix_by 140) 51 = .ok (.iinc 2 1, 3) := by decide +kernel
theorem d140_54 : decode (ix_by 140) 54 = .ok (.goto (-16), 3) := by decide +kernel
theorem d140_57 : decode (ix_by 140) 57 = .ok (.aload_n 0, 1) := by decide +kernel
theorem d140_58 : decode (ix_by 140) 58 = .ok (.getfield 56, 3) := by decide +kernel
theorem d140_61 : decode (ix_by 140) 61 = .ok (.iload_n 1, 1) := by decide +kernel
theorem d140_62 : decode (ix_by 140) 62 = .ok (.aload_n 0, 1) := by decide +kernel
theorem d140_63 : decode (ix_by 140) 63 = .ok (.getfield 56, 3) := by decide +kernel
theorem d140_66 : decode (ix_by 140) 66 = .ok (.iload_n 1, 1) := by decide +kernel
theorem d140_67 : decode (ix_by 140) 67 = .ok (.iaload, 1) := by decide +kernel
theorem d140_68 : decode (ix_by 140) 68 = .ok (.iconst 1, 1) := by decide +kernel
theorem d140_69 : decode (ix_by 140) 69 = .ok (.iload_n 2, 1) := by decide +kernel
theorem d140_70 : decode (ix_by 140) 70 = .ok (.ishl, 1) := by decide +kernel
theorem d140_71 : decode (ix_by 140) 71 = .ok (.iconst (-1), 1) := by decide +kernel
theorem d140_72 : decode (ix_by 140) 72 = .ok (.ixor, 1) := by decide +kernel
theorem d140_73 : decode (ix_by 140) 73 = .ok (.iand, 1) := by decide +kernel
theorem d140_74 : decode (ix_by 140) 74 = .ok (.iastore, 1) := by decide +kernel
theorem d140_75 : decode (ix_by 140) 75 = .ok (.aload_n 0, 1) := by decide +kernel
theorem d140_76 : decode (ix_by 140) 76 = .ok (.iload_n 1, 1) := by decide +kernel
theorem d140_77 : decode (ix_by 140) 77 = .ok (.iload_n 2, 1) := by decide +kernel
theorem d140_78 : decode (ix_by 140) 78 = .ok (.invokevirtual 198, 3) := by decide +kernel
theorem d140_81 : decode (ix_by 140) 81 = .ok (.return_, 1) := by decide +kernel
theorem d141_0 : decode (ix_by 141) 0 = .ok (.aload_n 0, 1) := by decide +kernel
theorem d141_1 : decode (ix_by 141) 1 = .ok (.getfield 23, 3) := by decide +kernel
theorem d141_4 : decode (ix_by 141) 4 = .ok (.iload_n 1, 1) := by decide +kernel
theorem d141_5 : decode (ix_by 141) 5 = .ok (.iaload, 1) := by decide +kernel
theorem d141_6 : decode (ix_by 141) 6 = .ok (.istore_n 2, 1) := by decide +kernel
theorem d141_7 : decode (ix_by 141) 7 = .ok (.aload_n 0, 1) := by decide +kernel
theorem d141_8 : decode (ix_by 141) 8 = .ok (.getfield 68, 3) := by decide +kernel
theorem d141_11 : decode (ix_by 141) 11 = .ok (.iload_n 1, 1) := by decide +kernel
theorem d141_12 : decode (ix_by 141) 12 = .ok (.iaload, 1) := by decide +kernel
theorem d141_13 : decode (ix_by 141) 13 = .ok (.bipush 6, 2) := by decide +kernel
theorem d141_15 : decode (ix_by 141) 15 = .ok (.if_icmp .ne 69, 3) := by decide +kernel
theorem d141_18 : decode (ix_by 141) 18 = .ok (.aload_n 0, 1) := by decide +kernel
theorem d141_19 : decode (ix_by 141) 19 = .ok (.getfield 234, 3) := by decide +kernel
theorem d141_22 : decode (ix_by 141) 22 = .ok (.aload_n 0, 1) := by decide +kernel
theorem d141_23 : decode (ix_by 141) 23 = .ok (.getfield 89, 3) := by decide +kernel
theorem d141_26 : decode (ix_by 141) 26 = .ok (.aload_n 0, 1) := by decide +kernel
theorem d141_27 : decode (ix_by 141) 27 = .ok (.getfield 74, 3) := by decide +kernel
theorem d141_30 : decode (ix_by 141) 30 = .ok (.iload_n 1, 1) := by decide +kernel
theorem d141_31 : decode (ix_by 141) 31 = .ok (.iaload, 1) := by decide +kernel
theorem d141_32 : decode (ix_by 141) 32 = .ok (.iaload, 1) := by decide +kernel
theorem d141_33 : decode (ix_by 141) 33 = .ok (.isub, 1) := by decide +kernel
theorem d141_34 : decode (ix_by 141) 34 = .ok (.aload_n 0, 1) := by decide +kernel
theorem d141_35 : decode (ix_by 141) 35 = .ok (.getfield 140, 3) := by decide +kernel
theorem d141_38 : decode (ix_by 141) 38 = .ok (.if_icmp .ge 4, 3) := by decide +kernel
theorem d141_41 : decode (ix_by 141) 41 = .ok (.return_, 1) := by decide +kernel
theorem d141_42 : decode (ix_by 141) 42 = .ok (.aload_n 0, 1) := by decide +kernel
theorem d141_43 : decode (ix_by 141) 43 = .ok (.getfield 86, 3) := by decide +kernel
theorem d141_46 : decode (ix_by 141) 46 = .ok (.aload_n 0, 1) := by decide +kernel
theorem d141_47 : decode (ix_by 141) 47 = .ok (.getfield 74, 3) := by decide +kernel
theorem d141_50 : decode (ix_by 141) 50 = .ok (.iload_n 1, 1) := by decide +kernel
theorem d141_51 : decode (ix_by 141) 51 = .ok (.iaload, 1) := by decide +kernel
theorem d141_52 : decode (ix_by 141) 52 = .ok (.iaload, 1) := by decide +kernel
theorem d141_53 : decode (ix_by 141) 53 = .ok (.iconst 3, 1) := by decide +kernel
theorem d141_54 : decode (ix_by 141) 54 = .ok (.if_icmp .ne 22, 3) := by decide +kernel
theorem d141_57 : decode (ix_by 141) 57 = .ok (.aload_n 0, 1) := by decide +kernel
theorem d141_58 : decode (ix_by 141) 58 = .ok (.iload_n 1, 1) := by decide +kernel
theorem d141_59 : decode (ix_by 141) 59 = .ok (.aload_n 0, 1) := by decide +kernel
theorem d141_60 : decode (ix_by 141) 60 = .ok (.getfield 77, 3) := by decide +kernel
theorem d141_63 : decode (ix_by 141) 63 = .ok (.aload_n 0, 1) := by decide +kernel
theorem d141_64 : decode (ix_by 141) 64 = .ok (.getfield 74, 3) := by decide +kernel
theorem d141_67 : decode (ix_by 141) 67 = .ok (.iload_n 1, 1) := by decide +kernel
theorem d141_68 : decode (ix_by 141) 68 = .ok (.iaload, 1) := by decide +kernel
theorem d141_69 : decode (ix_by 141) 69 = .ok (.iaload, 1) := by decide +kernel
theorem d141_70 : decode (ix_by 141) 70 = .ok (.invokevirtual 209, 3) := by decide +kernel
theorem d141_73 : decode (ix_by 141) 73 = .ok (.goto 151, 3) := by decide +kernel
theorem d141_76 : decode (ix_by 141) 76 = .ok (.aload_n 0, 1) := by decide +kernel
theorem d141_77 : decode (ix_by 141) 77 = .ok (.iload_n 1, 1) := by decide +kernel
theorem d141_78 : decode (ix_by 141) 78 = .ok (.invokevirtual 231, 3) := by decide +kernel
theorem d141_81 : decode (ix_by 141) 81 = .ok (.goto 143, 3) := by decide +kernel
theorem d141_84 : decode (ix_by 141) 84 = .ok (.aload_n 0, 1) := by decide +kernel
theorem d141_85 : decode (ix_by 141) 85 = .ok (.getfield 110, 3) := by decide +kernel
theorem d141_88 : decode (ix_by 141) 88 = .ok (.aload_n 0, 1) := by decide +kernel
theorem d141_89 : decode (ix_by 141) 89 = .ok (.getfield 74, 3) := by decide +kernel
theorem d141_92 : decode (ix_by 141) 92 = .ok (.iload_n 1, 1) := by decide +kernel
theorem d141_93 : decode (ix_by 141) 93 = .ok (.iaload, 1) := by decide +kernel
theorem d141_94 : decode (ix_by 141) 94 = .ok (.baload, 1) := by decide +kernel
theorem d141_95 : decode (ix_by 141) 95 = .ok (.ifCond .ne 37, 3) := by decide +kernel
theorem d141_98 : decode (ix_by 141) 98 = .ok (.aload_n 0, 1) := by decide +kernel
theorem d141_99 : decode (ix_by 141) 99 = .ok (.getfield 234, 3) := by decide +kernel
theorem d141_102 : decode (ix_by 141) 102 = .ok (.aload_n 0, 1) := by decide +kernel
theorem d141_103 : decode (ix_by 141) 103 = .ok (.getfield 92, 3) := by decide +kernel
theorem d141_106 : decode (ix_by 141) 106 = .ok (.aload_n 0, 1) := by decide +kernel
theorem d141_107 : decode (ix_by 141) 107 = .ok (.getfield 74, 3) := by decide +kernel
theorem d141_110 : decode (ix_by 141) 110 = .ok (.iload_n 1, 1) := by decide +kernel
theorem d141_111 : decode (ix_by 141) 111 = .ok (.iaload, 1) := by decide +kernel
theorem d141_112 : decode (ix_by 141) 112 = .ok (.iaload, 1) := by decide +kernel
theorem d141_113 : decode (ix_by 141) 113 = .ok (.isub, 1) := by decide +kernel
theorem d141_114 : decode (ix_by 141) 114 = .ok (.iconst 4, 1) := by decide +kernel
theorem d141_115 : decode (ix_by 141) 115 = .ok (.aload_n 0, 1) := by decide +kernel
theorem d141_116 : decode (ix_by 141) 116 = .ok (.getfield 140, 3) := by decide +kernel
theorem d141_119 : decode (ix_by 141) 119 = .ok (.imul, 1) := by decide +kernel
theorem d141_120 : decode (ix_by 141) 120 = .ok (.if_icmp .lt 104, 3) := by decide +kernel
theorem d141_123 : decode (ix_by 141) 123 = .ok (.aload_n 0, 1) := by decide +kernel
theorem d141_124 : decode (ix_by 141) 124 = .ok (.iload_n 1, 1) := by decide +kernel
theorem d141_125 : decode (ix_by 141) 125 = .ok (.iconst 3, 1) := by decide +kernel
theorem d141_126 : decode (ix_by 141) 126 = .ok (.invokevirtual 209, 3) := by decide +kernel
theorem d141_129 : decode (ix_by 141) 129 = .ok (.goto 95, 3) := by decide +kernel
theorem d141_132 : decode (ix_by 141) 132 = .ok (.iload_n 2, 1) := by decide +kernel
theorem d141_133 : decode (ix_by 141) 133 = .ok (.iconst 1, 1) := by decide +kernel
theorem d141_134 : decode (ix_by 141) 134 = .ok (.if_icmp .ne 37, 3) := by decide +kernel
theorem d141_137 : decode (ix_by 141) 137 = .ok (.aload_n 0, 1) := by decide +kernel
theorem d141_138 : decode (ix_by 141) 138 = .ok (.getfield 234, 3) := by decide +kernel
theorem d141_141 : decode (ix_by 141) 141 = .ok (.aload_n 0, 1) := by decide +kernel
theorem d141_142 : decode (ix_by 141) 142 = .ok (.getfield 89, 3) := by decide +kernel
theorem d141_145 : decode (ix_by 141) 145 = .ok (.aload_n 0, 1) := by decide +kernel
theorem d141_146 : decode (ix_by 141) 146 = .ok (.getfield 74, 3) := by decide +kernel
theorem d141_149 : decode (ix_by 141) 149 = .ok (.iload_n 1, 1) := by decide +kernel
theorem d141_150 : decode (ix_by 141) 150 = .ok (.iaload, 1) := by decide +kernel
theorem d141_151 : decode (ix_by 141) 151 = .ok (.iaload, 1) := by decide +kernel
theorem d141_152 : decode (ix_by 141) 152 = .ok (.isub, 1) := by decide +kernel
theorem d141_153 : decode (ix_by 141) 153 = .ok (.iconst 2, 1) := by decide +kernel
theorem d141_154 : decode (ix_by 141) 154 = .ok (.aload_n 0, 1) := by decide +kernel
theorem d141_155 : decode (ix_by 141) 155 = .ok (.getfield 140, 3) := by decide +kernel
theorem d141_158 : decode (ix_by 141) 158 = .ok (.imul, 1) := by decide +kernel
theorem d141_159 : decode (ix_by 141) 159 = .ok (.if_icmp .lt 65, 3) := by decide +kernel
theorem d141_162 : decode (ix_by 141) 162 = .ok (.aload_n 0, 1) := by decide +kernel
theorem d141_163 : decode (ix_by 141) 163 = .ok (.iload_n 1, 1) := by decide +kernel
theorem d141_164 : decode (ix_by 141) 164 = .ok (.iconst 3, 1) := by decide +kernel
theorem d141_165 : decode (ix_by 141) 165 = .ok (.invokevirtual 209, 3) := by decide +kernel
theorem d141_168 : decode (ix_by 141) 168 = .ok (.goto 56, 3) := by decide +kernel
theorem d141_171 : decode (ix_by 141) 171 = .ok (.aload_n 0, 1) := by decide +kernel
theorem d141_172 : decode (ix_by 141) 172 = .ok (.getfield 234, 3) := by decide +kernel
theorem d141_175 : decode (ix_by 141) 175 = .ok (.aload_n 0, 1) := by decide +kernel
theorem d141_176 : decode (ix_by 141) 176 = .ok (.getfield 89, 3) := by decide +kernel
theorem d141_179 : decode (ix_by 141) 179 = .ok (.aload_n 0, 1) := by decide +kernel
theorem d141_180 : decode (ix_by 141) 180 = .ok (.getfield 74, 3) := by decide +kernel
theorem d141_183 : decode (ix_by 141) 183 = .ok (.iload_n 1, 1) := by decide +kernel
theorem d141_184 : decode (ix_by 141) 184 = .ok (.iaload, 1) := by decide +kernel
theorem d141_185 : decode (ix_by 141) 185 = .ok (.iaload, 1) := by decide +kernel
theorem d141_186 : decode (ix_by 141) 186 = .ok (.isub, 1) := by decide +kernel
theorem d141_187 : decode (ix_by 141) 187 = .ok (.aload_n 0, 1) := by decide +kernel
theorem d141_188 : decode (ix_by 141) 188 = .ok (.getfield 140, 3) := by decide +kernel
theorem d141_191 : decode (ix_by 141) 191 = .ok (.if_icmp .lt 33, 3) := by decide +kernel
theorem d141_194 : decode (ix_by 141) 194 = .ok (.aload_n 0, 1) := by decide +kernel
theorem d141_195 : decode (ix_by 141) 195 = .ok (.getfield 86, 3) := by decide +kernel
theorem d141_198 : decode (ix_by 141) 198 = .ok (.aload_n 0, 1) := by decide +kernel
theorem d141_199 : decode (ix_by 141) 199 = .ok (.getfield 74, 3) := by decide +kernel
theorem d141_202 : decode (ix_by 141) 202 = .ok (.iload_n 1, 1) := by decide +kernel
theorem d141_203 : decode (ix_by 141) 203 = .ok (.iaload, 1) := by decide +kernel
theorem d141_204 : decode (ix_by 141) 204 = .ok (.iaload, 1) := by decide +kernel
theorem d141_205 : decode (ix_by 141) 205 = .ok (.iconst 3, 1) := by decide +kernel
theorem d141_206 : decode (ix_by 141) 206 = .ok (.if_icmp .ne 13, 3) := by decide +kernel
theorem d141_209 : decode (ix_by 141) 209 = .ok (.aload_n 0, 1) := by decide +kernel
theorem d141_210 : decode (ix_by 141) 210 = .ok (.iload_n 1, 1) := by decide +kernel
theorem d141_211 : decode (ix_by 141) 211 = .ok (.iconst 3, 1) := by decide +kernel
theorem d141_212 : decode (ix_by 141) 212 = .ok (.iconst 2, 1) := by decide +kernel
theorem d141_213 : decode (ix_by 141) 213 = .ok (.invokevirtual 218, 3) := by decide +kernel
theorem d141_216 : decode (ix_by 141) 216 = .ok (.goto 8, 3) := by decide +kernel
theorem d141_219 : decode (ix_by 141) 219 = .ok (.aload_n 0, 1) := by decide +kernel
theorem d141_220 : decode (ix_by 141) 220 = .ok (.iload_n 1, 1) := by decide +kernel
theorem d141_221 : decode (ix_by 141) 221 = .ok (.invokevirtual 228, 3) := by decide +kernel
theorem d141_224 : decode (ix_by 141) 224 = .ok (.return_, 1) := by decide +kernel
theorem d142_0 : decode (ix_by 142) 0 = .ok (.aload_n 0, 1) := by decide +kernel
theorem d142_1 : decode (ix_by 142) 1 = .ok (.getfield 68, 3) := by decide +kernel
theorem d142_4 : decode (ix_by 142) 4 = .ok (.iload_n 1, 1) := by decide +kernel
theorem d142_5 : decode (ix_by 142) 5 = .ok (.iload_n 2, 1) := by decide +kernel
theorem d142_6 : decode (ix_by 142) 6 = .ok (.iastore, 1) := by decide +kernel
theorem d142_7 : decode (ix_by 142) 7 = .ok (.aload_n 0, 1) := by decide +kernel
theorem d142_8 : decode (ix_by 142) 8 = .ok (.getfield 104, 3) := by decide +kernel
theorem d142_11 : decode (ix_by 142) 11 = .ok (.aload_n 0, 1) := by decide +kernel
theorem d142_12 : decode (ix_by 142) 12 = .ok (.getfield 74, 3) := by decide +kernel
theorem d142_15 : decode (ix_by 142) 15 = .ok (.iload_n 1, 1) := by decide +kernel
theorem d142_16 : decode (ix_by 142) 16 = .ok (.iaload, 1) := by decide +kernel
theorem d142_17 : decode (ix_by 142) 17 = .ok (.iconst 0, 1) := by decide +kernel
theorem d142_18 : decode (ix_by 142) 18 = .ok (.bastore, 1) := by decide +kernel
theorem d142_19 : decode (ix_by 142) 19 = .ok (.iconst 1, 1) := by decide +kernel
theorem d142_20 : decode (ix_by 142) 20 = .ok (.iload_n 1, 1) := by decide +kernel
theorem d142_21 : decode (ix_by 142) 21 = .ok (.sipush 320, 3) := by decide +kernel
theorem d142_24 : decode (ix_by 142) 24 = .ok (.idiv, 1) := by decide +kernel
theorem d142_25 : decode (ix_by 142) 25 = .ok (.isub, 1) := by decide +kernel
theorem d142_26 : decode (ix_by 142) 26 = .ok (.istore_n 3, 1) := by decide +kernel
theorem d142_27 : decode (ix_by 142) 27 = .ok (.iconst 0, 1) := by decide +kernel
theorem d142_28 : decode (ix_by 142) 28 = .ok (.istore 4, 2) := by decide +kernel
theorem d142_30 : decode (ix_by 142) 30 = .ok (.aload_n 0, 1) := by decide +kernel
theorem d142_31 : decode (ix_by 142) 31 = .ok (.getfield 122, 3) := by decide +kernel
theorem d142_34 : decode (ix_by 142) 34 = .ok (.iconst 3, 1) := by decide +kernel
theorem d142_35 : decode (ix_by 142) 35 = .ok (.iload_n 3, 1) := by decide +kernel
theorem d142_36 : decode (ix_by 142) 36 = .ok (.imul, 1) := by decide +kernel
theorem d142_37 : decode (ix_by 142) 37 = .ok (.iload 4, 2) := by decide +kernel
theorem d142_39 : decode (ix_by 142) 39 = .ok (.iadd, 1) := by decide +kernel
theorem d142_40 : decode (ix_by 142) 40 = .ok (.iaload, 1) := by decide +kernel
theorem d142_41 : decode (ix_by 142) 41 = .ok (.iload_n 1, 1) := by decide +kernel
theorem d142_42 : decode (ix_by 142) 42 = .ok (.if_icmp .eq 9, 3) := by decide +kernel
theorem d142_45 : decode (ix_by 142) 45 = .ok (.iinc 4 1, 3) := by decide +kernel
theorem d142_48 : decode (ix_by 142) 48 = .ok (.goto (-18), 3) := by decide +kernel
theorem d142_51 : decode (ix_by 142) 51 = .ok (.aload_n 0, 1) := by decide +kernel
theorem d142_52 : decode (ix_by 142) 52 = .ok (.getfield 128, 3) := by decide +kernel
theorem d142_55 : decode (ix_by 142) 55 = .ok (.iload_n 3, 1) := by decide +kernel
theorem d142_56 : decode (ix_by 142) 56 = .ok (.dup2, 1) := by decide +kernel
theorem d142_57 : decode (ix_by 142) 57 = .ok (.iaload, 1) := by decide +kernel
theorem d142_58 : decode (ix_by 142) 58 = .ok (.iconst 1, 1) := by decide +kernel
theorem d142_59 : decode (ix_by 142) 59 = .ok (.isub, 1) := by decide +kernel
theorem d142_60 : decode (ix_by 142) 60 = .ok (.iastore, 1) := by decide +kernel
theorem d142_61 : decode (ix_by 142) 61 = .ok (.iload 4, 2) := by decide +kernel
theorem d142_63 : decode (ix_by 142) 63 = .ok (.istore 5, 2) := by decide +kernel
theorem d142_65 : decode (ix_by 142) 65 = .ok (.iload 5, 2) := by decide +kernel
theorem d142_67 : decode (ix_by 142) 67 = .ok (.aload_n 0, 1) := by decide +kernel
theorem d142_68 : decode (ix_by 142) 68 = .ok (.getfield 128, 3) := by decide +kernel
theorem d142_71 : decode (ix_by 142) 71 = .ok (.iload_n 3, 1) := by decide +kernel
theorem d142_72 : decode (ix_by 142) 72 = .ok (.iaload, 1) := by decide +kernel
theorem d142_73 : decode (ix_by 142) 73 = .ok (.if_icmp .ge 33, 3) := by decide +kernel
theorem d142_76 : decode (ix_by 142) 76 = .ok (.aload_n 0, 1) := by decide +kernel
theorem d142_77 : decode (ix_by 142) 77 = .ok (.getfield 122, 3) := by decide +kernel
theorem d142_80 : decode (ix_by 142) 80 = .ok (.iconst 3, 1) := by decide +kernel
theorem d142_81 : decode (ix_by 142) 81 = .ok (.iload_n 3, 1) := by decide +kernel
theorem d142_82 : decode (ix_by 142) 82 = .ok (.imul, 1) := by decide +kernel
theorem d142_83 : decode (ix_by 142) 83 = .ok (.iload 5, 2) := by decide +kernel
theorem d142_85 : decode (ix_by 142) 85 = .ok (.iadd, 1) := by decide +kernel
theorem d142_86 : decode (ix_by 142) 86 = .ok (.aload_n 0, 1) := by decide +kernel
theorem d142_87 : decode (ix_by 142) 87 = .ok (.getfield 122, 3) := by decide +kernel
theorem d142_90 : decode (ix_by 142) 90 = .ok (.iconst 3, 1) := by decide +kernel
theorem d142_91 : decode (ix_by 142) 91 = .ok (.iload_n 3, 1) := by decide +kernel
theorem d142_92 : decode (ix_by 142) 92 = .ok (.imul, 1) := by decide +kernel
theorem d142_93 : decode (ix_by 142) 93 = .ok (.iload 5, 2) := by decide +kernel
theorem d142_95 : decode (ix_by 142) 95 = .ok (.iadd, 1) := by decide +kernel
theorem d142_96 : decode (ix_by 142) 96 = .ok (.iconst 1, 1) := by decide +kernel
theorem d142_97 : decode (ix_by 142) 97 = .ok (.iadd, 1) := by decide +kernel
theorem d142_98 : decode (ix_by 142) 98 = .ok (.iaload, 1) := by decide +kernel
theorem d142_99 : decode (ix_by 142) 99 = .ok (.iastore, 1) := by decide +kernel
theorem d142_100 : decode (ix_by 142) 100 = .ok (.iinc 5 1, 3) := by decide +kernel
theorem d142_103 : decode (ix_by 142) 103 = .ok (.goto (-38), 3) := by decide +kernel
theorem d142_106 : decode (ix_by 142) 106 = .ok (.return_, 1) := by decide +kernel
theorem d143_0 : decode (ix_by 143) 0 = .ok (.aload_n 0, 1) := by decide +kernel
theorem d143_1 : decode (ix_by 143) 1 = .ok (.iconst 4, 1) := by decide +kernel
theorem d143_2 : decode (ix_by 143) 2 = .ok (.iload_n 1, 1) := by decide +kernel
theorem d143_3 : decode (ix_by 143) 3 = .ok (.sipush 320, 3) := by decide +kernel
theorem d143_6 : decode (ix_by 143) 6 = .ok (.idiv, 1) := by decide +kernel
theorem d143_7 : decode (ix_by 143) 7 = .ok (.iload_n 1, 1) := by decide +kernel
theorem d143_8 : decode (ix_by 143) 8 = .ok (.aload_n 0, 1) := by decide +kernel
theorem d143_9 : decode (ix_by 143) 9 = .ok (.getfield 77, 3) := by decide +kernel
theorem d143_12 : decode (ix_by 143) 12 = .ok (.aload_n 0, 1) := by decide +kernel
theorem d143_13 : decode (ix_by 143) 13 = .ok (.getfield 74, 3) := by decide +kernel
theorem d143_16 : decode (ix_by 143) 16 = .ok (.iload_n 1, 1) := by decide +kernel
theorem d143_17 : decode (ix_by 143) 17 = .ok (.iaload, 1) := by decide +kernel
theorem d143_18 : decode (ix_by 143) 18 = .ok (.iaload, 1) := by decide +kernel
theorem d143_19 : decode (ix_by 143) 19 = .ok (.iconst 0, 1) := by decide +kernel
theorem d143_20 : decode (ix_by 143) 20 = .ok (.iconst 0, 1) := by decide +kernel
theorem d143_21 : decode (ix_by 143) 21 = .ok (.invokevirtual 177, 3) := by decide +kernel
theorem d143_24 : decode (ix_by 143) 24 = .ok (.pop, 1) := by decide +kernel
theorem d143_25 : decode (ix_by 143) 25 = .ok (.aload_n 0, 1) := by decide +kernel
theorem d143_26 : decode (ix_by 143) 26 = .ok (.getfield 86, 3) := by decide +kernel
theorem d143_29 : decode (ix_by 143) 29 = .ok (.aload_n 0, 1) := by decide +kernel
theorem d143_30 : decode (ix_by 143) 30 = .ok (.getfield 74, 3) := by decide +kernel
theorem d143_33 : decode (ix_by 143) 33 = .ok (.iload_n 1, 1) := by decide +kernel
theorem d143_34 : decode (ix_by 143) 34 = .ok (.iaload, 1) := by decide +kernel
theorem d143_35 : decode (ix_by 143) 35 = .ok (.dup2, 1) := by decide +kernel
theorem d143_36 : decode (ix_by 143) 36 = .ok (.iaload, 1) := by decide +kernel
theorem d143_37 : decode (ix_by 143) 37 = .ok (.iconst 1, 1) := by decide +kernel
theorem d143_38 : decode (ix_by 143) 38 = .ok (.iadd, 1) := by decide +kernel
theorem d143_39 : decode (ix_by 143) 39 = .ok (.iastore, 1) := by decide +kernel
theorem d143_40 : decode (ix_by 143) 40 = .ok (.aload_n 0, 1) := by decide +kernel
theorem d143_41 : decode (ix_by 143) 41 = .ok (.getfield 89, 3) := by decide +kernel
theorem d143_44 : decode (ix_by 143) 44 = .ok (.aload_n 0, 1) := by decide +kernel
theorem d143_45 : decode (ix_by 143) 45 = .ok (.getfield 74, 3) := by decide +kernel
theorem d143_48 : decode (ix_by 143) 48 = .ok (.iload_n 1, 1) := by decide +kernel
theorem d143_49 : decode (ix_by 143) 49 = .ok (.iaload, 1) := by decide +kernel
theorem d143_50 : decode (ix_by 143) 50 = .ok (.aload_n 0, 1) := by decide +kernel
theorem d143_51 : decode (ix_by 143) 51 = .ok (.getfield 234, 3) := by decide +kernel
theorem d143_54 : decode (ix_by 143) 54 = .ok (.iastore, 1) := by decide +kernel
theorem d143_55 : decode (ix_by 143) 55 = .ok (.return_, 1) := by decide +kernel
theorem d144_0 : decode (ix_by 144) 0 = .ok (.aload_n 0, 1) := by decide +kernel
theorem d144_1 : decode (ix_by 144) 1 = .ok (.getfield 77, 3) := by decide +kernel
theorem d144_4 : decode (ix_by 144) 4 = .ok (.aload_n 0, 1) := by decide +kernel
theorem d144_5 : decode (ix_by 144) 5 = .ok (.getfield 74, 3) := by decide +kernel
theorem d144_8 : decode (ix_by 144) 8 = .ok (.iload_n 1, 1) := by decide +kernel
theorem d144_9 : decode (ix_by 144) 9 = .ok (.iaload, 1) := by decide +kernel
theorem d144_10 : decode (ix_by 144) 10 = .ok (.iload_n 2, 1) := by decide +kernel
theorem d144_11 : decode (ix_by 144) 11 = .ok (.iastore, 1) := by decide +kernel
theorem d144_12 : decode (ix_by 144) 12 = .ok (.iload_n 3, 1) := by decide +kernel
theorem d144_13 : decode (ix_by 144) 13 = .ok (.iconst 1, 1) := by decide +kernel
theorem d144_14 : decode (ix_by 144) 14 = .ok (.if_icmp .ne 10, 3) := by decide +kernel
theorem d144_17 : decode (ix_by 144) 17 = .ok (.aload_n 0, 1) := by decide +kernel
theorem d144_18 : decode (ix_by 144) 18 = .ok (.iload_n 1, 1) := by decide +kernel
theorem d144_19 : decode (ix_by 144) 19 = .ok (.iload_n 2, 1) := by decide +kernel
theorem d144_20 : decode (ix_by 144) 20 = .ok (.invokevirtual 209, 3) := by decide +kernel
theorem d144_23 : decode (ix_by 144) 23 = .ok (.return_, 1) := by decide +kernel
theorem d144_24 : decode (ix_by 144) 24 = .ok (.aload_n 0, 1) := by decide +kernel
theorem d144_25 : decode (ix_by 144) 25 = .ok (.getfield 68, 3) := by decide +kernel
theorem d144_28 : decode (ix_by 144) 28 = .ok (.iload_n 1, 1) := by decide +kernel
theorem d144_29 : decode (ix_by 144) 29 = .ok (.bipush 6, 2) := by decide +kernel
theorem d144_31 : decode (ix_by 144) 31 = .ok (.iastore, 1) := by decide +kernel
theorem d144_32 : decode (ix_by 144) 32 = .ok (.aload_n 0, 1) := by decide +kernel
theorem d144_33 : decode (ix_by 144) 33 = .ok (.getfield 86, 3) := by decide +kernel
theorem d144_36 : decode (ix_by 144) 36 = .ok (.aload_n 0, 1) := by decide +kernel
theorem d144_37 : decode (ix_by 144) 37 = .ok (.getfield 74, 3) := by decide +kernel
theorem d144_40 : decode (ix_by 144) 40 = .ok (.iload_n 1, 1) := by decide +kernel
theorem d144_41 : decode (ix_by 144) 41 = .ok (.iaload, 1) := by decide +kernel
theorem d144_42 : decode (ix_by 144) 42 = .ok (.iconst 0, 1) := by decide +kernel
theorem d144_43 : decode (ix_by 144) 43 = .ok (.iastore, 1) := by decide +kernel
theorem d144_44 : decode (ix_by 144) 44 = .ok (.aload_n 0, 1) := by decide +kernel
theorem d144_45 : decode (ix_by 144) 45 = .ok (.iload_n 1, 1) := by decide +kernel
theorem d144_46 : decode (ix_by 144) 46 = .ok (.invokevirtual 231, 3) := by decide +kernel
theorem d144_49 : decode (ix_by 144) 49 = .ok (.return_, 1) := by decide +kernel
theorem d145_0 : decode (ix_by 145) 0 = .ok (.iconst 0, 1) := by decide +kernel
theorem d145_1 : decode (ix_by 145) 1 = .ok (.istore_n 2, 1) := by decide +kernel
theorem d145_2 : decode (ix_by 145) 2 = .ok (.aload_n 0, 1) := by decide +kernel
theorem d145_3 : decode (ix_by 145) 3 = .ok (.iload_n 1, 1) := by decide +kernel
theorem d145_4 : decode (ix_by 145) 4 = .ok (.iconst 0, 1) := by decide +kernel
theorem d145_5 : decode (ix_by 145) 5 = .ok (.invokevirtual 222, 3) := by decide +kernel
theorem d145_8 : decode (ix_by 145) 8 = .ok (.istore_n 3, 1) := by decide +kernel
theorem d145_9 : decode (ix_by 145) 9 = .ok (.iconst 0, 1) := by decide +kernel
theorem d145_10 : decode (ix_by 145) 10 = .ok (.istore 4, 2) := by decide +kernel
theorem d145_12 : decode (ix_by 145) 12 = .ok (.iload 4, 2) := by decide +kernel
theorem d145_14 : decode (ix_by 145) 14 = .ok (.bipush 6, 2) := by decide +kernel
theorem d145_16 : decode (ix_by 145) 16 = .ok (.if_icmp .ge 17, 3) := by decide +kernel
theorem d145_19 : decode (ix_by 145) 19 = .ok (.aload_n 0, 1) := by decide +kernel
theorem d145_20 : decode (ix_by 145) 20 = .ok (.getfield 137, 3) := by decide +kernel
theorem d145_23 : decode (ix_by 145) 23 = .ok (.iload 4, 2) := by decide +kernel
theorem d145_25 : decode (ix_by 145) 25 = .ok (.iconst 0, 1) := by decide +kernel
theorem d145_26 : decode (ix_by 145) 26 = .ok (.iastore, 1) := by decide +kernel
theorem d145_27 : decode (ix_by 145) 27 = .ok (.iinc 4 1, 3) := by decide +kernel
theorem d145_30 : decode (ix_by 145) 30 = .ok (.goto (-18), 3) := by decide +kernel
theorem d145_33 : decode (ix_by 145) 33 = .ok (.iload_n 3, 1) := by decide +kernel
theorem d145_34 : decode (ix_by 145) 34 = .ok (.ifCond .lt 97, 3) := by decide +kernel
theorem d145_37 : decode (ix_by 145) 37 = .ok (.iload_n 2, 1) := by decide +kernel
theorem d145_38 : decode (ix_by 145) 38 = .ok (.iconst 3, 1) := by decide +kernel
theorem d145_39 : decode (ix_by 145) 39 = .ok (.if_icmp .ge 92, 3) := by decide +kernel
theorem d145_42 : decode (ix_by 145) 42 = .ok (.iload_n 3, 1) := by decide +kernel
theorem d145_43 : decode (ix_by 145) 43 = .ok (.istore 4, 2) := by decide +kernel
theorem d145_45 : decode (ix_by 145) 45 = .ok (.iload 4, 2) := by decide +kernel
theorem d145_47 : decode (ix_by 145) 47 = .ok (.iconst 1, 1) := by decide +kernel
theorem d145_48 : decode (ix_by 145) 48 = .ok (.iadd, 1) := by decide +kernel
theorem d145_49 : decode (ix_by 145) 49 = .ok (.aload_n 0, 1) := by decide +kernel
theorem d145_50 : decode (ix_by 145) 50 = .ok (.getfield 80, 3) := by decide +kernel
theorem d145_53 : decode (ix_by 145) 53 = .ok (.aload_n 0, 1) := by decide +kernel
theorem d145_54 : decode (ix_by 145) 54 = .ok (.getfield 74, 3) := by decide +kernel
theorem d145_57 : decode (ix_by 145) 57 = .ok (.iload_n 1, 1) := by decide +kernel
theorem d145_58 : decode (ix_by 145) 58 = .ok (.iaload, 1) := by decide +kernel
theorem d145_59 : decode (ix_by 145) 59 = .ok (.iaload, 1) := by decide +kernel
theorem d145_60 : decode (ix_by 145) 60 = .ok (.invokestatic 164, 3) := by decide +kernel
theorem d145_63 : decode (ix_by 145) 63 = .ok (.if_icmp .ge 31, 3) := by decide +kernel
theorem d145_66 : decode (ix_by 145) 66 = .ok (.aload_n 0, 1) := by decide +kernel
theorem d145_67 : decode (ix_by 145) 67 = .ok (.getfield 116, 3) := by decide +kernel
theorem d145_70 : decode (ix_by 145) 70 = .ok (.bipush 16, 2) := by decide +kernel
theorem d145_72 : decode (ix_by 145) 72 = .ok (.aload_n 0, 1) := by decide +kernel
theorem d145_73 : decode (ix_by 145) 73 = .ok (.getfield 74, 3) := by decide +kernel
theorem d145_76 : decode (ix_by 145) 76 = .ok (.iload_n 1, 1) := by decide +kernel
theorem d145_77 : decode (ix_by 145) 77 = .ok (.iaload, 1) := by decide +kernel
theorem d145_78 : decode (ix_by 145) 78 = .ok (.imul, 1) := by decide +kernel
theorem d145_79 : decode (ix_by 145) 79 = .ok (.iload 4, 2) := by decide +kernel
theorem d145_81 : decode (ix_by 145) 81 = .ok (.iadd, 1) := by decide +kernel
theorem d145_82 : decode (ix_by 145) 82 = .ok (.iconst 1, 1) := by decide +kernel
theorem d145_83 : decode (ix_by 145) 83 = .ok (.iadd, 1) := by decide +kernel
theorem d145_84 : decode (ix_by 145) 84 = .ok (.iaload, 1) := by decide +kernel
theorem d145_85 : decode (ix_by 145) 85 = .ok (.ifCond .ne 9, 3) := by decide +kernel
theorem d145_88 : decode (ix_by 145) 88 = .ok (.iinc 4 1, 3) := by decide +kernel
theorem d145_91 : decode (ix_by 145) 91 = .ok (.goto (-46), 3) := by decide +kernel
theorem d145_94 : decode (ix_by 145) 94 = .ok (.aload_n 0, 1) := by decide +kernel
theorem d145_95 : decode (ix_by 145) 95 = .ok (.getfield 137, 3) := by decide +kernel
theorem d145_98 : decode (ix_by 145) 98 = .ok (.iconst 2, 1) := by decide +kernel
theorem d145_99 : decode (ix_by 145) 99 = .ok (.iload_n 2, 1) := by decide +kernel
theorem d145_100 : decode (ix_by 145) 100 = .ok (.imul, 1) := by decide +kernel
theorem d145_101 : decode (ix_by 145) 101 = .ok (.iload_n 3, 1) := by decide +kernel
theorem d145_102 : decode (ix_by 145) 102 = .ok (.iastore, 1) := by decide +kernel
theorem d145_103 : decode (ix_by 145) 103 = .ok (.aload_n 0, 1) := by decide +kernel
theorem d145_104 : decode (ix_by 145) 104 = .ok (.getfield 137, 3) := by decide +kernel
theorem d145_107 : decode (ix_by 145) 107 = .ok (.iconst 2, 1) := by decide +kernel
theorem d145_108 : decode (ix_by 145) 108 = .ok (.iload_n 2, 1) := by decide +kernel
theorem d145_109 : decode (ix_by 145) 109 = .ok (.imul, 1) := by decide +kernel
theorem d145_110 : decode (ix_by 145) 110 = .ok (.iconst 1, 1) := by decide +kernel
theorem d145_111 : decode (ix_by 145) 111 = .ok (.iadd, 1) := by decide +kernel
theorem d145_112 : decode (ix_by 145) 112 = .ok (.iload 4, 2) := by decide +kernel
theorem d145_114 : decode (ix_by 145) 114 = .ok (.iastore, 1) := by decide +kernel
theorem d145_115 : decode (ix_by 145) 115 = .ok (.iinc 2 1, 3) := by decide +kernel
theorem d145_118 : decode (ix_by 145) 118 = .ok (.aload_n 0, 1) := by decide +kernel
theorem d145_119 : decode (ix_by 145) 119 = .ok (.iload_n 1, 1) := by decide +kernel
theorem d145_120 : decode (ix_by 145) 120 = .ok (.iload 4, 2) := by decide +kernel
theorem d145_122 : decode (ix_by 145) 122 = .ok (.iconst 1, 1) := by decide +kernel
theorem d145_123 : decode (ix_by 145) 123 = .ok (.iadd, 1) := by decide +kernel
theorem d145_124 : decode (ix_by 145) 124 = .ok (.invokevirtual 222, 3) := by decide +kernel
theorem d145_127 : decode (ix_by 145) 127 = .ok (.istore_n 3, 1) := by decide +kernel
theorem d145_128 : decode (ix_by 145) 128 = .ok (.goto (-95), 3) := by decide +kernel
theorem d145_131 : decode (ix_by 145) 131 = .ok (.aload_n 0, 1) := by decide +kernel
theorem d145_132 : decode (ix_by 145) 132 = .ok (.bipush 6, 2) := by decide +kernel
theorem d145_134 : decode (ix_by 145) 134 = .ok (.iload_n 1, 1) := by decide +kernel
theorem d145_135 : decode (ix_by 145) 135 = .ok (.sipush 320, 3) := by decide +kernel
theorem d145_138 : decode (ix_by 145) 138 = .ok (.idiv, 1) := by decide +kernel
theorem d145_139 : decode (ix_by 145) 139 = .ok (.iload_n 1, 1) := by decide +kernel
theorem d145_140 : decode (ix_by 145) 140 = .ok (.aload_n 0, 1) := by decide +kernel
theorem d145_141 : decode (ix_by 145) 141 = .ok (.getfield 107, 3) := by decide +kernel
theorem d145_144 : decode (ix_by 145) 144 = .ok (.aload_n 0, 1) := by decide +kernel
theorem d145_145 : decode (ix_by 145) 145 = .ok (.getfield 74, 3) := by decide +kernel
theorem d145_148 : decode (ix_by 145) 148 = .ok (.iload_n 1, 1) := by decide +kernel
theorem d145_149 : decode (ix_by 145) 149 = .ok (.iaload, 1) := by decide +kernel
theorem d145_150 : decode (ix_by 145) 150 = .ok (.baload, 1) := by decide +kernel
theorem d145_151 : decode (ix_by 145) 151 = .ok (.ifCond .eq 7, 3) := by decide +kernel
theorem d145_154 : decode (ix_by 145) 154 = .ok (.iconst 0, 1) := by decide +kernel
theorem d145_155 : decode (ix_by 145) 155 = .ok (.goto 4, 3) := by decide +kernel
theorem d145_158 : decode (ix_by 145) 158 = .ok (.iconst 1, 1) := by decide +kernel
theorem d145_159 : decode (ix_by 145) 159 = .ok (.iload_n 2, 1) := by decide +kernel
theorem d145_160 : decode (ix_by 145) 160 = .ok (.iconst 0, 1) := by decide +kernel
theorem d145_161 : decode (ix_by 145) 161 = .ok (.invokevirtual 177, 3) := by decide +kernel
theorem d145_164 : decode (ix_by 145) 164 = .ok (.ifCond .eq 46, 3) := by decide +kernel
theorem d145_167 : decode (ix_by 145) 167 = .ok (.iconst 0, 1) := by decide +kernel
theorem d145_168 : decode (ix_by 145) 168 = .ok (.istore 4, 2) := by decide +kernel
theorem d145_170 : decode (ix_by 145) 170 = .ok (.iload 4, 2) := by decide +kernel
theorem d145_172 : decode (ix_by 145) 172 = .ok (.bipush 6, 2) := by decide +kernel
theorem d145_174 : decode (ix_by 145) 174 = .ok (.if_icmp .ge 36, 3) := by decide +kernel
theorem d145_177 : decode (ix_by 145) 177 = .ok (.aload_n 0, 1) := by decide +kernel
theorem d145_178 : decode (ix_by 145) 178 = .ok (.getfield 131, 3) := by decide +kernel
theorem d145_181 : decode (ix_by 145) 181 = .ok (.bipush 11, 2) := by decide +kernel
theorem d145_183 : decode (ix_by 145) 183 = .ok (.aload_n 0, 1) := by decide +kernel
theorem d145_184 : decode (ix_by 145) 184 = .ok (.getfield 171, 3) := by decide +kernel
theorem d145_187 : decode (ix_by 145) 187 = .ok (.imul, 1) := by decide +kernel
theorem d145_188 : decode (ix_by 145) 188 = .ok (.bipush 11, 2) := by decide +kernel
theorem d145_190 : decode (ix_by 145) 190 = .ok (.isub, 1) := by decide +kernel
theorem d145_191 : decode (ix_by 145) 191 = .ok (.iconst 5, 1) := by decide +kernel
theorem d145_192 : decode (ix_by 145) 192 = .ok (.iadd, 1) := by decide +kernel
theorem d145_193 : decode (ix_by 145) 193 = .ok (.iload 4, 2) := by decide +kernel
theorem d145_195 : decode (ix_by 145) 195 = .ok (.iadd, 1) := by decide +kernel
theorem d145_196 : decode (ix_by 145) 196 = .ok (.aload_n 0, 1) := by decide +kernel
theorem d145_197 : decode (ix_by 145) 197 = .ok (.getfield 137, 3) := by decide +kernel
theorem d145_200 : decode (ix_by 145) 200 = .ok (.iload 4, 2) := by decide +kernel
theorem d145_202 : decode (ix_by 145) 202 = .ok (.iaload, 1) := by decide +kernel
theorem d145_203 : decode (ix_by 145) 203 = .ok (.iastore, 1) := by decide +kernel
theorem d145_204 : decode (ix_by 145) 204 = .ok (.iinc 4 1, 3) := by decide +kernel
theorem d145_207 : decode (ix_by 145) 207 = .ok (.goto (-37), 3) := by decide +kernel
theorem d145_210 : decode (ix_by 145) 210 = .ok (.aload_n 0, 1) := by decide +kernel
theorem d145_211 : decode (ix_by 145) 211 = .ok (.getfield 86, 3) := by decide +kernel
theorem d145_214 : decode (ix_by 145) 214 = .ok (.aload_n 0, 1) := by decide +kernel
theorem d145_215 : decode (ix_by 145) 215 = .ok (.getfield 74, 3) := by decide +kernel
theorem d145_218 : decode (ix_by 145) 218 = .ok (.iload_n 1, 1) := by decide +kernel
theorem d145_219 : decode (ix_by 145) 219 = .ok (.iaload, 1) := by decide +kernel
theorem d145_220 : decode (ix_by 145) 220 = .ok (.dup2, 1) := by decide +kernel
theorem d145_221 : decode (ix_by 145) 221 = .ok (.iaload, 1) := by decide +kernel
theorem d145_222 : decode (ix_by 145) 222 = .ok (.iconst 1, 1) := by decide +kernel
theorem d145_223 : decode (ix_by 145) 223 = .ok (.iadd, 1) := by decide +kernel
theorem d145_224 : decode (ix_by 145) 224 = .ok (.iastore, 1) := by decide +kernel
theorem d145_225 : decode (ix_by 145) 225 = .ok (.aload_n 0, 1) := by decide +kernel
theorem d145_226 : decode (ix_by 145) 226 = .ok (.getfield 89, 3) := by decide +kernel
theorem d145_229 : decode (ix_by 145) 229 = .ok (.aload_n 0, 1) := by decide +kernel
theorem d145_230 : decode (ix_by 145) 230 = .ok (.getfield 74, 3) := by decide +kernel
theorem d145_233 : decode (ix_by 145) 233 = .ok (.iload_n 1, 1) := by decide +kernel
theorem d145_234 : decode (ix_by 145) 234 = .ok (.iaload, 1) := by decide +kernel
theorem d145_235 : decode (ix_by 145) 235 = .ok (.aload_n 0, 1) := by decide +kernel
theorem d145_236 : decode (ix_by 145) 236 = .ok (.getfield 234, 3) := by decide +kernel
theorem d145_239 : decode (ix_by 145) 239 = .ok (.iastore, 1) := by decide +kernel
theorem d145_240 : decode (ix_by 145) 240 = .ok (.return_, 1) := by decide +kernel
theorem d146_0 : decode (ix_by 146) 0 = .ok (.iload_n 2, 1) := by decide +kernel
theorem d146_1 : decode (ix_by 146) 1 = .ok (.istore_n 3, 1) := by decide +kernel
theorem d146_2 : decode (ix_by 146) 2 = .ok (.iload_n 3, 1) := by decide +kernel
theorem d146_3 : decode (ix_by 146) 3 = .ok (.aload_n 0, 1) := by decide +kernel
theorem d146_4 : decode (ix_by 146) 4 = .ok (.getfield 80, 3) := by decide +kernel
theorem d146_7 : decode (ix_by 146) 7 = .ok (.aload_n 0, 1) := by decide +kernel
theorem d146_8 : decode (ix_by 146) 8 = .ok (.getfield 74, 3) := by decide +kernel
theorem d146_11 : decode (ix_by 146) 11 = .ok (.iload_n 1, 1) := by decide +kernel
theorem d146_12 : decode (ix_by 146) 12 = .ok (.iaload, 1) := by decide +kernel
theorem d146_13 : decode (ix_by 146) 13 = .ok (.iaload, 1) := by decide +kernel
theorem d146_14 : decode (ix_by 146) 14 = .ok (.invokestatic 164, 3) := by decide +kernel
theorem d146_17 : decode (ix_by 146) 17 = .ok (.if_icmp .ge 30, 3) := by decide +kernel
theorem d146_20 : decode (ix_by 146) 20 = .ok (.aload_n 0, 1) := by decide +kernel
theorem d146_21 : decode (ix_by 146) 21 = .ok (.getfield 116, 3) := by decide +kernel
theorem d146_24 : decode (ix_by 146) 24 = .ok (.bipush 16, 2) := by decide +kernel
theorem d146_26 : decode (ix_by 146) 26 = .ok (.aload_n 0, 1) := by decide +kernel
theorem d146_27 : decode (ix_by 146) 27 = .ok (.getfield 74, 3) := by decide +kernel
theorem d146_30 : decode (ix_by 146) 30 = .ok (.iload_n 1, 1) := by decide +kernel
theorem d146_31 : decode (ix_by 146) 31 = .ok (.iaload, 1) := by decide +kernel
theorem d146_32 : decode (ix_by 146) 32 = .ok (.imul, 1) := by decide +kernel
theorem d146_33 : decode (ix_by 146) 33 = .ok (.iload_n 3, 1) := by decide +kernel
theorem d146_34 : decode (ix_by 146) 34 = .ok (.iadd, 1) := by decide +kernel
theorem d146_35 : decode (ix_by 146) 35 = .ok (.iaload, 1) := by decide +kernel
theorem d146_36 : decode (ix_by 146) 36 = .ok (.ifCond .ne 5, 3) := by decide +kernel
theorem d146_39 : decode (ix_by 146) 39 = .ok (.iload_n 3, 1) := by decide +kernel
theorem d146_40 : decode (ix_by 146) 40 = .ok (.ireturn, 1) := by decide +kernel
theorem d146_41 : decode (ix_by 146) 41 = .ok (.iinc 3 1, 3) := by decide +kernel
theorem d146_44 : decode (ix_by 146) 44 = .ok (.goto (-42), 3) := by decide +kernel
theorem d146_47 : decode (ix_by 146) 47 = .ok (.iconst (-1), 1) := by decide +kernel
theorem d146_48 : decode (ix_by 146) 48 = .ok (.ireturn, 1) := by decide +kernel
theorem d147_0 : decode (ix_by 147) 0 = .ok (.aload_n 0, 1) := by decide +kernel
theorem d147_1 : decode (ix_by 147) 1 = .ok (.iconst 0, 1) := by decide +kernel
theorem d147_2 : decode (ix_by 147) 2 = .ok (.putfield 144, 3) := by decide +kernel
theorem d147_5 : decode (ix_by 147) 5 = .ok (.aload_n 0, 1) := by decide +kernel
theorem d147_6 : decode (ix_by 147) 6 = .ok (.iload_n 1, 1) := by decide +kernel
theorem d147_7 : decode (ix_by 147) 7 = .ok (.invokevirtual 249, 3) := by decide +kernel
theorem d147_10 : decode (ix_by 147) 10 = .ok (.ifCond .ne 5, 3) := by decide +kernel
theorem d147_13 : decode (ix_by 147) 13 = .ok (.iconst 0, 1) := by decide +kernel
theorem d147_14 : decode (ix_by 147) 14 = .ok (.ireturn, 1) := by decide +kernel
theorem d147_15 : decode (ix_by 147) 15 = .ok (.iconst 0, 1) := by decide +kernel
theorem d147_16 : decode (ix_by 147) 16 = .ok (.istore_n 2, 1) := by decide +kernel
theorem d147_17 : decode (ix_by 147) 17 = .ok (.iload_n 2, 1) := by decide +kernel
theorem d147_18 : decode (ix_by 147) 18 = .ok (.bipush 11, 2) := by decide +kernel
theorem d147_20 : decode (ix_by 147) 20 = .ok (.if_icmp .ge 26, 3) := by decide +kernel
theorem d147_23 : decode (ix_by 147) 23 = .ok (.aload_n 0, 1) := by decide +kernel
theorem d147_24 : decode (ix_by 147) 24 = .ok (.getfield 134, 3) := by decide +kernel
theorem d147_27 : decode (ix_by 147) 27 = .ok (.iload_n 2, 1) := by decide +kernel
theorem d147_28 : decode (ix_by 147) 28 = .ok (.aload_n 0, 1) := by decide +kernel
theorem d147_29 : decode (ix_by 147) 29 = .ok (.getfield 131, 3) := by decide +kernel
theorem d147_32 : decode (ix_by 147) 32 = .ok (.bipush 11, 2) := by decide +kernel
theorem d147_34 : decode (ix_by 147) 34 = .ok (.iload_n 1, 1) := by decide +kernel
theorem d147_35 : decode (ix_by 147) 35 = .ok (.imul, 1) := by decide +kernel
theorem d147_36 : decode (ix_by 147) 36 = .ok (.iload_n 2, 1) := by decide +kernel
theorem d147_37 : decode (ix_by 147) 37 = .ok (.iadd, 1) := by decide +kernel
theorem d147_38 : decode (ix_by 147) 38 = .ok (.iaload, 1) := by decide +kernel
theorem d147_39 : decode (ix_by 147) 39 = .ok (.iastore, 1) := by decide +kernel
theorem d147_40 : decode (ix_by 147) 40 = .ok (.iinc 2 1, 3) := by decide +kernel
theorem d147_43 : decode (ix_by 147) 43 = .ok (.goto (-26), 3) := by decide +kernel
theorem d147_46 : decode (ix_by 147) 46 = .ok (.aload_n 0, 1) := by decide +kernel
theorem d147_47 : decode (ix_by 147) 47 = .ok (.iload_n 1, 1) := by decide +kernel
theorem d147_48 : decode (ix_by 147) 48 = .ok (.invokevirtual 253, 3) := by decide +kernel
theorem d147_51 : decode (ix_by 147) 51 = .ok (.aload_n 0, 1) := by decide +kernel
theorem d147_52 : decode (ix_by 147) 52 = .ok (.aload_n 0, 1) := by decide +kernel
theorem d147_53 : decode (ix_by 147) 53 = .ok (.getfield 215, 3) := by decide +kernel
theorem d147_56 : decode (ix_by 147) 56 = .ok (.putfield 234, 3) := by decide +kernel
theorem d147_59 : decode (ix_by 147) 59 = .ok (.aload_n 0, 1) := by decide +kernel
theorem d147_60 : decode (ix_by 147) 60 = .ok (.getfield 134, 3) := by decide +kernel
theorem d147_63 : decode (ix_by 147) 63 = .ok (.iconst 1, 1) := by decide +kernel
theorem d147_64 : decode (ix_by 147) 64 = .ok (.iaload, 1) := by decide +kernel
theorem d147_65 : decode (ix_by 147) 65 = .ok (.istore_n 2, 1) := by decide +kernel
theorem d147_66 : decode (ix_by 147) 66 = .ok (.aload_n 0, 1) := by decide +kernel
theorem d147_67 : decode (ix_by 147) 67 = .ok (.getfield 134, 3) := by decide +kernel
theorem d147_70 : decode (ix_by 147) 70 = .ok (.iconst 2, 1) := by decide +kernel
theorem d147_71 : decode (ix_by 147) 71 = .ok (.iaload, 1) := by decide +kernel
theorem d147_72 : decode (ix_by 147) 72 = .ok (.istore_n 3, 1) := by decide +kernel
theorem d147_73 : decode (ix_by 147) 73 = .ok (.iload_n 3, 1) := by decide +kernel
theorem d147_74 : decode (ix_by 147) 74 = .ok (.sipush 320, 3) := by decide +kernel
theorem d147_77 : decode (ix_by 147) 77 = .ok (.idiv, 1) := by decide +kernel
theorem d147_78 : decode (ix_by 147) 78 = .ok (.iload_n 2, 1) := by decide +kernel
theorem d147_79 : decode (ix_by 147) 79 = .ok (.if_icmp .ne 11, 3) := by decide +kernel
theorem d147_82 : decode (ix_by 147) 82 = .ok (.aload_n 0, 1) := by decide +kernel
theorem d147_83 : decode (ix_by 147) 83 = .ok (.iload_n 3, 1) := by decide +kernel
theorem d147_84 : decode (ix_by 147) 84 = .ok (.invokevirtual 256, 3) := by decide +kernel
theorem d147_87 : decode (ix_by 147) 87 = .ok (.goto 9, 3) := by decide +kernel
theorem d147_90 : decode (ix_by 147) 90 = .ok (.aload_n 0, 1) := by decide +kernel
theorem d147_91 : decode (ix_by 147) 91 = .ok (.iload_n 2, 1) := by decide +kernel
theorem d147_92 : decode (ix_by 147) 92 = .ok (.iload_n 3, 1) := by decide +kernel
theorem d147_93 : decode (ix_by 147) 93 = .ok (.invokevirtual 259, 3) := by decide +kernel
theorem d147_96 : decode (ix_by 147) 96 = .ok (.iconst 1, 1) := by decide +kernel
theorem d147_97 : decode (ix_by 147) 97 = .ok (.ireturn, 1) := by decide +kernel
end
section
/-! decode rows (written by wip/whole/gen4.py) -/
theorem d148_0 : decode (ix_by 148) 0 = .ok (.iload_n 1, 1) := by decide +kernel
theorem d148_1 : decode (ix_by 148) 1 = .ok (.ifCond .lt 15, 3) := by decide +kernel
theorem d148_4 : decode (ix_by 148) 4 = .ok (.iload_n 1, 1) := by decide +kernel
theorem d148_5 : decode (ix_by 148) 5 = .ok (.aload_n 0, 1) := by decide +kernel
theorem d148_6 : decode (ix_by 148) 6 = .ok (.getfield 171, 3) := by decide +kernel
theorem d148_9 : decode (ix_by 148) 9 = .ok (.if_icmp .ge 7, 3) := by decide +kernel
theorem d148_12 : decode (ix_by 148) 12 = .ok (.iconst 1, 1) := by decide +kernel
theorem d148_13 : decode (ix_by 148) 13 = .ok (.goto 4, 3) := by decide +kernel
theorem d148_16 : decode (ix_by 148) 16 = .ok (.iconst 0, 1) := by decide +kernel
theorem d148_17 : decode (ix_by 148) 17 = .ok (.ireturn, 1) := by decide +kernel
theorem d149_0 : decode (ix_by 149) 0 = .ok (.aload_n 0, 1) := by decide +kernel
theorem d149_1 : decode (ix_by 149) 1 = .ok (.dup, 1) := by decide +kernel
theorem d149_2 : decode (ix_by 149) 2 = .ok (.getfield 171, 3) := by decide +kernel
theorem d149_5 : decode (ix_by 149) 5 = .ok (.iconst 1, 1) := by decide +kernel
theorem d149_6 : decode (ix_by 149) 6 = .ok (.isub, 1) := by decide +kernel
theorem d149_7 : decode (ix_by 149) 7 = .ok (.putfield 171, 3) := by decide +kernel
theorem d149_10 : decode (ix_by 149) 10 = .ok (.bipush 11, 2) := by decide +kernel
theorem d149_12 : decode (ix_by 149) 12 = .ok (.iload_n 1, 1) := by decide +kernel
theorem d149_13 : decode (ix_by 149) 13 = .ok (.imul, 1) := by decide +kernel
theorem d149_14 : decode (ix_by 149) 14 = .ok (.istore_n 2, 1) := by decide +kernel
theorem d149_15 : decode (ix_by 149) 15 = .ok (.iload_n 2, 1) := by decide +kernel
theorem d149_16 : decode (ix_by 149) 16 = .ok (.bipush 11, 2) := by decide +kernel
theorem d149_18 : decode (ix_by 149) 18 = .ok (.aload_n 0, 1) := by decide +kernel
theorem d149_19 : decode (ix_by 149) 19 = .ok (.getfield 171, 3) := by decide +kernel
theorem d149_22 : decode (ix_by 149) 22 = .ok (.imul, 1) := by decide +kernel
theorem d149_23 : decode (ix_by 149) 23 = .ok (.if_icmp .ge 24, 3) := by decide +kernel
theorem d149_26 : decode (ix_by 149) 26 = .ok (.aload_n 0, 1) := by decide +kernel
theorem d149_27 : decode (ix_by 149) 27 = .ok (.getfield 131, 3) := by decide +kernel
theorem d149_30 : decode (ix_by 149) 30 = .ok (.iload_n 2, 1) := by decide +kernel
theorem d149_31 : decode (ix_by 149) 31 = .ok (.aload_n 0, 1) := by decide +kernel
theorem d149_32 : decode (ix_by 149) 32 = .ok (.getfield 131, 3) := by decide +kernel
theorem d149_35 : decode (ix_by 149) 35 = .ok (.iload_n 2, 1) := by decide +kernel
theorem d149_36 : decode (ix_by 149) 36 = .ok (.bipush 11, 2) := by decide +kernel
theorem d149_38 : decode (ix_by 149) 38 = .ok (.iadd, 1) := by decide +kernel
theorem d149_39 : decode (ix_by 149) 39 = .ok (.iaload, 1) := by decide +kernel
theorem d149_40 : decode (ix_by 149) 40 = .ok (.iastore, 1) := by decide +kernel
theorem d149_41 : decode (ix_by 149) 41 = .ok (.iinc 2 1, 3) := by decide +kernel
theorem d149_44 : decode (ix_by 149) 44 = .ok (.goto (-29), 3) := by decide +kernel
theorem d149_47 : decode (ix_by 149) 47 = .ok (.return_, 1) := by decide +kernel
theorem d150_0 : decode (ix_by 150) 0 = .ok (.iload_n 1, 1) := by decide +kernel
theorem d150_1 : decode (ix_by 150) 1 = .ok (.sipush 320, 3) := by decide +kernel
theorem d150_4 : decode (ix_by 150) 4 = .ok (.idiv, 1) := by decide +kernel
theorem d150_5 : decode (ix_by 150) 5 = .ok (.istore_n 2, 1) := by decide +kernel
theorem d150_6 : decode (ix_by 150) 6 = .ok (.aload_n 0, 1) := by decide +kernel
theorem d150_7 : decode (ix_by 150) 7 = .ok (.iload_n 2, 1) := by decide +kernel
theorem d150_8 : decode (ix_by 150) 8 = .ok (.iload_n 1, 1) := by decide +kernel
theorem d150_9 : decode (ix_by 150) 9 = .ok (.sipush 320, 3) := by decide +kernel
theorem d150_12 : decode (ix_by 150) 12 = .ok (.irem, 1) := by decide +kernel
theorem d150_13 : decode (ix_by 150) 13 = .ok (.invokevirtual 174, 3) := by decide +kernel
theorem d150_16 : decode (ix_by 150) 16 = .ok (.ifCond .lt 13, 3) := by decide +kernel
theorem d150_19 : decode (ix_by 150) 19 = .ok (.aload_n 0, 1) := by decide +kernel
theorem d150_20 : decode (ix_by 150) 20 = .ok (.getfield 23, 3) := by decide +kernel
theorem d150_23 : decode (ix_by 150) 23 = .ok (.iload_n 1, 1) := by decide +kernel
theorem d150_24 : decode (ix_by 150) 24 = .ok (.iaload, 1) := by decide +kernel
theorem d150_25 : decode (ix_by 150) 25 = .ok (.iconst 1, 1) := by decide +kernel
theorem d150_26 : decode (ix_by 150) 26 = .ok (.if_icmp .ne 4, 3) := by decide +kernel
theorem d150_29 : decode (ix_by 150) 29 = .ok (.return_, 1) := by decide +kernel
theorem d150_30 : decode (ix_by 150) 30 = .ok (.aload_n 0, 1) := by decide +kernel
theorem d150_31 : decode (ix_by 150) 31 = .ok (.getfield 134, 3) := by decide +kernel
theorem d150_34 : decode (ix_by 150) 34 = .ok (.iconst 0, 1) := by decide +kernel
theorem d150_35 : decode (ix_by 150) 35 = .ok (.iaload, 1) := by decide +kernel
theorem d150_36 : decode (ix_by 150) 36 = .ok (.iconst 4, 1) := by decide +kernel
theorem d150_37 : decode (ix_by 150) 37 = .ok (.if_icmp .ne 16, 3) := by decide +kernel
theorem d150_40 : decode (ix_by 150) 40 = .ok (.aload_n 0, 1) := by decide +kernel
theorem d150_41 : decode (ix_by 150) 41 = .ok (.iconst 5, 1) := by decide +kernel
theorem d150_42 : decode (ix_by 150) 42 = .ok (.iconst 1, 1) := by decide +kernel
theorem d150_43 : decode (ix_by 150) 43 = .ok (.iload_n 2, 1) := by decide +kernel
theorem d150_44 : decode (ix_by 150) 44 = .ok (.isub, 1) := by decide +kernel
theorem d150_45 : decode (ix_by 150) 45 = .ok (.iload_n 1, 1) := by decide +kernel
theorem d150_46 : decode (ix_by 150) 46 = .ok (.iconst 4, 1) := by decide +kernel
theorem d150_47 : decode (ix_by 150) 47 = .ok (.iconst 0, 1) := by decide +kernel
theorem d150_48 : decode (ix_by 150) 48 = .ok (.iconst 0, 1) := by decide +kernel
theorem d150_49 : decode (ix_by 150) 49 = .ok (.invokevirtual 177, 3) := by decide +kernel
theorem d150_52 : decode (ix_by 150) 52 = .ok (.pop, 1) := by decide +kernel
theorem d150_53 : decode (ix_by 150) 53 = .ok (.aload_n 0, 1) := by decide +kernel
theorem d150_54 : decode (ix_by 150) 54 = .ok (.getfield 38, 3) := by decide +kernel
theorem d150_57 : decode (ix_by 150) 57 = .ok (.iload_n 1, 1) := by decide +kernel
theorem d150_58 : decode (ix_by 150) 58 = .ok (.iaload, 1) := by decide +kernel
theorem d150_59 : decode (ix_by 150) 59 = .ok (.iconst 5, 1) := by decide +kernel
theorem d150_60 : decode (ix_by 150) 60 = .ok (.if_icmp .eq 4, 3) := by decide +kernel
theorem d150_63 : decode (ix_by 150) 63 = .ok (.return_, 1) := by decide +kernel
theorem d150_64 : decode (ix_by 150) 64 = .ok (.aload_n 0, 1) := by decide +kernel
theorem d150_65 : decode (ix_by 150) 65 = .ok (.getfield 53, 3) := by decide +kernel
theorem d150_68 : decode (ix_by 150) 68 = .ok (.iload_n 1, 1) := by decide +kernel
theorem d150_69 : decode (ix_by 150) 69 = .ok (.aload_n 0, 1) := by decide +kernel
theorem d150_70 : decode (ix_by 150) 70 = .ok (.getfield 47, 3) := by decide +kernel
theorem d150_73 : decode (ix_by 150) 73 = .ok (.iload_n 1, 1) := by decide +kernel
theorem d150_74 : decode (ix_by 150) 74 = .ok (.iaload, 1) := by decide +kernel
theorem d150_75 : decode (ix_by 150) 75 = .ok (.iastore, 1) := by decide +kernel
theorem d150_76 : decode (ix_by 150) 76 = .ok (.aload_n 0, 1) := by decide +kernel
theorem d150_77 : decode (ix_by 150) 77 = .ok (.getfield 134, 3) := by decide +kernel
theorem d150_80 : decode (ix_by 150) 80 = .ok (.iconst 0, 1) := by decide +kernel
theorem d150_81 : decode (ix_by 150) 81 = .ok (.iaload, 1) := by decide +kernel
theorem d150_82 : decode (ix_by 150) 82 = .ok (.iconst 4, 1) := by decide +kernel
theorem d150_83 : decode (ix_by 150) 83 = .ok (.if_icmp .ne 14, 3) := by decide +kernel
theorem d150_86 : decode (ix_by 150) 86 = .ok (.aload_n 0, 1) := by decide +kernel
theorem d150_87 : decode (ix_by 150) 87 = .ok (.iload_n 1, 1) := by decide +kernel
theorem d150_88 : decode (ix_by 150) 88 = .ok (.aload_n 0, 1) := by decide +kernel
theorem d150_89 : decode (ix_by 150) 89 = .ok (.getfield 134, 3) := by decide +kernel
theorem d150_92 : decode (ix_by 150) 92 = .ok (.iconst 3, 1) := by decide +kernel
theorem d150_93 : decode (ix_by 150) 93 = .ok (.iaload, 1) := by decide +kernel
theorem d150_94 : decode (ix_by 150) 94 = .ok (.invokevirtual 187, 3) := by decide +kernel
theorem d150_97 : decode (ix_by 150) 97 = .ok (.aload_n 0, 1) := by decide +kernel
theorem d150_98 : decode (ix_by 150) 98 = .ok (.getfield 134, 3) := by decide +kernel
theorem d150_101 : decode (ix_by 150) 101 = .ok (.iconst 0, 1) := by decide +kernel
theorem d150_102 : decode (ix_by 150) 102 = .ok (.iaload, 1) := by decide +kernel
theorem d150_103 : decode (ix_by 150) 103 = .ok (.iconst 5, 1) := by decide +kernel
theorem d150_104 : decode (ix_by 150) 104 = .ok (.if_icmp .ne 19, 3) := by decide +kernel
theorem d150_107 : decode (ix_by 150) 107 = .ok (.aload_n 0, 1) := by decide +kernel
theorem d150_108 : decode (ix_by 150) 108 = .ok (.getfield 44, 3) := by decide +kernel
theorem d150_111 : decode (ix_by 150) 111 = .ok (.iload_n 1, 1) := by decide +kernel
theorem d150_112 : decode (ix_by 150) 112 = .ok (.iaload, 1) := by decide +kernel
theorem d150_113 : decode (ix_by 150) 113 = .ok (.ifCond .le 10, 3) := by decide +kernel
theorem d150_116 : decode (ix_by 150) 116 = .ok (.aload_n 0, 1) := by decide +kernel
theorem d150_117 : decode (ix_by 150) 117 = .ok (.getfield 59, 3) := by decide +kernel
theorem d150_120 : decode (ix_by 150) 120 = .ok (.iload_n 1, 1) := by decide +kernel
theorem d150_121 : decode (ix_by 150) 121 = .ok (.iconst 1, 1) := by decide +kernel
theorem d150_122 : decode (ix_by 150) 122 = .ok (.bastore, 1) := by decide +kernel
theorem d150_123 : decode (ix_by 150) 123 = .ok (.aload_n 0, 1) := by decide +kernel
theorem d150_124 : decode (ix_by 150) 124 = .ok (.getfield 134, 3) := by decide +kernel
theorem d150_127 : decode (ix_by 150) 127 = .ok (.iconst 0, 1) := by decide +kernel
theorem d150_128 : decode (ix_by 150) 128 = .ok (.iaload, 1) := by decide +kernel
theorem d150_129 : decode (ix_by 150) 129 = .ok (.bipush 6, 2) := by decide +kernel
theorem d150_131 : decode (ix_by 150) 131 = .ok (.if_icmp .ne 26, 3) := by decide +kernel
theorem d150_134 : decode (ix_by 150) 134 = .ok (.aload_n 0, 1) := by decide +kernel
theorem d150_135 : decode (ix_by 150) 135 = .ok (.getfield 44, 3) := by decide +kernel
theorem d150_138 : decode (ix_by 150) 138 = .ok (.iload_n 1, 1) := by decide +kernel
theorem d150_139 : decode (ix_by 150) 139 = .ok (.iaload, 1) := by decide +kernel
theorem d150_140 : decode (ix_by 150) 140 = .ok (.ifCond .le 17, 3) := by decide +kernel
theorem d150_143 : decode (ix_by 150) 143 = .ok (.aload_n 0, 1) := by decide +kernel
theorem d150_144 : decode (ix_by 150) 144 = .ok (.getfield 62, 3) := by decide +kernel
theorem d150_147 : decode (ix_by 150) 147 = .ok (.iload_n 1, 1) := by decide +kernel
theorem d150_148 : decode (ix_by 150) 148 = .ok (.baload, 1) := by decide +kernel
theorem d150_149 : decode (ix_by 150) 149 = .ok (.ifCond .ne 8, 3) := by decide +kernel
theorem d150_152 : decode (ix_by 150) 152 = .ok (.aload_n 0, 1) := by decide +kernel
theorem d150_153 : decode (ix_by 150) 153 = .ok (.iload_n 1, 1) := by decide +kernel
theorem d150_154 : decode (ix_by 150) 154 = .ok (.invokevirtual 205, 3) := by decide +kernel
theorem d150_157 : decode (ix_by 150) 157 = .ok (.return_, 1) := by decide +kernel
theorem d151_0 : decode (ix_by 151) 0 = .ok (.aload_n 0, 1) := by decide +kernel
theorem d151_1 : decode (ix_by 151) 1 = .ok (.getfield 134, 3) := by decide +kernel
theorem d151_4 : decode (ix_by 151) 4 = .ok (.iconst 3, 1) := by decide +kernel
theorem d151_5 : decode (ix_by 151) 5 = .ok (.iaload, 1) := by decide +kernel
theorem d151_6 : decode (ix_by 151) 6 = .ok (.iconst 1, 1) := by decide +kernel
theorem d151_7 : decode (ix_by 151) 7 = .ok (.if_icmp .ne 18, 3) := by decide +kernel
theorem d151_10 : decode (ix_by 151) 10 = .ok (.aload_n 0, 1) := by decide +kernel
theorem d151_11 : decode (ix_by 151) 11 = .ok (.getfield 56, 3) := by decide +kernel
theorem d151_14 : decode (ix_by 151) 14 = .ok (.iload_n 1, 1) := by decide +kernel
theorem d151_15 : decode (ix_by 151) 15 = .ok (.aload_n 0, 1) := by decide +kernel
theorem d151_16 : decode (ix_by 151) 16 = .ok (.getfield 56, 3) := by decide +kernel
theorem d151_19 : decode (ix_by 151) 19 = .ok (.iload_n 1, 1) := by decide +kernel
theorem d151_20 : decode (ix_by 151) 20 = .ok (.iaload, 1) := by decide +kernel
theorem d151_21 : decode (ix_by 151) 21 = .ok (.ldc 208, 2) := by decide +kernel
theorem d151_23 : decode (ix_by 151) 23 = .ok (.ior, 1) := by decide +kernel
theorem d151_24 : decode (ix_by 151) 24 = .ok (.iastore, 1) := by decide +kernel
theorem d151_25 : decode (ix_by 151) 25 = .ok (.aload_n 0, 1) := by decide +kernel
theorem d151_26 : decode (ix_by 151) 26 = .ok (.getfield 13, 3) := by decide +kernel
theorem d151_29 : decode (ix_by 151) 29 = .ok (.aload_n 0, 1) := by decide +kernel
theorem d151_30 : decode (ix_by 151) 30 = .ok (.iload_n 1, 1) := by decide +kernel
theorem d151_31 : decode (ix_by 151) 31 = .ok (.invokevirtual 181, 3) := by decide +kernel
theorem d151_34 : decode (ix_by 151) 34 = .ok (.iaload, 1) := by decide +kernel
theorem d151_35 : decode (ix_by 151) 35 = .ok (.invokestatic 164, 3) := by decide +kernel
theorem d151_38 : decode (ix_by 151) 38 = .ok (.istore_n 2, 1) := by decide +kernel
theorem d151_39 : decode (ix_by 151) 39 = .ok (.iconst 0, 1) := by decide +kernel
theorem d151_40 : decode (ix_by 151) 40 = .ok (.istore_n 3, 1) := by decide +kernel
theorem d151_41 : decode (ix_by 151) 41 = .ok (.iload_n 3, 1) := by decide +kernel
theorem d151_42 : decode (ix_by 151) 42 = .ok (.aload_n 0, 1) := by decide +kernel
theorem d151_43 : decode (ix_by 151) 43 = .ok (.getfield 134, 3) := by decide +kernel
theorem d151_46 : decode (ix_by 151) 46 = .ok (.iconst 4, 1) := by decide +kernel
theorem d151_47 : decode (ix_by 151) 47 = .ok (.iaload, 1) := by decide +kernel
theorem d151_48 : decode (ix_by 151) 48 = .ok (.if_icmp .ge 66, 3) := by decide +kernel
theorem d151_51 : decode (ix_by 151) 51 = .ok (.aload_n 0, 1) := by decide +kernel
theorem d151_52 : decode (ix_by 151) 52 = .ok (.getfield 134, 3) := by decide +kernel
theorem d151_55 : decode (ix_by 151) 55 = .ok (.iconst 5, 1) := by decide +kernel
theorem d151_56 : decode (ix_by 151) 56 = .ok (.iconst 2, 1) := by decide +kernel
theorem d151_57 : decode (ix_by 151) 57 = .ok (.iload_n 3, 1) := by decide +kernel
theorem d151_58 : decode (ix_by 151) 58 = .ok (.imul, 1) := by decide +kernel
theorem d151_59 : decode (ix_by 151) 59 = .ok (.iadd, 1) := by decide +kernel
theorem d151_60 : decode (ix_by 151) 60 = .ok (.iaload, 1) := by decide +kernel
theorem d151_61 : decode (ix_by 151) 61 = .ok (.istore 4, 2) := by decide +kernel
theorem d151_63 : decode (ix_by 151) 63 = .ok (.iload 4, 2) := by decide +kernel
theorem d151_65 : decode (ix_by 151) 65 = .ok (.aload_n 0, 1) := by decide +kernel
theorem d151_66 : decode (ix_by 151) 66 = .ok (.getfield 134, 3) := by decide +kernel
theorem d151_69 : decode (ix_by 151) 69 = .ok (.bipush 6, 2) := by decide +kernel
theorem d151_71 : decode (ix_by 151) 71 = .ok (.iconst 2, 1) := by decide +kernel
theorem d151_72 : decode (ix_by 151) 72 = .ok (.iload_n 3, 1) := by decide +kernel
theorem d151_73 : decode (ix_by 151) 73 = .ok (.imul, 1) := by decide +kernel
theorem d151_74 : decode (ix_by 151) 74 = .ok (.iadd, 1) := by decide +kernel
theorem d151_75 : decode (ix_by 151) 75 = .ok (.iaload, 1) := by decide +kernel
theorem d151_76 : decode (ix_by 151) 76 = .ok (.if_icmp .gt 32, 3) := by decide +kernel
theorem d151_79 : decode (ix_by 151) 79 = .ok (.iload 4, 2) := by decide +kernel
theorem d151_81 : decode (ix_by 151) 81 = .ok (.iload_n 2, 1) := by decide +kernel
theorem d151_82 : decode (ix_by 151) 82 = .ok (.if_icmp .ge 26, 3) := by decide +kernel
theorem d151_85 : decode (ix_by 151) 85 = .ok (.aload_n 0, 1) := by decide +kernel
theorem d151_86 : decode (ix_by 151) 86 = .ok (.getfield 56, 3) := by decide +kernel
theorem d151_89 : decode (ix_by 151) 89 = .ok (.iload_n 1, 1) := by decide +kernel
theorem d151_90 : decode (ix_by 151) 90 = .ok (.aload_n 0, 1) := by decide +kernel
theorem d151_91 : decode (ix_by 151) 91 = .ok (.getfield 56, 3) := by decide +kernel
theorem d151_94 : decode (ix_by 151) 94 = .ok (.iload_n 1, 1) := by decide +kernel
theorem d151_95 : decode (ix_by 151) 95 = .ok (.iaload, 1) := by decide +kernel
theorem d151_96 : decode (ix_by 151) 96 = .ok (.iconst 1, 1) := by decide +kernel
theorem d151_97 : decode (ix_by 151) 97 = .ok (.iload 4, 2) := by decide +kernel
theorem d151_99 : decode (ix_by 151) 99 = .ok (.ishl, 1) := by decide +kernel
theorem d151_100 : decode (ix_by 151) 100 = .ok (.ior, 1) := by decide +kernel
theorem d151_101 : decode (ix_by 151) 101 = .ok (.iastore, 1) := by decide +kernel
theorem d151_102 : decode (ix_by 151) 102 = .ok (.iinc 4 1, 3) := by decide +kernel
theorem d151_105 : decode (ix_by 151) 105 = .ok (.goto (-42), 3) := by decide +kernel
theorem d151_108 : decode (ix_by 151) 108 = .ok (.iinc 3 1, 3) := by decide +kernel
theorem d151_111 : decode (ix_by 151) 111 = .ok (.goto (-70), 3) := by decide +kernel
theorem d151_114 : decode (ix_by 151) 114 = .ok (.return_, 1) := by decide +kernel
theorem d152_0 : decode (ix_by 152) 0 = .ok (.aload_n 0, 1) := by decide +kernel
theorem d152_1 : decode (ix_by 152) 1 = .ok (.getfield 134, 3) := by decide +kernel
theorem d152_4 : decode (ix_by 152) 4 = .ok (.iconst 0, 1) := by decide +kernel
theorem d152_5 : decode (ix_by 152) 5 = .ok (.iaload, 1) := by decide +kernel
theorem d152_6 : decode (ix_by 152) 6 = .ok (.istore_n 3, 1) := by decide +kernel
theorem d152_7 : decode (ix_by 152) 7 = .ok (.iload_n 3, 1) := by decide +kernel
theorem d152_8 : decode (ix_by 152) 8 = .ok (.iconst 5, 1) := by decide +kernel
theorem d152_9 : decode (ix_by 152) 9 = .ok (.if_icmp .ne 31, 3) := by decide +kernel
theorem d152_12 : decode (ix_by 152) 12 = .ok (.aload_n 0, 1) := by decide +kernel
theorem d152_13 : decode (ix_by 152) 13 = .ok (.getfield 68, 3) := by decide +kernel
theorem d152_16 : decode (ix_by 152) 16 = .ok (.iload_n 2, 1) := by decide +kernel
theorem d152_17 : decode (ix_by 152) 17 = .ok (.iaload, 1) := by decide +kernel
theorem d152_18 : decode (ix_by 152) 18 = .ok (.bipush 6, 2) := by decide +kernel
theorem d152_20 : decode (ix_by 152) 20 = .ok (.if_icmp .ne 19, 3) := by decide +kernel
theorem d152_23 : decode (ix_by 152) 23 = .ok (.aload_n 0, 1) := by decide +kernel
theorem d152_24 : decode (ix_by 152) 24 = .ok (.iload_n 2, 1) := by decide +kernel
theorem d152_25 : decode (ix_by 152) 25 = .ok (.aload_n 0, 1) := by decide +kernel
theorem d152_26 : decode (ix_by 152) 26 = .ok (.getfield 77, 3) := by decide +kernel
theorem d152_29 : decode (ix_by 152) 29 = .ok (.aload_n 0, 1) := by decide +kernel
theorem d152_30 : decode (ix_by 152) 30 = .ok (.getfield 74, 3) := by decide +kernel
theorem d152_33 : decode (ix_by 152) 33 = .ok (.iload_n 2, 1) := by decide +kernel
theorem d152_34 : decode (ix_by 152) 34 = .ok (.iaload, 1) := by decide +kernel
theorem d152_35 : decode (ix_by 152) 35 = .ok (.iaload, 1) := by decide +kernel
theorem d152_36 : decode (ix_by 152) 36 = .ok (.invokevirtual 209, 3) := by decide +kernel
theorem d152_39 : decode (ix_by 152) 39 = .ok (.return_, 1) := by decide +kernel
theorem d152_40 : decode (ix_by 152) 40 = .ok (.aload_n 0, 1) := by decide +kernel
theorem d152_41 : decode (ix_by 152) 41 = .ok (.getfield 134, 3) := by decide +kernel
theorem d152_44 : decode (ix_by 152) 44 = .ok (.bipush 6, 2) := by decide +kernel
theorem d152_46 : decode (ix_by 152) 46 = .ok (.iaload, 1) := by decide +kernel
theorem d152_47 : decode (ix_by 152) 47 = .ok (.istore 4, 2) := by decide +kernel
theorem d152_49 : decode (ix_by 152) 49 = .ok (.aload_n 0, 1) := by decide +kernel
theorem d152_50 : decode (ix_by 152) 50 = .ok (.getfield 68, 3) := by decide +kernel
theorem d152_53 : decode (ix_by 152) 53 = .ok (.iload_n 2, 1) := by decide +kernel
theorem d152_54 : decode (ix_by 152) 54 = .ok (.iaload, 1) := by decide +kernel
theorem d152_55 : decode (ix_by 152) 55 = .ok (.ifCond .ne 53, 3) := by decide +kernel
theorem d152_58 : decode (ix_by 152) 58 = .ok (.aload_n 0, 1) := by decide +kernel
theorem d152_59 : decode (ix_by 152) 59 = .ok (.getfield 128, 3) := by decide +kernel
theorem d152_62 : decode (ix_by 152) 62 = .ok (.iload_n 1, 1) := by decide +kernel
theorem d152_63 : decode (ix_by 152) 63 = .ok (.iaload, 1) := by decide +kernel
theorem d152_64 : decode (ix_by 152) 64 = .ok (.iconst 3, 1) := by decide +kernel
theorem d152_65 : decode (ix_by 152) 65 = .ok (.if_icmp .ne 4, 3) := by decide +kernel
theorem d152_68 : decode (ix_by 152) 68 = .ok (.return_, 1) := by decide +kernel
theorem d152_69 : decode (ix_by 152) 69 = .ok (.aload_n 0, 1) := by decide +kernel
theorem d152_70 : decode (ix_by 152) 70 = .ok (.getfield 68, 3) := by decide +kernel
theorem d152_73 : decode (ix_by 152) 73 = .ok (.iload_n 2, 1) := by decide +kernel
theorem d152_74 : decode (ix_by 152) 74 = .ok (.iconst 5, 1) := by decide +kernel
theorem d152_75 : decode (ix_by 152) 75 = .ok (.iastore, 1) := by decide +kernel
theorem d152_76 : decode (ix_by 152) 76 = .ok (.aload_n 0, 1) := by decide +kernel
theorem d152_77 : decode (ix_by 152) 77 = .ok (.getfield 122, 3) := by decide +kernel
theorem d152_80 : decode (ix_by 152) 80 = .ok (.iconst 3, 1) := by decide +kernel
theorem d152_81 : decode (ix_by 152) 81 = .ok (.iload_n 1, 1) := by decide +kernel
theorem d152_82 : decode (ix_by 152) 82 = .ok (.imul, 1) := by decide +kernel
theorem d152_83 : decode (ix_by 152) 83 = .ok (.aload_n 0, 1) := by decide +kernel
theorem d152_84 : decode (ix_by 152) 84 = .ok (.getfield 128, 3) := by decide +kernel
theorem d152_87 : decode (ix_by 152) 87 = .ok (.iload_n 1, 1) := by decide +kernel
theorem d152_88 : decode (ix_by 152) 88 = .ok (.iaload, 1) := by decide +kernel
theorem d152_89 : decode (ix_by 152) 89 = .ok (.iadd, 1) := by decide +kernel
theorem d152_90 : decode (ix_by 152) 90 = .ok (.iload_n 2, 1) := by decide +kernel
theorem d152_91 : decode (ix_by 152) 91 = .ok (.iastore, 1) := by decide +kernel
theorem d152_92 : decode (ix_by 152) 92 = .ok (.aload_n 0, 1) := by decide +kernel
theorem d152_93 : decode (ix_by 152) 93 = .ok (.getfield 128, 3) := by decide +kernel
theorem d152_96 : decode (ix_by 152) 96 = .ok (.iload_n 1, 1) := by decide +kernel
theorem d152_97 : decode (ix_by 152) 97 = .ok (.dup2, 1) := by decide +kernel
theorem d152_98 : decode (ix_by 152) 98 = .ok (.iaload, 1) := by decide +kernel
theorem d152_99 : decode (ix_by 152) 99 = .ok (.iconst 1, 1) := by decide +kernel
theorem d152_100 : decode (ix_by 152) 100 = .ok (.iadd, 1) := by decide +kernel
theorem d152_101 : decode (ix_by 152) 101 = .ok (.iastore, 1) := by decide +kernel
theorem d152_102 : decode (ix_by 152) 102 = .ok (.aload_n 0, 1) := by decide +kernel
theorem d152_103 : decode (ix_by 152) 103 = .ok (.iload_n 1, 1) := by decide +kernel
theorem d152_104 : decode (ix_by 152) 104 = .ok (.iload_n 2, 1) := by decide +kernel
theorem d152_105 : decode (ix_by 152) 105 = .ok (.invokevirtual 212, 3) := by decide +kernel
theorem d152_108 : decode (ix_by 152) 108 = .ok (.iload_n 3, 1) := by decide +kernel
theorem d152_109 : decode (ix_by 152) 109 = .ok (.iconst 3, 1) := by decide +kernel
theorem d152_110 : decode (ix_by 152) 110 = .ok (.if_icmp .ne 22, 3) := by decide +kernel
theorem d152_113 : decode (ix_by 152) 113 = .ok (.iload 4, 2) := by decide +kernel
theorem d152_115 : decode (ix_by 152) 115 = .ok (.iconst 2, 1) := by decide +kernel
theorem d152_116 : decode (ix_by 152) 116 = .ok (.if_icmp .ne 16, 3) := by decide +kernel
theorem d152_119 : decode (ix_by 152) 119 = .ok (.aload_n 0, 1) := by decide +kernel
theorem d152_120 : decode (ix_by 152) 120 = .ok (.iconst 5, 1) := by decide +kernel
theorem d152_121 : decode (ix_by 152) 121 = .ok (.iconst 1, 1) := by decide +kernel
theorem d152_122 : decode (ix_by 152) 122 = .ok (.iload_n 1, 1) := by decide +kernel
theorem d152_123 : decode (ix_by 152) 123 = .ok (.isub, 1) := by decide +kernel
theorem d152_124 : decode (ix_by 152) 124 = .ok (.iload_n 2, 1) := by decide +kernel
theorem d152_125 : decode (ix_by 152) 125 = .ok (.iconst 3, 1) := by decide +kernel
theorem d152_126 : decode (ix_by 152) 126 = .ok (.iconst 0, 1) := by decide +kernel
theorem d152_127 : decode (ix_by 152) 127 = .ok (.iconst 0, 1) := by decide +kernel
theorem d152_128 : decode (ix_by 152) 128 = .ok (.invokevirtual 177, 3) := by decide +kernel
theorem d152_131 : decode (ix_by 152) 131 = .ok (.pop, 1) := by decide +kernel
theorem d152_132 : decode (ix_by 152) 132 = .ok (.aload_n 0, 1) := by decide +kernel
theorem d152_133 : decode (ix_by 152) 133 = .ok (.getfield 68, 3) := by decide +kernel
theorem d152_136 : decode (ix_by 152) 136 = .ok (.iload_n 2, 1) := by decide +kernel
theorem d152_137 : decode (ix_by 152) 137 = .ok (.iaload, 1) := by decide +kernel
theorem d152_138 : decode (ix_by 152) 138 = .ok (.iconst 5, 1) := by decide +kernel
theorem d152_139 : decode (ix_by 152) 139 = .ok (.if_icmp .eq 4, 3) := by decide +kernel
theorem d152_142 : decode (ix_by 152) 142 = .ok (.return_, 1) := by decide +kernel
theorem d152_143 : decode (ix_by 152) 143 = .ok (.aload_n 0, 1) := by decide +kernel
theorem d152_144 : decode (ix_by 152) 144 = .ok (.getfield 92, 3) := by decide +kernel
theorem d152_147 : decode (ix_by 152) 147 = .ok (.aload_n 0, 1) := by decide +kernel
theorem d152_148 : decode (ix_by 152) 148 = .ok (.getfield 74, 3) := by decide +kernel
theorem d152_151 : decode (ix_by 152) 151 = .ok (.iload_n 2, 1) := by decide +kernel
theorem d152_152 : decode (ix_by 152) 152 = .ok (.iaload, 1) := by decide +kernel
theorem d152_153 : decode (ix_by 152) 153 = .ok (.aload_n 0, 1) := by decide +kernel
theorem d152_154 : decode (ix_by 152) 154 = .ok (.getfield 215, 3) := by decide +kernel
theorem d152_157 : decode (ix_by 152) 157 = .ok (.iastore, 1) := by decide +kernel
theorem d152_158 : decode (ix_by 152) 158 = .ok (.iconst 0, 1) := by decide +kernel
theorem d152_159 : decode (ix_by 152) 159 = .ok (.istore 5, 2) := by decide +kernel
theorem d152_161 : decode (ix_by 152) 161 = .ok (.iload_n 3, 1) := by decide +kernel
theorem d152_162 : decode (ix_by 152) 162 = .ok (.iconst 1, 1) := by decide +kernel
theorem d152_163 : decode (ix_by 152) 163 = .ok (.if_icmp .ne 80, 3) := by decide +kernel
theorem d152_166 : decode (ix_by 152) 166 = .ok (.aload_n 0, 1) := by decide +kernel
theorem d152_167 : decode (ix_by 152) 167 = .ok (.getfield 107, 3) := by decide +kernel
theorem d152_170 : decode (ix_by 152) 170 = .ok (.aload_n 0, 1) := by decide +kernel
theorem d152_171 : decode (ix_by 152) 171 = .ok (.getfield 74, 3) := by decide +kernel
theorem d152_174 : decode (ix_by 152) 174 = .ok (.iload_n 2, 1) := by decide +kernel
theorem d152_175 : decode (ix_by 152) 175 = .ok (.iaload, 1) := by decide +kernel
theorem d152_176 : decode (ix_by 152) 176 = .ok (.baload, 1) := by decide +kernel
theorem d152_177 : decode (ix_by 152) 177 = .ok (.ifCond .ne 66, 3) := by decide +kernel
theorem d152_180 : decode (ix_by 152) 180 = .ok (.aload_n 0, 1) := by decide +kernel
theorem d152_181 : decode (ix_by 152) 181 = .ok (.getfield 107, 3) := by decide +kernel
theorem d152_184 : decode (ix_by 152) 184 = .ok (.aload_n 0, 1) := by decide +kernel
theorem d152_185 : decode (ix_by 152) 185 = .ok (.getfield 74, 3) := by decide +kernel
theorem d152_188 : decode (ix_by 152) 188 = .ok (.iload_n 2, 1) := by decide +kernel
theorem d152_189 : decode (ix_by 152) 189 = .ok (.iaload, 1) := by decide +kernel
theorem d152_190 : decode (ix_by 152) 190 = .ok (.iconst 1, 1) := by decide +kernel
theorem d152_191 : decode (ix_by 152) 191 = .ok (.bastore, 1) := by decide +kernel
theorem d152_192 : decode (ix_by 152) 192 = .ok (.aload_n 0, 1) := by decide +kernel
theorem d152_193 : decode (ix_by 152) 193 = .ok (.getfield 95, 3) := by decide +kernel
theorem d152_196 : decode (ix_by 152) 196 = .ok (.aload_n 0, 1) := by decide +kernel
theorem d152_197 : decode (ix_by 152) 197 = .ok (.getfield 74, 3) := by decide +kernel
theorem d152_200 : decode (ix_by 152) 200 = .ok (.iload_n 2, 1) := by decide +kernel
theorem d152_201 : decode (ix_by 152) 201 = .ok (.iaload, 1) := by decide +kernel
theorem d152_202 : decode (ix_by 152) 202 = .ok (.aload_n 0, 1) := by decide +kernel
theorem d152_203 : decode (ix_by 152) 203 = .ok (.getfield 134, 3) := by decide +kernel
theorem d152_206 : decode (ix_by 152) 206 = .ok (.iconst 3, 1) := by decide +kernel
theorem d152_207 : decode (ix_by 152) 207 = .ok (.iaload, 1) := by decide +kernel
theorem d152_208 : decode (ix_by 152) 208 = .ok (.iastore, 1) := by decide +kernel
theorem d152_209 : decode (ix_by 152) 209 = .ok (.aload_n 0, 1) := by decide +kernel
theorem d152_210 : decode (ix_by 152) 210 = .ok (.getfield 98, 3) := by decide +kernel
theorem d152_213 : decode (ix_by 152) 213 = .ok (.aload_n 0, 1) := by decide +kernel
theorem d152_214 : decode (ix_by 152) 214 = .ok (.getfield 74, 3) := by decide +kernel
theorem d152_217 : decode (ix_by 152) 217 = .ok (.iload_n 2, 1) := by decide +kernel
theorem d152_218 : decode (ix_by 152) 218 = .ok (.iaload, 1) := by decide +kernel
theorem d152_219 : decode (ix_by 152) 219 = .ok (.aload_n 0, 1) := by decide +kernel
theorem d152_220 : decode (ix_by 152) 220 = .ok (.getfield 134, 3) := by decide +kernel
theorem d152_223 : decode (ix_by 152) 223 = .ok (.iconst 4, 1) := by decide +kernel
theorem d152_224 : decode (ix_by 152) 224 = .ok (.iaload, 1) := by decide +kernel
theorem d152_225 : decode (ix_by 152) 225 = .ok (.iastore, 1) := by decide +kernel
theorem d152_226 : decode (ix_by 152) 226 = .ok (.aload_n 0, 1) := by decide +kernel
theorem d152_227 : decode (ix_by 152) 227 = .ok (.getfield 101, 3) := by decide +kernel
theorem d152_230 : decode (ix_by 152) 230 = .ok (.aload_n 0, 1) := by decide +kernel
theorem d152_231 : decode (ix_by 152) 231 = .ok (.getfield 74, 3) := by decide +kernel
theorem d152_234 : decode (ix_by 152) 234 = .ok (.iload_n 2, 1) := by decide +kernel
theorem d152_235 : decode (ix_by 152) 235 = .ok (.iaload, 1) := by decide +kernel
theorem d152_236 : decode (ix_by 152) 236 = .ok (.aload_n 0, 1) := by decide +kernel
theorem d152_237 : decode (ix_by 152) 237 = .ok (.getfield 134, 3) := by decide +kernel
theorem d152_240 : decode (ix_by 152) 240 = .ok (.iconst 5, 1) := by decide +kernel
theorem d152_241 : decode (ix_by 152) 241 = .ok (.iaload, 1) := by decide +kernel
theorem d152_242 : decode (ix_by 152) 242 = .ok (.iastore, 1) := by decide +kernel
theorem d152_243 : decode (ix_by 152) 243 = .ok (.iload_n 3, 1) := by decide +kernel
theorem d152_244 : decode (ix_by 152) 244 = .ok (.iconst 2, 1) := by decide +kernel
theorem d152_245 : decode (ix_by 152) 245 = .ok (.if_icmp .ne 81, 3) := by decide +kernel
theorem d152_248 : decode (ix_by 152) 248 = .ok (.aload_n 0, 1) := by decide +kernel
theorem d152_249 : decode (ix_by 152) 249 = .ok (.getfield 116, 3) := by decide +kernel
theorem d152_252 : decode (ix_by 152) 252 = .ok (.bipush 16, 2) := by decide +kernel
theorem d152_254 : decode (ix_by 152) 254 = .ok (.aload_n 0, 1) := by decide +kernel
theorem d152_255 : decode (ix_by 152) 255 = .ok (.getfield 74, 3) := by decide +kernel
theorem d152_258 : decode (ix_by 152) 258 = .ok (.iload_n 2, 1) := by decide +kernel
theorem d152_259 : decode (ix_by 152) 259 = .ok (.iaload, 1) := by decide +kernel
theorem d152_260 : decode (ix_by 152) 260 = .ok (.imul, 1) := by decide +kernel
theorem d152_261 : decode (ix_by 152) 261 = .ok (.aload_n 0, 1) := by decide +kernel
theorem d152_262 : decode (ix_by 152) 262 = .ok (.getfield 134, 3) := by decide +kernel
theorem d152_265 : decode (ix_by 152) 265 = .ok (.iconst 3, 1) := by decide +kernel
theorem d152_266 : decode (ix_by 152) 266 = .ok (.iaload, 1) := by decide +kernel
theorem d152_267 : decode (ix_by 152) 267 = .ok (.iadd, 1) := by decide +kernel
theorem d152_268 : decode (ix_by 152) 268 = .ok (.iaload, 1) := by decide +kernel
theorem d152_269 : decode (ix_by 152) 269 = .ok (.ifCond .ne 57, 3) := by decide +kernel
theorem d152_272 : decode (ix_by 152) 272 = .ok (.aload_n 0, 1) := by decide +kernel
theorem d152_273 : decode (ix_by 152) 273 = .ok (.getfield 116, 3) := by decide +kernel
theorem d152_276 : decode (ix_by 152) 276 = .ok (.bipush 16, 2) := by decide +kernel
theorem d152_278 : decode (ix_by 152) 278 = .ok (.aload_n 0, 1) := by decide +kernel
theorem d152_279 : decode (ix_by 152) 279 = .ok (.getfield 74, 3) := by decide +kernel
theorem d152_282 : decode (ix_by 152) 282 = .ok (.iload_n 2, 1) := by decide +kernel
theorem d152_283 : decode (ix_by 152) 283 = .ok (.iaload, 1) := by decide +kernel
theorem d152_284 : decode (ix_by 152) 284 = .ok (.imul, 1) := by decide +kernel
theorem d152_285 : decode (ix_by 152) 285 = .ok (.aload_n 0, 1) := by decide +kernel
theorem d152_286 : decode (ix_by 152) 286 = .ok (.getfield 134, 3) := by decide +kernel
theorem d152_289 : decode (ix_by 152) 289 = .ok (.iconst 3, 1) := by decide +kernel
theorem d152_290 : decode (ix_by 152) 290 = .ok (.iaload, 1) := by decide +kernel
theorem d152_291 : decode (ix_by 152) 291 = .ok (.iadd, 1) := by decide +kernel
theorem d152_292 : decode (ix_by 152) 292 = .ok (.aload_n 0, 1) := by decide +kernel
theorem d152_293 : decode (ix_by 152) 293 = .ok (.getfield 134, 3) := by decide +kernel
theorem d152_296 : decode (ix_by 152) 296 = .ok (.iconst 4, 1) := by decide +kernel
theorem d152_297 : decode (ix_by 152) 297 = .ok (.iaload, 1) := by decide +kernel
theorem d152_298 : decode (ix_by 152) 298 = .ok (.iastore, 1) := by decide +kernel
theorem d152_299 : decode (ix_by 152) 299 = .ok (.aload_n 0, 1) := by decide +kernel
theorem d152_300 : decode (ix_by 152) 300 = .ok (.getfield 113, 3) := by decide +kernel
theorem d152_303 : decode (ix_by 152) 303 = .ok (.bipush 16, 2) := by decide +kernel
theorem d152_305 : decode (ix_by 152) 305 = .ok (.aload_n 0, 1) := by decide +kernel
theorem d152_306 : decode (ix_by 152) 306 = .ok (.getfield 74, 3) := by decide +kernel
theorem d152_309 : decode (ix_by 152) 309 = .ok (.iload_n 2, 1) := by decide +kernel
theorem d152_310 : decode (ix_by 152) 310 = .ok (.iaload, 1) := by decide +kernel
theorem d152_311 : decode (ix_by 152) 311 = .ok (.imul, 1) := by decide +kernel
theorem d152_312 : decode (ix_by 152) 312 = .ok (.aload_n 0, 1) := by decide +kernel
theorem d152_313 : decode (ix_by 152) 313 = .ok (.getfield 134, 3) := by decide +kernel
theorem d152_316 : decode (ix_by 152) 316 = .ok (.iconst 3, 1) := by decide +kernel
theorem d152_317 : decode (ix_by 152) 317 = .ok (.iaload, 1) := by decide +kernel
theorem d152_318 : decode (ix_by 152) 318 = .ok (.iadd, 1) := by decide +kernel
theorem d152_319 : decode (ix_by 152) 319 = .ok (.aload_n 0, 1) := by decide +kernel
theorem d152_320 : decode (ix_by 152) 320 = .ok (.getfield 134, 3) := by decide +kernel
theorem d152_323 : decode (ix_by 152) 323 = .ok (.iconst 5, 1) := by decide +kernel
theorem d152_324 : decode (ix_by 152) 324 = .ok (.iaload, 1) := by decide +kernel
theorem d152_325 : decode (ix_by 152) 325 = .ok (.iastore, 1) := by decide +kernel
theorem d152_326 : decode (ix_by 152) 326 = .ok (.iload_n 3, 1) := by decide +kernel
theorem d152_327 : decode (ix_by 152) 327 = .ok (.iconst 3, 1) := by decide +kernel
theorem d152_328 : decode (ix_by 152) 328 = .ok (.if_icmp .ne 21, 3) := by decide +kernel
theorem d152_331 : decode (ix_by 152) 331 = .ok (.aload_n 0, 1) := by decide +kernel
theorem d152_332 : decode (ix_by 152) 332 = .ok (.getfield 134, 3) := by decide +kernel
theorem d152_335 : decode (ix_by 152) 335 = .ok (.iconst 3, 1) := by decide +kernel
theorem d152_336 : decode (ix_by 152) 336 = .ok (.iaload, 1) := by decide +kernel
theorem d152_337 : decode (ix_by 152) 337 = .ok (.ifCond .ge 12, 3) := by decide +kernel
theorem d152_340 : decode (ix_by 152) 340 = .ok (.aload_n 0, 1) := by decide +kernel
theorem d152_341 : decode (ix_by 152) 341 = .ok (.iload_n 2, 1) := by decide +kernel
theorem d152_342 : decode (ix_by 152) 342 = .ok (.iconst 2, 1) := by decide +kernel
theorem d152_343 : decode (ix_by 152) 343 = .ok (.iload 4, 2) := by decide +kernel
theorem d152_345 : decode (ix_by 152) 345 = .ok (.invokevirtual 218, 3) := by decide +kernel
theorem d152_348 : decode (ix_by 152) 348 = .ok (.return_, 1) := by decide +kernel
theorem d152_349 : decode (ix_by 152) 349 = .ok (.iload_n 3, 1) := by decide +kernel
theorem d152_350 : decode (ix_by 152) 350 = .ok (.iconst 3, 1) := by decide +kernel
theorem d152_351 : decode (ix_by 152) 351 = .ok (.if_icmp .ne 81, 3) := by decide +kernel
theorem d152_354 : decode (ix_by 152) 354 = .ok (.aload_n 0, 1) := by decide +kernel
theorem d152_355 : decode (ix_by 152) 355 = .ok (.getfield 110, 3) := by decide +kernel
theorem d152_358 : decode (ix_by 152) 358 = .ok (.aload_n 0, 1) := by decide +kernel
theorem d152_359 : decode (ix_by 152) 359 = .ok (.getfield 74, 3) := by decide +kernel
theorem d152_362 : decode (ix_by 152) 362 = .ok (.iload_n 2, 1) := by decide +kernel
theorem d152_363 : decode (ix_by 152) 363 = .ok (.iaload, 1) := by decide +kernel
theorem d152_364 : decode (ix_by 152) 364 = .ok (.baload, 1) := by decide +kernel
theorem d152_365 : decode (ix_by 152) 365 = .ok (.ifCond .ne 67, 3) := by decide +kernel
theorem d152_368 : decode (ix_by 152) 368 = .ok (.iconst 1, 1) := by decide +kernel
theorem d152_369 : decode (ix_by 152) 369 = .ok (.istore 5, 2) := by decide +kernel
theorem d152_371 : decode (ix_by 152) 371 = .ok (.aload_n 0, 1) := by decide +kernel
theorem d152_372 : decode (ix_by 152) 372 = .ok (.getfield 110, 3) := by decide +kernel
theorem d152_375 : decode (ix_by 152) 375 = .ok (.aload_n 0, 1) := by decide +kernel
theorem d152_376 : decode (ix_by 152) 376 = .ok (.getfield 74, 3) := by decide +kernel
theorem d152_379 : decode (ix_by 152) 379 = .ok (.iload_n 2, 1) := by decide +kernel
theorem d152_380 : decode (ix_by 152) 380 = .ok (.iaload, 1) := by decide +kernel
theorem d152_381 : decode (ix_by 152) 381 = .ok (.iconst 1, 1) := by decide +kernel
theorem d152_382 : decode (ix_by 152) 382 = .ok (.bastore, 1) := by decide +kernel
theorem d152_383 : decode (ix_by 152) 383 = .ok (.aload_n 0, 1) := by decide +kernel
theorem d152_384 : decode (ix_by 152) 384 = .ok (.getfield 80, 3) := by decide +kernel
theorem d152_387 : decode (ix_by 152) 387 = .ok (.aload_n 0, 1) := by decide +kernel
theorem d152_388 : decode (ix_by 152) 388 = .ok (.getfield 74, 3) := by decide +kernel
theorem d152_391 : decode (ix_by 152) 391 = .ok (.iload_n 2, 1) := by decide +kernel
theorem d152_392 : decode (ix_by 152) 392 = .ok (.iaload, 1) := by decide +kernel
theorem d152_393 : decode (ix_by 152) 393 = .ok (.aload_n 0, 1) := by decide +kernel
theorem d152_394 : decode (ix_by 152) 394 = .ok (.getfield 134, 3) := by decide +kernel
theorem d152_397 : decode (ix_by 152) 397 = .ok (.iconst 3, 1) := by decide +kernel
theorem d152_398 : decode (ix_by 152) 398 = .ok (.iaload, 1) := by decide +kernel
theorem d152_399 : decode (ix_by 152) 399 = .ok (.iastore, 1) := by decide +kernel
theorem d152_400 : decode (ix_by 152) 400 = .ok (.aload_n 0, 1) := by decide +kernel
theorem d152_401 : decode (ix_by 152) 401 = .ok (.getfield 83, 3) := by decide +kernel
theorem d152_404 : decode (ix_by 152) 404 = .ok (.aload_n 0, 1) := by decide +kernel
theorem d152_405 : decode (ix_by 152) 405 = .ok (.getfield 74, 3) := by decide +kernel
theorem d152_408 : decode (ix_by 152) 408 = .ok (.iload_n 2, 1) := by decide +kernel
theorem d152_409 : decode (ix_by 152) 409 = .ok (.iaload, 1) := by decide +kernel
theorem d152_410 : decode (ix_by 152) 410 = .ok (.aload_n 0, 1) := by decide +kernel
theorem d152_411 : decode (ix_by 152) 411 = .ok (.getfield 134, 3) := by decide +kernel
theorem d152_414 : decode (ix_by 152) 414 = .ok (.iconst 4, 1) := by decide +kernel
theorem d152_415 : decode (ix_by 152) 415 = .ok (.iaload, 1) := by decide +kernel
theorem d152_416 : decode (ix_by 152) 416 = .ok (.iastore, 1) := by decide +kernel
theorem d152_417 : decode (ix_by 152) 417 = .ok (.aload_n 0, 1) := by decide +kernel
theorem d152_418 : decode (ix_by 152) 418 = .ok (.getfield 89, 3) := by decide +kernel
theorem d152_421 : decode (ix_by 152) 421 = .ok (.aload_n 0, 1) := by decide +kernel
theorem d152_422 : decode (ix_by 152) 422 = .ok (.getfield 74, 3) := by decide +kernel
theorem d152_425 : decode (ix_by 152) 425 = .ok (.iload_n 2, 1) := by decide +kernel
theorem d152_426 : decode (ix_by 152) 426 = .ok (.iaload, 1) := by decide +kernel
theorem d152_427 : decode (ix_by 152) 427 = .ok (.aload_n 0, 1) := by decide +kernel
theorem d152_428 : decode (ix_by 152) 428 = .ok (.getfield 215, 3) := by decide +kernel
theorem d152_431 : decode (ix_by 152) 431 = .ok (.iastore, 1) := by decide +kernel
theorem d152_432 : decode (ix_by 152) 432 = .ok (.aload_n 0, 1) := by decide +kernel
theorem d152_433 : decode (ix_by 152) 433 = .ok (.getfield 110, 3) := by decide +kernel
theorem d152_436 : decode (ix_by 152) 436 = .ok (.aload_n 0, 1) := by decide +kernel
theorem d152_437 : decode (ix_by 152) 437 = .ok (.getfield 74, 3) := by decide +kernel
theorem d152_440 : decode (ix_by 152) 440 = .ok (.iload_n 2, 1) := by decide +kernel
theorem d152_441 : decode (ix_by 152) 441 = .ok (.iaload, 1) := by decide +kernel
theorem d152_442 : decode (ix_by 152) 442 = .ok (.baload, 1) := by decide +kernel
theorem d152_443 : decode (ix_by 152) 443 = .ok (.ifCond .ne 4, 3) := by decide +kernel
theorem d152_446 : decode (ix_by 152) 446 = .ok (.return_, 1) := by decide +kernel
theorem d152_447 : decode (ix_by 152) 447 = .ok (.aload_n 0, 1) := by decide +kernel
theorem d152_448 : decode (ix_by 152) 448 = .ok (.getfield 107, 3) := by decide +kernel
theorem d152_451 : decode (ix_by 152) 451 = .ok (.aload_n 0, 1) := by decide +kernel
theorem d152_452 : decode (ix_by 152) 452 = .ok (.getfield 74, 3) := by decide +kernel
theorem d152_455 : decode (ix_by 152) 455 = .ok (.iload_n 2, 1) := by decide +kernel
theorem d152_456 : decode (ix_by 152) 456 = .ok (.iaload, 1) := by decide +kernel
theorem d152_457 : decode (ix_by 152) 457 = .ok (.baload, 1) := by decide +kernel
theorem d152_458 : decode (ix_by 152) 458 = .ok (.ifCond .eq 22, 3) := by decide +kernel
theorem d152_461 : decode (ix_by 152) 461 = .ok (.aload_n 0, 1) := by decide +kernel
theorem d152_462 : decode (ix_by 152) 462 = .ok (.iload_n 2, 1) := by decide +kernel
theorem d152_463 : decode (ix_by 152) 463 = .ok (.iconst 0, 1) := by decide +kernel
theorem d152_464 : decode (ix_by 152) 464 = .ok (.invokevirtual 222, 3) := by decide +kernel
theorem d152_467 : decode (ix_by 152) 467 = .ok (.ifCond .ge 13, 3) := by decide +kernel
theorem d152_470 : decode (ix_by 152) 470 = .ok (.aload_n 0, 1) := by decide +kernel
theorem d152_471 : decode (ix_by 152) 471 = .ok (.iload_n 2, 1) := by decide +kernel
theorem d152_472 : decode (ix_by 152) 472 = .ok (.iload 4, 2) := by decide +kernel
theorem d152_474 : decode (ix_by 152) 474 = .ok (.invokevirtual 225, 3) := by decide +kernel
theorem d152_477 : decode (ix_by 152) 477 = .ok (.goto 19, 3) := by decide +kernel
theorem d152_480 : decode (ix_by 152) 480 = .ok (.iload 5, 2) := by decide +kernel
theorem d152_482 : decode (ix_by 152) 482 = .ok (.ifCond .eq 14, 3) := by decide +kernel
theorem d152_485 : decode (ix_by 152) 485 = .ok (.iload 4, 2) := by decide +kernel
theorem d152_487 : decode (ix_by 152) 487 = .ok (.iconst 2, 1) := by decide +kernel
theorem d152_488 : decode (ix_by 152) 488 = .ok (.if_icmp .ne 8, 3) := by decide +kernel
theorem d152_491 : decode (ix_by 152) 491 = .ok (.aload_n 0, 1) := by decide +kernel
theorem d152_492 : decode (ix_by 152) 492 = .ok (.iload_n 2, 1) := by decide +kernel
theorem d152_493 : decode (ix_by 152) 493 = .ok (.invokevirtual 228, 3) := by decide +kernel
theorem d152_496 : decode (ix_by 152) 496 = .ok (.return_, 1) := by decide +kernel
theorem d153_0 : decode (ix_by 153) 0 = .ok (.iconst 3, 1) := by decide +kernel
theorem d153_1 : decode (ix_by 153) 1 = .ok (.iload_n 1, 1) := by decide +kernel
theorem d153_2 : decode (ix_by 153) 2 = .ok (.imul, 1) := by decide +kernel
theorem d153_3 : decode (ix_by 153) 3 = .ok (.istore_n 3, 1) := by decide +kernel
theorem d153_4 : decode (ix_by 153) 4 = .ok (.aload_n 0, 1) := by decide +kernel
theorem d153_5 : decode (ix_by 153) 5 = .ok (.getfield 104, 3) := by decide +kernel
theorem d153_8 : decode (ix_by 153) 8 = .ok (.iload_n 3, 1) := by decide +kernel
theorem d153_9 : decode (ix_by 153) 9 = .ok (.baload, 1) := by decide +kernel
theorem d153_10 : decode (ix_by 153) 10 = .ok (.ifCond .eq 9, 3) := by decide +kernel
theorem d153_13 : decode (ix_by 153) 13 = .ok (.iinc 3 1, 3) := by decide +kernel
theorem d153_16 : decode (ix_by 153) 16 = .ok (.goto (-12), 3) := by decide +kernel
theorem d153_19 : decode (ix_by 153) 19 = .ok (.aload_n 0, 1) := by decide +kernel
theorem d153_20 : decode (ix_by 153) 20 = .ok (.getfield 74, 3) := by decide +kernel
theorem d153_23 : decode (ix_by 153) 23 = .ok (.iload_n 2, 1) := by decide +kernel
theorem d153_24 : decode (ix_by 153) 24 = .ok (.iload_n 3, 1) := by decide +kernel
theorem d153_25 : decode (ix_by 153) 25 = .ok (.iastore, 1) := by decide +kernel
theorem d153_26 : decode (ix_by 153) 26 = .ok (.aload_n 0, 1) := by decide +kernel
theorem d153_27 : decode (ix_by 153) 27 = .ok (.getfield 104, 3) := by decide +kernel
theorem d153_30 : decode (ix_by 153) 30 = .ok (.iload_n 3, 1) := by decide +kernel
theorem d153_31 : decode (ix_by 153) 31 = .ok (.iconst 1, 1) := by decide +kernel
theorem d153_32 : decode (ix_by 153) 32 = .ok (.bastore, 1) := by decide +kernel
theorem d153_33 : decode (ix_by 153) 33 = .ok (.aload_n 0, 1) := by decide +kernel
theorem d153_34 : decode (ix_by 153) 34 = .ok (.getfield 107, 3) := by decide +kernel
theorem d153_37 : decode (ix_by 153) 37 = .ok (.iload_n 3, 1) := by decide +kernel
theorem d153_38 : decode (ix_by 153) 38 = .ok (.iconst 0, 1) := by decide +kernel
theorem d153_39 : decode (ix_by 153) 39 = .ok (.bastore, 1) := by decide +kernel
theorem d153_40 : decode (ix_by 153) 40 = .ok (.aload_n 0, 1) := by decide +kernel
theorem d153_41 : decode (ix_by 153) 41 = .ok (.getfield 110, 3) := by decide +kernel
theorem d153_44 : decode (ix_by 153) 44 = .ok (.iload_n 3, 1) := by decide +kernel
theorem d153_45 : decode (ix_by 153) 45 = .ok (.iconst 0, 1) := by decide +kernel
theorem d153_46 : decode (ix_by 153) 46 = .ok (.bastore, 1) := by decide +kernel
theorem d153_47 : decode (ix_by 153) 47 = .ok (.aload_n 0, 1) := by decide +kernel
theorem d153_48 : decode (ix_by 153) 48 = .ok (.getfield 86, 3) := by decide +kernel
theorem d153_51 : decode (ix_by 153) 51 = .ok (.iload_n 3, 1) := by decide +kernel
theorem d153_52 : decode (ix_by 153) 52 = .ok (.iconst 0, 1) := by decide +kernel
theorem d153_53 : decode (ix_by 153) 53 = .ok (.iastore, 1) := by decide +kernel
theorem d153_54 : decode (ix_by 153) 54 = .ok (.bipush 16, 2) := by decide +kernel
theorem d153_56 : decode (ix_by 153) 56 = .ok (.iload_n 3, 1) := by decide +kernel
theorem d153_57 : decode (ix_by 153) 57 = .ok (.imul, 1) := by decide +kernel
theorem d153_58 : decode (ix_by 153) 58 = .ok (.istore 4, 2) := by decide +kernel
theorem d153_60 : decode (ix_by 153) 60 = .ok (.iload 4, 2) := by decide +kernel
theorem d153_62 : decode (ix_by 153) 62 = .ok (.bipush 16, 2) := by decide +kernel
theorem d153_64 : decode (ix_by 153) 64 = .ok (.iload_n 3, 1) := by decide +kernel
theorem d153_65 : decode (ix_by 153) 65 = .ok (.imul, 1) := by decide +kernel
theorem d153_66 : decode (ix_by 153) 66 = .ok (.bipush 16, 2) := by decide +kernel
theorem d153_68 : decode (ix_by 153) 68 = .ok (.iadd, 1) := by decide +kernel
theorem d153_69 : decode (ix_by 153) 69 = .ok (.if_icmp .ge 17, 3) := by decide +kernel
theorem d153_72 : decode (ix_by 153) 72 = .ok (.aload_n 0, 1) := by decide +kernel
theorem d153_73 : decode (ix_by 153) 73 = .ok (.getfield 116, 3) := by decide +kernel
theorem d153_76 : decode (ix_by 153) 76 = .ok (.iload 4, 2) := by decide +kernel
theorem d153_78 : decode (ix_by 153) 78 = .ok (.iconst 0, 1) := by decide +kernel
theorem d153_79 : decode (ix_by 153) 79 = .ok (.iastore, 1) := by decide +kernel
theorem d153_80 : decode (ix_by 153) 80 = .ok (.iinc 4 1, 3) := by decide +kernel
theorem d153_83 : decode (ix_by 153) 83 = .ok (.goto (-23), 3) := by decide +kernel
theorem d153_86 : decode (ix_by 153) 86 = .ok (.return_, 1) := by decide +kernel
theorem d154_0 : decode (ix_by 154) 0 = .ok (.iconst 0, 1) := by decide +kernel
theorem d154_1 : decode (ix_by 154) 1 = .ok (.istore_n 3, 1) := by decide +kernel
theorem d154_2 : decode (ix_by 154) 2 = .ok (.aload_n 0, 1) := by decide +kernel
theorem d154_3 : decode (ix_by 154) 3 = .ok (.getfield 80, 3) := by decide +kernel
theorem d154_6 : decode (ix_by 154) 6 = .ok (.aload_n 0, 1) := by decide +kernel
theorem d154_7 : decode (ix_by 154) 7 = .ok (.getfield 74, 3) := by decide +kernel
theorem d154_10 : decode (ix_by 154) 10 = .ok (.iload_n 1, 1) := by decide +kernel
theorem d154_11 : decode (ix_by 154) 11 = .ok (.iaload, 1) := by decide +kernel
theorem d154_12 : decode (ix_by 154) 12 = .ok (.iaload, 1) := by decide +kernel
theorem d154_13 : decode (ix_by 154) 13 = .ok (.istore 4, 2) := by decide +kernel
theorem d154_15 : decode (ix_by 154) 15 = .ok (.iconst 0, 1) := by decide +kernel
theorem d154_16 : decode (ix_by 154) 16 = .ok (.istore 5, 2) := by decide +kernel
theorem d154_18 : decode (ix_by 154) 18 = .ok (.iload 5, 2) := by decide +kernel
theorem d154_20 : decode (ix_by 154) 20 = .ok (.iload 4, 2) := by decide +kernel
theorem d154_22 : decode (ix_by 154) 22 = .ok (.if_icmp .ge 30, 3) := by decide +kernel
theorem d154_25 : decode (ix_by 154) 25 = .ok (.iload_n 3, 1) := by decide +kernel
theorem d154_26 : decode (ix_by 154) 26 = .ok (.aload_n 0, 1) := by decide +kernel
theorem d154_27 : decode (ix_by 154) 27 = .ok (.iload_n 1, 1) := by decide +kernel
theorem d154_28 : decode (ix_by 154) 28 = .ok (.iload 5, 2) := by decide +kernel
theorem d154_30 : decode (ix_by 154) 30 = .ok (.invokevirtual 237, 3) := by decide +kernel
theorem d154_33 : decode (ix_by 154) 33 = .ok (.bipush 24, 2) := by decide +kernel
theorem d154_35 : decode (ix_by 154) 35 = .ok (.bipush 8, 2) := by decide +kernel
theorem d154_37 : decode (ix_by 154) 37 = .ok (.iload 5, 2) := by decide +kernel
theorem d154_39 : decode (ix_by 154) 39 = .ok (.iconst 4, 1) := by decide +kernel
theorem d154_40 : decode (ix_by 154) 40 = .ok (.irem, 1) := by decide +kernel
theorem d154_41 : decode (ix_by 154) 41 = .ok (.imul, 1) := by decide +kernel
theorem d154_42 : decode (ix_by 154) 42 = .ok (.isub, 1) := by decide +kernel
theorem d154_43 : decode (ix_by 154) 43 = .ok (.ishl, 1) := by decide +kernel
theorem d154_44 : decode (ix_by 154) 44 = .ok (.iadd, 1) := by decide +kernel
theorem d154_45 : decode (ix_by 154) 45 = .ok (.istore_n 3, 1) := by decide +kernel
theorem d154_46 : decode (ix_by 154) 46 = .ok (.iinc 5 1, 3) := by decide +kernel
theorem d154_49 : decode (ix_by 154) 49 = .ok (.goto (-31), 3) := by decide +kernel
theorem d154_52 : decode (ix_by 154) 52 = .ok (.iconst 1, 1) := by decide +kernel
theorem d154_53 : decode (ix_by 154) 53 = .ok (.iload_n 1, 1) := by decide +kernel
theorem d154_54 : decode (ix_by 154) 54 = .ok (.sipush 320, 3) := by decide +kernel
theorem d154_57 : decode (ix_by 154) 57 = .ok (.idiv, 1) := by decide +kernel
theorem d154_58 : decode (ix_by 154) 58 = .ok (.isub, 1) := by decide +kernel
theorem d154_59 : decode (ix_by 154) 59 = .ok (.istore 5, 2) := by decide +kernel
theorem d154_61 : decode (ix_by 154) 61 = .ok (.bipush 6, 2) := by decide +kernel
theorem d154_63 : decode (ix_by 154) 63 = .ok (.iload 5, 2) := by decide +kernel
theorem d154_65 : decode (ix_by 154) 65 = .ok (.imul, 1) := by decide +kernel
theorem d154_66 : decode (ix_by 154) 66 = .ok (.aload_n 0, 1) := by decide +kernel
theorem d154_67 : decode (ix_by 154) 67 = .ok (.getfield 95, 3) := by decide +kernel
theorem d154_70 : decode (ix_by 154) 70 = .ok (.aload_n 0, 1) := by decide +kernel
theorem d154_71 : decode (ix_by 154) 71 = .ok (.getfield 74, 3) := by decide +kernel
theorem d154_74 : decode (ix_by 154) 74 = .ok (.iload_n 1, 1) := by decide +kernel
theorem d154_75 : decode (ix_by 154) 75 = .ok (.iaload, 1) := by decide +kernel
theorem d154_76 : decode (ix_by 154) 76 = .ok (.iaload, 1) := by decide +kernel
theorem d154_77 : decode (ix_by 154) 77 = .ok (.iadd, 1) := by decide +kernel
theorem d154_78 : decode (ix_by 154) 78 = .ok (.istore 6, 2) := by decide +kernel
theorem d154_80 : decode (ix_by 154) 80 = .ok (.iload_n 3, 1) := by decide +kernel
theorem d154_81 : decode (ix_by 154) 81 = .ok (.aload_n 0, 1) := by decide +kernel
theorem d154_82 : decode (ix_by 154) 82 = .ok (.getfield 83, 3) := by decide +kernel
theorem d154_85 : decode (ix_by 154) 85 = .ok (.aload_n 0, 1) := by decide +kernel
theorem d154_86 : decode (ix_by 154) 86 = .ok (.getfield 74, 3) := by decide +kernel
theorem d154_89 : decode (ix_by 154) 89 = .ok (.iload_n 1, 1) := by decide +kernel
theorem d154_90 : decode (ix_by 154) 90 = .ok (.iaload, 1) := by decide +kernel
theorem d154_91 : decode (ix_by 154) 91 = .ok (.iaload, 1) := by decide +kernel
theorem d154_92 : decode (ix_by 154) 92 = .ok (.if_icmp .eq 13, 3) := by decide +kernel
theorem d154_95 : decode (ix_by 154) 95 = .ok (.aload_n 0, 1) := by decide +kernel
theorem d154_96 : decode (ix_by 154) 96 = .ok (.iload_n 1, 1) := by decide +kernel
theorem d154_97 : decode (ix_by 154) 97 = .ok (.iconst 3, 1) := by decide +kernel
theorem d154_98 : decode (ix_by 154) 98 = .ok (.iload_n 2, 1) := by decide +kernel
theorem d154_99 : decode (ix_by 154) 99 = .ok (.invokevirtual 218, 3) := by decide +kernel
theorem d154_102 : decode (ix_by 154) 102 = .ok (.goto 102, 3) := by decide +kernel
theorem d154_105 : decode (ix_by 154) 105 = .ok (.aload_n 0, 1) := by decide +kernel
theorem d154_106 : decode (ix_by 154) 106 = .ok (.iload 5, 2) := by decide +kernel
theorem d154_108 : decode (ix_by 154) 108 = .ok (.aload_n 0, 1) := by decide +kernel
theorem d154_109 : decode (ix_by 154) 109 = .ok (.getfield 95, 3) := by decide +kernel
theorem d154_112 : decode (ix_by 154) 112 = .ok (.aload_n 0, 1) := by decide +kernel
theorem d154_113 : decode (ix_by 154) 113 = .ok (.getfield 74, 3) := by decide +kernel
theorem d154_116 : decode (ix_by 154) 116 = .ok (.iload_n 1, 1) := by decide +kernel
theorem d154_117 : decode (ix_by 154) 117 = .ok (.iaload, 1) := by decide +kernel
theorem d154_118 : decode (ix_by 154) 118 = .ok (.iaload, 1) := by decide +kernel
theorem d154_119 : decode (ix_by 154) 119 = .ok (.invokevirtual 159, 3) := by decide +kernel
theorem d154_122 : decode (ix_by 154) 122 = .ok (.ifCond .eq 13, 3) := by decide +kernel
theorem d154_125 : decode (ix_by 154) 125 = .ok (.aload_n 0, 1) := by decide +kernel
theorem d154_126 : decode (ix_by 154) 126 = .ok (.iload_n 1, 1) := by decide +kernel
theorem d154_127 : decode (ix_by 154) 127 = .ok (.iconst 4, 1) := by decide +kernel
theorem d154_128 : decode (ix_by 154) 128 = .ok (.iload_n 2, 1) := by decide +kernel
theorem d154_129 : decode (ix_by 154) 129 = .ok (.invokevirtual 218, 3) := by decide +kernel
theorem d154_132 : decode (ix_by 154) 132 = .ok (.goto 72, 3) := by decide +kernel
theorem d154_135 : decode (ix_by 154) 135 = .ok (.aload_n 0, 1) := by decide +kernel
theorem d154_136 : decode (ix_by 154) 136 = .ok (.getfield 7, 3) := by decide +kernel
theorem d154_139 : decode (ix_by 154) 139 = .ok (.iload 6, 2) := by decide +kernel
theorem d154_141 : decode (ix_by 154) 141 = .ok (.iconst 1, 1) := by decide +kernel
theorem d154_142 : decode (ix_by 154) 142 = .ok (.bastore, 1) := by decide +kernel
theorem d154_143 : decode (ix_by 154) 143 = .ok (.aload_n 0, 1) := by decide +kernel
theorem d154_144 : decode (ix_by 154) 144 = .ok (.getfield 13, 3) := by decide +kernel
theorem d154_147 : decode (ix_by 154) 147 = .ok (.iload 6, 2) := by decide +kernel
theorem d154_149 : decode (ix_by 154) 149 = .ok (.iload 4, 2) := by decide +kernel
theorem d154_151 : decode (ix_by 154) 151 = .ok (.iastore, 1) := by decide +kernel
theorem d154_152 : decode (ix_by 154) 152 = .ok (.iconst 0, 1) := by decide +kernel
theorem d154_153 : decode (ix_by 154) 153 = .ok (.istore 7, 2) := by decide +kernel
theorem d154_155 : decode (ix_by 154) 155 = .ok (.iload 7, 2) := by decide +kernel
theorem d154_157 : decode (ix_by 154) 157 = .ok (.iload 4, 2) := by decide +kernel
theorem d154_159 : decode (ix_by 154) 159 = .ok (.if_icmp .ge 29, 3) := by decide +kernel
theorem d154_162 : decode (ix_by 154) 162 = .ok (.aload_n 0, 1) := by decide +kernel
theorem d154_163 : decode (ix_by 154) 163 = .ok (.getfield 17, 3) := by decide +kernel
theorem d154_166 : decode (ix_by 154) 166 = .ok (.bipush 64, 2) := by decide +kernel
theorem d154_168 : decode (ix_by 154) 168 = .ok (.iload 6, 2) := by decide +kernel
theorem d154_170 : decode (ix_by 154) 170 = .ok (.imul, 1) := by decide +kernel
theorem d154_171 : decode (ix_by 154) 171 = .ok (.iload 7, 2) := by decide +kernel
theorem d154_173 : decode (ix_by 154) 173 = .ok (.iadd, 1) := by decide +kernel
theorem d154_174 : decode (ix_by 154) 174 = .ok (.aload_n 0, 1) := by decide +kernel
theorem d154_175 : decode (ix_by 154) 175 = .ok (.iload_n 1, 1) := by decide +kernel
theorem d154_176 : decode (ix_by 154) 176 = .ok (.iload 7, 2) := by decide +kernel
theorem d154_178 : decode (ix_by 154) 178 = .ok (.invokevirtual 237, 3) := by decide +kernel
theorem d154_181 : decode (ix_by 154) 181 = .ok (.iastore, 1) := by decide +kernel
theorem d154_182 : decode (ix_by 154) 182 = .ok (.iinc 7 1, 3) := by decide +kernel
theorem d154_185 : decode (ix_by 154) 185 = .ok (.goto (-30), 3) := by decide +kernel
theorem d154_188 : decode (ix_by 154) 188 = .ok (.aload_n 0, 1) := by decide +kernel
theorem d154_189 : decode (ix_by 154) 189 = .ok (.iload_n 1, 1) := by decide +kernel
theorem d154_190 : decode (ix_by 154) 190 = .ok (.iload 5, 2) := by decide +kernel
theorem d154_192 : decode (ix_by 154) 192 = .ok (.iload 6, 2) := by decide +kernel
theorem d154_194 : decode (ix_by 154) 194 = .ok (.invokevirtual 240, 3) := by decide +kernel
theorem d154_197 : decode (ix_by 154) 197 = .ok (.aload_n 0, 1) := by decide +kernel
theorem d154_198 : decode (ix_by 154) 198 = .ok (.iload_n 1, 1) := by decide +kernel
theorem d154_199 : decode (ix_by 154) 199 = .ok (.iconst 1, 1) := by decide +kernel
theorem d154_200 : decode (ix_by 154) 200 = .ok (.iload_n 2, 1) := by decide +kernel
theorem d154_201 : decode (ix_by 154) 201 = .ok (.invokevirtual 218, 3) := by decide +kernel
theorem d154_204 : decode (ix_by 154) 204 = .ok (.return_, 1) := by decide +kernel
theorem d155_0 : decode (ix_by 155) 0 = .ok (.aload_n 0, 1) := by decide +kernel
theorem d155_1 : decode (ix_by 155) 1 = .ok (.getfield 116, 3) := by decide +kernel
theorem d155_4 : decode (ix_by 155) 4 = .ok (.bipush 16, 2) := by decide +kernel
theorem d155_6 : decode (ix_by 155) 6 = .ok (.aload_n 0, 1) := by decide +kernel
theorem d155_7 : decode (ix_by 155) 7 = .ok (.getfield 74, 3) := by decide +kernel
theorem d155_10 : decode (ix_by 155) 10 = .ok (.iload_n 1, 1) := by decide +kernel
theorem d155_11 : decode (ix_by 155) 11 = .ok (.iaload, 1) := by decide +kernel
theorem d155_12 : decode (ix_by 155) 12 = .ok (.imul, 1) := by decide +kernel
theorem d155_13 : decode (ix_by 155) 13 = .ok (.iload_n 2, 1) := by decide +kernel
theorem d155_14 : decode (ix_by 155) 14 = .ok (.iconst 4, 1) := by decide +kernel
theorem d155_15 : decode (ix_by 155) 15 = .ok (.idiv, 1) := by decide +kernel
theorem d155_16 : decode (ix_by 155) 16 = .ok (.iadd, 1) := by decide +kernel
theorem d155_17 : decode (ix_by 155) 17 = .ok (.iaload, 1) := by decide +kernel
theorem d155_18 : decode (ix_by 155) 18 = .ok (.istore_n 3, 1) := by decide +kernel
theorem d155_19 : decode (ix_by 155) 19 = .ok (.iload_n 2, 1) := by decide +kernel
theorem d155_20 : decode (ix_by 155) 20 = .ok (.iconst 4, 1) := by decide +kernel
theorem d155_21 : decode (ix_by 155) 21 = .ok (.irem, 1) := by decide +kernel
theorem d155_22 : decode (ix_by 155) 22 = .ok (.iload_n 3, 1) := by decide +kernel
theorem d155_23 : decode (ix_by 155) 23 = .ok (.if_icmp .ge 38, 3) := by decide +kernel
theorem d155_26 : decode (ix_by 155) 26 = .ok (.aload_n 0, 1) := by decide +kernel
theorem d155_27 : decode (ix_by 155) 27 = .ok (.getfield 113, 3) := by decide +kernel
theorem d155_30 : decode (ix_by 155) 30 = .ok (.bipush 16, 2) := by decide +kernel
theorem d155_32 : decode (ix_by 155) 32 = .ok (.aload_n 0, 1) := by decide +kernel
theorem d155_33 : decode (ix_by 155) 33 = .ok (.getfield 74, 3) := by decide +kernel
theorem d155_36 : decode (ix_by 155) 36 = .ok (.iload_n 1, 1) := by decide +kernel
theorem d155_37 : decode (ix_by 155) 37 = .ok (.iaload, 1) := by decide +kernel
theorem d155_38 : decode (ix_by 155) 38 = .ok (.imul, 1) := by decide +kernel
theorem d155_39 : decode (ix_by 155) 39 = .ok (.iload_n 2, 1) := by decide +kernel
theorem d155_40 : decode (ix_by 155) 40 = .ok (.iconst 4, 1) := by decide +kernel
theorem d155_41 : decode (ix_by 155) 41 = .ok (.idiv, 1) := by decide +kernel
theorem d155_42 : decode (ix_by 155) 42 = .ok (.iadd, 1) := by decide +kernel
theorem d155_43 : decode (ix_by 155) 43 = .ok (.iaload, 1) := by decide +kernel
theorem d155_44 : decode (ix_by 155) 44 = .ok (.bipush 24, 2) := by decide +kernel
theorem d155_46 : decode (ix_by 155) 46 = .ok (.bipush 8, 2) := by decide +kernel
theorem d155_48 : decode (ix_by 155) 48 = .ok (.iload_n 2, 1) := by decide +kernel
theorem d155_49 : decode (ix_by 155) 49 = .ok (.iconst 4, 1) := by decide +kernel
theorem d155_50 : decode (ix_by 155) 50 = .ok (.irem, 1) := by decide +kernel
theorem d155_51 : decode (ix_by 155) 51 = .ok (.imul, 1) := by decide +kernel
theorem d155_52 : decode (ix_by 155) 52 = .ok (.isub, 1) := by decide +kernel
theorem d155_53 : decode (ix_by 155) 53 = .ok (.ishr, 1) := by decide +kernel
theorem d155_54 : decode (ix_by 155) 54 = .ok (.sipush 255, 3) := by decide +kernel
theorem d155_57 : decode (ix_by 155) 57 = .ok (.iand, 1) := by decide +kernel
theorem d155_58 : decode (ix_by 155) 58 = .ok (.goto 4, 3) := by decide +kernel
theorem d155_61 : decode (ix_by 155) 61 = .ok (.iconst 0, 1) := by decide +kernel
theorem d155_62 : decode (ix_by 155) 62 = .ok (.ireturn, 1) := by decide +kernel
end
section
/-! decode rows (written by wip/whole/gen4.py) -/
theorem d156_0 : decode (ix_by 156) 0 = .ok (.aload_n 0, 1) := by decide +kernel
theorem d156_1 : decode (ix_by 156) 1 = .ok (.getfield 98, 3) := by decide +kernel
theorem d156_4 : decode (ix_by 156) 4 = .ok (.aload_n 0, 1) := by decide +kernel
theorem d156_5 : decode (ix_by 156) 5 = .ok (.getfield 74, 3) := by decide +kernel
theorem d156_8 : decode (ix_by 156) 8 = .ok (.iload_n 1, 1) := by decide +kernel
theorem d156_9 : decode (ix_by 156) 9 = .ok (.iaload, 1) := by decide +kernel
theorem d156_10 : decode (ix_by 156) 10 = .ok (.iaload, 1) := by decide +kernel
theorem d156_11 : decode (ix_by 156) 11 = .ok (.ifCond .ne 4, 3) := by decide +kernel
theorem d156_14 : decode (ix_by 156) 14 = .ok (.return_, 1) := by decide +kernel
theorem d156_15 : decode (ix_by 156) 15 = .ok (.bipush 6, 2) := by decide +kernel
theorem d156_17 : decode (ix_by 156) 17 = .ok (.iload_n 2, 1) := by decide +kernel
theorem d156_18 : decode (ix_by 156) 18 = .ok (.imul, 1) := by decide +kernel
theorem d156_19 : decode (ix_by 156) 19 = .ok (.aload_n 0, 1) := by decide +kernel
theorem d156_20 : decode (ix_by 156) 20 = .ok (.getfield 101, 3) := by decide +kernel
theorem d156_23 : decode (ix_by 156) 23 = .ok (.aload_n 0, 1) := by decide +kernel
theorem d156_24 : decode (ix_by 156) 24 = .ok (.getfield 74, 3) := by decide +kernel
theorem d156_27 : decode (ix_by 156) 27 = .ok (.iload_n 1, 1) := by decide +kernel
theorem d156_28 : decode (ix_by 156) 28 = .ok (.iaload, 1) := by decide +kernel
theorem d156_29 : decode (ix_by 156) 29 = .ok (.iaload, 1) := by decide +kernel
theorem d156_30 : decode (ix_by 156) 30 = .ok (.iadd, 1) := by decide +kernel
theorem d156_31 : decode (ix_by 156) 31 = .ok (.istore 4, 2) := by decide +kernel
theorem d156_33 : decode (ix_by 156) 33 = .ok (.aload_n 0, 1) := by decide +kernel
theorem d156_34 : decode (ix_by 156) 34 = .ok (.iload_n 2, 1) := by decide +kernel
theorem d156_35 : decode (ix_by 156) 35 = .ok (.aload_n 0, 1) := by decide +kernel
theorem d156_36 : decode (ix_by 156) 36 = .ok (.getfield 101, 3) := by decide +kernel
theorem d156_39 : decode (ix_by 156) 39 = .ok (.aload_n 0, 1) := by decide +kernel
theorem d156_40 : decode (ix_by 156) 40 = .ok (.getfield 74, 3) := by decide +kernel
theorem d156_43 : decode (ix_by 156) 43 = .ok (.iload_n 1, 1) := by decide +kernel
theorem d156_44 : decode (ix_by 156) 44 = .ok (.iaload, 1) := by decide +kernel
theorem d156_45 : decode (ix_by 156) 45 = .ok (.iaload, 1) := by decide +kernel
theorem d156_46 : decode (ix_by 156) 46 = .ok (.invokevirtual 159, 3) := by decide +kernel
theorem d156_49 : decode (ix_by 156) 49 = .ok (.ifCond .ne 32, 3) := by decide +kernel
theorem d156_52 : decode (ix_by 156) 52 = .ok (.aload_n 0, 1) := by decide +kernel
theorem d156_53 : decode (ix_by 156) 53 = .ok (.getfield 98, 3) := by decide +kernel
theorem d156_56 : decode (ix_by 156) 56 = .ok (.aload_n 0, 1) := by decide +kernel
theorem d156_57 : decode (ix_by 156) 57 = .ok (.getfield 74, 3) := by decide +kernel
theorem d156_60 : decode (ix_by 156) 60 = .ok (.iload_n 1, 1) := by decide +kernel
theorem d156_61 : decode (ix_by 156) 61 = .ok (.iaload, 1) := by decide +kernel
theorem d156_62 : decode (ix_by 156) 62 = .ok (.iaload, 1) := by decide +kernel
theorem d156_63 : decode (ix_by 156) 63 = .ok (.iconst 2, 1) := by decide +kernel
theorem d156_64 : decode (ix_by 156) 64 = .ok (.if_icmp .eq 13, 3) := by decide +kernel
theorem d156_67 : decode (ix_by 156) 67 = .ok (.aload_n 0, 1) := by decide +kernel
theorem d156_68 : decode (ix_by 156) 68 = .ok (.getfield 7, 3) := by decide +kernel
theorem d156_71 : decode (ix_by 156) 71 = .ok (.iload 4, 2) := by decide +kernel
theorem d156_73 : decode (ix_by 156) 73 = .ok (.baload, 1) := by decide +kernel
theorem d156_74 : decode (ix_by 156) 74 = .ok (.ifCond .eq 7, 3) := by decide +kernel
theorem d156_77 : decode (ix_by 156) 77 = .ok (.iconst 1, 1) := by decide +kernel
theorem d156_78 : decode (ix_by 156) 78 = .ok (.goto 4, 3) := by decide +kernel
theorem d156_81 : decode (ix_by 156) 81 = .ok (.iconst 0, 1) := by decide +kernel
theorem d156_82 : decode (ix_by 156) 82 = .ok (.istore 5, 2) := by decide +kernel
theorem d156_84 : decode (ix_by 156) 84 = .ok (.aload_n 0, 1) := by decide +kernel
theorem d156_85 : decode (ix_by 156) 85 = .ok (.getfield 71, 3) := by decide +kernel
theorem d156_88 : decode (ix_by 156) 88 = .ok (.iload_n 1, 1) := by decide +kernel
theorem d156_89 : decode (ix_by 156) 89 = .ok (.iload 5, 2) := by decide +kernel
theorem d156_91 : decode (ix_by 156) 91 = .ok (.ifCond .eq 7, 3) := by decide +kernel
theorem d156_94 : decode (ix_by 156) 94 = .ok (.iconst 1, 1) := by decide +kernel
theorem d156_95 : decode (ix_by 156) 95 = .ok (.goto 4, 3) := by decide +kernel
theorem d156_98 : decode (ix_by 156) 98 = .ok (.iconst 2, 1) := by decide +kernel
theorem d156_99 : decode (ix_by 156) 99 = .ok (.iastore, 1) := by decide +kernel
theorem d156_100 : decode (ix_by 156) 100 = .ok (.iload 5, 2) := by decide +kernel
theorem d156_102 : decode (ix_by 156) 102 = .ok (.ifCond .ne 4, 3) := by decide +kernel
theorem d156_105 : decode (ix_by 156) 105 = .ok (.return_, 1) := by decide +kernel
theorem d156_106 : decode (ix_by 156) 106 = .ok (.aload_n 0, 1) := by decide +kernel
theorem d156_107 : decode (ix_by 156) 107 = .ok (.getfield 98, 3) := by decide +kernel
theorem d156_110 : decode (ix_by 156) 110 = .ok (.aload_n 0, 1) := by decide +kernel
theorem d156_111 : decode (ix_by 156) 111 = .ok (.getfield 74, 3) := by decide +kernel
theorem d156_114 : decode (ix_by 156) 114 = .ok (.iload_n 1, 1) := by decide +kernel
theorem d156_115 : decode (ix_by 156) 115 = .ok (.iaload, 1) := by decide +kernel
theorem d156_116 : decode (ix_by 156) 116 = .ok (.iaload, 1) := by decide +kernel
theorem d156_117 : decode (ix_by 156) 117 = .ok (.iconst 1, 1) := by decide +kernel
theorem d156_118 : decode (ix_by 156) 118 = .ok (.if_icmp .ne 12, 3) := by decide +kernel
theorem d156_121 : decode (ix_by 156) 121 = .ok (.aload_n 0, 1) := by decide +kernel
theorem d156_122 : decode (ix_by 156) 122 = .ok (.getfield 7, 3) := by decide +kernel
theorem d156_125 : decode (ix_by 156) 125 = .ok (.iload 4, 2) := by decide +kernel
theorem d156_127 : decode (ix_by 156) 127 = .ok (.iconst 0, 1) := by decide +kernel
theorem d156_128 : decode (ix_by 156) 128 = .ok (.bastore, 1) := by decide +kernel
theorem d156_129 : decode (ix_by 156) 129 = .ok (.return_, 1) := by decide +kernel
theorem d156_130 : decode (ix_by 156) 130 = .ok (.aload_n 0, 1) := by decide +kernel
theorem d156_131 : decode (ix_by 156) 131 = .ok (.getfield 7, 3) := by decide +kernel
theorem d156_134 : decode (ix_by 156) 134 = .ok (.iload 4, 2) := by decide +kernel
theorem d156_136 : decode (ix_by 156) 136 = .ok (.iconst 1, 1) := by decide +kernel
theorem d156_137 : decode (ix_by 156) 137 = .ok (.bastore, 1) := by decide +kernel
theorem d156_138 : decode (ix_by 156) 138 = .ok (.aload_n 0, 1) := by decide +kernel
theorem d156_139 : decode (ix_by 156) 139 = .ok (.getfield 13, 3) := by decide +kernel
theorem d156_142 : decode (ix_by 156) 142 = .ok (.iload 4, 2) := by decide +kernel
theorem d156_144 : decode (ix_by 156) 144 = .ok (.aload_n 0, 1) := by decide +kernel
theorem d156_145 : decode (ix_by 156) 145 = .ok (.getfield 13, 3) := by decide +kernel
theorem d156_148 : decode (ix_by 156) 148 = .ok (.iload_n 3, 1) := by decide +kernel
theorem d156_149 : decode (ix_by 156) 149 = .ok (.iaload, 1) := by decide +kernel
theorem d156_150 : decode (ix_by 156) 150 = .ok (.iastore, 1) := by decide +kernel
theorem d156_151 : decode (ix_by 156) 151 = .ok (.iconst 0, 1) := by decide +kernel
theorem d156_152 : decode (ix_by 156) 152 = .ok (.istore 6, 2) := by decide +kernel
theorem d156_154 : decode (ix_by 156) 154 = .ok (.iload 6, 2) := by decide +kernel
theorem d156_156 : decode (ix_by 156) 156 = .ok (.aload_n 0, 1) := by decide +kernel
theorem d156_157 : decode (ix_by 156) 157 = .ok (.getfield 13, 3) := by decide +kernel
theorem d156_160 : decode (ix_by 156) 160 = .ok (.iload_n 3, 1) := by decide +kernel
theorem d156_161 : decode (ix_by 156) 161 = .ok (.iaload, 1) := by decide +kernel
theorem d156_162 : decode (ix_by 156) 162 = .ok (.if_icmp .ge 34, 3) := by decide +kernel
theorem d156_165 : decode (ix_by 156) 165 = .ok (.aload_n 0, 1) := by decide +kernel
theorem d156_166 : decode (ix_by 156) 166 = .ok (.getfield 17, 3) := by decide +kernel
theorem d156_169 : decode (ix_by 156) 169 = .ok (.bipush 64, 2) := by decide +kernel
theorem d156_171 : decode (ix_by 156) 171 = .ok (.iload 4, 2) := by decide +kernel
theorem d156_173 : decode (ix_by 156) 173 = .ok (.imul, 1) := by decide +kernel
theorem d156_174 : decode (ix_by 156) 174 = .ok (.iload 6, 2) := by decide +kernel
theorem d156_176 : decode (ix_by 156) 176 = .ok (.iadd, 1) := by decide +kernel
theorem d156_177 : decode (ix_by 156) 177 = .ok (.aload_n 0, 1) := by decide +kernel
theorem d156_178 : decode (ix_by 156) 178 = .ok (.getfield 17, 3) := by decide +kernel
theorem d156_181 : decode (ix_by 156) 181 = .ok (.bipush 64, 2) := by decide +kernel
theorem d156_183 : decode (ix_by 156) 183 = .ok (.iload_n 3, 1) := by decide +kernel
theorem d156_184 : decode (ix_by 156) 184 = .ok (.imul, 1) := by decide +kernel
theorem d156_185 : decode (ix_by 156) 185 = .ok (.iload 6, 2) := by decide +kernel
theorem d156_187 : decode (ix_by 156) 187 = .ok (.iadd, 1) := by decide +kernel
theorem d156_188 : decode (ix_by 156) 188 = .ok (.iaload, 1) := by decide +kernel
theorem d156_189 : decode (ix_by 156) 189 = .ok (.iastore, 1) := by decide +kernel
theorem d156_190 : decode (ix_by 156) 190 = .ok (.iinc 6 1, 3) := by decide +kernel
theorem d156_193 : decode (ix_by 156) 193 = .ok (.goto (-39), 3) := by decide +kernel
theorem d156_196 : decode (ix_by 156) 196 = .ok (.return_, 1) := by decide +kernel
theorem d157_0 : decode (ix_by 157) 0 = .ok (.aload_n 0, 1) := by decide +kernel
theorem d157_1 : decode (ix_by 157) 1 = .ok (.iconst 0, 1) := by decide +kernel
theorem d157_2 : decode (ix_by 157) 2 = .ok (.putfield 144, 3) := by decide +kernel
theorem d157_5 : decode (ix_by 157) 5 = .ok (.aload_n 0, 1) := by decide +kernel
theorem d157_6 : decode (ix_by 157) 6 = .ok (.iload_n 1, 1) := by decide +kernel
theorem d157_7 : decode (ix_by 157) 7 = .ok (.invokevirtual 249, 3) := by decide +kernel
theorem d157_10 : decode (ix_by 157) 10 = .ok (.ifCond .ne 5, 3) := by decide +kernel
theorem d157_13 : decode (ix_by 157) 13 = .ok (.iconst 0, 1) := by decide +kernel
theorem d157_14 : decode (ix_by 157) 14 = .ok (.ireturn, 1) := by decide +kernel
theorem d157_15 : decode (ix_by 157) 15 = .ok (.aload_n 0, 1) := by decide +kernel
theorem d157_16 : decode (ix_by 157) 16 = .ok (.iload_n 1, 1) := by decide +kernel
theorem d157_17 : decode (ix_by 157) 17 = .ok (.invokevirtual 253, 3) := by decide +kernel
theorem d157_20 : decode (ix_by 157) 20 = .ok (.iconst 1, 1) := by decide +kernel
theorem d157_21 : decode (ix_by 157) 21 = .ok (.ireturn, 1) := by decide +kernel
theorem d158_0 : decode (ix_by 158) 0 = .ok (.aload_n 0, 1) := by decide +kernel
theorem d158_1 : decode (ix_by 158) 1 = .ok (.iconst 0, 1) := by decide +kernel
theorem d158_2 : decode (ix_by 158) 2 = .ok (.putfield 144, 3) := by decide +kernel
theorem d158_5 : decode (ix_by 158) 5 = .ok (.aload_n 0, 1) := by decide +kernel
theorem d158_6 : decode (ix_by 158) 6 = .ok (.iload_n 1, 1) := by decide +kernel
theorem d158_7 : decode (ix_by 158) 7 = .ok (.invokevirtual 249, 3) := by decide +kernel
theorem d158_10 : decode (ix_by 158) 10 = .ok (.ifCond .eq 12, 3) := by decide +kernel
theorem d158_13 : decode (ix_by 158) 13 = .ok (.aload_n 0, 1) := by decide +kernel
theorem d158_14 : decode (ix_by 158) 14 = .ok (.getfield 171, 3) := by decide +kernel
theorem d158_17 : decode (ix_by 158) 17 = .ok (.bipush 24, 2) := by decide +kernel
theorem d158_19 : decode (ix_by 158) 19 = .ok (.if_icmp .ne 5, 3) := by decide +kernel
theorem d158_22 : decode (ix_by 158) 22 = .ok (.iconst 0, 1) := by decide +kernel
theorem d158_23 : decode (ix_by 158) 23 = .ok (.ireturn, 1) := by decide +kernel
theorem d158_24 : decode (ix_by 158) 24 = .ok (.iconst 0, 1) := by decide +kernel
theorem d158_25 : decode (ix_by 158) 25 = .ok (.istore_n 2, 1) := by decide +kernel
theorem d158_26 : decode (ix_by 158) 26 = .ok (.iload_n 2, 1) := by decide +kernel
theorem d158_27 : decode (ix_by 158) 27 = .ok (.bipush 11, 2) := by decide +kernel
theorem d158_29 : decode (ix_by 158) 29 = .ok (.if_icmp .ge 34, 3) := by decide +kernel
theorem d158_32 : decode (ix_by 158) 32 = .ok (.aload_n 0, 1) := by decide +kernel
theorem d158_33 : decode (ix_by 158) 33 = .ok (.getfield 131, 3) := by decide +kernel
theorem d158_36 : decode (ix_by 158) 36 = .ok (.bipush 11, 2) := by decide +kernel
theorem d158_38 : decode (ix_by 158) 38 = .ok (.aload_n 0, 1) := by decide +kernel
theorem d158_39 : decode (ix_by 158) 39 = .ok (.getfield 171, 3) := by decide +kernel
theorem d158_42 : decode (ix_by 158) 42 = .ok (.imul, 1) := by decide +kernel
theorem d158_43 : decode (ix_by 158) 43 = .ok (.iload_n 2, 1) := by decide +kernel
theorem d158_44 : decode (ix_by 158) 44 = .ok (.iadd, 1) := by decide +kernel
theorem d158_45 : decode (ix_by 158) 45 = .ok (.aload_n 0, 1) := by decide +kernel
theorem d158_46 : decode (ix_by 158) 46 = .ok (.getfield 131, 3) := by decide +kernel
theorem d158_49 : decode (ix_by 158) 49 = .ok (.bipush 11, 2) := by decide +kernel
theorem d158_51 : decode (ix_by 158) 51 = .ok (.iload_n 1, 1) := by decide +kernel
theorem d158_52 : decode (ix_by 158) 52 = .ok (.imul, 1) := by decide +kernel
theorem d158_53 : decode (ix_by 158) 53 = .ok (.iload_n 2, 1) := by decide +kernel
theorem d158_54 : decode (ix_by 158) 54 = .ok (.iadd, 1) := by decide +kernel
theorem d158_55 : decode (ix_by 158) 55 = .ok (.iaload, 1) := by decide +kernel
theorem d158_56 : decode (ix_by 158) 56 = .ok (.iastore, 1) := by decide +kernel
theorem d158_57 : decode (ix_by 158) 57 = .ok (.iinc 2 1, 3) := by decide +kernel
theorem d158_60 : decode (ix_by 158) 60 = .ok (.goto (-34), 3) := by decide +kernel
theorem d158_63 : decode (ix_by 158) 63 = .ok (.aload_n 0, 1) := by decide +kernel
theorem d158_64 : decode (ix_by 158) 64 = .ok (.dup, 1) := by decide +kernel
theorem d158_65 : decode (ix_by 158) 65 = .ok (.getfield 171, 3) := by decide +kernel
theorem d158_68 : decode (ix_by 158) 68 = .ok (.iconst 1, 1) := by decide +kernel
theorem d158_69 : decode (ix_by 158) 69 = .ok (.iadd, 1) := by decide +kernel
theorem d158_70 : decode (ix_by 158) 70 = .ok (.putfield 171, 3) := by decide +kernel
theorem d158_73 : decode (ix_by 158) 73 = .ok (.iconst 1, 1) := by decide +kernel
theorem d158_74 : decode (ix_by 158) 74 = .ok (.ireturn, 1) := by decide +kernel
theorem d159_0 : decode (ix_by 159) 0 = .ok (.aload_n 0, 1) := by decide +kernel
theorem d159_1 : decode (ix_by 159) 1 = .ok (.iconst 0, 1) := by decide +kernel
theorem d159_2 : decode (ix_by 159) 2 = .ok (.putfield 144, 3) := by decide +kernel
theorem d159_5 : decode (ix_by 159) 5 = .ok (.aload_n 0, 1) := by decide +kernel
theorem d159_6 : decode (ix_by 159) 6 = .ok (.iload_n 1, 1) := by decide +kernel
theorem d159_7 : decode (ix_by 159) 7 = .ok (.invokevirtual 249, 3) := by decide +kernel
theorem d159_10 : decode (ix_by 159) 10 = .ok (.ifCond .eq 16, 3) := by decide +kernel
theorem d159_13 : decode (ix_by 159) 13 = .ok (.aload_n 0, 1) := by decide +kernel
theorem d159_14 : decode (ix_by 159) 14 = .ok (.getfield 131, 3) := by decide +kernel
theorem d159_17 : decode (ix_by 159) 17 = .ok (.bipush 11, 2) := by decide +kernel
theorem d159_19 : decode (ix_by 159) 19 = .ok (.iload_n 1, 1) := by decide +kernel
theorem d159_20 : decode (ix_by 159) 20 = .ok (.imul, 1) := by decide +kernel
theorem d159_21 : decode (ix_by 159) 21 = .ok (.iaload, 1) := by decide +kernel
theorem d159_22 : decode (ix_by 159) 22 = .ok (.iconst 2, 1) := by decide +kernel
theorem d159_23 : decode (ix_by 159) 23 = .ok (.if_icmp .eq 5, 3) := by decide +kernel
theorem d159_26 : decode (ix_by 159) 26 = .ok (.iconst 0, 1) := by decide +kernel
theorem d159_27 : decode (ix_by 159) 27 = .ok (.ireturn, 1) := by decide +kernel
theorem d159_28 : decode (ix_by 159) 28 = .ok (.aload_n 0, 1) := by decide +kernel
theorem d159_29 : decode (ix_by 159) 29 = .ok (.getfield 131, 3) := by decide +kernel
theorem d159_32 : decode (ix_by 159) 32 = .ok (.bipush 11, 2) := by decide +kernel
theorem d159_34 : decode (ix_by 159) 34 = .ok (.iload_n 1, 1) := by decide +kernel
theorem d159_35 : decode (ix_by 159) 35 = .ok (.imul, 1) := by decide +kernel
theorem d159_36 : decode (ix_by 159) 36 = .ok (.iconst 4, 1) := by decide +kernel
theorem d159_37 : decode (ix_by 159) 37 = .ok (.iadd, 1) := by decide +kernel
theorem d159_38 : decode (ix_by 159) 38 = .ok (.iaload, 1) := by decide +kernel
theorem d159_39 : decode (ix_by 159) 39 = .ok (.istore_n 3, 1) := by decide +kernel
theorem d159_40 : decode (ix_by 159) 40 = .ok (.iconst 0, 1) := by decide +kernel
theorem d159_41 : decode (ix_by 159) 41 = .ok (.istore 4, 2) := by decide +kernel
theorem d159_43 : decode (ix_by 159) 43 = .ok (.iload 4, 2) := by decide +kernel
theorem d159_45 : decode (ix_by 159) 45 = .ok (.iload_n 3, 1) := by decide +kernel
theorem d159_46 : decode (ix_by 159) 46 = .ok (.if_icmp .ge 52, 3) := by decide +kernel
theorem d159_49 : decode (ix_by 159) 49 = .ok (.aload_n 0, 1) := by decide +kernel
theorem d159_50 : decode (ix_by 159) 50 = .ok (.getfield 131, 3) := by decide +kernel
theorem d159_53 : decode (ix_by 159) 53 = .ok (.bipush 11, 2) := by decide +kernel
theorem d159_55 : decode (ix_by 159) 55 = .ok (.iload_n 1, 1) := by decide +kernel
theorem d159_56 : decode (ix_by 159) 56 = .ok (.imul, 1) := by decide +kernel
theorem d159_57 : decode (ix_by 159) 57 = .ok (.iconst 5, 1) := by decide +kernel
theorem d159_58 : decode (ix_by 159) 58 = .ok (.iadd, 1) := by decide +kernel
theorem d159_59 : decode (ix_by 159) 59 = .ok (.aload_n 0, 1) := by decide +kernel
theorem d159_60 : decode (ix_by 159) 60 = .ok (.getfield 131, 3) := by decide +kernel
theorem d159_63 : decode (ix_by 159) 63 = .ok (.bipush 11, 2) := by decide +kernel
theorem d159_65 : decode (ix_by 159) 65 = .ok (.iload_n 1, 1) := by decide +kernel
theorem d159_66 : decode (ix_by 159) 66 = .ok (.imul, 1) := by decide +kernel
theorem d159_67 : decode (ix_by 159) 67 = .ok (.iconst 5, 1) := by decide +kernel
theorem d159_68 : decode (ix_by 159) 68 = .ok (.iadd, 1) := by decide +kernel
theorem d159_69 : decode (ix_by 159) 69 = .ok (.iaload, 1) := by decide +kernel
theorem d159_70 : decode (ix_by 159) 70 = .ok (.iload_n 2, 1) := by decide +kernel
theorem d159_71 : decode (ix_by 159) 71 = .ok (.bipush 8, 2) := by decide +kernel
theorem d159_73 : decode (ix_by 159) 73 = .ok (.iload 4, 2) := by decide +kernel
theorem d159_75 : decode (ix_by 159) 75 = .ok (.imul, 1) := by decide +kernel
theorem d159_76 : decode (ix_by 159) 76 = .ok (.ishr, 1) := by decide +kernel
theorem d159_77 : decode (ix_by 159) 77 = .ok (.sipush 255, 3) := by decide +kernel
theorem d159_80 : decode (ix_by 159) 80 = .ok (.iand, 1) := by decide +kernel
theorem d159_81 : decode (ix_by 159) 81 = .ok (.bipush 24, 2) := by decide +kernel
theorem d159_83 : decode (ix_by 159) 83 = .ok (.bipush 8, 2) := by decide +kernel
theorem d159_85 : decode (ix_by 159) 85 = .ok (.iload 4, 2) := by decide +kernel
theorem d159_87 : decode (ix_by 159) 87 = .ok (.imul, 1) := by decide +kernel
theorem d159_88 : decode (ix_by 159) 88 = .ok (.isub, 1) := by decide +kernel
theorem d159_89 : decode (ix_by 159) 89 = .ok (.ishl, 1) := by decide +kernel
theorem d159_90 : decode (ix_by 159) 90 = .ok (.ixor, 1) := by decide +kernel
theorem d159_91 : decode (ix_by 159) 91 = .ok (.iastore, 1) := by decide +kernel
theorem d159_92 : decode (ix_by 159) 92 = .ok (.iinc 4 1, 3) := by decide +kernel
theorem d159_95 : decode (ix_by 159) 95 = .ok (.goto (-52), 3) := by decide +kernel
theorem d159_98 : decode (ix_by 159) 98 = .ok (.iconst 1, 1) := by decide +kernel
theorem d159_99 : decode (ix_by 159) 99 = .ok (.ireturn, 1) := by decide +kernel
theorem d160_0 : decode (ix_by 160) 0 = .ok (.aload_n 0, 1) := by decide +kernel
theorem d160_1 : decode (ix_by 160) 1 = .ok (.iconst 0, 1) := by decide +kernel
theorem d160_2 : decode (ix_by 160) 2 = .ok (.putfield 144, 3) := by decide +kernel
theorem d160_5 : decode (ix_by 160) 5 = .ok (.aload_n 0, 1) := by decide +kernel
theorem d160_6 : decode (ix_by 160) 6 = .ok (.getfield 171, 3) := by decide +kernel
theorem d160_9 : decode (ix_by 160) 9 = .ok (.ireturn, 1) := by decide +kernel
theorem d161_0 : decode (ix_by 161) 0 = .ok (.aload_n 0, 1) := by decide +kernel
theorem d161_1 : decode (ix_by 161) 1 = .ok (.iconst 0, 1) := by decide +kernel
theorem d161_2 : decode (ix_by 161) 2 = .ok (.putfield 144, 3) := by decide +kernel
theorem d161_5 : decode (ix_by 161) 5 = .ok (.aload_n 0, 1) := by decide +kernel
theorem d161_6 : decode (ix_by 161) 6 = .ok (.iload_n 1, 1) := by decide +kernel
theorem d161_7 : decode (ix_by 161) 7 = .ok (.invokevirtual 249, 3) := by decide +kernel
theorem d161_10 : decode (ix_by 161) 10 = .ok (.ifCond .eq 12, 3) := by decide +kernel
theorem d161_13 : decode (ix_by 161) 13 = .ok (.iload_n 2, 1) := by decide +kernel
theorem d161_14 : decode (ix_by 161) 14 = .ok (.iconst 0, 1) := by decide +kernel
theorem d161_15 : decode (ix_by 161) 15 = .ok (.iconst 3, 1) := by decide +kernel
theorem d161_16 : decode (ix_by 161) 16 = .ok (.invokestatic 147, 3) := by decide +kernel
theorem d161_19 : decode (ix_by 161) 19 = .ok (.ifCond .ne 5, 3) := by decide +kernel
theorem d161_22 : decode (ix_by 161) 22 = .ok (.iconst (-1), 1) := by decide +kernel
theorem d161_23 : decode (ix_by 161) 23 = .ok (.ireturn, 1) := by decide +kernel
theorem d161_24 : decode (ix_by 161) 24 = .ok (.bipush 11, 2) := by decide +kernel
theorem d161_26 : decode (ix_by 161) 26 = .ok (.iload_n 1, 1) := by decide +kernel
theorem d161_27 : decode (ix_by 161) 27 = .ok (.imul, 1) := by decide +kernel
theorem d161_28 : decode (ix_by 161) 28 = .ok (.istore_n 3, 1) := by decide +kernel
theorem d161_29 : decode (ix_by 161) 29 = .ok (.iload_n 2, 1) := by decide +kernel
theorem d161_30 : decode (ix_by 161) 30 = .ok (.iconst 2, 1) := by decide +kernel
theorem d161_31 : decode (ix_by 161) 31 = .ok (.if_icmp .ge 12, 3) := by decide +kernel
theorem d161_34 : decode (ix_by 161) 34 = .ok (.aload_n 0, 1) := by decide +kernel
theorem d161_35 : decode (ix_by 161) 35 = .ok (.getfield 131, 3) := by decide +kernel
theorem d161_38 : decode (ix_by 161) 38 = .ok (.iload_n 3, 1) := by decide +kernel
theorem d161_39 : decode (ix_by 161) 39 = .ok (.iload_n 2, 1) := by decide +kernel
theorem d161_40 : decode (ix_by 161) 40 = .ok (.iadd, 1) := by decide +kernel
theorem d161_41 : decode (ix_by 161) 41 = .ok (.iaload, 1) := by decide +kernel
theorem d161_42 : decode (ix_by 161) 42 = .ok (.ireturn, 1) := by decide +kernel
theorem d161_43 : decode (ix_by 161) 43 = .ok (.iload_n 2, 1) := by decide +kernel
theorem d161_44 : decode (ix_by 161) 44 = .ok (.iconst 2, 1) := by decide +kernel
theorem d161_45 : decode (ix_by 161) 45 = .ok (.if_icmp .ne 16, 3) := by decide +kernel
theorem d161_48 : decode (ix_by 161) 48 = .ok (.aload_n 0, 1) := by decide +kernel
theorem d161_49 : decode (ix_by 161) 49 = .ok (.getfield 131, 3) := by decide +kernel
theorem d161_52 : decode (ix_by 161) 52 = .ok (.iload_n 3, 1) := by decide +kernel
theorem d161_53 : decode (ix_by 161) 53 = .ok (.iconst 2, 1) := by decide +kernel
theorem d161_54 : decode (ix_by 161) 54 = .ok (.iadd, 1) := by decide +kernel
theorem d161_55 : decode (ix_by 161) 55 = .ok (.iaload, 1) := by decide +kernel
theorem d161_56 : decode (ix_by 161) 56 = .ok (.sipush 320, 3) := by decide +kernel
theorem d161_59 : decode (ix_by 161) 59 = .ok (.irem, 1) := by decide +kernel
theorem d161_60 : decode (ix_by 161) 60 = .ok (.ireturn, 1) := by decide +kernel
theorem d161_61 : decode (ix_by 161) 61 = .ok (.aload_n 0, 1) := by decide +kernel
theorem d161_62 : decode (ix_by 161) 62 = .ok (.getfield 131, 3) := by decide +kernel
theorem d161_65 : decode (ix_by 161) 65 = .ok (.iload_n 3, 1) := by decide +kernel
theorem d161_66 : decode (ix_by 161) 66 = .ok (.iaload, 1) := by decide +kernel
theorem d161_67 : decode (ix_by 161) 67 = .ok (.bipush 6, 2) := by decide +kernel
theorem d161_69 : decode (ix_by 161) 69 = .ok (.if_icmp .ne 26, 3) := by decide +kernel
theorem d161_72 : decode (ix_by 161) 72 = .ok (.aload_n 0, 1) := by decide +kernel
theorem d161_73 : decode (ix_by 161) 73 = .ok (.getfield 131, 3) := by decide +kernel
theorem d161_76 : decode (ix_by 161) 76 = .ok (.iload_n 3, 1) := by decide +kernel
theorem d161_77 : decode (ix_by 161) 77 = .ok (.iconst 4, 1) := by decide +kernel
theorem d161_78 : decode (ix_by 161) 78 = .ok (.iadd, 1) := by decide +kernel
theorem d161_79 : decode (ix_by 161) 79 = .ok (.iaload, 1) := by decide +kernel
theorem d161_80 : decode (ix_by 161) 80 = .ok (.bipush 8, 2) := by decide +kernel
theorem d161_82 : decode (ix_by 161) 82 = .ok (.aload_n 0, 1) := by decide +kernel
theorem d161_83 : decode (ix_by 161) 83 = .ok (.getfield 131, 3) := by decide +kernel
theorem d161_86 : decode (ix_by 161) 86 = .ok (.iload_n 3, 1) := by decide +kernel
theorem d161_87 : decode (ix_by 161) 87 = .ok (.iconst 3, 1) := by decide +kernel
theorem d161_88 : decode (ix_by 161) 88 = .ok (.iadd, 1) := by decide +kernel
theorem d161_89 : decode (ix_by 161) 89 = .ok (.iaload, 1) := by decide +kernel
theorem d161_90 : decode (ix_by 161) 90 = .ok (.imul, 1) := by decide +kernel
theorem d161_91 : decode (ix_by 161) 91 = .ok (.iadd, 1) := by decide +kernel
theorem d161_92 : decode (ix_by 161) 92 = .ok (.goto 11, 3) := by decide +kernel
theorem d161_95 : decode (ix_by 161) 95 = .ok (.aload_n 0, 1) := by decide +kernel
theorem d161_96 : decode (ix_by 161) 96 = .ok (.getfield 131, 3) := by decide +kernel
theorem d161_99 : decode (ix_by 161) 99 = .ok (.iload_n 3, 1) := by decide +kernel
theorem d161_100 : decode (ix_by 161) 100 = .ok (.iconst 3, 1) := by decide +kernel
theorem d161_101 : decode (ix_by 161) 101 = .ok (.iadd, 1) := by decide +kernel
theorem d161_102 : decode (ix_by 161) 102 = .ok (.iaload, 1) := by decide +kernel
theorem d161_103 : decode (ix_by 161) 103 = .ok (.ireturn, 1) := by decide +kernel
theorem d162_0 : decode (ix_by 162) 0 = .ok (.aload_n 0, 1) := by decide +kernel
theorem d162_1 : decode (ix_by 162) 1 = .ok (.iconst 0, 1) := by decide +kernel
theorem d162_2 : decode (ix_by 162) 2 = .ok (.putfield 144, 3) := by decide +kernel
theorem d162_5 : decode (ix_by 162) 5 = .ok (.aload_n 0, 1) := by decide +kernel
theorem d162_6 : decode (ix_by 162) 6 = .ok (.iload_n 1, 1) := by decide +kernel
theorem d162_7 : decode (ix_by 162) 7 = .ok (.iload_n 2, 1) := by decide +kernel
theorem d162_8 : decode (ix_by 162) 8 = .ok (.invokevirtual 174, 3) := by decide +kernel
theorem d162_11 : decode (ix_by 162) 11 = .ok (.istore_n 3, 1) := by decide +kernel
theorem d162_12 : decode (ix_by 162) 12 = .ok (.iload_n 3, 1) := by decide +kernel
theorem d162_13 : decode (ix_by 162) 13 = .ok (.ifCond .ge 7, 3) := by decide +kernel
theorem d162_16 : decode (ix_by 162) 16 = .ok (.iconst 0, 1) := by decide +kernel
theorem d162_17 : decode (ix_by 162) 17 = .ok (.goto 9, 3) := by decide +kernel
theorem d162_20 : decode (ix_by 162) 20 = .ok (.aload_n 0, 1) := by decide +kernel
theorem d162_21 : decode (ix_by 162) 21 = .ok (.getfield 38, 3) := by decide +kernel
theorem d162_24 : decode (ix_by 162) 24 = .ok (.iload_n 3, 1) := by decide +kernel
theorem d162_25 : decode (ix_by 162) 25 = .ok (.iaload, 1) := by decide +kernel
theorem d162_26 : decode (ix_by 162) 26 = .ok (.ireturn, 1) := by decide +kernel
theorem d163_0 : decode (ix_by 163) 0 = .ok (.aload_n 0, 1) := by decide +kernel
theorem d163_1 : decode (ix_by 163) 1 = .ok (.iconst 0, 1) := by decide +kernel
theorem d163_2 : decode (ix_by 163) 2 = .ok (.putfield 144, 3) := by decide +kernel
theorem d163_5 : decode (ix_by 163) 5 = .ok (.aload_n 0, 1) := by decide +kernel
theorem d163_6 : decode (ix_by 163) 6 = .ok (.iload_n 1, 1) := by decide +kernel
theorem d163_7 : decode (ix_by 163) 7 = .ok (.iload_n 2, 1) := by decide +kernel
theorem d163_8 : decode (ix_by 163) 8 = .ok (.invokevirtual 174, 3) := by decide +kernel
theorem d163_11 : decode (ix_by 163) 11 = .ok (.istore_n 3, 1) := by decide +kernel
theorem d163_12 : decode (ix_by 163) 12 = .ok (.iload_n 3, 1) := by decide +kernel
theorem d163_13 : decode (ix_by 163) 13 = .ok (.ifCond .ge 7, 3) := by decide +kernel
theorem d163_16 : decode (ix_by 163) 16 = .ok (.iconst 0, 1) := by decide +kernel
theorem d163_17 : decode (ix_by 163) 17 = .ok (.goto 9, 3) := by decide +kernel
theorem d163_20 : decode (ix_by 163) 20 = .ok (.aload_n 0, 1) := by decide +kernel
theorem d163_21 : decode (ix_by 163) 21 = .ok (.getfield 68, 3) := by decide +kernel
theorem d163_24 : decode (ix_by 163) 24 = .ok (.iload_n 3, 1) := by decide +kernel
theorem d163_25 : decode (ix_by 163) 25 = .ok (.iaload, 1) := by decide +kernel
theorem d163_26 : decode (ix_by 163) 26 = .ok (.ireturn, 1) := by decide +kernel
theorem d164_0 : decode (ix_by 164) 0 = .ok (.aload_n 0, 1) := by decide +kernel
theorem d164_1 : decode (ix_by 164) 1 = .ok (.iconst 0, 1) := by decide +kernel
theorem d164_2 : decode (ix_by 164) 2 = .ok (.putfield 144, 3) := by decide +kernel
theorem d164_5 : decode (ix_by 164) 5 = .ok (.aload_n 0, 1) := by decide +kernel
theorem d164_6 : decode (ix_by 164) 6 = .ok (.iload_n 1, 1) := by decide +kernel
theorem d164_7 : decode (ix_by 164) 7 = .ok (.iload_n 2, 1) := by decide +kernel
theorem d164_8 : decode (ix_by 164) 8 = .ok (.invokevirtual 174, 3) := by decide +kernel
theorem d164_11 : decode (ix_by 164) 11 = .ok (.istore_n 3, 1) := by decide +kernel
theorem d164_12 : decode (ix_by 164) 12 = .ok (.iload_n 3, 1) := by decide +kernel
theorem d164_13 : decode (ix_by 164) 13 = .ok (.ifCond .ge 7, 3) := by decide +kernel
theorem d164_16 : decode (ix_by 164) 16 = .ok (.iconst 0, 1) := by decide +kernel
theorem d164_17 : decode (ix_by 164) 17 = .ok (.goto 9, 3) := by decide +kernel
theorem d164_20 : decode (ix_by 164) 20 = .ok (.aload_n 0, 1) := by decide +kernel
theorem d164_21 : decode (ix_by 164) 21 = .ok (.getfield 71, 3) := by decide +kernel
theorem d164_24 : decode (ix_by 164) 24 = .ok (.iload_n 3, 1) := by decide +kernel
theorem d164_25 : decode (ix_by 164) 25 = .ok (.iaload, 1) := by decide +kernel
theorem d164_26 : decode (ix_by 164) 26 = .ok (.ireturn, 1) := by decide +kernel
end
section
/-! ===== the abstract heap: what lies at an address (0: nothing of ours; k + 1: an object of class k; 100 + t: an array of kind t; 200 + t: one that nobody writes), an array's length, ints, longs, references, the next address, the slots in use ===== -/
abbrev ix_H : Type := (Nat → Nat) × (Nat → Nat) × (Nat → Nat → Int32) × (Nat → Nat → Int64) × (Nat → Nat → Option Nat) × Nat × Nat
def ix_tg (h : ix_H) (a : Nat) : Nat := h.1 a
def ix_ln (h : ix_H) (a : Nat) : Nat := h.2.1 a
def ix_i (h : ix_H) (a k : Nat) : Int32 := h.2.2.1 a k
def ix_l (h : ix_H) (a k : Nat) : Int64 := h.2.2.2.1 a k
def ix_r (h : ix_H) (a k : Nat) : Option Nat := h.2.2.2.2.1 a k
def ix_nx (h : ix_H) : Nat := h.2.2.2.2.2.1
def ix_us (h : ix_H) : Nat := h.2.2.2.2.2.2
def ix_up2 {α : Type} (f : Nat → Nat → α) (a k : Nat) (x : α) : Nat → Nat → α := fun b j => if b = a ∧ j = k then x else f b j
def ix_si (h : ix_H) (a k : Nat) (x : Int32) : ix_H := (h.1, h.2.1, ix_up2 h.2.2.1 a k x, h.2.2.2)
def ix_sl (h : ix_H) (a k : Nat) (x : Int64) : ix_H := (h.1, h.2.1, h.2.2.1, ix_up2 h.2.2.2.1 a k x, h.2.2.2.2)
def ix_sr (h : ix_H) (a k : Nat) (x : Option Nat) : ix_H := (h.1, h.2.1, h.2.2.1, h.2.2.2.1, ix_up2 h.2.2.2.2.1 a k x, h.2.2.2.2.2)
/-- a new cell: its tag, length, slots -/
def ix_nw (h : ix_H) (tg n w : Nat) : ix_H := (va_up h.1 (ix_nx h) tg, va_up h.2.1 (ix_nx h) n, va_up h.2.2.1 (ix_nx h) (fun _ => 0), va_up h.2.2.2.1 (ix_nx h) (fun _ => 0), va_up h.2.2.2.2.1 (ix_nx h) (fun _ => none), ix_nx h + 1, ix_us h + w)
theorem ix_i_si (h : ix_H) (a k : Nat) (x : Int32) (b j : Nat) : ix_i (ix_si h a k x) b j = if b = a ∧ j = k then x else ix_i h b j := rfl
theorem ix_l_si (h : ix_H) (a k : Nat) (x : Int32) (b j : Nat) : ix_l (ix_si h a k x) b j = ix_l h b j := rfl
theorem ix_r_si (h : ix_H) (a k : Nat) (x : Int32) (b j : Nat) : ix_r (ix_si h a k x) b j = ix_r h b j := rfl
theorem ix_tg_si (h : ix_H) (a k : Nat) (x : Int32) (b : Nat) : ix_tg (ix_si h a k x) b = ix_tg h b := rfl
theorem ix_ln_si (h : ix_H) (a k : Nat) (x : Int32) (b : Nat) : ix_ln (ix_si h a k x) b = ix_ln h b := rfl
theorem ix_nx_si (h : ix_H) (a k : Nat) (x : Int32) : ix_nx (ix_si h a k x) = ix_nx h := rfl
theorem ix_us_si (h : ix_H) (a k : Nat) (x : Int32) : ix_us (ix_si h a k x) = ix_us h := rfl
theorem ix_i_sl (h : ix_H) (a k : Nat) (x : Int64) (b j : Nat) : ix_i (ix_sl h a k x) b j = ix_i h b j := rfl
theorem ix_l_sl (h : ix_H) (a k : Nat) (x : Int64) (b j : Nat) : ix_l (ix_sl h a k x) b j = if b = a ∧ j = k then x else ix_l h b j := rfl
theorem ix_r_sl (h : ix_H) (a k : Nat) (x : Int64) (b j : Nat) : ix_r (ix_sl h a k x) b j = ix_r h b j := rfl
theorem ix_tg_sl (h : ix_H) (a k : Nat) (x : Int64) (b : Nat) : ix_tg (ix_sl h a k x) b = ix_tg h b := rfl
theorem ix_ln_sl (h : ix_H) (a k : Nat) (x : Int64) (b : Nat) : ix_ln (ix_sl h a k x) b = ix_ln h b := rfl
theorem ix_nx_sl (h : ix_H) (a k : Nat) (x : Int64) : ix_nx (ix_sl h a k x) = ix_nx h := rfl
theorem ix_us_sl (h : ix_H) (a k : Nat) (x : Int64) : ix_us (ix_sl h a k x) = ix_us h := rfl
theorem ix_i_sr (h : ix_H) (a k : Nat) (x : Option Nat) (b j : Nat) : ix_i (ix_sr h a k x) b j = ix_i h b j := rfl
theorem ix_l_sr (h : ix_H) (a k : Nat) (x : Option Nat) (b j : Nat) : ix_l (ix_sr h a k x) b j = ix_l h b j := rfl
theorem ix_r_sr (h : ix_H) (a k : Nat) (x : Option Nat) (b j : Nat) : ix_r (ix_sr h a k x) b j = if b = a ∧ j = k then x else ix_r h b j := rfl
theorem ix_tg_sr (h : ix_H) (a k : Nat) (x : Option Nat) (b : Nat) : ix_tg (ix_sr h a k x) b = ix_tg h b := rfl
theorem ix_ln_sr (h : ix_H) (a k : Nat) (x : Option Nat) (b : Nat) : ix_ln (ix_sr h a k x) b = ix_ln h b := rfl
theorem ix_nx_sr (h : ix_H) (a k : Nat) (x : Option Nat) : ix_nx (ix_sr h a k x) = ix_nx h := rfl
theorem ix_us_sr (h : ix_H) (a k : Nat) (x : Option Nat) : ix_us (ix_sr h a k x) = ix_us h := rfl
theorem ix_i_nw (h : ix_H) (t n w b j : Nat) : ix_i (ix_nw h t n w) b j = if b = ix_nx h then 0 else ix_i h b j := by
  simp only [ix_i, ix_nw, va_up]
  split <;> rfl
theorem ix_l_nw (h : ix_H) (t n w b j : Nat) : ix_l (ix_nw h t n w) b j = if b = ix_nx h then 0 else ix_l h b j := by
  simp only [ix_l, ix_nw, va_up]
  split <;> rfl
theorem ix_r_nw (h : ix_H) (t n w b j : Nat) : ix_r (ix_nw h t n w) b j = if b = ix_nx h then none else ix_r h b j := by
  simp only [ix_r, ix_nw, va_up]
  split <;> rfl
theorem ix_tg_nw (h : ix_H) (t n w b : Nat) : ix_tg (ix_nw h t n w) b = if b = ix_nx h then t else ix_tg h b := rfl
theorem ix_ln_nw (h : ix_H) (t n w b : Nat) : ix_ln (ix_nw h t n w) b = if b = ix_nx h then n else ix_ln h b := rfl
theorem ix_nx_nw (h : ix_H) (t n w : Nat) : ix_nx (ix_nw h t n w) = ix_nx h + 1 := rfl
theorem ix_us_nw (h : ix_H) (t n w : Nat) : ix_us (ix_nw h t n w) = ix_us h + w := rfl
/-- a place's value, by its kind (0: an int, 1: a long, 2: a reference) -/
def ix_v (h : ix_H) (kd a j : Nat) : Value := match kd with
  | 0 => .int (ix_i h a j)
  | 1 => .long (ix_l h a j)
  | _ => va_rf (ix_r h a j)
def ix_kd (t : FieldType) : Nat := match t with
  | .long => 1
  | .object _ => 2
  | .array _ => 2
  | _ => 0
/-- the run's fixed things: the classes' numbers and slots, the array classes, the first address that is ours, ArrayList's empty array, the Class object of Object[] -/
abbrev ix_G : Type := va_G × (Nat → ClassId) × Nat × Nat × Nat
def ix_A (G : ix_G) : Nat → Prop := fun q => G.2.2.1 ≤ q
def ix_arr (G : ix_G) (h : ix_H) (t a : Nat) : Cell := arrV (G.2.1 t) (ix_ln h a) (fun j => ix_v h (ix_kd (ix_at t)) a j)
/-- the machine's heap holds the abstract one -/
def ix_R (G : ix_G) (h : ix_H) (H : Heap) : Prop := ix_nx h = H.size ∧ G.2.2.1 ≤ H.size ∧
  (∀ a k, ix_tg h a = k + 1 → k < 10 → ix_A G a ∧ t_OB a (G.1.1 k) (ix_nf k) (G.1.2 k) H (fun j => ix_v h (ix_kd (ix_ty k j)) a j)) ∧
  (∀ a t, ix_tg h a = 100 + t → t < 8 → ix_A G a ∧ H[a]? = some (ix_arr G h t a)) ∧
  (∀ a t, ix_tg h a = 200 + t → t < 8 → H[a]? = some (ix_arr G h t a))
theorem ix_R.lt {G : ix_G} {h : ix_H} {H : Heap} (hR : ix_R G h H) {a : Nat} (ht : (∃ k, k < 10 ∧ ix_tg h a = k + 1) ∨ (∃ t, t < 8 ∧ ix_tg h a = 100 + t)) : a < ix_nx h := by
  rw [hR.1]
  rcases ht with ⟨k, hk, e⟩ | ⟨t, hk, e⟩
  · obtain ⟨-, cell, q, -⟩ := hR.2.2.1 a k e hk
    exact (Array.getElem?_eq_some_iff.mp q).1
  · exact (Array.getElem?_eq_some_iff.mp (hR.2.2.2.1 a t e hk).2).1
/-- which words are carried through calls -/
def ix_mv (w : Cond) : Bool := match w with
  | .fieldLinkNest .. => true
  | .methodLinkNest .. => true
  | .castable .. => true
  | .declares .. => true
  | .arrayClass _ => false
  | w => w.onTables && w.keeps
def ix_words : List Cond := lw_tbl.filter ix_mv
theorem ix_in {w : Cond} (i : Nat) (h : lw_tbl[i]? = some w) (hm : ix_mv w = true) : w ∈ ix_words := List.mem_filter.mpr ⟨List.mem_of_getElem? h, hm⟩
theorem ix_onT {w : Cond} (h : ix_mv w = true) : w.onTables = true := by
  cases w <;> first | rfl | (simp [ix_mv, Cond.onTables] at h)
theorem ix_moveW {w : Cond} (hm : ix_mv w = true) {s U : State} (hW : s.WarmedH U.vm) (h : va_Nw w s) : va_Nw w U := by
  cases w with
  | fieldLinkNest => exact va_Nw.warmF hW h
  | methodLinkNest => exact va_Nw.warmM hW h
  | castable => exact va_Nw.warmC hW h
  | declares => exact va_Nw.warmD hW h
  | arrayClass => cases hm
  | _ => exact word_at hW (Or.inl hm) h
/-- the array classes -/
def ix_tys (G : ix_G) : List (ClassId × FieldType) := (List.range 8).map (fun t => (G.2.1 t, ix_at t))
/-- what holds at every method's entry -/
def ix_KU (G : ix_G) (U : State) : Prop := (∀ w ∈ ix_words, va_Nw w U) ∧ va_K G.1 ix_cl (ix_tys G) U ∧ G.2.2.1 ≤ U.heap.size ∧
  va_Z "java/util/ArrayList" "DEFAULTCAPACITY_EMPTY_ELEMENTDATA" "[Ljava/lang/Object;" (.ref G.2.2.2.1) (ix_A G) U U.heap ∧
  va_Mi "[Ljava/lang/Object;" G.2.2.2.2 U ∧ va_AO "FileDelivery$Side" U ∧ va_AO "FileDelivery$Unit" U ∧ va_AO "java/lang/Object" U
theorem ix_KU.moved {G : ix_G} {s U : State} (h : ix_KU G s) (hW : s.WarmedH U.vm) {locs : List Loc} (hS : va_S (ix_A G) s.heap U.heap locs) : ix_KU G U := by
  obtain ⟨h1, h2, h3, h4, h5, h6, h7, h8⟩ := h
  have hal := hW.alike
  refine ⟨fun w hw => ix_moveW (List.mem_filter.mp hw).2 hW (h1 w hw), va_K.moved hal h2, Nat.le_trans h3 hS.1, (va_Z.moved hal h4).kept hS.2.1, va_Mi.moved hal h5, va_AO.moved hal h6, va_AO.moved hal h7, va_AO.moved hal h8⟩
theorem ix_KU.calling {G : ix_G} {U : State} {g : JFrame} {mk : MethodId} {a : Array Value} (h : ix_KU G U) : ix_KU G (U.calling g mk a) := by
  obtain ⟨h1, h2, h3, h4, h5, h6, h7, h8⟩ := h
  have hv : U.vm.Alike (U.calling g mk a).vm := Vm.Alike.refl U.vm
  exact ⟨fun w hw => va_Nw.same (ix_onT (List.mem_filter.mp hw).2) (rfl : U.vm = (U.calling g mk a).vm) (h1 w hw), va_K.moved hv h2, h3, va_Z.moved hv h4, va_Mi.moved hv h5, va_AO.moved hv h6, va_AO.moved hv h7, va_AO.moved hv h8⟩
/-- the context of a walk in method m -/
def ix_Cx (G : ix_G) (m : Nat) (p : Program) (l : Launch) (R : Room) (s : State) (mid : MethodId) (meth : Method) (c : Code) : Prop :=
  p.tables.exec = Jvm.exec ∧ c.code = ix_by m ∧ c.maxLocals = ix_mL m ∧ meth.sig.returnType = ix_rt m ∧ meth.locks = false ∧ s.vm.findClass (ix_own m) = some mid.cls ∧ meth.name = (ix_y m).name ∧ ix_fr m ≤ R.frames ∧ ix_lo m ≤ R.locals ∧ ix_KU G s
theorem ix_Cx.w {G : ix_G} {m : Nat} {p : Program} {l : Launch} {R : Room} {s : State} {mid : MethodId} {meth : Method} {c : Code} (C : ix_Cx G m p l R s mid meth c) {w : Cond} (hw : w ∈ ix_words) (args : Array Value) : w.before args s = true := va_Nw.use (ix_onT (List.mem_filter.mp hw).2) (C.2.2.2.2.2.2.2.2.2.1 w hw)
/-- how a method ends -/
abbrev ix_O : Type := Option Value
def ix_Q (G : ix_G) (r : ix_O) (h' : ix_H) : Array Value → State → Outcome → State → Prop := fun _ st oc t => oc = .returned r ∧ ix_R G h' t.heap ∧ va_F (ix_A G) st t
/-- THE JUDGEMENT: from the frame at pc of method m, with these locals, stack and heap, the method answers r, with the heap h' -/
def ix_Ev (G : ix_G) (m pc : Nat) (lv : List (Nat × Value)) (st : List Value) (h : ix_H) (r : ix_O) (h' : ix_H) : Prop :=
  (ix_nx h ≤ ix_nx h' ∧ ix_us h ≤ ix_us h') ∧ ∀ (p : Program) (l : Launch) (e : Env) (R : Room) (s : State) (mid : MethodId) (args : Array Value) (below : List Frame) (meth : Method) (c : Code), ix_Cx G m p l R s mid meth c →
    ∀ (H : Heap) (locs : List Loc) (cells slots : Nat) (ls : Array Slot), ix_R G h H → va_S (ix_A G) s.heap H locs → lv_has ls (ix_mL m) lv → cells + (ix_nx h' - ix_nx h) ≤ R.cells → slots + (ix_us h' - ix_us h) ≤ R.slots →
      W p l e R s mid args below meth c H locs cells slots (MQ below (ix_Q G r h') args s (cells + (ix_nx h' - ix_nx h)) (slots + (ix_us h' - ix_us h)) (ix_A G)) (F0 mid pc ls st)
end
section
/-! ===== rows of the judgement: what the heap isn't asked for ===== -/
section IX1
variable {G : ix_G} {m pc : Nat} {lv : List (Nat × Value)} {st : List Value} {h h' : ix_H} {r : ix_O}
theorem ix_lk {ls : Array Slot} {nL i : Nat} {lv : List (Nat × Value)} {v : Value} (h : lv_has ls nL lv) (hl : lv.lookup i = some v) : ls[i]? = some (.val v) := by
  have hm : (i, v) ∈ lv := by
    clear h
    induction lv with
    | nil => cases hl
    | cons q t ih =>
      obtain ⟨a, b⟩ := q
      simp only [List.lookup] at hl
      split at hl
      · rename_i e
        have e1 : i = a := by simpa using e
        cases hl
        rw [e1]
        exact List.mem_cons_self
      · exact List.mem_cons_of_mem _ (ih hl)
  exact h.2.2 _ hm
theorem ix_go {pc' : Nat} {st' : List Value} (hW : ∀ (p : Program) (l : Launch) (e : Env) (R : Room) (s : State) (mid : MethodId) (args : Array Value) (below : List Frame) (meth : Method) (c : Code) (H : Heap) (locs : List Loc) (cells slots : Nat) (Q : State → Prop) (ls : Array Slot), p.tables.exec = Jvm.exec → c.code = ix_by m → lv_has ls (ix_mL m) lv → W p l e R s mid args below meth c H locs cells slots Q (F0 mid pc' ls st') → W p l e R s mid args below meth c H locs cells slots Q (F0 mid pc ls st))
    (k : ix_Ev G m pc' lv st' h r h') : ix_Ev G m pc lv st h r h' :=
  ⟨k.1, fun p l e R s mid args below meth c C H locs cells slots ls hR hS hl hc hs => hW p l e R s mid args below meth c H locs cells slots _ ls C.1 C.2.1 hl (k.2 p l e R s mid args below meth c C H locs cells slots ls hR hS hl hc hs)⟩
theorem ix_iconst {n : Int} (v : Int32) (hd : decode (ix_by m) pc = .ok (.iconst n, 1)) (hv : Int32.ofInt n = v) (k : ix_Ev G m (pc + 1) lv (.int v :: st) h r h') : ix_Ev G m pc lv st h r h' := ix_go (fun p l e R s mid args below meth c H locs cells slots Q ls hx hb hl k => lv_iconst hx hb hd hv k) k
theorem ix_bipush {n : Int} (v : Int32) (hd : decode (ix_by m) pc = .ok (.bipush n, 2)) (hv : (Int8.ofInt n).toInt32 = v) (k : ix_Ev G m (pc + 2) lv (.int v :: st) h r h') : ix_Ev G m pc lv st h r h' := ix_go (fun p l e R s mid args below meth c H locs cells slots Q ls hx hb hl k => lv_bipush hx hb hd hv k) k
theorem ix_sipush {n : Int} (v : Int32) (hd : decode (ix_by m) pc = .ok (.sipush n, 3)) (hv : (Int16.ofInt n).toInt32 = v) (k : ix_Ev G m (pc + 3) lv (.int v :: st) h r h') : ix_Ev G m pc lv st h r h' := ix_go (fun p l e R s mid args below meth c H locs cells slots Q ls hx hb hl k => lv_sipush hx hb hd hv k) k
theorem ix_lconst {n : Fin 2} (v : Int64) (hd : decode (ix_by m) pc = .ok (.lconst n, 1)) (hv : Int64.ofNat (n : Nat) = v) (k : ix_Ev G m (pc + 1) lv (.long v :: st) h r h') : ix_Ev G m pc lv st h r h' := ix_go (fun p l e R s mid args below meth c H locs cells slots Q ls hx hb hl k => lv_lconst hx hb hd hv k) k
theorem ix_null (hd : decode (ix_by m) pc = .ok (.aconst_null, 1)) (k : ix_Ev G m (pc + 1) lv (.null :: st) h r h') : ix_Ev G m pc lv st h r h' := ix_go (fun p l e R s mid args below meth c H locs cells slots Q ls hx hb hl k => lv_null hx hb hd k) k
theorem ix_iload_n {i : Fin 4} {x : Int32} (hd : decode (ix_by m) pc = .ok (.iload_n i, 1)) (hl : lv.lookup (i : Nat) = some (.int x)) (k : ix_Ev G m (pc + 1) lv (.int x :: st) h r h') : ix_Ev G m pc lv st h r h' := ix_go (fun p l e R s mid args below meth c H locs cells slots Q ls hx hb h2 k => lv_iload_n hx hb hd rfl (ix_lk h2 hl) k) k
theorem ix_iload {i : Nat} {x : Int32} (hd : decode (ix_by m) pc = .ok (.iload i, 2)) (hl : lv.lookup i = some (.int x)) (k : ix_Ev G m (pc + 2) lv (.int x :: st) h r h') : ix_Ev G m pc lv st h r h' := ix_go (fun p l e R s mid args below meth c H locs cells slots Q ls hx hb h2 k => lv_iload hx hb hd (ix_lk h2 hl) k) k
theorem ix_lload_n {i : Fin 4} {x : Int64} (hd : decode (ix_by m) pc = .ok (.lload_n i, 1)) (hl : lv.lookup (i : Nat) = some (.long x)) (k : ix_Ev G m (pc + 1) lv (.long x :: st) h r h') : ix_Ev G m pc lv st h r h' := ix_go (fun p l e R s mid args below meth c H locs cells slots Q ls hx hb h2 k => lv_lload_n hx hb hd rfl (ix_lk h2 hl) k) k
theorem ix_lload {i : Nat} {x : Int64} (hd : decode (ix_by m) pc = .ok (.lload i, 2)) (hl : lv.lookup i = some (.long x)) (k : ix_Ev G m (pc + 2) lv (.long x :: st) h r h') : ix_Ev G m pc lv st h r h' := ix_go (fun p l e R s mid args below meth c H locs cells slots Q ls hx hb h2 k => lv_lload hx hb hd (ix_lk h2 hl) k) k
theorem ix_aload_n {i : Fin 4} {x : Nat} (hd : decode (ix_by m) pc = .ok (.aload_n i, 1)) (hl : lv.lookup (i : Nat) = some (.ref x)) (k : ix_Ev G m (pc + 1) lv (.ref x :: st) h r h') : ix_Ev G m pc lv st h r h' := ix_go (fun p l e R s mid args below meth c H locs cells slots Q ls hx hb h2 k => lv_aload_n hx hb hd rfl (ix_lk h2 hl) k) k
theorem ix_aload {i : Nat} {x : Nat} (hd : decode (ix_by m) pc = .ok (.aload i, 2)) (hl : lv.lookup i = some (.ref x)) (k : ix_Ev G m (pc + 2) lv (.ref x :: st) h r h') : ix_Ev G m pc lv st h r h' := ix_go (fun p l e R s mid args below meth c H locs cells slots Q ls hx hb h2 k => lv_aload hx hb hd (ix_lk h2 hl) k) k
theorem ix_aload_nN {i : Fin 4} (hd : decode (ix_by m) pc = .ok (.aload_n i, 1)) (hl : lv.lookup (i : Nat) = some .null) (k : ix_Ev G m (pc + 1) lv (.null :: st) h r h') : ix_Ev G m pc lv st h r h' := ix_go (fun p l e R s mid args below meth c H locs cells slots Q ls hx hb h2 k => lv_aload_nN hx hb hd rfl (ix_lk h2 hl) k) k
theorem ix_aloadN {i : Nat} (hd : decode (ix_by m) pc = .ok (.aload i, 2)) (hl : lv.lookup i = some .null) (k : ix_Ev G m (pc + 2) lv (.null :: st) h r h') : ix_Ev G m pc lv st h r h' := ix_go (fun p l e R s mid args below meth c H locs cells slots Q ls hx hb h2 k => lv_aloadN hx hb hd (ix_lk h2 hl) k) k
theorem ix_iadd {x y : Int32} (hd : decode (ix_by m) pc = .ok (.iadd, 1)) (k : ix_Ev G m (pc + 1) lv (.int (x + y) :: st) h r h') : ix_Ev G m pc lv (.int y :: .int x :: st) h r h' := ix_go (fun p l e R s mid args below meth c H locs cells slots Q ls hx hb hl k => lv_iadd hx hb hd k) k
theorem ix_isub {x y : Int32} (hd : decode (ix_by m) pc = .ok (.isub, 1)) (k : ix_Ev G m (pc + 1) lv (.int (x - y) :: st) h r h') : ix_Ev G m pc lv (.int y :: .int x :: st) h r h' := ix_go (fun p l e R s mid args below meth c H locs cells slots Q ls hx hb hl k => lv_isub hx hb hd k) k
theorem ix_imul {x y : Int32} (hd : decode (ix_by m) pc = .ok (.imul, 1)) (k : ix_Ev G m (pc + 1) lv (.int (x * y) :: st) h r h') : ix_Ev G m pc lv (.int y :: .int x :: st) h r h' := ix_go (fun p l e R s mid args below meth c H locs cells slots Q ls hx hb hl k => lv_imul hx hb hd k) k
theorem ix_iand {x y : Int32} (hd : decode (ix_by m) pc = .ok (.iand, 1)) (k : ix_Ev G m (pc + 1) lv (.int (x &&& y) :: st) h r h') : ix_Ev G m pc lv (.int y :: .int x :: st) h r h' := ix_go (fun p l e R s mid args below meth c H locs cells slots Q ls hx hb hl k => lv_iand hx hb hd k) k
theorem ix_ior {x y : Int32} (hd : decode (ix_by m) pc = .ok (.ior, 1)) (k : ix_Ev G m (pc + 1) lv (.int (x ||| y) :: st) h r h') : ix_Ev G m pc lv (.int y :: .int x :: st) h r h' := ix_go (fun p l e R s mid args below meth c H locs cells slots Q ls hx hb hl k => lv_ior hx hb hd k) k
theorem ix_ixor {x y : Int32} (hd : decode (ix_by m) pc = .ok (.ixor, 1)) (k : ix_Ev G m (pc + 1) lv (.int (x ^^^ y) :: st) h r h') : ix_Ev G m pc lv (.int y :: .int x :: st) h r h' := ix_go (fun p l e R s mid args below meth c H locs cells slots Q ls hx hb hl k => lv_ixor hx hb hd k) k
theorem ix_idiv {x y : Int32} (hd : decode (ix_by m) pc = .ok (.idiv, 1)) (hne : ¬ y = 0) (k : ix_Ev G m (pc + 1) lv (.int (x / y) :: st) h r h') : ix_Ev G m pc lv (.int y :: .int x :: st) h r h' := ix_go (fun p l e R s mid args below meth c H locs cells slots Q ls hx hb hl k => lv_idiv hx hb hd hne k) k
theorem ix_irem {x y : Int32} (hd : decode (ix_by m) pc = .ok (.irem, 1)) (hne : ¬ y = 0) (k : ix_Ev G m (pc + 1) lv (.int (x - x / y * y) :: st) h r h') : ix_Ev G m pc lv (.int y :: .int x :: st) h r h' := ix_go (fun p l e R s mid args below meth c H locs cells slots Q ls hx hb hl k => lv_irem hx hb hd hne k) k
theorem ix_ineg {x : Int32} (hd : decode (ix_by m) pc = .ok (.ineg, 1)) (k : ix_Ev G m (pc + 1) lv (.int (-x) :: st) h r h') : ix_Ev G m pc lv (.int x :: st) h r h' := ix_go (fun p l e R s mid args below meth c H locs cells slots Q ls hx hb hl k => lv_ineg hx hb hd k) k
theorem ix_ishl {x y : Int32} (hd : decode (ix_by m) pc = .ok (.ishl, 1)) (k : ix_Ev G m (pc + 1) lv (.int (x <<< (y &&& 31)) :: st) h r h') : ix_Ev G m pc lv (.int y :: .int x :: st) h r h' := ix_go (fun p l e R s mid args below meth c H locs cells slots Q ls hx hb hl k => lv_ishl hx hb hd k) k
theorem ix_ishr {x y : Int32} (hd : decode (ix_by m) pc = .ok (.ishr, 1)) (k : ix_Ev G m (pc + 1) lv (.int (x >>> (y &&& 31)) :: st) h r h') : ix_Ev G m pc lv (.int y :: .int x :: st) h r h' := ix_go (fun p l e R s mid args below meth c H locs cells slots Q ls hx hb hl k => lv_ishr hx hb hd k) k
theorem ix_land {x y : Int64} (hd : decode (ix_by m) pc = .ok (.land, 1)) (k : ix_Ev G m (pc + 1) lv (.long (x &&& y) :: st) h r h') : ix_Ev G m pc lv (.long y :: .long x :: st) h r h' := ix_go (fun p l e R s mid args below meth c H locs cells slots Q ls hx hb hl k => lv_land hx hb hd k) k
theorem ix_lor {x y : Int64} (hd : decode (ix_by m) pc = .ok (.lor, 1)) (k : ix_Ev G m (pc + 1) lv (.long (x ||| y) :: st) h r h') : ix_Ev G m pc lv (.long y :: .long x :: st) h r h' := ix_go (fun p l e R s mid args below meth c H locs cells slots Q ls hx hb hl k => lv_lor hx hb hd k) k
theorem ix_lshl {x : Int64} {y : Int32} (hd : decode (ix_by m) pc = .ok (.lshl, 1)) (k : ix_Ev G m (pc + 1) lv (.long (x <<< (y.toInt64 &&& 63)) :: st) h r h') : ix_Ev G m pc lv (.int y :: .long x :: st) h r h' := ix_go (fun p l e R s mid args below meth c H locs cells slots Q ls hx hb hl k => lv_lshl hx hb hd rfl k) k
theorem ix_lshr {x : Int64} {y : Int32} (hd : decode (ix_by m) pc = .ok (.lshr, 1)) (k : ix_Ev G m (pc + 1) lv (.long (x >>> (y.toInt64 &&& 63)) :: st) h r h') : ix_Ev G m pc lv (.int y :: .long x :: st) h r h' := ix_go (fun p l e R s mid args below meth c H locs cells slots Q ls hx hb hl k => lv_lshr hx hb hd rfl k) k
theorem ix_i2l {x : Int32} (hd : decode (ix_by m) pc = .ok (.i2l, 1)) (k : ix_Ev G m (pc + 1) lv (.long x.toInt64 :: st) h r h') : ix_Ev G m pc lv (.int x :: st) h r h' := ix_go (fun p l e R s mid args below meth c H locs cells slots Q ls hx hb hl k => lv_i2l hx hb hd rfl k) k
theorem ix_l2i {x : Int64} (hd : decode (ix_by m) pc = .ok (.l2i, 1)) (k : ix_Ev G m (pc + 1) lv (.int x.toInt32 :: st) h r h') : ix_Ev G m pc lv (.long x :: st) h r h' := ix_go (fun p l e R s mid args below meth c H locs cells slots Q ls hx hb hl k => lv_l2i hx hb hd rfl k) k
theorem ix_i2b {x : Int32} (hd : decode (ix_by m) pc = .ok (.i2b, 1)) (k : ix_Ev G m (pc + 1) lv (.int x.toInt8.toInt32 :: st) h r h') : ix_Ev G m pc lv (.int x :: st) h r h' := ix_go (fun p l e R s mid args below meth c H locs cells slots Q ls hx hb hl k => lv_i2b hx hb hd rfl k) k
theorem ix_dup {v : Value} (hd : decode (ix_by m) pc = .ok (.dup, 1)) (hv : v.category = 1) (k : ix_Ev G m (pc + 1) lv (v :: v :: st) h r h') : ix_Ev G m pc lv (v :: st) h r h' := ix_go (fun p l e R s mid args below meth c H locs cells slots Q ls hx hb hl k => lv_dup hx hb hd hv k) k
theorem ix_pop {v : Value} (hd : decode (ix_by m) pc = .ok (.pop, 1)) (hv : v.category = 1) (k : ix_Ev G m (pc + 1) lv st h r h') : ix_Ev G m pc lv (v :: st) h r h' := ix_go (fun p l e R s mid args below meth c H locs cells slots Q ls hx hb hl k => lv_pop hx hb hd hv k) k
theorem ix_dup_x1 {v w : Value} (hd : decode (ix_by m) pc = .ok (.dup_x1, 1)) (hv : v.category = 1) (hw : w.category = 1) (k : ix_Ev G m (pc + 1) lv (v :: w :: v :: st) h r h') : ix_Ev G m pc lv (v :: w :: st) h r h' := ix_go (fun p l e R s mid args below meth c H locs cells slots Q ls hx hb hl k => lv_dup_x1 hx hb hd hv hw k) k
theorem ix_dup2 {v w : Value} (hd : decode (ix_by m) pc = .ok (.dup2, 1)) (hv : v.category = 1) (hw : w.category = 1) (k : ix_Ev G m (pc + 1) lv (v :: w :: v :: w :: st) h r h') : ix_Ev G m pc lv (v :: w :: st) h r h' := ix_go (fun p l e R s mid args below meth c H locs cells slots Q ls hx hb hl k => lv_dup2_11 hx hb hd hv hw k) k
theorem ix_goto {off : Int} (tgt : Nat) (hd : decode (ix_by m) pc = .ok (.goto off, 3)) (ht : (pc : Int) + off = (tgt : Int)) (k : ix_Ev G m tgt lv st h r h') : ix_Ev G m pc lv st h r h' := ix_go (fun p l e R s mid args below meth c H locs cells slots Q ls hx hb hl k => lv_goto hx hb hd ht k) k
theorem ix_ldc {i : Nat} {v : Int32} (hd : decode (ix_by m) pc = .ok (.ldc i, 2)) (hw : Cond.constant (ix_own m) i v ∈ ix_words) (k : ix_Ev G m (pc + 2) lv (.int v :: st) h r h') : ix_Ev G m pc lv st h r h' :=
  ⟨k.1, fun p l e R s mid args below meth c C H locs cells slots ls hR hS hl hc hs => lv_ldc C.1 C.2.1 C.2.2.2.2.2.1 (C.w hw args) hd (k.2 p l e R s mid args below meth c C H locs cells slots ls hR hS hl hc hs)⟩
theorem ix_ldc2 {i : Nat} {v : Int64} (hd : decode (ix_by m) pc = .ok (.ldc2_w i, 3)) (hw : Cond.constantLong (ix_own m) i v ∈ ix_words) (k : ix_Ev G m (pc + 3) lv (.long v :: st) h r h') : ix_Ev G m pc lv st h r h' :=
  ⟨k.1, fun p l e R s mid args below meth c C H locs cells slots ls hR hS hl hc hs => lv_ldc2 C.1 C.2.1 C.2.2.2.2.2.1 (C.w hw args) hd (k.2 p l e R s mid args below meth c C H locs cells slots ls hR hS hl hc hs)⟩
/-- locals are written -/
def ix_set (lv : List (Nat × Value)) (i : Nat) (v : Value) : List (Nat × Value) := (i, v) :: lv.filter (fun q => !(q.1 == i) && !(q.1 + 1 == i && q.2.category == 2))
def ix_set2 (lv : List (Nat × Value)) (i : Nat) (v : Value) : List (Nat × Value) := (i, v) :: lv.filter (fun q => !(q.1 == i) && (!(q.1 == i + 1) && !(q.1 + 1 == i && q.2.category == 2)))
theorem ix_goL {pc' : Nat} {lv' : List (Nat × Value)} {st' : List Value} (hW : ∀ (p : Program) (l : Launch) (e : Env) (R : Room) (s : State) (mid : MethodId) (args : Array Value) (below : List Frame) (meth : Method) (c : Code) (H : Heap) (locs : List Loc) (cells slots : Nat) (Q : State → Prop) (ls : Array Slot), p.tables.exec = Jvm.exec → c.code = ix_by m → lv_has ls (ix_mL m) lv → (∀ ls' : Array Slot, lv_has ls' (ix_mL m) lv' → W p l e R s mid args below meth c H locs cells slots Q (F0 mid pc' ls' st')) → W p l e R s mid args below meth c H locs cells slots Q (F0 mid pc ls st))
    (k : ix_Ev G m pc' lv' st' h r h') : ix_Ev G m pc lv st h r h' :=
  ⟨k.1, fun p l e R s mid args below meth c C H locs cells slots ls hR hS hl hc hs => hW p l e R s mid args below meth c H locs cells slots _ ls C.1 C.2.1 hl (fun ls' hl' => k.2 p l e R s mid args below meth c C H locs cells slots ls' hR hS hl' hc hs)⟩
theorem ix_istore_n {i : Fin 4} {x : Int32} (hd : decode (ix_by m) pc = .ok (.istore_n i, 1)) (hn : (i : Nat) < ix_mL m) (k : ix_Ev G m (pc + 1) (ix_set lv (i : Nat) (.int x)) st h r h') : ix_Ev G m pc lv (.int x :: st) h r h' := ix_goL (fun p l e R s mid args below meth c H locs cells slots Q ls hx hb hl k => lv_istore_n hx hb hd rfl hl hn rfl k) k
theorem ix_istore {i : Nat} {x : Int32} (hd : decode (ix_by m) pc = .ok (.istore i, 2)) (hn : i < ix_mL m) (k : ix_Ev G m (pc + 2) (ix_set lv i (.int x)) st h r h') : ix_Ev G m pc lv (.int x :: st) h r h' := ix_goL (fun p l e R s mid args below meth c H locs cells slots Q ls hx hb hl k => lv_istore hx hb hd hl hn rfl k) k
theorem ix_astore_n {i : Fin 4} {x : Nat} (hd : decode (ix_by m) pc = .ok (.astore_n i, 1)) (hn : (i : Nat) < ix_mL m) (k : ix_Ev G m (pc + 1) (ix_set lv (i : Nat) (.ref x)) st h r h') : ix_Ev G m pc lv (.ref x :: st) h r h' := ix_goL (fun p l e R s mid args below meth c H locs cells slots Q ls hx hb hl k => lv_astore_n hx hb hd rfl hl hn rfl k) k
theorem ix_astore {i : Nat} {x : Nat} (hd : decode (ix_by m) pc = .ok (.astore i, 2)) (hn : i < ix_mL m) (k : ix_Ev G m (pc + 2) (ix_set lv i (.ref x)) st h r h') : ix_Ev G m pc lv (.ref x :: st) h r h' := ix_goL (fun p l e R s mid args below meth c H locs cells slots Q ls hx hb hl k => lv_astore hx hb hd hl hn rfl k) k
theorem ix_astore_nN {i : Fin 4} (hd : decode (ix_by m) pc = .ok (.astore_n i, 1)) (hn : (i : Nat) < ix_mL m) (k : ix_Ev G m (pc + 1) (ix_set lv (i : Nat) .null) st h r h') : ix_Ev G m pc lv (.null :: st) h r h' := ix_goL (fun p l e R s mid args below meth c H locs cells slots Q ls hx hb hl k => lv_astore_nN hx hb hd rfl hl hn rfl k) k
theorem ix_astoreN {i : Nat} (hd : decode (ix_by m) pc = .ok (.astore i, 2)) (hn : i < ix_mL m) (k : ix_Ev G m (pc + 2) (ix_set lv i .null) st h r h') : ix_Ev G m pc lv (.null :: st) h r h' := ix_goL (fun p l e R s mid args below meth c H locs cells slots Q ls hx hb hl k => lv_astoreN hx hb hd hl hn rfl k) k
theorem ix_iinc {i : Nat} {n : Int} {x : Int32} (v : Int32) (hd : decode (ix_by m) pc = .ok (.iinc i n, 3)) (hl : lv.lookup i = some (.int x)) (hv : x + Int32.ofInt n = v) (hn : i < ix_mL m) (k : ix_Ev G m (pc + 3) (ix_set lv i (.int v)) st h r h') : ix_Ev G m pc lv st h r h' := by
  refine ix_goL (fun p l e R s mid args below meth c H locs cells slots Q ls hx hb h2 k => ?_) k
  have h3 : lv_has ls (ix_mL m) ((i, .int x) :: lv) := ⟨h2.1, h2.2.1, fun q hq => (List.mem_cons.mp hq).elim (fun e => by rw [e]; exact ix_lk h2 hl) (h2.2.2 q)⟩
  refine lv_iinc hx hb hd h3 (k := 0) rfl hv hn (lv' := ix_set lv i (.int v)) ?_ k
  simp [ix_set, List.filter]
/-- branches -/
theorem ix_br {P : Prop} {t f : Nat} {st' : List Value} (hW : ∀ (p : Program) (l : Launch) (e : Env) (R : Room) (s : State) (mid : MethodId) (args : Array Value) (below : List Frame) (meth : Method) (c : Code) (H : Heap) (locs : List Loc) (cells slots : Nat) (Q : State → Prop) (ls : Array Slot), p.tables.exec = Jvm.exec → c.code = ix_by m → (P → W p l e R s mid args below meth c H locs cells slots Q (F0 mid t ls st')) → (¬ P → W p l e R s mid args below meth c H locs cells slots Q (F0 mid f ls st')) → W p l e R s mid args below meth c H locs cells slots Q (F0 mid pc ls st))
    (kt : P → ix_Ev G m t lv st' h r h') (kf : ¬ P → ix_Ev G m f lv st' h r h') : ix_Ev G m pc lv st h r h' :=
  ⟨by by_cases hp : P
      · exact (kt hp).1
      · exact (kf hp).1, fun p l e R s mid args below meth c C H locs cells slots ls hR hS hl hc hs => hW p l e R s mid args below meth c H locs cells slots _ ls C.1 C.2.1 (fun hp => (kt hp).2 p l e R s mid args below meth c C H locs cells slots ls hR hS hl hc hs) (fun hp => (kf hp).2 p l e R s mid args below meth c C H locs cells slots ls hR hS hl hc hs)⟩
theorem ix_if_eq {x : Int32} {off : Int} (tgt : Nat) (hd : decode (ix_by m) pc = .ok (.ifCond .eq off, 3)) (ht : (pc : Int) + off = (tgt : Int)) (kt : x = 0 → ix_Ev G m tgt lv st h r h') (kf : ¬ (x = 0) → ix_Ev G m (pc + 3) lv st h r h') : ix_Ev G m pc lv (.int x :: st) h r h' := ix_br (fun p l e R s mid args below meth c H locs cells slots Q ls hx hb k1 k2 => lv_if_eq hx hb hd ht k1 k2) kt kf
theorem ix_icmp_eq {x y : Int32} {off : Int} (tgt : Nat) (hd : decode (ix_by m) pc = .ok (.if_icmp .eq off, 3)) (ht : (pc : Int) + off = (tgt : Int)) (kt : x = y → ix_Ev G m tgt lv st h r h') (kf : ¬ (x = y) → ix_Ev G m (pc + 3) lv st h r h') : ix_Ev G m pc lv (.int y :: .int x :: st) h r h' := ix_br (fun p l e R s mid args below meth c H locs cells slots Q ls hx hb k1 k2 => lv_icmp_eq hx hb hd ht k1 k2) kt kf
theorem ix_if_ne {x : Int32} {off : Int} (tgt : Nat) (hd : decode (ix_by m) pc = .ok (.ifCond .ne off, 3)) (ht : (pc : Int) + off = (tgt : Int)) (kt : ¬ x = 0 → ix_Ev G m tgt lv st h r h') (kf : x = 0 → ix_Ev G m (pc + 3) lv st h r h') : ix_Ev G m pc lv (.int x :: st) h r h' := ix_br (fun p l e R s mid args below meth c H locs cells slots Q ls hx hb k1 k2 => lv_if_ne hx hb hd ht k1 (fun e => k2 (fun q => q e))) kt (fun q => kf (Classical.not_not.mp q))
theorem ix_icmp_ne {x y : Int32} {off : Int} (tgt : Nat) (hd : decode (ix_by m) pc = .ok (.if_icmp .ne off, 3)) (ht : (pc : Int) + off = (tgt : Int)) (kt : ¬ x = y → ix_Ev G m tgt lv st h r h') (kf : x = y → ix_Ev G m (pc + 3) lv st h r h') : ix_Ev G m pc lv (.int y :: .int x :: st) h r h' := ix_br (fun p l e R s mid args below meth c H locs cells slots Q ls hx hb k1 k2 => lv_icmp_ne hx hb hd ht k1 (fun e => k2 (fun q => q e))) kt (fun q => kf (Classical.not_not.mp q))
theorem ix_if_lt {x : Int32} {off : Int} (tgt : Nat) (hd : decode (ix_by m) pc = .ok (.ifCond .lt off, 3)) (ht : (pc : Int) + off = (tgt : Int)) (kt : x < 0 → ix_Ev G m tgt lv st h r h') (kf : ¬ (x < 0) → ix_Ev G m (pc + 3) lv st h r h') : ix_Ev G m pc lv (.int x :: st) h r h' := ix_br (fun p l e R s mid args below meth c H locs cells slots Q ls hx hb k1 k2 => lv_if_lt hx hb hd ht k1 k2) kt kf
theorem ix_icmp_lt {x y : Int32} {off : Int} (tgt : Nat) (hd : decode (ix_by m) pc = .ok (.if_icmp .lt off, 3)) (ht : (pc : Int) + off = (tgt : Int)) (kt : x < y → ix_Ev G m tgt lv st h r h') (kf : ¬ (x < y) → ix_Ev G m (pc + 3) lv st h r h') : ix_Ev G m pc lv (.int y :: .int x :: st) h r h' := ix_br (fun p l e R s mid args below meth c H locs cells slots Q ls hx hb k1 k2 => lv_icmp_lt hx hb hd ht k1 k2) kt kf
theorem ix_if_ge {x : Int32} {off : Int} (tgt : Nat) (hd : decode (ix_by m) pc = .ok (.ifCond .ge off, 3)) (ht : (pc : Int) + off = (tgt : Int)) (kt : 0 ≤ x → ix_Ev G m tgt lv st h r h') (kf : ¬ (0 ≤ x) → ix_Ev G m (pc + 3) lv st h r h') : ix_Ev G m pc lv (.int x :: st) h r h' := ix_br (fun p l e R s mid args below meth c H locs cells slots Q ls hx hb k1 k2 => lv_if_ge hx hb hd ht k1 k2) kt kf
theorem ix_icmp_ge {x y : Int32} {off : Int} (tgt : Nat) (hd : decode (ix_by m) pc = .ok (.if_icmp .ge off, 3)) (ht : (pc : Int) + off = (tgt : Int)) (kt : y ≤ x → ix_Ev G m tgt lv st h r h') (kf : ¬ (y ≤ x) → ix_Ev G m (pc + 3) lv st h r h') : ix_Ev G m pc lv (.int y :: .int x :: st) h r h' := ix_br (fun p l e R s mid args below meth c H locs cells slots Q ls hx hb k1 k2 => lv_icmp_ge hx hb hd ht k1 k2) kt kf
theorem ix_if_gt {x : Int32} {off : Int} (tgt : Nat) (hd : decode (ix_by m) pc = .ok (.ifCond .gt off, 3)) (ht : (pc : Int) + off = (tgt : Int)) (kt : 0 < x → ix_Ev G m tgt lv st h r h') (kf : ¬ (0 < x) → ix_Ev G m (pc + 3) lv st h r h') : ix_Ev G m pc lv (.int x :: st) h r h' := ix_br (fun p l e R s mid args below meth c H locs cells slots Q ls hx hb k1 k2 => lv_if_gt hx hb hd ht k1 k2) kt kf
theorem ix_icmp_gt {x y : Int32} {off : Int} (tgt : Nat) (hd : decode (ix_by m) pc = .ok (.if_icmp .gt off, 3)) (ht : (pc : Int) + off = (tgt : Int)) (kt : y < x → ix_Ev G m tgt lv st h r h') (kf : ¬ (y < x) → ix_Ev G m (pc + 3) lv st h r h') : ix_Ev G m pc lv (.int y :: .int x :: st) h r h' := ix_br (fun p l e R s mid args below meth c H locs cells slots Q ls hx hb k1 k2 => lv_icmp_gt hx hb hd ht k1 k2) kt kf
theorem ix_if_le {x : Int32} {off : Int} (tgt : Nat) (hd : decode (ix_by m) pc = .ok (.ifCond .le off, 3)) (ht : (pc : Int) + off = (tgt : Int)) (kt : x ≤ 0 → ix_Ev G m tgt lv st h r h') (kf : ¬ (x ≤ 0) → ix_Ev G m (pc + 3) lv st h r h') : ix_Ev G m pc lv (.int x :: st) h r h' := ix_br (fun p l e R s mid args below meth c H locs cells slots Q ls hx hb k1 k2 => lv_if_le hx hb hd ht k1 k2) kt kf
theorem ix_icmp_le {x y : Int32} {off : Int} (tgt : Nat) (hd : decode (ix_by m) pc = .ok (.if_icmp .le off, 3)) (ht : (pc : Int) + off = (tgt : Int)) (kt : x ≤ y → ix_Ev G m tgt lv st h r h') (kf : ¬ (x ≤ y) → ix_Ev G m (pc + 3) lv st h r h') : ix_Ev G m pc lv (.int y :: .int x :: st) h r h' := ix_br (fun p l e R s mid args below meth c H locs cells slots Q ls hx hb k1 k2 => lv_icmp_le hx hb hd ht k1 k2) kt kf
theorem ix_ifnull {x : Nat} {off : Int} (tgt : Nat) (hd : decode (ix_by m) pc = .ok (.ifnull off, 3)) (ht : (pc : Int) + off = (tgt : Int)) (k : ix_Ev G m (pc + 3) lv st h r h') : ix_Ev G m pc lv (.ref x :: st) h r h' := ix_go (fun p l e R s mid args below meth c H locs cells slots Q ls hx hb hl k => lv_ifnull hx hb hd k) k
theorem ix_ifnonnull {x : Nat} {off : Int} (tgt : Nat) (hd : decode (ix_by m) pc = .ok (.ifnonnull off, 3)) (ht : (pc : Int) + off = (tgt : Int)) (k : ix_Ev G m tgt lv st h r h') : ix_Ev G m pc lv (.ref x :: st) h r h' := ix_go (fun p l e R s mid args below meth c H locs cells slots Q ls hx hb hl k => lv_ifnonnull hx hb hd ht k) k
theorem ix_ifnullN {off : Int} (tgt : Nat) (hd : decode (ix_by m) pc = .ok (.ifnull off, 3)) (ht : (pc : Int) + off = (tgt : Int)) (k : ix_Ev G m tgt lv st h r h') : ix_Ev G m pc lv (.null :: st) h r h' := ix_go (fun p l e R s mid args below meth c H locs cells slots Q ls hx hb hl k => lv_ifnullN hx hb hd ht k) k
theorem ix_ifnonnullN {off : Int} (tgt : Nat) (hd : decode (ix_by m) pc = .ok (.ifnonnull off, 3)) (ht : (pc : Int) + off = (tgt : Int)) (k : ix_Ev G m (pc + 3) lv st h r h') : ix_Ev G m pc lv (.null :: st) h r h' := ix_go (fun p l e R s mid args below meth c H locs cells slots Q ls hx hb hl k => lv_ifnonnullN hx hb hd k) k
theorem ix_acmp_eq {a b : Nat} {off : Int} (tgt : Nat) (hd : decode (ix_by m) pc = .ok (.if_acmp .eq off, 3)) (ht : (pc : Int) + off = (tgt : Int)) (kt : a = b → ix_Ev G m tgt lv st h r h') (kf : ¬ a = b → ix_Ev G m (pc + 3) lv st h r h') : ix_Ev G m pc lv (.ref b :: .ref a :: st) h r h' := ix_br (fun p l e R s mid args below meth c H locs cells slots Q ls hx hb k1 k2 => lv_acmp_eq (rx := some a) (ry := some b) hx hb hd ht (fun e => k1 (Option.some.inj e)) (fun e => k2 (fun q => e (by rw [q])))) kt kf
theorem ix_acmp_ne {a b : Nat} {off : Int} (tgt : Nat) (hd : decode (ix_by m) pc = .ok (.if_acmp .ne off, 3)) (ht : (pc : Int) + off = (tgt : Int)) (kt : ¬ a = b → ix_Ev G m tgt lv st h r h') (kf : a = b → ix_Ev G m (pc + 3) lv st h r h') : ix_Ev G m pc lv (.ref b :: .ref a :: st) h r h' := ix_br (fun p l e R s mid args below meth c H locs cells slots Q ls hx hb k1 k2 => lv_acmp_ne (rx := some a) (ry := some b) hx hb hd ht (fun e => k1 (fun q => e (by rw [q]))) (fun e => k2 (fun q => q (Option.some.inj e)))) kt (fun q => kf (Classical.not_not.mp q))
theorem ix_tabIn {dflt lo hi off : Int} {offs : Array Int} {len : Nat} {x : Int32} (tgt : Nat) (hd : decode (ix_by m) pc = .ok (.tableswitch dflt lo hi offs, len)) (h1 : ¬ x.toInt < lo) (h2 : ¬ hi < x.toInt) (ho : offs[(x.toInt - lo).toNat]? = some off) (ht : (pc : Int) + off = (tgt : Int)) (k : ix_Ev G m tgt lv st h r h') : ix_Ev G m pc lv (.int x :: st) h r h' := ix_go (fun p l e R s mid args below meth c H locs cells slots Q ls hx hb hl k => lv_tableIn hx hb hd h1 h2 ho ht k) k
theorem ix_tabOut {dflt lo hi : Int} {offs : Array Int} {len : Nat} {x : Int32} (tgt : Nat) (hd : decode (ix_by m) pc = .ok (.tableswitch dflt lo hi offs, len)) (h1 : x.toInt < lo ∨ hi < x.toInt) (ht : (pc : Int) + dflt = (tgt : Int)) (k : ix_Ev G m tgt lv st h r h') : ix_Ev G m pc lv (.int x :: st) h r h' := ix_go (fun p l e R s mid args below meth c H locs cells slots Q ls hx hb hl k => lv_tableOut hx hb hd h1 ht k) k
end IX1
end
section
/-! ===== rows of the judgement: fields ===== -/
/-- a field's place: own class' entry i is field j of class k, of kind kd -/
def ix_FL (own : String) (i k j kd : Nat) : Prop := k < 10 ∧ j < ix_nf k ∧ ix_kd (ix_ty k j) = kd ∧ ix_cl[k]? = some (ix_cn k, ix_cT k, ix_nf k) ∧ (∀ w ∈ u_ws (ix_cn k) (ix_cT k) (ix_nf k), w ∈ ix_words) ∧
  ∃ ref : String, (Cond.fieldLink own i ref (ix_cT k j).2.1 (ix_cT k j).2.2.1 ∈ ix_words ∨ ∃ host : String, Cond.fieldLinkNest own i ref (ix_cT k j).2.1 (ix_cT k j).2.2.1 host ∈ ix_words) ∧ (ref = (ix_cT k j).1 ∨ Cond.sameField ref (ix_cT k j).1 (ix_cT k j).2.1 (ix_cT k j).2.2.1 ∈ ix_words)
/-- what the tables say of class k's fields -/
def ix_TK (k : Nat) : Prop := (∀ j, j < ix_nf k → parseFieldDescriptor (ix_cT k j).2.2.1 = some (ix_ty k j)) ∧ ∀ a, a < ix_nf k → ∀ b, b < ix_nf k → a ≠ b → (ix_cT k a).2.1 ≠ (ix_cT k b).2.1
theorem ix_tk : ∀ k, k < 10 → ix_TK k := by
  intro k hk
  match k, hk with
  | 0, _ => exact ⟨ix_ty0_ok, ix_nm0⟩
  | 1, _ => exact ⟨ix_ty1_ok, ix_nm1⟩
  | 2, _ => exact ⟨ix_ty2_ok, ix_nm2⟩
  | 3, _ => exact ⟨ix_ty3_ok, ix_nm3⟩
  | 4, _ => exact ⟨ix_ty4_ok, ix_nm4⟩
  | 5, _ => exact ⟨ix_ty5_ok, ix_nm5⟩
  | 6, _ => exact ⟨ix_ty6_ok, ix_nm6⟩
  | 7, _ => exact ⟨ix_ty7_ok, ix_nm7⟩
  | 8, _ => exact ⟨ix_ty8_ok, ix_nm8⟩
  | 9, _ => exact ⟨ix_ty9_ok, ix_nm9⟩
  | n + 10, h => omega
section IX2
variable {G : ix_G} {m pc : Nat} {lv : List (Nat × Value)} {st : List Value} {h h' : ix_H} {r : ix_O}
theorem ix_get {i k j kd a : Nat} (hd : decode (ix_by m) pc = .ok (.getfield i, 3)) (hF : ix_FL (ix_own m) i k j kd) (ht : ix_tg h a = k + 1) (kk : ix_Ev G m (pc + 3) lv (ix_v h kd a j :: st) h r h') : ix_Ev G m pc lv (.ref a :: st) h r h' := by
  obtain ⟨hk, hj, hkd, hc, hin, ref, hlink, hsame⟩ := hF
  refine ⟨kk.1, fun p l e R s mid args below meth c C H locs cells slots ls hR hS hl hc1 hs1 => ?_⟩
  have hts : ∀ w ∈ ix_words, w.before args s = true := fun w hw => C.w hw args
  obtain ⟨-, cell, q1, q2, q3, q4⟩ := hR.2.2.1 a k ht hk
  obtain ⟨hS9, hfc, kC, hkC, hkind⟩ := C.2.2.2.2.2.2.2.2.2.2.1.1 k _ hc
  obtain ⟨cf, kf, fi, f, hi, hsl⟩ := hS9 j hj
  have hv : cell.slots[f.slot]? = some (ix_v h kd a j) := by
    rw [hsl, q4 j hj]
    show some (ix_v h (ix_kd (ix_ty k j)) a j) = _
    rw [hkd]
  have hsame' : s.fieldFound? ref (ix_cT k j).2.1 (ix_cT k j).2.2.1 = some (cf, kf, fi, f) := by
    rcases hsame with e | e
    · rw [e]; exact hi
    · exact u_same (hts _ e) _ hi
  have K := kk.2 p l e R s mid args below meth c C H locs cells slots ls hR hS hl hc1 hs1
  rcases hlink with hlink | ⟨host, hlink⟩
  · exact W.getf C.1 C.2.1 C.2.2.2.2.2.1 (hts _ hlink) hsame' (u_facts hfc hkC (u_lays hts hin hj) hi).1 q1 (by rw [q3]; exact fun h => by cases h) hv rfl rfl hd K
  · exact va_Wgetf C.1 C.2.1 C.2.2.2.2.2.1 (hts _ hlink) hsame' (u_facts hfc hkC (u_lays hts hin hj) hi).1 q1 (by rw [q3]; exact fun h => by cases h) hv rfl rfl hd K
theorem ix_geti {i k j a : Nat} (hd : decode (ix_by m) pc = .ok (.getfield i, 3)) (hF : ix_FL (ix_own m) i k j 0) (ht : ix_tg h a = k + 1) (kk : ix_Ev G m (pc + 3) lv (.int (ix_i h a j) :: st) h r h') : ix_Ev G m pc lv (.ref a :: st) h r h' := ix_get hd hF ht kk
theorem ix_getq {i k j a : Nat} (hd : decode (ix_by m) pc = .ok (.getfield i, 3)) (hF : ix_FL (ix_own m) i k j 2) (ht : ix_tg h a = k + 1) (kk : ix_Ev G m (pc + 3) lv (va_rf (ix_r h a j) :: st) h r h') : ix_Ev G m pc lv (.ref a :: st) h r h' := ix_get hd hF ht kk
theorem ix_getr {i k j a : Nat} (b : Nat) (hd : decode (ix_by m) pc = .ok (.getfield i, 3)) (hF : ix_FL (ix_own m) i k j 2) (ht : ix_tg h a = k + 1) (hb : ix_r h a j = some b) (kk : ix_Ev G m (pc + 3) lv (.ref b :: st) h r h') : ix_Ev G m pc lv (.ref a :: st) h r h' := ix_getq hd hF ht (by rw [hb]; exact kk)
theorem ix_getn {i k j a : Nat} (hd : decode (ix_by m) pc = .ok (.getfield i, 3)) (hF : ix_FL (ix_own m) i k j 2) (ht : ix_tg h a = k + 1) (hb : ix_r h a j = none) (kk : ix_Ev G m (pc + 3) lv (.null :: st) h r h') : ix_Ev G m pc lv (.ref a :: st) h r h' := ix_getq hd hF ht (by rw [hb]; exact kk)
end IX2
/-- one place of the heap is written: the others stay -/
theorem ix_R.put {G : ix_G} {h h1 : ix_H} {H H1 : Heap} {a : Nat} (hR : ix_R G h H) (hn : ix_nx h1 = ix_nx h) (ht : ∀ b, ix_tg h1 b = ix_tg h b) (hl : ∀ b, ix_ln h1 b = ix_ln h b) (hv : ∀ kd b j, b ≠ a → ix_v h1 kd b j = ix_v h kd b j) (hz : H1.size = H.size) (ho : ∀ q : Nat, q ≠ a → H1[q]? = H[q]?)
    (h1a : ∀ k, ix_tg h a = k + 1 → k < 10 → t_OB a (G.1.1 k) (ix_nf k) (G.1.2 k) H1 (fun j => ix_v h1 (ix_kd (ix_ty k j)) a j)) (h2a : ∀ t, ix_tg h a = 100 + t → t < 8 → H1[a]? = some (ix_arr G h1 t a)) (h3a : ∀ t, ¬ ix_tg h a = 200 + t) : ix_R G h1 H1 := by
  obtain ⟨r1, r2, r3, r4, r5⟩ := hR
  have harr : ∀ t b, b ≠ a → ix_arr G h1 t b = ix_arr G h t b := fun t b hb => by
    unfold ix_arr
    rw [hl b]
    congr 1
    funext j
    exact hv _ b j hb
  refine ⟨by rw [hn, r1, hz], by rw [hz]; exact r2, fun b k hb hk => ?_, fun b t hb hk => ?_, fun b t hb hk => ?_⟩
  · rw [ht b] at hb
    obtain ⟨q1, q2⟩ := r3 b k hb hk
    refine ⟨q1, ?_⟩
    by_cases e : b = a
    · subst e
      exact h1a k hb hk
    · exact (q2.kept (ho b e)).to (fun j _ => (hv _ b j e).symm)
  · rw [ht b] at hb
    obtain ⟨q1, q2⟩ := r4 b t hb hk
    refine ⟨q1, ?_⟩
    by_cases e : b = a
    · subst e
      exact h2a t hb hk
    · rw [ho b e, q2, harr t b e]
  · rw [ht b] at hb
    by_cases e : b = a
    · subst e
      exact absurd hb (h3a t)
    · rw [ho b e, r5 b t hb hk, harr t b e]
theorem ix_v_si {h : ix_H} {a k : Nat} {x : Int32} (kd b j : Nat) (hb : b ≠ a ∨ j ≠ k ∨ kd ≠ 0) : ix_v (ix_si h a k x) kd b j = ix_v h kd b j := by
  match kd with
  | 0 =>
    show Value.int _ = Value.int _
    rw [ix_i_si, if_neg]
    rintro ⟨e1, e2⟩
    rcases hb with q | q | q
    · exact q e1
    · exact q e2
    · exact q rfl
  | 1 => rfl
  | n + 2 => rfl
theorem ix_v_sl {h : ix_H} {a k : Nat} {x : Int64} (kd b j : Nat) (hb : b ≠ a ∨ j ≠ k ∨ kd ≠ 1) : ix_v (ix_sl h a k x) kd b j = ix_v h kd b j := by
  match kd with
  | 0 => rfl
  | 1 =>
    show Value.long _ = Value.long _
    rw [ix_l_sl, if_neg]
    rintro ⟨e1, e2⟩
    rcases hb with q | q | q
    · exact q e1
    · exact q e2
    · exact q rfl
  | n + 2 => rfl
theorem ix_v_sr {h : ix_H} {a k : Nat} {x : Option Nat} (kd b j : Nat) (hb : b ≠ a ∨ j ≠ k ∨ kd < 2) : ix_v (ix_sr h a k x) kd b j = ix_v h kd b j := by
  match kd with
  | 0 => rfl
  | 1 => rfl
  | n + 2 =>
    show va_rf _ = va_rf _
    rw [ix_r_sr, if_neg]
    rintro ⟨e1, e2⟩
    rcases hb with q | q | q
    · exact q e1
    · exact q e2
    · omega
section IX3
variable {G : ix_G} {m pc : Nat} {lv : List (Nat × Value)} {st : List Value} {h h' : ix_H} {r : ix_O}
theorem ix_put {i k j kd a : Nat} {v : Value} {h1 : ix_H} (hd : decode (ix_by m) pc = .ok (.putfield i, 3)) (hF : ix_FL (ix_own m) i k j kd) (hfin : (ix_cT k j).2.2.2 = false ∨ ((ix_y m).name = "<init>" ∧ (ix_cT k j).1 = ix_own m ∧ (ix_cT k j).2.2.2 = true)) (ht : ix_tg h a = k + 1) (hn : narrow (ix_ty k j) v = v) (hfit : fits (ix_ty k j) v = true)
    (e1 : ix_nx h1 = ix_nx h) (e0 : ix_us h1 = ix_us h) (e2 : ∀ b, ix_tg h1 b = ix_tg h b) (e3 : ∀ b, ix_ln h1 b = ix_ln h b) (e4 : ∀ kd' b j', b ≠ a ∨ j' ≠ j → ix_v h1 kd' b j' = ix_v h kd' b j') (e5 : ix_v h1 kd a j = v)
    (kk : ix_Ev G m (pc + 3) lv st h1 r h') : ix_Ev G m pc lv (v :: .ref a :: st) h r h' := by
  obtain ⟨hk, hj, hkd, hc, hin, ref, hlink, hsame⟩ := hF
  obtain ⟨hty, hnm⟩ := ix_tk k hk
  refine ⟨by rw [← e1, ← e0]; exact kk.1, fun p l e R s mid args below meth c C H locs cells slots ls hR hS hl hc1 hs1 => ?_⟩
  have hts : ∀ w ∈ ix_words, w.before args s = true := fun w hw => C.w hw args
  have hK := C.2.2.2.2.2.2.2.2.2.2.1
  have hap := va_apart (own := ix_own m) hts hin (ix_ty k) hty hnm hK hc
  obtain ⟨hA, cell, q1, q2, q3, q4⟩ := hR.2.2.1 a k ht hk
  obtain ⟨hS9, hfc, kC, hkC, hkind⟩ := hK.1 k _ hc
  obtain ⟨cf, kf, fi, f, hi, hsl⟩ := hS9 j hj
  have hsame' : s.fieldFound? ref (ix_cT k j).2.1 (ix_cT k j).2.2.1 = some (cf, kf, fi, f) := by
    rcases hsame with e | e
    · rw [e]; exact hi
    · exact u_same (hts _ e) _ hi
  have hst := (u_facts hfc hkC (u_lays hts hin hj) hi).1
  have hlt : f.slot < cell.slots.size := by rw [hsl]; exact k2_hasslot (q4 j hj)
  have K : ∀ H' : Heap, H'[a]? = some (cell.setSlot f.slot v) → H'.size = H.size → (∀ q, q ≠ a → H'[q]? = H[q]?) → W p l e R s mid args below meth c H' (locs ++ [⟨a, f.slot⟩]) cells slots (MQ below (ix_Q G r h') args s (cells + (ix_nx h' - ix_nx h)) (slots + (ix_us h' - ix_us h)) (ix_A G)) (F0 mid (pc + 3) ls st) := by
    intro H' g1 g2 g3
    rw [hsl] at g1
    have hR1 : ix_R G h1 H' := by
      refine hR.put e1 e2 e3 (fun kd' b j' hb => e4 kd' b j' (Or.inl hb)) g2 g3 (fun k' hk' _ => ?_) (fun t ht' _ => ?_) (fun t ht' => ?_)
      · have : k' = k := by omega
        subst this
        refine t_OB.to (V := updV (fun j' => ix_v h (ix_kd (ix_ty k' j')) a j') j v) ⟨_, g1, q2, q3, t_set q4 hap hj v⟩ (fun j' hj' => ?_)
        by_cases e : j' = j
        · subst e
          simp only [updV, if_true]
          rw [hkd, e5]
        · simp only [updV, if_neg e]
          exact (e4 _ a j' (Or.inr e)).symm
      · omega
      · omega
    have hS1 : va_S (ix_A G) s.heap H' (locs ++ [⟨a, G.1.2 k j⟩]) := hS.put g2 g3 hA
    have := kk.2 p l e R s mid args below meth c C H' (locs ++ [⟨a, G.1.2 k j⟩]) cells slots ls hR1 hS1 hl (by rw [e1]; exact hc1) (by rw [e0]; exact hs1)
    rw [e1, e0] at this
    rw [hsl]
    exact this
  by_cases hfl : (ix_cT k j).2.2.2 = true
  · have hz : (ix_y m).name = "<init>" ∧ (ix_cT k j).1 = ix_own m := by
      rcases hfin with q | q
      · rw [hfl] at q; cases q
      · exact ⟨q.1, q.2.1⟩
    have hlay := hts _ (hin _ (u_in_lay hj))
    unfold u_lay at hlay
    rw [if_pos hfl] at hlay
    have hcf : mid.cls = cf := by
      obtain ⟨_, _, c', _, _, _, -, -, hf', -, -, -, hown2, -⟩ := Cond.laysFinal_spec hlay
      have z1 : c' = cf := by have := hi.symm.trans hf'; simp at this; exact this.1.symm
      rw [hz.2] at hown2
      rw [← z1]; exact Option.some.inj (C.2.2.2.2.2.1.symm.trans hown2)
    have h6 := u_fits hfc hkC hkind (Or.inr hlay) hi (hty j hj) hn hfit
    rcases hlink with hlink | ⟨host, hlink⟩
    · exact W.putFinK C.1 C.2.1 C.2.2.2.2.2.1 (hts _ hlink) hsame' hst hcf (by rw [C.2.2.2.2.2.2.1]; exact hz.1) (by rw [q2]; exact h6) q1 q3 hlt rfl rfl hd K
    · have ha : a < H.size := (Array.getElem?_eq_some_iff.mp q1).1
      refine va_Wputf C.1 C.2.1 C.2.2.2.2.2.1 (hts _ hlink) hsame' hst (Or.inr ⟨hcf, by rw [C.2.2.2.2.2.2.1]; exact hz.1⟩) q1 (by rw [q3]; exact fun h => by cases h) hlt h6.1 (by rw [q2, q3]; exact h6.2) rfl rfl hd (K _ ?_ ?_ ?_)
      · simp [Array.getElem?_setIfInBounds, ha]
      · simp
      · intro q hq
        simp [Array.getElem?_setIfInBounds, Ne.symm hq]
  · have hfl' : (ix_cT k j).2.2.2 = false := by simpa using hfl
    have hlay := hts _ (hin _ (u_in_lay hj))
    unfold u_lay at hlay
    rw [if_neg (by rw [hfl']; decide)] at hlay
    have h6 := u_store hfc hkC hkind hlay hi (hty j hj) hn hfit
    rcases hlink with hlink | ⟨host, hlink⟩
    · exact W.putK C.1 C.2.1 (f := f) ⟨C.2.2.2.2.2.1, hts _ hlink, ⟨_, _, _, hsame'⟩, hst⟩ (by rw [q2]; exact h6) q1 q3 hlt rfl rfl hd K
    · exact va_WputK C.1 C.2.1 (f := f) C.2.2.2.2.2.1 (hts _ hlink) hsame' hst (by rw [q2]; exact h6) q1 q3 hlt rfl rfl hd K
theorem ix_puti {i k j a : Nat} {x : Int32} (hd : decode (ix_by m) pc = .ok (.putfield i, 3)) (hF : ix_FL (ix_own m) i k j 0) (hfin : (ix_cT k j).2.2.2 = false ∨ ((ix_y m).name = "<init>" ∧ (ix_cT k j).1 = ix_own m ∧ (ix_cT k j).2.2.2 = true)) (ht : ix_tg h a = k + 1) (hn : narrow (ix_ty k j) (.int x) = .int x) (hfit : fits (ix_ty k j) (.int x) = true)
    (kk : ix_Ev G m (pc + 3) lv st (ix_si h a j x) r h') : ix_Ev G m pc lv (.int x :: .ref a :: st) h r h' :=
  ix_put hd hF hfin ht hn hfit (ix_nx_si h a j x) (ix_us_si h a j x) (ix_tg_si h a j x) (ix_ln_si h a j x) (fun kd' b j' q => ix_v_si kd' b j' (q.elim Or.inl (fun q => Or.inr (Or.inl q)))) (by show Value.int _ = _; rw [ix_i_si, if_pos ⟨rfl, rfl⟩]) kk
theorem ix_putr {i k j a b : Nat} (hd : decode (ix_by m) pc = .ok (.putfield i, 3)) (hF : ix_FL (ix_own m) i k j 2) (hfin : (ix_cT k j).2.2.2 = false ∨ ((ix_y m).name = "<init>" ∧ (ix_cT k j).1 = ix_own m ∧ (ix_cT k j).2.2.2 = true)) (ht : ix_tg h a = k + 1) (hn : narrow (ix_ty k j) (.ref b) = .ref b) (hfit : fits (ix_ty k j) (.ref b) = true)
    (kk : ix_Ev G m (pc + 3) lv st (ix_sr h a j (some b)) r h') : ix_Ev G m pc lv (.ref b :: .ref a :: st) h r h' :=
  ix_put hd hF hfin ht hn hfit (ix_nx_sr h a j (some b)) (ix_us_sr h a j (some b)) (ix_tg_sr h a j (some b)) (ix_ln_sr h a j (some b)) (fun kd' b' j' q => ix_v_sr kd' b' j' (q.elim Or.inl (fun q => Or.inr (Or.inl q)))) (by show va_rf _ = _; rw [ix_r_sr, if_pos ⟨rfl, rfl⟩]; rfl) kk
theorem ix_putN {i k j a : Nat} (hd : decode (ix_by m) pc = .ok (.putfield i, 3)) (hF : ix_FL (ix_own m) i k j 2) (hfin : (ix_cT k j).2.2.2 = false ∨ ((ix_y m).name = "<init>" ∧ (ix_cT k j).1 = ix_own m ∧ (ix_cT k j).2.2.2 = true)) (ht : ix_tg h a = k + 1) (hn : narrow (ix_ty k j) .null = .null) (hfit : fits (ix_ty k j) .null = true)
    (kk : ix_Ev G m (pc + 3) lv st (ix_sr h a j none) r h') : ix_Ev G m pc lv (.null :: .ref a :: st) h r h' :=
  ix_put hd hF hfin ht hn hfit (ix_nx_sr h a j none) (ix_us_sr h a j none) (ix_tg_sr h a j none) (ix_ln_sr h a j none) (fun kd' b' j' q => ix_v_sr kd' b' j' (q.elim Or.inl (fun q => Or.inr (Or.inl q)))) (by show va_rf _ = _; rw [ix_r_sr, if_pos ⟨rfl, rfl⟩]; rfl) kk
/-! ===== arrays ===== -/
theorem ix_tyAt (G : ix_G) {t : Nat} (ht : t < 8) : (ix_tys G)[t]? = some (G.2.1 t, ix_at t) := by
  unfold ix_tys
  rw [List.getElem?_map, List.getElem?_range ht]
  rfl
/-- an array that is there: its cell -/
theorem ix_R.arr {G : ix_G} {h : ix_H} {H : Heap} (hR : ix_R G h H) {a t : Nat} (ht : t < 8) (hT : ix_tg h a = 100 + t ∨ ix_tg h a = 200 + t) : H[a]? = some (ix_arr G h t a) := by
  rcases hT with q | q
  · exact (hR.2.2.2.1 a t q ht).2
  · exact hR.2.2.2.2 a t q ht
theorem ix_isarr {G : ix_G} {m : Nat} {p : Program} {l : Launch} {R : Room} {s : State} {mid : MethodId} {meth : Method} {c : Code} (C : ix_Cx G m p l R s mid meth c) {t : Nat} (ht : t < 8) (h : ix_H) (a : Nat) : s.isArrayOf (ix_arr G h t a) (ix_at t) := (C.2.2.2.2.2.2.2.2.2.2.1.2 t _ (ix_tyAt G ht)).1 _ _
theorem ix_alen {a t : Nat} (hd : decode (ix_by m) pc = .ok (.arraylength, 1)) (t8 : t < 8) (ht : ix_tg h a = 100 + t ∨ ix_tg h a = 200 + t) (kk : ix_Ev G m (pc + 1) lv (.int (nI (ix_ln h a)) :: st) h r h') : ix_Ev G m pc lv (.ref a :: st) h r h' := by
  refine ⟨kk.1, fun p l e R s mid args below meth c C H locs cells slots ls hR hS hl hc1 hs1 => ?_⟩
  exact W.alen (n := nI (ix_ln h a)) C.1 C.2.1 (hR.arr t8 ht) (ix_isarr C t8 h a) (by show (arrV _ _ _).slots.size.toInt32 = _; rw [arrV_size]; rfl) rfl rfl hd (kk.2 p l e R s mid args below meth c C H locs cells slots ls hR hS hl hc1 hs1)
theorem ix_aread {G : ix_G} {h : ix_H} {t a n : Nat} (hn : n < ix_ln h a) : (ix_arr G h t a).slots[n]? = some (ix_v h (ix_kd (ix_at t)) a n) := by
  unfold ix_arr
  rw [arrV_read _ _ hn]
theorem ix_ain {G : ix_G} {h : ix_H} {t a : Nat} {j : Int32} (hin : vp_in j (ix_ln h a)) : ¬ (j < 0 ∨ (ix_arr G h t a).slots.size ≤ j.toNatClampNeg) := by
  unfold ix_arr
  rw [arrV_size]
  exact hin
theorem ix_inlt {j : Int32} {n : Nat} (h : vp_in j n) : j.toNatClampNeg < n := Nat.not_le.mp fun q => h (Or.inr q)
theorem ix_iald {a : Nat} {j : Int32} (hd : decode (ix_by m) pc = .ok (.iaload, 1)) (ht : ix_tg h a = 100 ∨ ix_tg h a = 200) (hin : vp_in j (ix_ln h a)) (kk : ix_Ev G m (pc + 1) lv (.int (ix_i h a j.toNatClampNeg) :: st) h r h') : ix_Ev G m pc lv (.int j :: .ref a :: st) h r h' := by
  refine ⟨kk.1, fun p l e R s mid args below meth c C H locs cells slots ls hR hS hl hc1 hs1 => ?_⟩
  exact W.iald C.1 C.2.1 (hR.arr (t := 0) (by decide) ht) (ix_isarr C (t := 0) (by decide) h a) (fun q => by cases q) (ix_ain hin) (ix_aread (ix_inlt hin)) rfl rfl hd (kk.2 p l e R s mid args below meth c C H locs cells slots ls hR hS hl hc1 hs1)
theorem ix_zald {a : Nat} {j : Int32} (hd : decode (ix_by m) pc = .ok (.baload, 1)) (ht : ix_tg h a = 101) (hin : vp_in j (ix_ln h a)) (kk : ix_Ev G m (pc + 1) lv (.int (ix_i h a j.toNatClampNeg) :: st) h r h') : ix_Ev G m pc lv (.int j :: .ref a :: st) h r h' := by
  refine ⟨kk.1, fun p l e R s mid args below meth c C H locs cells slots ls hR hS hl hc1 hs1 => ?_⟩
  exact W.zald C.1 C.2.1 (hR.arr (t := 1) (by decide) (Or.inl ht)) (ix_isarr C (t := 1) (by decide) h a) (fun q => by cases q) (ix_ain hin) (ix_aread (ix_inlt hin)) rfl rfl hd (kk.2 p l e R s mid args below meth c C H locs cells slots ls hR hS hl hc1 hs1)
theorem ix_bald {a : Nat} {j : Int32} (hd : decode (ix_by m) pc = .ok (.baload, 1)) (ht : ix_tg h a = 102) (hin : vp_in j (ix_ln h a)) (kk : ix_Ev G m (pc + 1) lv (.int (ix_i h a j.toNatClampNeg) :: st) h r h') : ix_Ev G m pc lv (.int j :: .ref a :: st) h r h' := by
  refine ⟨kk.1, fun p l e R s mid args below meth c C H locs cells slots ls hR hS hl hc1 hs1 => ?_⟩
  exact W.bald C.1 C.2.1 (hR.arr (t := 2) (by decide) (Or.inl ht)) (ix_isarr C (t := 2) (by decide) h a) (fun q => by cases q) (ix_ain hin) (ix_aread (ix_inlt hin)) rfl rfl hd (kk.2 p l e R s mid args below meth c C H locs cells slots ls hR hS hl hc1 hs1)
theorem ix_lald {a : Nat} {j : Int32} (hd : decode (ix_by m) pc = .ok (.laload, 1)) (ht : ix_tg h a = 103) (hin : vp_in j (ix_ln h a)) (kk : ix_Ev G m (pc + 1) lv (.long (ix_l h a j.toNatClampNeg) :: st) h r h') : ix_Ev G m pc lv (.int j :: .ref a :: st) h r h' := by
  refine ⟨kk.1, fun p l e R s mid args below meth c C H locs cells slots ls hR hS hl hc1 hs1 => ?_⟩
  exact W.lald C.1 C.2.1 (hR.arr (t := 3) (by decide) (Or.inl ht)) (ix_isarr C (t := 3) (by decide) h a) (fun q => by cases q) (ix_ain hin) (ix_aread (ix_inlt hin)) rfl rfl hd (kk.2 p l e R s mid args below meth c C H locs cells slots ls hR hS hl hc1 hs1)
theorem ix_aald {a t : Nat} {j : Int32} (hd : decode (ix_by m) pc = .ok (.aaload, 1)) (t8 : t < 8) (hty : (ix_at t).isReference = true) (hkd : ix_kd (ix_at t) = 2) (ht : ix_tg h a = 100 + t ∨ ix_tg h a = 200 + t) (hin : vp_in j (ix_ln h a)) (kk : ix_Ev G m (pc + 1) lv (va_rf (ix_r h a j.toNatClampNeg) :: st) h r h') : ix_Ev G m pc lv (.int j :: .ref a :: st) h r h' := by
  refine ⟨kk.1, fun p l e R s mid args below meth c C H locs cells slots ls hR hS hl hc1 hs1 => ?_⟩
  have hv := ix_aread (G := G) (h := h) (t := t) (a := a) (ix_inlt hin)
  rw [hkd] at hv
  exact W.aald C.1 C.2.1 (hR.arr t8 ht) (ix_isarr C t8 h a) hty (fun q => by cases q) (ix_ain hin) hv rfl rfl hd (kk.2 p l e R s mid args below meth c C H locs cells slots ls hR hS hl hc1 hs1)
/-- an array's place is written -/
theorem ix_R.ast {G : ix_G} {h h1 : ix_H} {H H1 : Heap} {a t n : Nat} {v : Value} (hR : ix_R G h H) (t8 : t < 8) (ht : ix_tg h a = 100 + t) (e1 : ix_nx h1 = ix_nx h) (e2 : ∀ b, ix_tg h1 b = ix_tg h b) (e3 : ∀ b, ix_ln h1 b = ix_ln h b) (e4 : ∀ kd b j, b ≠ a ∨ j ≠ n → ix_v h1 kd b j = ix_v h kd b j) (e5 : ix_v h1 (ix_kd (ix_at t)) a n = v)
    (g1 : H1[a]? = some ((ix_arr G h t a).setSlot n v)) (g2 : H1.size = H.size) (g3 : ∀ q : Nat, q ≠ a → H1[q]? = H[q]?) : ix_R G h1 H1 := by
  refine hR.put e1 e2 e3 (fun kd b j hb => e4 kd b j (Or.inl hb)) g2 g3 (fun k hk _ => ?_) (fun t' ht' _ => ?_) (fun t' ht' => ?_)
  · omega
  · have : t' = t := by omega
    subst this
    rw [g1]
    unfold ix_arr
    rw [arrV_store, e3 a]
    congr 2
    funext j
    by_cases e : j = n
    · subst e
      simp only [updV, if_true]
      exact e5.symm
    · simp only [updV, if_neg e]
      exact (e4 _ a j (Or.inr e)).symm
  · omega
theorem ix_iast {a : Nat} {j x : Int32} (hd : decode (ix_by m) pc = .ok (.iastore, 1)) (ht : ix_tg h a = 100) (hin : vp_in j (ix_ln h a)) (kk : ix_Ev G m (pc + 1) lv st (ix_si h a j.toNatClampNeg x) r h') : ix_Ev G m pc lv (.int x :: .int j :: .ref a :: st) h r h' := by
  refine ⟨kk.1, fun p l e R s mid args below meth c C H locs cells slots ls hR hS hl hc1 hs1 => ?_⟩
  refine W.iast C.1 C.2.1 (hR.arr (t := 0) (by decide) (Or.inl ht)) (ix_isarr C (t := 0) (by decide) h a) (fun q => by cases q) (ix_ain hin) rfl rfl hd fun H' g1 g2 g3 => ?_
  exact kk.2 p l e R s mid args below meth c C H' _ cells slots ls (hR.ast (t := 0) (n := j.toNatClampNeg) (v := .int x) (by decide) ht rfl (fun _ => rfl) (fun _ => rfl) (fun kd b j' q => ix_v_si kd b j' (q.elim Or.inl (fun q => Or.inr (Or.inl q)))) (by show Value.int _ = _; rw [ix_i_si, if_pos ⟨rfl, rfl⟩]) g1 g2 g3) (hS.put g2 g3 (hR.2.2.2.1 a 0 ht (by decide)).1) hl hc1 hs1
theorem ix_bast {a : Nat} {j x : Int32} (hd : decode (ix_by m) pc = .ok (.bastore, 1)) (ht : ix_tg h a = 102) (hin : vp_in j (ix_ln h a)) (kk : ix_Ev G m (pc + 1) lv st (ix_si h a j.toNatClampNeg x.toInt8.toInt32) r h') : ix_Ev G m pc lv (.int x :: .int j :: .ref a :: st) h r h' := by
  refine ⟨kk.1, fun p l e R s mid args below meth c C H locs cells slots ls hR hS hl hc1 hs1 => ?_⟩
  refine W.bast C.1 C.2.1 (hR.arr (t := 2) (by decide) (Or.inl ht)) (ix_isarr C (t := 2) (by decide) h a) (fun q => by cases q) (ix_ain hin) rfl rfl hd fun H' g1 g2 g3 => ?_
  rw [narrow_byte] at g1
  exact kk.2 p l e R s mid args below meth c C H' _ cells slots ls (hR.ast (t := 2) (n := j.toNatClampNeg) (v := .int x.toInt8.toInt32) (by decide) ht rfl (fun _ => rfl) (fun _ => rfl) (fun kd b j' q => ix_v_si kd b j' (q.elim Or.inl (fun q => Or.inr (Or.inl q)))) (by show Value.int _ = _; rw [ix_i_si, if_pos ⟨rfl, rfl⟩]) g1 g2 g3) (hS.put g2 g3 (hR.2.2.2.1 a 2 ht (by decide)).1) hl hc1 hs1
theorem ix_zast {a : Nat} {j x : Int32} (hd : decode (ix_by m) pc = .ok (.bastore, 1)) (ht : ix_tg h a = 101) (hx : x = 0 ∨ x = 1) (hin : vp_in j (ix_ln h a)) (kk : ix_Ev G m (pc + 1) lv st (ix_si h a j.toNatClampNeg x) r h') : ix_Ev G m pc lv (.int x :: .int j :: .ref a :: st) h r h' := by
  refine ⟨kk.1, fun p l e R s mid args below meth c C H locs cells slots ls hR hS hl hc1 hs1 => ?_⟩
  refine W.zast C.1 C.2.1 (hR.arr (t := 1) (by decide) (Or.inl ht)) (ix_isarr C (t := 1) (by decide) h a) (fun q => by cases q) (ix_ain hin) rfl rfl hd fun H' g1 g2 g3 => ?_
  have hz : narrow .boolean (.int x) = .int x := by rcases hx with q | q <;> subst q <;> decide +kernel
  rw [hz] at g1
  exact kk.2 p l e R s mid args below meth c C H' _ cells slots ls (hR.ast (t := 1) (n := j.toNatClampNeg) (v := .int x) (by decide) ht rfl (fun _ => rfl) (fun _ => rfl) (fun kd b j' q => ix_v_si kd b j' (q.elim Or.inl (fun q => Or.inr (Or.inl q)))) (by show Value.int _ = _; rw [ix_i_si, if_pos ⟨rfl, rfl⟩]) g1 g2 g3) (hS.put g2 g3 (hR.2.2.2.1 a 1 ht (by decide)).1) hl hc1 hs1
theorem ix_last {a : Nat} {j : Int32} {x : Int64} (hd : decode (ix_by m) pc = .ok (.lastore, 1)) (ht : ix_tg h a = 103) (hin : vp_in j (ix_ln h a)) (kk : ix_Ev G m (pc + 1) lv st (ix_sl h a j.toNatClampNeg x) r h') : ix_Ev G m pc lv (.long x :: .int j :: .ref a :: st) h r h' := by
  refine ⟨kk.1, fun p l e R s mid args below meth c C H locs cells slots ls hR hS hl hc1 hs1 => ?_⟩
  refine W.last C.1 C.2.1 (hR.arr (t := 3) (by decide) (Or.inl ht)) (ix_isarr C (t := 3) (by decide) h a) (fun q => by cases q) (ix_ain hin) rfl rfl hd fun H' g1 g2 g3 => ?_
  exact kk.2 p l e R s mid args below meth c C H' _ cells slots ls (hR.ast (t := 3) (n := j.toNatClampNeg) (v := .long x) (by decide) ht rfl (fun _ => rfl) (fun _ => rfl) (fun kd b j' q => ix_v_sl kd b j' (q.elim Or.inl (fun q => Or.inr (Or.inl q)))) (by show Value.long _ = _; rw [ix_l_sl, if_pos ⟨rfl, rfl⟩]) g1 g2 g3) (hS.put g2 g3 (hR.2.2.2.1 a 3 ht (by decide)).1) hl hc1 hs1
end IX3
end
section
/-! ===== rows of the judgement: new cells ===== -/
theorem ix_v_nw {h : ix_H} {t n w : Nat} (kd b j : Nat) (hb : b ≠ ix_nx h) : ix_v (ix_nw h t n w) kd b j = ix_v h kd b j := by
  match kd with
  | 0 => show Value.int _ = Value.int _; rw [ix_i_nw, if_neg hb]
  | 1 => show Value.long _ = Value.long _; rw [ix_l_nw, if_neg hb]
  | k + 2 => show va_rf _ = va_rf _; rw [ix_r_nw, if_neg hb]
theorem ix_v_new {h : ix_H} {t n w : Nat} (ty : FieldType) (hty : ¬ ty = .float ∧ ¬ ty = .double) (j : Nat) : ix_v (ix_nw h t n w) (ix_kd ty) (ix_nx h) j = defaultValue ty := by
  have h0 : ix_i (ix_nw h t n w) (ix_nx h) j = 0 := by rw [ix_i_nw, if_pos rfl]
  have h1 : ix_l (ix_nw h t n w) (ix_nx h) j = 0 := by rw [ix_l_nw, if_pos rfl]
  have h2 : ix_r (ix_nw h t n w) (ix_nx h) j = none := by rw [ix_r_nw, if_pos rfl]
  cases ty with
  | float => exact absurd rfl hty.1
  | double => exact absurd rfl hty.2
  | long => show Value.long _ = _; rw [h1]; rfl
  | object _ => show va_rf _ = _; rw [h2]; rfl
  | array _ => show va_rf _ = _; rw [h2]; rfl
  | _ => show Value.int _ = _; rw [h0]; rfl
/-- a cell more: the others stay -/
theorem ix_R.new {G : ix_G} {h : ix_H} {H H1 : Heap} {tg n w : Nat} (hR : ix_R G h H) (hz : H1.size = H.size + 1) (ho : ∀ q : Nat, q < H.size → H1[q]? = H[q]?)
    (h1 : ∀ k, tg = k + 1 → k < 10 → t_OB H.size (G.1.1 k) (ix_nf k) (G.1.2 k) H1 (fun j => ix_v (ix_nw h tg n w) (ix_kd (ix_ty k j)) H.size j)) (h2 : ∀ t, tg = 100 + t → t < 8 → H1[H.size]? = some (ix_arr G (ix_nw h tg n w) t H.size)) (h3 : tg < 200) : ix_R G (ix_nw h tg n w) H1 := by
  obtain ⟨r1, r2, r3, r4, r5⟩ := hR
  have lt : ∀ b, b ≠ ix_nx h → ix_tg (ix_nw h tg n w) b = ix_tg h b := fun b hb => by rw [ix_tg_nw, if_neg hb]
  have harr : ∀ t b, b ≠ ix_nx h → ix_arr G (ix_nw h tg n w) t b = ix_arr G h t b := fun t b hb => by
    unfold ix_arr
    rw [ix_ln_nw, if_neg hb]
    congr 1
    funext j
    exact ix_v_nw _ b j hb
  have self : ix_tg (ix_nw h tg n w) (ix_nx h) = tg := by rw [ix_tg_nw, if_pos rfl]
  refine ⟨by rw [ix_nx_nw, r1, hz], by rw [hz]; exact Nat.le_succ_of_le r2, fun b k hb hk => ?_, fun b t hb hk => ?_, fun b t hb hk => ?_⟩
  · by_cases e : b = ix_nx h
    · subst e
      rw [self] at hb
      rw [r1]
      exact ⟨r2, h1 k hb hk⟩
    · rw [lt b e] at hb
      obtain ⟨q1, q2⟩ := r3 b k hb hk
      have hlt : b < H.size := by
        obtain ⟨cell, q, -⟩ := q2
        exact (Array.getElem?_eq_some_iff.mp q).1
      exact ⟨q1, (q2.kept (ho b hlt)).to (fun j _ => (ix_v_nw _ b j e).symm)⟩
  · by_cases e : b = ix_nx h
    · subst e
      rw [self] at hb
      rw [r1]
      exact ⟨r2, h2 t hb hk⟩
    · rw [lt b e] at hb
      obtain ⟨q1, q2⟩ := r4 b t hb hk
      exact ⟨q1, by rw [ho b (Array.getElem?_eq_some_iff.mp q2).1, q2, harr t b e]⟩
  · by_cases e : b = ix_nx h
    · subst e
      rw [self] at hb
      omega
    · rw [lt b e] at hb
      have q2 := r5 b t hb hk
      rw [ho b (Array.getElem?_eq_some_iff.mp q2).1, q2, harr t b e]
theorem ix_newS {A : Nat → Prop} {H0 H H1 : Heap} {locs : List Loc} (hS : va_S A H0 H locs) (hz : H1.size = H.size + 1) (ho : ∀ q : Nat, q < H.size → H1[q]? = H[q]?) : va_S A H0 H1 locs :=
  ⟨Nat.le_trans hS.1 (by omega), fun x h1 h2 => (ho x (Nat.lt_of_lt_of_le h1 hS.1)).trans (hS.2.1 x h1 h2), hS.2.2⟩
/-- class k is what own class' entry i names -/
def ix_NL (own : String) (i k : Nat) : Prop := k < 10 ∧ ix_cl[k]? = some (ix_cn k, ix_cT k, ix_nf k) ∧ (∀ w ∈ u_ws (ix_cn k) (ix_cT k) (ix_nf k), w ∈ ix_words) ∧ Cond.classLink own i (ix_cn k) ∈ ix_words ∧ Cond.instantiable (ix_cn k) (ix_nf k) ∈ ix_words ∧ Cond.initialized (ix_cn k) ∈ ix_words
theorem ix_nofd : ∀ k, k < 10 → ∀ j, j < ix_nf k → ¬ ix_ty k j = .float ∧ ¬ ix_ty k j = .double := by decide +kernel
section IX4
variable {G : ix_G} {m pc : Nat} {lv : List (Nat × Value)} {st : List Value} {h h' : ix_H} {r : ix_O}
theorem ix_new {i k : Nat} (hd : decode (ix_by m) pc = .ok (.new i, 3)) (hN : ix_NL (ix_own m) i k) (kk : ix_Ev G m (pc + 3) lv (.ref (ix_nx h) :: st) (ix_nw h (k + 1) 0 (ix_nf k)) r h') : ix_Ev G m pc lv st h r h' := by
  obtain ⟨hk, hc, hin, hlink, hins, hini⟩ := hN
  have k1 := kk.1
  rw [ix_nx_nw, ix_us_nw] at k1
  refine ⟨by omega, fun p l e R s mid args below meth c C H locs cells slots ls hR hS hl hc1 hs1 => ?_⟩
  have hts : ∀ w ∈ ix_words, w.before args s = true := fun w hw => C.w hw args
  have hKn := C.2.2.2.2.2.2.2.2.2.2.1.1 k _ hc
  refine W.newcK C.1 C.2.1 C.2.2.2.2.2.1 (hts _ hlink) (hts _ hins) (hts _ hini) rfl hd (by omega) (by omega) hKn.2.1 rfl fun H1 kC hkC e1 z1 o1 => ?_
  have hR1 : ix_R G (ix_nw h (k + 1) 0 (ix_nf k)) H1 := by
    refine hR.new z1 o1 (fun k' hk' _ => ?_) (fun t ht _ => by omega) (by omega)
    have : k' = k := by omega
    subst this
    refine (u_born (ix_ty k') hts hin hKn hkC e1 (ix_tk k' hk).1).to (fun j hj => ?_)
    rw [← hR.1]
    exact (ix_v_new _ (ix_nofd k' hk j hj) j).symm
  have K := kk.2 p l e R s mid args below meth c C H1 locs (cells + 1) (slots + ix_nf k) ls hR1 (ix_newS hS z1 o1) hl (by rw [ix_nx_nw]; omega) (by rw [ix_us_nw]; omega)
  rw [ix_nx_nw, ix_us_nw, show cells + 1 + (ix_nx h' - (ix_nx h + 1)) = cells + (ix_nx h' - ix_nx h) by omega, show slots + ix_nf k + (ix_us h' - (ix_us h + ix_nf k)) = slots + (ix_us h' - ix_us h) by omega] at K
  exact W.eq (g2 := F0 mid (pc + 3) ls (.ref (ix_nx h) :: st)) (by rw [hR.1]) K
/-- an array of a primitive kind: boolean, byte, int, long; its word -/
def ix_AK (t : Nat) (at_ : ArrayType) : Prop := t < 4 ∧ newarray.typeOf at_ = ix_at t
theorem ix_arrK {G : ix_G} {m : Nat} {p : Program} {l : Launch} {R : Room} {s : State} {mid : MethodId} {meth : Method} {c : Code} (C : ix_Cx G m p l R s mid meth c) {t : Nat} (ht : t < 8) : va_RA s (G.2.1 t) (ix_at t) := (C.2.2.2.2.2.2.2.2.2.2.1.2 t _ (ix_tyAt G ht)).2
theorem ix_harr {s : State} {cA : ClassId} {ty : FieldType} {args : Array Value} (h1 : s.vm.findClass ("[" ++ ty.toString) = some cA) (h2 : ArrOfT s cA ty) : (Cond.arrayClass ty).before args s = true := by
  obtain ⟨-, kA, hk, comp, hkind⟩ := h2 0 (fun _ => .null)
  have hk' : s.vm.classes[cA]? = some kA := hk
  simp [Cond.before, Cond.holds, Cond.value, h1, hk', hkind]
theorem ix_newa {t : Nat} {at_ : ArrayType} {n : Int32} {N : Nat} (hd : decode (ix_by m) pc = .ok (.newarray at_, 2)) (hA : ix_AK t at_) (hn : n = nI N) (hN : N ≤ 100000) (kk : ix_Ev G m (pc + 2) lv (.ref (ix_nx h) :: st) (ix_nw h (100 + t) N N) r h') : ix_Ev G m pc lv (.int n :: st) h r h' := by
  obtain ⟨t4, hty⟩ := hA
  have t8 : t < 8 := by omega
  have k1 := kk.1
  rw [ix_nx_nw, ix_us_nw] at k1
  refine ⟨by omega, fun p l e R s mid args below meth c C H locs cells slots ls hR hS hl hc1 hs1 => ?_⟩
  have hRA := ix_arrK C t8
  have hAT : ArrOfT s (G.2.1 t) (ix_at t) := (C.2.2.2.2.2.2.2.2.2.2.1.2 t _ (ix_tyAt G t8)).1
  have hnm : s.vm.findClass ("[" ++ (ix_at t).toString) = some (G.2.1 t) := by
    match t, t4, hRA with
    | 0, _, q => exact q
    | 1, _, q => exact q
    | 2, _, q => exact q
    | 3, _, q => exact q
  have hcb : componentBytes (ix_at t) ≤ 8 := by
    match t, t4 with
    | 0, _ => decide
    | 1, _ => decide
    | 2, _ => decide
    | 3, _ => decide
  have hfd : ¬ ix_at t = .float ∧ ¬ ix_at t = .double := by
    match t, t4 with
    | 0, _ => decide
    | 1, _ => decide
    | 2, _ => decide
    | 3, _ => decide
  have hN31 : N < 2 ^ 31 := by omega
  refine va_newaK (N := N) C.1 C.2.1 (by rw [hty]; exact ix_harr hnm hAT) rfl hd rfl (by rw [hn]; exact nI_pos hN31) (by rw [hn]; exact nI_clamp hN31) (by rw [hty]; have := Nat.mul_le_mul_left N hcb; omega) (by omega) (by omega) rfl fun H1 cA e1 z1 o1 hAr hNm => ?_
  rw [hty] at e1 hNm
  have hcA : cA = G.2.1 t := Option.some.inj (hNm.symm.trans hnm)
  subst hcA
  have hR1 : ix_R G (ix_nw h (100 + t) N N) H1 := by
    refine hR.new z1 o1 (fun k' hk' _ => by omega) (fun t' ht _ => ?_) (by omega)
    have : t' = t := by omega
    subst this
    rw [e1, ← hR.1]
    unfold ix_arr
    rw [ix_ln_nw, if_pos rfl]
    congr 2
    funext j
    exact (ix_v_new _ hfd j).symm
  have K := kk.2 p l e R s mid args below meth c C H1 locs (cells + 1) (slots + N) ls hR1 (ix_newS hS z1 o1) hl (by rw [ix_nx_nw]; omega) (by rw [ix_us_nw]; omega)
  rw [ix_nx_nw, ix_us_nw, show cells + 1 + (ix_nx h' - (ix_nx h + 1)) = cells + (ix_nx h' - ix_nx h) by omega, show slots + N + (ix_us h' - (ix_us h + N)) = slots + (ix_us h' - ix_us h) by omega] at K
  exact W.eq (g2 := F0 mid (pc + 2) ls (.ref (ix_nx h) :: st)) (by rw [hR.1]) K
theorem ix_anew {t i : Nat} {Cn : String} {n : Int32} {N : Nat} (hd : decode (ix_by m) pc = .ok (.anewarray i, 3)) (t8 : t < 8) (hat : ix_at t = .object Cn) (hCn : Cn = "FileDelivery$Side" ∨ Cn = "FileDelivery$Unit" ∨ Cn = "java/lang/Object") (hlink : Cond.classLink (ix_own m) i Cn ∈ ix_words) (hn : n = nI N) (hN : N ≤ 100000) (kk : ix_Ev G m (pc + 3) lv (.ref (ix_nx h) :: st) (ix_nw h (100 + t) N N) r h') : ix_Ev G m pc lv (.int n :: st) h r h' := by
  have k1 := kk.1
  rw [ix_nx_nw, ix_us_nw] at k1
  refine ⟨by omega, fun p l e R s mid args below meth c C H locs cells slots ls hR hS hl hc1 hs1 => ?_⟩
  have hRA := ix_arrK C t8
  rw [hat] at hRA
  obtain ⟨kA0, comp0, -, -, -, hnm⟩ := hRA
  have hover : va_AO Cn s := by
    obtain ⟨-, -, -, -, -, h6, h7, h8⟩ := C.2.2.2.2.2.2.2.2.2
    rcases hCn with q | q | q
    · rw [q]; exact h6
    · rw [q]; exact h7
    · rw [q]; exact h8
  have hN31 : N < 2 ^ 31 := by omega
  have hcl : n.toNatClampNeg = N := by rw [hn]; exact nI_clamp hN31
  refine W.anew C.1 C.2.1 C.2.2.2.2.2.1 (C.w hlink args) (va_AO.use hover) rfl hd rfl (by rw [hn]; exact nI_pos hN31) (by rw [hcl]; omega) (by omega) (by rw [hcl]; omega) fun cA kA comp f1 f2 f3 f4 => ?_
  have hcA : cA = G.2.1 t := Option.some.inj (f1.symm.trans hnm)
  subst hcA
  rw [hcl]
  generalize hH1 : H.push ({ cls := G.2.1 t, slots := Array.replicate N .null, vm := .none } : Cell) = H1
  have z1 : H1.size = H.size + 1 := by rw [← hH1, Array.size_push]
  have e1 : H1[H.size]? = some (arrV (G.2.1 t) N (fun _ => .null)) := by rw [← hH1, Array.getElem?_push_size, ← arrV_new]
  have o1 : ∀ q : Nat, q < H.size → H1[q]? = H[q]? := fun q hq => by rw [← hH1, Array.getElem?_push, if_neg (Nat.ne_of_lt hq)]
  have hR1 : ix_R G (ix_nw h (100 + t) N N) H1 := by
    refine hR.new z1 o1 (fun k' hk' _ => by omega) (fun t' ht _ => ?_) (by omega)
    have : t' = t := by omega
    subst this
    rw [e1, ← hR.1]
    unfold ix_arr
    rw [ix_ln_nw, if_pos rfl]
    congr 2
    funext j
    rw [hat]
    exact (ix_v_new (.object Cn) ⟨fun q => (by cases q), fun q => (by cases q)⟩ j).symm
  have K := kk.2 p l e R s mid args below meth c C H1 locs (cells + 1) (slots + N) ls hR1 (ix_newS hS z1 o1) hl (by rw [ix_nx_nw]; omega) (by rw [ix_us_nw]; omega)
  rw [ix_nx_nw, ix_us_nw, show cells + 1 + (ix_nx h' - (ix_nx h + 1)) = cells + (ix_nx h' - ix_nx h) by omega, show slots + N + (ix_us h' - (ix_us h + N)) = slots + (ix_us h' - ix_us h) by omega] at K
  exact W.eq (g2 := F0 mid (pc + 3) ls (.ref (ix_nx h) :: st)) (by rw [hR.1]) K
/-! ===== references into arrays ===== -/
/-- an object of class k may stand in an array of kind t -/
def ix_AS (k t : Nat) : Prop := k < 10 ∧ t < 8 ∧ ix_cl[k]? = some (ix_cn k, ix_cT k, ix_nf k) ∧ ∃ Cn : String, ix_at t = .object Cn ∧ (ix_cn k = Cn ∨ Cond.castable (ix_cn k) Cn ∈ ix_words)
theorem ix_aast {a b t k : Nat} {j : Int32} (hd : decode (ix_by m) pc = .ok (.aastore, 1)) (hAS : ix_AS k t) (ht : ix_tg h a = 100 + t) (hb : ix_tg h b = k + 1) (hin : vp_in j (ix_ln h a)) (kk : ix_Ev G m (pc + 1) lv st (ix_sr h a j.toNatClampNeg (some b)) r h') : ix_Ev G m pc lv (.ref b :: .int j :: .ref a :: st) h r h' := by
  obtain ⟨k10, t8, hc, Cn, hat, hcast⟩ := hAS
  refine ⟨kk.1, fun p l e R s mid args below meth c C H locs cells slots ls hR hS hl hc1 hs1 => ?_⟩
  have hts : ∀ w ∈ ix_words, w.before args s = true := fun w hw => C.w hw args
  obtain ⟨-, cellV, g1, g2, g3, -⟩ := hR.2.2.1 b k hb k10
  obtain ⟨-, hfc, kC, hkC, hkind⟩ := C.2.2.2.2.2.2.2.2.2.2.1.1 k _ hc
  have hRA := ix_arrK C t8
  rw [hat] at hRA
  obtain ⟨kA, comp, a1, a2, a3, a4⟩ := hRA
  have hasg : s.vm.assignable cellV.cls comp = true := by
    rw [g2]
    rcases hcast with q | q
    · have : comp = G.1.1 k := Option.some.inj (a3.symm.trans (by rw [← q]; exact hfc))
      rw [this]
      exact va_asg _ _
    · obtain ⟨c3, c4, hc3, hc4, hasg⟩ := Cond.castable_spec (hts _ q)
      cases Option.some.inj (hc3.symm.trans hfc)
      cases Option.some.inj (hc4.symm.trans a3)
      exact hasg
  obtain ⟨kcomp, hkcomp⟩ := Vm.classAt_of_findClass a3
  refine W.aast C.1 C.2.1 (hR.arr t8 (Or.inl ht)) (fun q h => by cases h) (fun h => by cases h) a1 a2 rfl hkcomp ⟨fun q => hin (Or.inl q), by show _ < (arrV _ _ _).slots.size; rw [arrV_size]; exact ix_inlt hin⟩ g1 (fun q h => by rw [g3] at h; cases h) (by rw [g2]; exact hkC) hasg rfl rfl hd fun H' e1 e2 e3 => ?_
  exact kk.2 p l e R s mid args below meth c C H' _ cells slots ls (hR.ast (t := t) (n := j.toNatClampNeg) (v := .ref b) t8 ht rfl (fun _ => rfl) (fun _ => rfl) (fun kd b j' q => ix_v_sr kd b j' (q.elim Or.inl (fun q => Or.inr (Or.inl q)))) (by rw [hat]; show va_rf _ = _; rw [ix_r_sr, if_pos ⟨rfl, rfl⟩]; rfl) e1 e2 e3) (hS.put e2 e3 (hR.2.2.2.1 a t ht t8).1) hl hc1 hs1
theorem ix_aastN {a t : Nat} {Cn : String} {j : Int32} (hd : decode (ix_by m) pc = .ok (.aastore, 1)) (t8 : t < 8) (hat : ix_at t = .object Cn) (ht : ix_tg h a = 100 + t) (hin : vp_in j (ix_ln h a)) (kk : ix_Ev G m (pc + 1) lv st (ix_sr h a j.toNatClampNeg none) r h') : ix_Ev G m pc lv (.null :: .int j :: .ref a :: st) h r h' := by
  refine ⟨kk.1, fun p l e R s mid args below meth c C H locs cells slots ls hR hS hl hc1 hs1 => ?_⟩
  refine va_WaastN (C := Cn) C.1 C.2.1 (hR.arr t8 (Or.inl ht)) (by rw [← hat]; exact ix_isarr C t8 h a) (fun h => by cases h) (ix_ain hin) rfl rfl hd fun H' e1 e2 e3 => ?_
  exact kk.2 p l e R s mid args below meth c C H' _ cells slots ls (hR.ast (t := t) (n := j.toNatClampNeg) (v := .null) t8 ht rfl (fun _ => rfl) (fun _ => rfl) (fun kd b j' q => ix_v_sr kd b j' (q.elim Or.inl (fun q => Or.inr (Or.inl q)))) (by rw [hat]; show va_rf _ = _; rw [ix_r_sr, if_pos ⟨rfl, rfl⟩]; rfl) e1 e2 e3) (hS.put e2 e3 (hR.2.2.2.1 a t ht t8).1) hl hc1 hs1
end IX4
end
section
/-! ===== rows of the judgement: answers and calls ===== -/
section IX5
variable {G : ix_G} {m pc : Nat} {lv : List (Nat × Value)} {st : List Value} {h h' : ix_H} {r : ix_O}
theorem ix_iret {v : Int32} {ty : FieldType} (hd : decode (ix_by m) pc = .ok (.ireturn, 1)) (hr : ix_rt m = some ty) (hn : narrow ty (.int v) = .int v) : ix_Ev G m pc lv [.int v] h (some (.int v)) h := by
  refine ⟨⟨Nat.le_refl _, Nat.le_refl _⟩, fun p l e R s mid args below meth c C H locs cells slots ls hR hS hl hc hs => ?_⟩
  rw [Nat.sub_self, Nat.sub_self, Nat.add_zero, Nat.add_zero]
  exact W.zret C.1 C.2.1 (C.2.2.2.1.trans hr) hn (fun t ht hW => ⟨rfl, by rw [ht]; exact hR, hS.F ht⟩) hS.2.2 hd (hlocks := C.2.2.2.2.1)
theorem ix_vret (hd : decode (ix_by m) pc = .ok (.return_, 1)) (hr : ix_rt m = none) : ix_Ev G m pc lv [] h none h := by
  refine ⟨⟨Nat.le_refl _, Nat.le_refl _⟩, fun p l e R s mid args below meth c C H locs cells slots ls hR hS hl hc hs => ?_⟩
  rw [Nat.sub_self, Nat.sub_self, Nat.add_zero, Nat.add_zero]
  exact W.vret C.1 C.2.1 (C.2.2.2.1.trans hr) (fun t ht hW => ⟨rfl, by rw [ht]; exact hR, hS.F ht⟩) hS.2.2 hd (hlocks := C.2.2.2.2.1)
theorem ix_aret {v : Value} {ty : FieldType} (hd : decode (ix_by m) pc = .ok (.areturn, 1)) (hr : ix_rt m = some ty) (hty : (∃ n, ty = .object n) ∨ ∃ t, ty = .array t) (hv : v = .null ∨ ∃ a, v = .ref a) : ix_Ev G m pc lv [v] h (some v) h := by
  refine ⟨⟨Nat.le_refl _, Nat.le_refl _⟩, fun p l e R s mid args below meth c C H locs cells slots ls hR hS hl hc hs => ?_⟩
  rw [Nat.sub_self, Nat.sub_self, Nat.add_zero, Nat.add_zero]
  exact W.aret C.1 C.2.1 (C.2.2.2.1.trans hr) hty hv (fun t ht hW => ⟨rfl, by rw [ht]; exact hR, hS.F ht⟩) hS.2.2 hd (hlocks := C.2.2.2.2.1)
end IX5
/-- the judgement at a method's entry is its contract -/
def ix_ws (k : Nat) : List Cond := [Cond.code (ix_y k) (ix_by k) (ix_mL k) (ix_rt k)]
def ix_rm (k c s : Nat) : Room := { frames := ix_fr k, cells := c, slots := s, locals := ix_lo k }
theorem ix_met {G : ix_G} {k : Nat} {as : List Value} {h h1 : ix_H} {r : ix_O} (l : Launch) (hM : ix_Ev G k 0 (lv_args 0 as) [] h r h1) (hp : plainFor (ix_y k) = true) (hlen : (lg_sl as).length ≤ ix_mL k) :
    Met l (ix_y k) (ix_ws k) (ix_rm k (ix_nx h1 - ix_nx h) (ix_us h1 - ix_us h)) (va_Pc as (fun U => ix_R G h U.heap ∧ ix_KU G U)) (ix_Q G r h1) (ix_nx h1 - ix_nx h) (ix_us h1 - ix_us h) (ix_A G) := by
  refine va_MetF (cc := ix_by k) (maxL := ix_mL k) (ret := ix_rt k) hp rfl ?_
  intro p e s m args below meth c s₁ B hml hv
  obtain ⟨rfl, hR, hK⟩ := hv
  have C : ix_Cx G k p l (headSpec (ix_ws k) (ix_rm k (ix_nx h1 - ix_nx h) (ix_us h1 - ix_us h))).room s m meth c := ⟨B.exec, B.bytes, hml, B.returns, B.notSynchronized, findClass_of_methodNamed B.named, (name_of_methodNamed B.named B.method).1, Nat.le_refl _, Nat.le_refl _, hK⟩
  have hl := lv_entry as (n := ix_mL k) hlen
  rw [lg_entry_eq]
  generalize (lg_sl as ++ List.replicate (ix_mL k - (lg_sl as).length) Slot.unset).toArray = ls at hl ⊢
  have K := hM.2 p l e _ s m as.toArray below meth c C s.heap [] 0 0 ls hR va_S.rf hl (by rw [Nat.zero_add]; exact Nat.le_refl _) (by rw [Nat.zero_add]; exact Nat.le_refl _)
  rw [Nat.zero_add, Nat.zero_add] at K
  exact K
/-- what is said of a callee k -/
def ix_ok (k n : Nat) : Prop := plainFor (ix_y k) = true ∧ ((ix_y k).cls ≠ "java/lang/invoke/MethodHandle" ∧ (ix_y k).cls ≠ "java/lang/invoke/VarHandle" ∧ (parseMethodDescriptor (ix_y k).desc).map (fun d => d.parameters.length) = some n) ∧ Cond.code (ix_y k) (ix_by k) (ix_mL k) (ix_rt k) ∈ ix_words ∧ Cond.initialized (ix_y k).cls ∈ ix_words
def ix_room (m k : Nat) : Prop := ix_fr k + 1 ≤ ix_fr m ∧ 8 + (ix_mL k + 11) + ix_lo k ≤ ix_lo m
section IX6
variable {p : Program} {l : Launch} {e : Env} {R : Room} {s : State} {mid : MethodId} {args : Array Value} {below : List Frame} {meth : Method} {c : Code} {H : Heap} {locs : List Loc} {cells slots : Nat} {Q : State → Prop}
theorem ix_run {G : ix_G} {pc mc ms : Nat} {ls : Array Slot} {st0 rest : List Value} {rv : ix_O} {h1 : ix_H} {a : Array Value} (hr : va_Run p l e R s mid args below meth c H locs cells slots mc ms (F0 mid pc ls st0) rest (ix_Q G rv h1 a) (ix_A G)) (hS : va_S (ix_A G) s.heap H locs)
    (kk : ∀ (H1 : Heap) (locs1 : List Loc), ix_R G h1 H1 → va_S (ix_A G) s.heap H1 locs1 → W p l e R s mid args below meth c H1 locs1 (cells + mc) (slots + ms) Q (F0 mid (pc + 3) ls (rv.toList ++ rest))) : W p l e R s mid args below meth c H locs cells slots Q (F0 mid pc ls st0) := by
  intro T hT X
  obtain ⟨v, st₀, t, T', L, h0, X', hL, e1, e2, ⟨hv, hq, hz, hk⟩, st⟩ := hr T hT X
  cases hv
  rw [h0] at hz hk
  obtain ⟨t2, a1, b1⟩ := kk T'.heap (locs ++ L) (by rw [e1]; exact hq)
    ⟨Nat.le_trans hS.1 (by rw [e1]; exact hz), fun q h1 h2 => by rw [e1, hk q (Nat.lt_of_lt_of_le h1 hS.1) h2]; exact hS.2.1 q h1 h2, fun q hq => by
      rcases List.mem_append.mp hq with h | h
      · exact hS.2.2 q h
      · exact hL q h⟩ T' rfl X'
  exact ⟨t2, st t2 a1, b1⟩
theorem ix_callB {G : ix_G} {m k n : Nat} (C : ix_Cx G m p l R s mid meth c) (hk : ix_ok k n) (hroom : ix_room m k) (cc ss : Nat) : (ix_rm k cc ss).cells = cc ∧ (ix_rm k cc ss).slots = ss ∧ (ix_rm k cc ss).frames + 1 ≤ R.frames ∧ 8 + (ix_mL k + 11) + (ix_rm k cc ss).locals ≤ R.locals ∧ (∀ w ∈ ix_ws k, ∀ (a' : Array Value) (U : State), s.WarmedH U.vm → w.before a' U = true) ∧ Cond.code (ix_y k) (ix_by k) (ix_mL k) (ix_rt k) ∈ ix_ws k := by
  refine ⟨rfl, rfl, Nat.le_trans hroom.1 C.2.2.2.2.2.2.2.1, Nat.le_trans hroom.2 C.2.2.2.2.2.2.2.2.1, fun w hw a' U hW => ?_, List.mem_singleton.mpr rfl⟩
  rw [List.mem_singleton.mp hw]
  exact va_Nw.use (ix_onT (List.mem_filter.mp hk.2.2.1).2) (ix_moveW (List.mem_filter.mp hk.2.2.1).2 hW (C.2.2.2.2.2.2.2.2.2.1 _ hk.2.2.1))
theorem ix_pre {G : ix_G} {m : Nat} {h : ix_H} {as : List Value} (C : ix_Cx G m p l R s mid meth c) (hR : ix_R G h H) (hS : va_S (ix_A G) s.heap H locs) : FrameBlind (va_Pc as (fun U => ix_R G h U.heap ∧ ix_KU G U)) ∧ ∀ U : State, U.heap = H → s.WarmedH U.vm → va_Pc as (fun U => ix_R G h U.heap ∧ ix_KU G U) as.toArray U :=
  ⟨fun a U g mk q => ⟨q.1, q.2.1, q.2.2.calling⟩, fun U hU hW => ⟨rfl, by rw [hU]; exact hR, C.2.2.2.2.2.2.2.2.2.moved hW (by rw [hU]; exact hS)⟩⟩
theorem ix_arity {k n : Nat} (hk : ix_ok k n) : ∀ sig, parseMethodDescriptor (ix_y k).desc = some sig → n = sig.parameters.length := fun sig h => by
  have h2 := hk.2.1.2.2
  rw [h] at h2
  exact (Option.some.inj h2).symm
end IX6
section IX7
variable {G : ix_G} {m pc : Nat} {lv : List (Nat × Value)} {stk st : List Value} {h h1 h' : ix_H} {r rv : ix_O}
/-- an instance method of class kc's objects -/
def ix_VL (own : String) (i k kc : Nat) : Prop := Cond.methodLink own i (ix_y k) ∈ ix_words ∧ Cond.instanceMethod (ix_y k) ∈ ix_words ∧ Cond.selects (ix_y k).cls (ix_y k) (ix_y k) ∈ ix_words ∧ kc < 10 ∧ ix_cl[kc]? = some (ix_cn kc, ix_cT kc, ix_nf kc) ∧ ix_cn kc = (ix_y k).cls
theorem ix_callV {i k kc n b : Nat} (as : List Value) (hd : decode (ix_by m) pc = .ok (.invokevirtual i, 3)) (hk : ix_ok k n) (hroom : ix_room m k) (hL : ix_VL (ix_own m) i k kc) (hstk : stk = as.reverse ++ .ref b :: st) (hn : as.length = n) (hcat : (st.map fun v => v.category).sum ≤ 8) (hsl : (lg_sl (.ref b :: as)).length ≤ ix_mL k) (hb : ix_tg h b = kc + 1)
    (hM : ix_Ev G k 0 (lv_args 0 (.ref b :: as)) [] h rv h1) (kk : ix_Ev G m (pc + 3) lv (rv.toList ++ st) h1 r h') : ix_Ev G m pc lv stk h r h' := by
  subst hstk
  obtain ⟨hl1, hl2, hl3, hkc, hcl, hcn⟩ := hL
  have m1 := hM.1
  have k1 := kk.1
  refine ⟨by omega, fun p l e R s mid args below meth c C H locs cells slots ls hR hS hl hc1 hs1 => ?_⟩
  have hts : ∀ w ∈ ix_words, w.before args s = true := fun w hw => C.w hw args
  obtain ⟨b1, b2, b3, b4, b5, b6⟩ := ix_callB C hk hroom (ix_nx h1 - ix_nx h) (ix_us h1 - ix_us h)
  obtain ⟨hblind, hpre⟩ := ix_pre (as := .ref b :: as) C hR hS
  obtain ⟨-, cellB, g1, g2, g3, -⟩ := hR.2.2.1 b kc hb hkc
  have hfc : s.vm.findClass (ix_y k).cls = some cellB.cls := by
    rw [g2, ← hcn]
    exact (C.2.2.2.2.2.2.2.2.2.2.1.1 kc _ hcl).2.1
  refine ix_run (va_runV (As := as) (rest := st) (C := (ix_y k).cls) (Ts := ix_words) (nL := ix_mL m) ⟨C.1, C.2.1, C.2.2.1, C.2.2.2.2.2.1, hts⟩ (ix_met l hM hk.1 hsl) ⟨⟨b1, b2, b3, b4, b5, b6, hts _ hk.2.2.1, hts _ hk.2.2.2, ⟨hk.2.1.1, hk.2.1.2.1⟩, ix_arity hk, hts _ hl1⟩, hts _ hl2, hts _ hl3⟩ ⟨hblind, ⟨cellB, g1, by rw [g3]; rfl, hfc⟩, hpre⟩ rfl hn hl.1 rfl (lv_room hcat) hd ⟨by omega, by omega⟩) hS fun H1 locs1 hR1 hS1 => ?_
  have K := kk.2 p l e R s mid args below meth c C H1 locs1 (cells + (ix_nx h1 - ix_nx h)) (slots + (ix_us h1 - ix_us h)) ls hR1 hS1 hl (by omega) (by omega)
  rw [show cells + (ix_nx h1 - ix_nx h) + (ix_nx h' - ix_nx h1) = cells + (ix_nx h' - ix_nx h) by omega, show slots + (ix_us h1 - ix_us h) + (ix_us h' - ix_us h1) = slots + (ix_us h' - ix_us h) by omega] at K
  exact K
/-- a static method -/
def ix_SL (own : String) (i k : Nat) : Prop := (Cond.methodLink own i (ix_y k) ∈ ix_words ∨ ∃ host : String, Cond.methodLinkNest own i (ix_y k) host ∈ ix_words) ∧ Cond.static (ix_y k) ∈ ix_words
theorem ix_callS {i k n : Nat} (as : List Value) (hd : decode (ix_by m) pc = .ok (.invokestatic i, 3)) (hk : ix_ok k n) (hroom : ix_room m k) (hL : ix_SL (ix_own m) i k) (hstk : stk = as.reverse ++ st) (hn : as.length = n) (hcat : (st.map fun v => v.category).sum ≤ 8) (hsl : (lg_sl as).length ≤ ix_mL k)
    (hM : ix_Ev G k 0 (lv_args 0 as) [] h rv h1) (kk : ix_Ev G m (pc + 3) lv (rv.toList ++ st) h1 r h') : ix_Ev G m pc lv stk h r h' := by
  subst hstk
  obtain ⟨hl1, hl2⟩ := hL
  have m1 := hM.1
  have k1 := kk.1
  refine ⟨by omega, fun p l e R s mid args below meth c C H locs cells slots ls hR hS hl hc1 hs1 => ?_⟩
  have hts : ∀ w ∈ ix_words, w.before args s = true := fun w hw => C.w hw args
  obtain ⟨b1, b2, b3, b4, b5, b6⟩ := ix_callB C hk hroom (ix_nx h1 - ix_nx h) (ix_us h1 - ix_us h)
  have hpre := ix_pre (as := as) C hR hS
  have K : ∀ (H1 : Heap) (locs1 : List Loc), ix_R G h1 H1 → va_S (ix_A G) s.heap H1 locs1 → W p l e R s mid args below meth c H1 locs1 (cells + (ix_nx h1 - ix_nx h)) (slots + (ix_us h1 - ix_us h)) (MQ below (ix_Q G r h') args s (cells + (ix_nx h' - ix_nx h)) (slots + (ix_us h' - ix_us h)) (ix_A G)) (F0 mid (pc + 3) ls (rv.toList ++ st)) := by
    intro H1 locs1 hR1 hS1
    have K := kk.2 p l e R s mid args below meth c C H1 locs1 (cells + (ix_nx h1 - ix_nx h)) (slots + (ix_us h1 - ix_us h)) ls hR1 hS1 hl (by omega) (by omega)
    rw [show cells + (ix_nx h1 - ix_nx h) + (ix_nx h' - ix_nx h1) = cells + (ix_nx h' - ix_nx h) by omega, show slots + (ix_us h1 - ix_us h) + (ix_us h' - ix_us h1) = slots + (ix_us h' - ix_us h) by omega] at K
    exact K
  rcases hl1 with hl1 | ⟨host, hl1⟩
  · exact ix_run (va_runS (As := as) (rest := st) (Ts := ix_words) (nL := ix_mL m) ⟨C.1, C.2.1, C.2.2.1, C.2.2.2.2.2.1, hts⟩ (ix_met l hM hk.1 hsl) ⟨⟨b1, b2, b3, b4, b5, b6, hts _ hk.2.2.1, hts _ hk.2.2.2, ⟨hk.2.1.1, hk.2.1.2.1⟩, ix_arity hk, hts _ hl1⟩, hts _ hl2⟩ hpre rfl hn hl.1 rfl (lv_room hcat) hd ⟨by omega, by omega⟩) hS K
  · exact ix_run (va_runSN (As := as) (rest := st) (Ts := ix_words) (nL := ix_mL m) (host := host) ⟨C.1, C.2.1, C.2.2.1, C.2.2.2.2.2.1, hts⟩ (ix_met l hM hk.1 hsl) ⟨⟨⟨b1, b2, b3, b4, b5, b6⟩, hts _ hk.2.2.1, hts _ hk.2.2.2, ⟨hk.2.1.1, hk.2.1.2.1⟩, ix_arity hk, hts _ hl1⟩, hts _ hl2, trivial⟩ hpre rfl hn hl.1 rfl (lv_room hcat) hd ⟨by omega, by omega⟩) hS K
/-- a constructor -/
def ix_IL (own : String) (i k : Nat) : Prop := (Cond.methodLink own i (ix_y k) ∈ ix_words ∨ ∃ host : String, Cond.methodLinkNest own i (ix_y k) host ∈ ix_words) ∧ Cond.instanceMethod (ix_y k) ∈ ix_words ∧ (ix_y k).name = "<init>" ∧ ix_rt k = none
theorem ix_callI {i k n b : Nat} (as : List Value) (hd : decode (ix_by m) pc = .ok (.invokespecial i, 3)) (hk : ix_ok k n) (hroom : ix_room m k) (hL : ix_IL (ix_own m) i k) (hstk : stk = as.reverse ++ .ref b :: st) (hn : as.length = n) (hcat : (st.map fun v => v.category).sum ≤ 8) (hsl : (lg_sl (.ref b :: as)).length ≤ ix_mL k)
    (hM : ix_Ev G k 0 (lv_args 0 (.ref b :: as)) [] h none h1) (kk : ix_Ev G m (pc + 3) lv st h1 r h') : ix_Ev G m pc lv stk h r h' := by
  subst hstk
  obtain ⟨hl1, hl2, hl3, hrt⟩ := hL
  have m1 := hM.1
  have k1 := kk.1
  refine ⟨by omega, fun p l e R s mid args below meth c C H locs cells slots ls hR hS hl hc1 hs1 => ?_⟩
  have hts : ∀ w ∈ ix_words, w.before args s = true := fun w hw => C.w hw args
  obtain ⟨b1, b2, b3, b4, b5, b6⟩ := ix_callB C hk hroom (ix_nx h1 - ix_nx h) (ix_us h1 - ix_us h)
  have hpre := ix_pre (as := .ref b :: as) C hR hS
  have hcd := hts _ hk.2.2.1
  rw [hrt] at b6 hcd
  have K : ∀ (H1 : Heap) (locs1 : List Loc), ix_R G h1 H1 → va_S (ix_A G) s.heap H1 locs1 → W p l e R s mid args below meth c H1 locs1 (cells + (ix_nx h1 - ix_nx h)) (slots + (ix_us h1 - ix_us h)) (MQ below (ix_Q G r h') args s (cells + (ix_nx h' - ix_nx h)) (slots + (ix_us h' - ix_us h)) (ix_A G)) (F0 mid (pc + 3) ls ((none : Option Value).toList ++ st)) := by
    intro H1 locs1 hR1 hS1
    have K := kk.2 p l e R s mid args below meth c C H1 locs1 (cells + (ix_nx h1 - ix_nx h)) (slots + (ix_us h1 - ix_us h)) ls hR1 hS1 hl (by omega) (by omega)
    rw [show cells + (ix_nx h1 - ix_nx h) + (ix_nx h' - ix_nx h1) = cells + (ix_nx h' - ix_nx h) by omega, show slots + (ix_us h1 - ix_us h) + (ix_us h' - ix_us h1) = slots + (ix_us h' - ix_us h) by omega] at K
    exact K
  rcases hl1 with hl1 | ⟨host, hl1⟩
  · exact ix_run (va_runI (As := as) (rest := st) (Ts := ix_words) (nL := ix_mL m) ⟨C.1, C.2.1, C.2.2.1, C.2.2.2.2.2.1, hts⟩ (ix_met l hM hk.1 hsl) ⟨⟨b1, b2, b3, b4, b5, b6, hcd, hts _ hk.2.2.2, ⟨hk.2.1.1, hk.2.1.2.1⟩, ix_arity hk, hts _ hl1⟩, hl3, hts _ hl2⟩ hpre rfl hn hl.1 rfl (lv_room hcat) hd ⟨by omega, by omega⟩) hS K
  · exact ix_run (va_runIN (As := as) (rest := st) (Ts := ix_words) (nL := ix_mL m) (host := host) ⟨C.1, C.2.1, C.2.2.1, C.2.2.2.2.2.1, hts⟩ (ix_met l hM hk.1 hsl) ⟨⟨⟨b1, b2, b3, b4, b5, b6⟩, hcd, hts _ hk.2.2.2, ⟨hk.2.1.1, hk.2.1.2.1⟩, ix_arity hk, hts _ hl1⟩, hl3, hts _ hl2⟩ hpre rfl hn hl.1 rfl (lv_room hcat) hd ⟨by omega, by omega⟩) hS K
end IX7
end
section
/-! ===== rows of the judgement: Object's constructor, casts, statics, class objects, arraycopy ===== -/
section IX8
variable {G : ix_G} {m pc : Nat} {lv : List (Nat × Value)} {st : List Value} {h h' : ix_H} {r : ix_O}
theorem ix_objI {i b : Nat} (hd : decode (ix_by m) pc = .ok (.invokespecial i, 3)) (hL : Cond.methodLink (ix_own m) i objectInit ∈ ix_words) (hI : Cond.instanceMethod objectInit ∈ ix_words) (hC : Cond.code objectInit ⟨#[0xb1]⟩ 1 none ∈ ix_words) (hf : 1 ≤ ix_fr m) (hlo : (st.map fun v => v.category).sum + 12 ≤ ix_lo m) (kk : ix_Ev G m (pc + 3) lv st h r h') : ix_Ev G m pc lv (.ref b :: st) h r h' := by
  refine ⟨kk.1, fun p l e R s mid args below meth c C H locs cells slots ls hR hS hl hc1 hs1 => ?_⟩
  refine W.objInit C.1 C.2.1 C.2.2.2.2.2.1 (C.w hL args) (C.w hI args) (C.w hC args) rfl (by rw [C.2.2.1]; exact hl.1) rfl hd (Nat.le_trans hf C.2.2.2.2.2.2.2.1) ?_ (kk.2 p l e R s mid args below meth c C H locs cells slots ls hR hS hl hc1 hs1)
  have := C.2.2.2.2.2.2.2.2.1
  show 2 * 0 + _ + 12 ≤ _
  omega
theorem ix_cast {i k a : Nat} {nm : String} (hd : decode (ix_by m) pc = .ok (.checkcast i, 3)) (hk : k < 10) (hcl : ix_cl[k]? = some (ix_cn k, ix_cT k, ix_nf k)) (hL : Cond.classLink (ix_own m) i nm ∈ ix_words) (hC : Cond.castable (ix_cn k) nm ∈ ix_words) (ht : ix_tg h a = k + 1) (kk : ix_Ev G m (pc + 3) lv (.ref a :: st) h r h') : ix_Ev G m pc lv (.ref a :: st) h r h' := by
  refine ⟨kk.1, fun p l e R s mid args below meth c C H locs cells slots ls hR hS hl hc1 hs1 => ?_⟩
  obtain ⟨-, cell, g1, g2, g3, -⟩ := hR.2.2.1 a k ht hk
  exact va_castY C.1 C.2.1 C.2.2.2.2.2.1 (C.w hL args) (C.2.2.2.2.2.2.2.2.2.1 _ hC) ⟨cell, g1, by rw [g3]; rfl, by rw [g2]; exact (C.2.2.2.2.2.2.2.2.2.2.1.1 k _ hcl).2.1⟩ hd (kk.2 p l e R s mid args below meth c C H locs cells slots ls hR hS hl hc1 hs1)
theorem ix_castN {i : Nat} (hd : decode (ix_by m) pc = .ok (.checkcast i, 3)) (kk : ix_Ev G m (pc + 3) lv (.null :: st) h r h') : ix_Ev G m pc lv (.null :: st) h r h' := ix_go (fun p l e R s mid args below meth c H locs cells slots Q ls hx hb hl k => lv_castN hx hb hd k) kk
theorem ix_gets {i : Nat} (hd : decode (ix_by m) pc = .ok (.getstatic i, 3)) (hL : Cond.fieldLink (ix_own m) i "java/util/ArrayList" "DEFAULTCAPACITY_EMPTY_ELEMENTDATA" "[Ljava/lang/Object;" ∈ ix_words) (kk : ix_Ev G m (pc + 3) lv (.ref G.2.2.2.1 :: st) h r h') : ix_Ev G m pc lv st h r h' := by
  refine ⟨kk.1, fun p l e R s mid args below meth c C H locs cells slots ls hR hS hl hc1 hs1 => ?_⟩
  exact va_gets C.1 C.2.1 C.2.2.2.2.2.2.2.2.2.2.2.2.1 hS C.2.2.2.2.2.1 (C.w hL args) (fun _ h => h) hd (kk.2 p l e R s mid args below meth c C H locs cells slots ls hR hS hl hc1 hs1)
theorem ix_ldcM {i : Nat} (hd : decode (ix_by m) pc = .ok (.ldc i, 2)) (hL : Cond.classLink (ix_own m) i "[Ljava/lang/Object;" ∈ ix_words) (kk : ix_Ev G m (pc + 2) lv (.ref G.2.2.2.2 :: st) h r h') : ix_Ev G m pc lv st h r h' := by
  refine ⟨kk.1, fun p l e R s mid args below meth c C H locs cells slots ls hR hS hl hc1 hs1 => ?_⟩
  exact va_ldcM C.1 C.2.1 C.2.2.2.2.2.1 (C.w hL args) C.2.2.2.2.2.2.2.2.2.2.2.2.2.1 hd (kk.2 p l e R s mid args below meth c C H locs cells slots ls hR hS hl hc1 hs1)
def ix_gc : MethodName := ⟨"java/lang/Object", "getClass", "()Ljava/lang/Class;"⟩
theorem ix_getC {i a : Nat} (hd : decode (ix_by m) pc = .ok (.invokevirtual i, 3)) (hL : Cond.methodLink (ix_own m) i ix_gc ∈ ix_words) (hD : Cond.declares ix_gc ∈ ix_words) (hSel : Cond.selects "[Ljava/lang/Object;" ix_gc ix_gc ∈ ix_words) (hI : Cond.instanceMethod ix_gc ∈ ix_words) (hNt : Cond.native ix_gc ∈ ix_words) (hf : 1 ≤ ix_fr m) (hlo : (st.map fun v => v.category).sum + 14 ≤ ix_lo m) (ht : ix_tg h a = 107 ∨ ix_tg h a = 207) (kk : ix_Ev G m (pc + 3) lv (.ref G.2.2.2.2 :: st) h r h') : ix_Ev G m pc lv (.ref a :: st) h r h' := by
  refine ⟨kk.1, fun p l e R s mid args below meth c C H locs cells slots ls hR hS hl hc1 hs1 => ?_⟩
  have hnm : s.vm.findClass "[Ljava/lang/Object;" = some (G.2.1 7) := va_nmO (C := "java/lang/Object") (ix_arrK C (t := 7) (by decide)) (by decide +kernel)
  refine va_getC C.1 C.2.1 (by rw [C.2.2.1]; exact hl.1.symm) C.2.2.2.2.2.1 (C.w hL args) (C.w hD args) (C.w hSel args) (C.w hI args) (C.w hNt args) C.2.2.2.2.2.2.2.2.2.2.2.2.2.1 ⟨_, hR.arr (t := 7) (by decide) ht, rfl, hnm⟩ (Nat.le_trans hf C.2.2.2.2.2.2.2.1) ?_ hd (kk.2 p l e R s mid args below meth c C H locs cells slots ls hR hS hl hc1 hs1)
  have := C.2.2.2.2.2.2.2.2.1
  omega
end IX8
/-! ===== System.arraycopy ===== -/
def ix_cpi (h : ix_H) (src sp dst dp n : Nat) : ix_H := (h.1, h.2.1, (fun b => if b = dst then va_cpy (h.2.2.1 src) (h.2.2.1 dst) sp dp n else h.2.2.1 b), h.2.2.2)
def ix_cpr (h : ix_H) (src sp dst dp n : Nat) : ix_H := (h.1, h.2.1, h.2.2.1, h.2.2.2.1, (fun b => if b = dst then va_cpy (h.2.2.2.2.1 src) (h.2.2.2.2.1 dst) sp dp n else h.2.2.2.2.1 b), h.2.2.2.2.2)
theorem ix_i_cpi (h : ix_H) (src sp dst dp n b j : Nat) : ix_i (ix_cpi h src sp dst dp n) b j = if b = dst ∧ dp ≤ j ∧ j < dp + n then ix_i h src (sp + (j - dp)) else ix_i h b j := by
  show (if b = dst then va_cpy (h.2.2.1 src) (h.2.2.1 dst) sp dp n else h.2.2.1 b) j = _
  by_cases e : b = dst
  · subst e
    rw [if_pos rfl]
    show (if dp ≤ j ∧ j < dp + n then _ else _) = _
    by_cases q : dp ≤ j ∧ j < dp + n
    · rw [if_pos q, if_pos ⟨rfl, q⟩]; rfl
    · rw [if_neg q, if_neg (fun z => q z.2)]; rfl
  · rw [if_neg e, if_neg (fun z => e z.1)]; rfl
theorem ix_r_cpr (h : ix_H) (src sp dst dp n b j : Nat) : ix_r (ix_cpr h src sp dst dp n) b j = if b = dst ∧ dp ≤ j ∧ j < dp + n then ix_r h src (sp + (j - dp)) else ix_r h b j := by
  show (if b = dst then va_cpy (h.2.2.2.2.1 src) (h.2.2.2.2.1 dst) sp dp n else h.2.2.2.2.1 b) j = _
  by_cases e : b = dst
  · subst e
    rw [if_pos rfl]
    show (if dp ≤ j ∧ j < dp + n then _ else _) = _
    by_cases q : dp ≤ j ∧ j < dp + n
    · rw [if_pos q, if_pos ⟨rfl, q⟩]; rfl
    · rw [if_neg q, if_neg (fun z => q z.2)]; rfl
  · rw [if_neg e, if_neg (fun z => e z.1)]; rfl
theorem ix_nn {z : Int32} (hz : ¬ z < 0) : z.toInt = (z.toNatClampNeg : Int) := by
  have hz0 : (0 : Int) ≤ z.toInt := by
    have := Int32.not_lt.mp hz
    simpa using Int32.le_iff_toInt_le.mp this
  show z.toInt = ((z.toInt.toNat : Nat) : Int)
  omega
section IX9
variable {G : ix_G} {m pc : Nat} {lv : List (Nat × Value)} {st : List Value} {h h' : ix_H} {r : ix_O}
/-- the words of arraycopy at own class' entry i -/
def ix_CpL (own : String) (i : Nat) : Prop := Cond.methodLink own i arraycopyName ∈ ix_words ∧ Cond.native arraycopyName ∈ ix_words ∧ Cond.static arraycopyName ∈ ix_words ∧ Cond.initialized "java/lang/System" ∈ ix_words
theorem ix_copy {h1 : ix_H} {i t src dst : Nat} {sp dp n : Int32} (hd : decode (ix_by m) pc = .ok (.invokestatic i, 3)) (hL : ix_CpL (ix_own m) i) (hf : 1 ≤ ix_fr m) (hlo : (st.map fun v => v.category).sum + (nativeFrameWords "java/lang/System" "arraycopy" 5 + 11) ≤ ix_lo m)
    (t8 : t < 8) (hsrc : ix_tg h src = 100 + t ∨ ix_tg h src = 200 + t) (hdst : ix_tg h dst = 100 + t) (q1 : ¬ sp < 0) (q2 : ¬ dp < 0) (q3 : ¬ n < 0) (q4 : sp.toNatClampNeg + n.toNatClampNeg ≤ ix_ln h src) (q5 : dp.toNatClampNeg + n.toNatClampNeg ≤ ix_ln h dst)
    (hfit : ∀ j, j < n.toNatClampNeg → fits (ix_at t) (ix_v h (ix_kd (ix_at t)) src (sp.toNatClampNeg + j)) = true)
    (hel : ∀ j, j < n.toNatClampNeg → ∀ y : Nat, ix_v h (ix_kd (ix_at t)) src (sp.toNatClampNeg + j) = .ref y → ∃ (k : Nat) (Cn : String), ix_at t = .object Cn ∧ k < 10 ∧ ix_tg h y = k + 1 ∧ ix_cl[k]? = some (ix_cn k, ix_cT k, ix_nf k) ∧ Cond.castable (ix_cn k) Cn ∈ ix_words)
    (e0 : ix_us h1 = ix_us h) (e1 : ix_nx h1 = ix_nx h) (e2 : ∀ b, ix_tg h1 b = ix_tg h b) (e3 : ∀ b, ix_ln h1 b = ix_ln h b) (e4 : ∀ kd b j, b ≠ dst → ix_v h1 kd b j = ix_v h kd b j) (e5 : ∀ j, ix_v h1 (ix_kd (ix_at t)) dst j = va_cpy (fun j => ix_v h (ix_kd (ix_at t)) src j) (fun j => ix_v h (ix_kd (ix_at t)) dst j) sp.toNatClampNeg dp.toNatClampNeg n.toNatClampNeg j)
    (kk : ix_Ev G m (pc + 3) lv st h1 r h') : ix_Ev G m pc lv (.int n :: .int dp :: .ref dst :: .int sp :: .ref src :: st) h r h' := by
  obtain ⟨l1, l2, l3, l4⟩ := hL
  refine ⟨by rw [← e1, ← e0]; exact kk.1, fun p l e R s mid args below meth c C H locs cells slots ls hR hS hl hc1 hs1 => ?_⟩
  have hts : ∀ w ∈ ix_words, w.before args s = true := fun w hw => C.w hw args
  intro T hT X
  have hc0 := hR.arr t8 hsrc
  have hcD := hR.arr t8 (Or.inl hdst)
  obtain ⟨-, k0, hk0, cm0, hkk0⟩ := ix_isarr C t8 h src
  obtain ⟨-, kD, hkD, cmD, hkkD⟩ := ix_isarr C t8 h dst
  have hrd : ∀ j, j < n.toNatClampNeg → (ix_arr G h t src).slots.getD (sp.toNatClampNeg + j) .null = ix_v h (ix_kd (ix_at t)) src (sp.toNatClampNeg + j) := fun j hj => by
    rw [Array.getD_eq_getD_getElem?, ix_aread (by omega)]
    rfl
  obtain ⟨vm', X', step⟩ := X.arraycopy C.1 C.2.2.2.2.2.1 (hts _ l1) (hts _ l2) (hts _ l3) (hts _ l4) (src := src) (dst := dst) (cs := ix_arr G h t src) (cd := ix_arr G h t dst) (srcPos := sp) (destPos := dp) (n := n) (by rw [hT]; exact hc0) (by rw [hT]; exact hcD)
    (fun _ h => by cases h) (fun _ h => by cases h) (fun h => by cases h) (fun h => by cases h) hk0 hkD hkk0 hkkD (by cases refKind (ix_at t) <;> simp) q1 q2 q3
    (by rw [ix_nn q1, ix_nn q3]; show ¬ _ > ((arrV _ _ _).slots.size : Int); rw [arrV_size]; omega)
    (by rw [ix_nn q2, ix_nn q3]; show ¬ _ > ((arrV _ _ _).slots.size : Int); rw [arrV_size]; omega)
    (fun vm₁ hal i hi => by
      rw [hrd i hi]
      refine ⟨hfit i hi, ?_⟩
      cases hy : ix_v h (ix_kd (ix_at t)) src (sp.toNatClampNeg + i) with
      | ref y =>
        obtain ⟨k, Cn, hat, hk, hy2, hcl, hca⟩ := hel i hi y hy
        obtain ⟨-, cellV, g1, g2, g3, -⟩ := hR.2.2.1 y k hy2 hk
        have hRA := ix_arrK C t8
        rw [hat] at hRA
        obtain ⟨kA, comp, r1, r2, r3, -⟩ := hRA
        cases hkD.symm.trans r1
        have hcm : cmD = comp := by
          have := hkkD.symm.trans r2
          injection this
        subst hcm
        obtain ⟨-, hfc, kC, hkC, -⟩ := C.2.2.2.2.2.2.2.2.2.2.1.1 k _ hcl
        obtain ⟨kE, hkE, -⟩ := Vm.findClass_spec r3
        obtain ⟨kC', hkC', -⟩ := hal.2.2 _ _ hkC
        obtain ⟨kE', hkE', -⟩ := hal.2.2 _ _ hkE
        refine ⟨cellV, (show T.heap[y]? = some cellV by rw [hT]; exact g1), (fun q h => by rw [g3] at h; cases h), ⟨kC', by rw [g2]; exact hkC'⟩, ⟨kE', hkE'⟩, ?_⟩
        show vm₁.assignable _ _ = true
        rw [hal.assignable, g2]
        obtain ⟨c3, c4, hc3, hc4, hasg⟩ := Cond.castable_spec (hts _ hca)
        cases Option.some.inj (hc3.symm.trans hfc)
        cases Option.some.inj (hc4.symm.trans r3)
        exact hasg
      | _ => exact trivial)
    (g := F0 mid pc ls (.int n :: .int dp :: .ref dst :: .int sp :: .ref src :: st)) rfl (by rw [C.2.2.1]; exact hl.1) (rest := st) rfl (by rw [C.2.1]; exact hd) (Nat.le_trans hf C.2.2.2.2.2.2.2.1) (by have := C.2.2.2.2.2.2.2.2.1; show 2 * 0 + _ + _ ≤ _; omega)
  have hcp : copied (ix_arr G h t src) (ix_arr G h t dst) sp dp n = ix_arr G h1 t dst := by
    have z := va_copied (fun v : Value => v) (G.2.1 t) (G.2.1 t) (n0 := ix_ln h src) (n1 := ix_ln h dst) (sp := sp.toNatClampNeg) (dp := dp.toNatClampNeg) (n := n.toNatClampNeg) (fun j => ix_v h (ix_kd (ix_at t)) src j) (fun j => ix_v h (ix_kd (ix_at t)) dst j) q4
    refine Eq.trans z ?_
    unfold ix_arr
    rw [e3 dst]
    congr 1
    funext j
    exact (e5 j).symm
  rw [hcp] at X' step
  have hlt : dst < H.size := (Array.getElem?_eq_some_iff.mp hcD).1
  have hheap : ((T.setVm vm').setCell dst (ix_arr G h1 t dst)).heap = H.setIfInBounds dst (ix_arr G h1 t dst) := by rw [← hT]; rfl
  have oq : ∀ q : Nat, q ≠ dst → (H.setIfInBounds dst (ix_arr G h1 t dst))[q]? = H[q]? := fun q hq => by simp [Array.getElem?_setIfInBounds, Ne.symm hq]
  have oz : (H.setIfInBounds dst (ix_arr G h1 t dst)).size = H.size := by simp
  have hA := (hR.2.2.2.1 dst t hdst t8).1
  have hR1 : ix_R G h1 (H.setIfInBounds dst (ix_arr G h1 t dst)) := by
    refine hR.put e1 e2 e3 e4 oz oq (fun k hk _ => by omega) (fun t' ht' _ => ?_) (fun t' ht' => by omega)
    have : t' = t := by omega
    subst this
    simp [Array.getElem?_setIfInBounds, hlt]
  have hS1 : va_S (ix_A G) s.heap (H.setIfInBounds dst (ix_arr G h1 t dst)) (locs ++ ((ix_arr G h t src).stretch sp.toNatClampNeg n.toNatClampNeg).zipIdx.map fun q => ⟨dst, dp.toNatClampNeg + q.2⟩) := ⟨by rw [oz]; exact hS.1, fun q g1 g2 => by
      rw [oq q (fun e => g2 (by rw [e]; exact hA))]
      exact hS.2.1 q g1 g2, fun q hq => by
      rcases List.mem_append.mp hq with h | h
      · exact hS.2.2 q h
      · obtain ⟨z, -, hz⟩ := List.mem_map.mp h
        rw [← hz]
        exact hA⟩
  have K := kk.2 p l e R s mid args below meth c C _ _ cells slots ls hR1 hS1 hl (by rw [e1]; exact hc1) (by rw [e0]; exact hs1)
  rw [e1, e0] at K
  obtain ⟨t2, a1, b1⟩ := K _ hheap X'
  exact ⟨t2, step t2 a1, b1⟩
/-- bytes -/
theorem ix_copyB {i src dst : Nat} {sp dp n : Int32} (hd : decode (ix_by m) pc = .ok (.invokestatic i, 3)) (hL : ix_CpL (ix_own m) i) (hf : 1 ≤ ix_fr m) (hlo : (st.map fun v => v.category).sum + (nativeFrameWords "java/lang/System" "arraycopy" 5 + 11) ≤ ix_lo m)
    (hsrc : ix_tg h src = 102) (hdst : ix_tg h dst = 102) (q1 : ¬ sp < 0) (q2 : ¬ dp < 0) (q3 : ¬ n < 0) (q4 : sp.toNatClampNeg + n.toNatClampNeg ≤ ix_ln h src) (q5 : dp.toNatClampNeg + n.toNatClampNeg ≤ ix_ln h dst) (hfit : ∀ j, j < n.toNatClampNeg → fits .byte (.int (ix_i h src (sp.toNatClampNeg + j))) = true)
    (kk : ix_Ev G m (pc + 3) lv st (ix_cpi h src sp.toNatClampNeg dst dp.toNatClampNeg n.toNatClampNeg) r h') : ix_Ev G m pc lv (.int n :: .int dp :: .ref dst :: .int sp :: .ref src :: st) h r h' := by
  refine ix_copy (t := 2) (h1 := ix_cpi h src sp.toNatClampNeg dst dp.toNatClampNeg n.toNatClampNeg) hd hL hf hlo (by decide) (Or.inl hsrc) hdst q1 q2 q3 q4 q5 hfit (fun j hj y hy => by cases hy) rfl rfl (fun _ => rfl) (fun _ => rfl) (fun kd b j hb => ?_) (fun j => ?_) kk
  · match kd with
    | 0 => show Value.int _ = Value.int _; rw [ix_i_cpi, if_neg (fun z => hb z.1)]
    | 1 => rfl
    | k + 2 => rfl
  · show Value.int _ = _
    rw [ix_i_cpi]
    unfold va_cpy
    by_cases q : dp.toNatClampNeg ≤ j ∧ j < dp.toNatClampNeg + n.toNatClampNeg
    · rw [if_pos ⟨rfl, q⟩, if_pos q]; rfl
    · rw [if_neg (fun z => q z.2), if_neg q]; rfl
/-- rows of a list -/
theorem ix_copyR {i src dst : Nat} {sp dp n : Int32} (hd : decode (ix_by m) pc = .ok (.invokestatic i, 3)) (hL : ix_CpL (ix_own m) i) (hf : 1 ≤ ix_fr m) (hlo : (st.map fun v => v.category).sum + (nativeFrameWords "java/lang/System" "arraycopy" 5 + 11) ≤ ix_lo m)
    (hsrc : ix_tg h src = 107 ∨ ix_tg h src = 207) (hdst : ix_tg h dst = 107) (q1 : ¬ sp < 0) (q2 : ¬ dp < 0) (q3 : ¬ n < 0) (q4 : sp.toNatClampNeg + n.toNatClampNeg ≤ ix_ln h src) (q5 : dp.toNatClampNeg + n.toNatClampNeg ≤ ix_ln h dst) (hel : ∀ j, j < n.toNatClampNeg → ∀ y : Nat, ix_r h src (sp.toNatClampNeg + j) = some y → ∃ k : Nat, k < 10 ∧ ix_tg h y = k + 1 ∧ ix_cl[k]? = some (ix_cn k, ix_cT k, ix_nf k) ∧ Cond.castable (ix_cn k) "java/lang/Object" ∈ ix_words)
    (kk : ix_Ev G m (pc + 3) lv st (ix_cpr h src sp.toNatClampNeg dst dp.toNatClampNeg n.toNatClampNeg) r h') : ix_Ev G m pc lv (.int n :: .int dp :: .ref dst :: .int sp :: .ref src :: st) h r h' := by
  refine ix_copy (t := 7) (h1 := ix_cpr h src sp.toNatClampNeg dst dp.toNatClampNeg n.toNatClampNeg) hd hL hf hlo (by decide) hsrc hdst q1 q2 q3 q4 q5 (fun j hj => ?_) (fun j hj y hy => ?_) rfl rfl (fun _ => rfl) (fun _ => rfl) (fun kd b j hb => ?_) (fun j => ?_) kk
  · show fits (.object _) (va_rf (ix_r h src _)) = true
    cases ix_r h src (sp.toNatClampNeg + j) <;> rfl
  · have hy' : va_rf (ix_r h src (sp.toNatClampNeg + j)) = .ref y := hy
    cases hz : ix_r h src (sp.toNatClampNeg + j) with
    | none => rw [hz] at hy'; cases hy'
    | some w =>
      rw [hz] at hy'
      have : w = y := by injection hy'
      subst this
      obtain ⟨k, a1, a2, a3, a4⟩ := hel j hj w hz
      exact ⟨k, _, rfl, a1, a2, a3, a4⟩
  · match kd with
    | 0 => rfl
    | 1 => rfl
    | k + 2 => show va_rf _ = va_rf _; rw [ix_r_cpr, if_neg (fun z => hb z.1)]
  · show va_rf _ = _
    rw [ix_r_cpr]
    unfold va_cpy
    by_cases q : dp.toNatClampNeg ≤ j ∧ j < dp.toNatClampNeg + n.toNatClampNeg
    · rw [if_pos ⟨rfl, q⟩, if_pos q]; rfl
    · rw [if_neg (fun z => q z.2), if_neg q]; rfl
end IX9
end
section
/-! ===== the rows with a postcondition (written by wip/whole/gen3.py) ===== -/
def ix_E (G : ix_G) (m pc : Nat) (lv : List (Nat × Value)) (st : List Value) (h : ix_H) (P : ix_O → ix_H → Prop) : Prop := ∃ (r : ix_O) (h' : ix_H), ix_Ev G m pc lv st h r h' ∧ P r h'
section IE1
variable {G : ix_G} {m pc : Nat} {lv : List (Nat × Value)} {st : List Value} {h : ix_H} {P : ix_O → ix_H → Prop}
theorem ie_iconst {n : Int} (v : Int32) (hd : decode (ix_by m) pc = .ok (.iconst n, 1)) (hv : Int32.ofInt n = v) (k : ix_E G m (pc + 1) lv (.int v :: st) h P) : ix_E G m pc lv st h P := by
  obtain ⟨r, h', q, hp⟩ := k
  exact ⟨r, h', ix_iconst v hd hv q, hp⟩
theorem ie_bipush {n : Int} (v : Int32) (hd : decode (ix_by m) pc = .ok (.bipush n, 2)) (hv : (Int8.ofInt n).toInt32 = v) (k : ix_E G m (pc + 2) lv (.int v :: st) h P) : ix_E G m pc lv st h P := by
  obtain ⟨r, h', q, hp⟩ := k
  exact ⟨r, h', ix_bipush v hd hv q, hp⟩
theorem ie_sipush {n : Int} (v : Int32) (hd : decode (ix_by m) pc = .ok (.sipush n, 3)) (hv : (Int16.ofInt n).toInt32 = v) (k : ix_E G m (pc + 3) lv (.int v :: st) h P) : ix_E G m pc lv st h P := by
  obtain ⟨r, h', q, hp⟩ := k
  exact ⟨r, h', ix_sipush v hd hv q, hp⟩
theorem ie_lconst {n : Fin 2} (v : Int64) (hd : decode (ix_by m) pc = .ok (.lconst n, 1)) (hv : Int64.ofNat (n : Nat) = v) (k : ix_E G m (pc + 1) lv (.long v :: st) h P) : ix_E G m pc lv st h P := by
  obtain ⟨r, h', q, hp⟩ := k
  exact ⟨r, h', ix_lconst v hd hv q, hp⟩
theorem ie_null (hd : decode (ix_by m) pc = .ok (.aconst_null, 1)) (k : ix_E G m (pc + 1) lv (.null :: st) h P) : ix_E G m pc lv st h P := by
  obtain ⟨r, h', q, hp⟩ := k
  exact ⟨r, h', ix_null hd q, hp⟩
theorem ie_iload_n {i : Fin 4} {x : Int32} (hd : decode (ix_by m) pc = .ok (.iload_n i, 1)) (hl : lv.lookup (i : Nat) = some (.int x)) (k : ix_E G m (pc + 1) lv (.int x :: st) h P) : ix_E G m pc lv st h P := by
  obtain ⟨r, h', q, hp⟩ := k
  exact ⟨r, h', ix_iload_n hd hl q, hp⟩
theorem ie_iload {i : Nat} {x : Int32} (hd : decode (ix_by m) pc = .ok (.iload i, 2)) (hl : lv.lookup i = some (.int x)) (k : ix_E G m (pc + 2) lv (.int x :: st) h P) : ix_E G m pc lv st h P := by
  obtain ⟨r, h', q, hp⟩ := k
  exact ⟨r, h', ix_iload hd hl q, hp⟩
theorem ie_lload_n {i : Fin 4} {x : Int64} (hd : decode (ix_by m) pc = .ok (.lload_n i, 1)) (hl : lv.lookup (i : Nat) = some (.long x)) (k : ix_E G m (pc + 1) lv (.long x :: st) h P) : ix_E G m pc lv st h P := by
  obtain ⟨r, h', q, hp⟩ := k
  exact ⟨r, h', ix_lload_n hd hl q, hp⟩
theorem ie_lload {i : Nat} {x : Int64} (hd : decode (ix_by m) pc = .ok (.lload i, 2)) (hl : lv.lookup i = some (.long x)) (k : ix_E G m (pc + 2) lv (.long x :: st) h P) : ix_E G m pc lv st h P := by
  obtain ⟨r, h', q, hp⟩ := k
  exact ⟨r, h', ix_lload hd hl q, hp⟩
theorem ie_aload_n {i : Fin 4} {x : Nat} (hd : decode (ix_by m) pc = .ok (.aload_n i, 1)) (hl : lv.lookup (i : Nat) = some (.ref x)) (k : ix_E G m (pc + 1) lv (.ref x :: st) h P) : ix_E G m pc lv st h P := by
  obtain ⟨r, h', q, hp⟩ := k
  exact ⟨r, h', ix_aload_n hd hl q, hp⟩
theorem ie_aload {i : Nat} {x : Nat} (hd : decode (ix_by m) pc = .ok (.aload i, 2)) (hl : lv.lookup i = some (.ref x)) (k : ix_E G m (pc + 2) lv (.ref x :: st) h P) : ix_E G m pc lv st h P := by
  obtain ⟨r, h', q, hp⟩ := k
  exact ⟨r, h', ix_aload hd hl q, hp⟩
theorem ie_aload_nN {i : Fin 4} (hd : decode (ix_by m) pc = .ok (.aload_n i, 1)) (hl : lv.lookup (i : Nat) = some .null) (k : ix_E G m (pc + 1) lv (.null :: st) h P) : ix_E G m pc lv st h P := by
  obtain ⟨r, h', q, hp⟩ := k
  exact ⟨r, h', ix_aload_nN hd hl q, hp⟩
theorem ie_aloadN {i : Nat} (hd : decode (ix_by m) pc = .ok (.aload i, 2)) (hl : lv.lookup i = some .null) (k : ix_E G m (pc + 2) lv (.null :: st) h P) : ix_E G m pc lv st h P := by
  obtain ⟨r, h', q, hp⟩ := k
  exact ⟨r, h', ix_aloadN hd hl q, hp⟩
theorem ie_iadd {x y : Int32} (hd : decode (ix_by m) pc = .ok (.iadd, 1)) (k : ix_E G m (pc + 1) lv (.int (x + y) :: st) h P) : ix_E G m pc lv (.int y :: .int x :: st) h P := by
  obtain ⟨r, h', q, hp⟩ := k
  exact ⟨r, h', ix_iadd hd q, hp⟩
theorem ie_isub {x y : Int32} (hd : decode (ix_by m) pc = .ok (.isub, 1)) (k : ix_E G m (pc + 1) lv (.int (x - y) :: st) h P) : ix_E G m pc lv (.int y :: .int x :: st) h P := by
  obtain ⟨r, h', q, hp⟩ := k
  exact ⟨r, h', ix_isub hd q, hp⟩
theorem ie_imul {x y : Int32} (hd : decode (ix_by m) pc = .ok (.imul, 1)) (k : ix_E G m (pc + 1) lv (.int (x * y) :: st) h P) : ix_E G m pc lv (.int y :: .int x :: st) h P := by
  obtain ⟨r, h', q, hp⟩ := k
  exact ⟨r, h', ix_imul hd q, hp⟩
theorem ie_iand {x y : Int32} (hd : decode (ix_by m) pc = .ok (.iand, 1)) (k : ix_E G m (pc + 1) lv (.int (x &&& y) :: st) h P) : ix_E G m pc lv (.int y :: .int x :: st) h P := by
  obtain ⟨r, h', q, hp⟩ := k
  exact ⟨r, h', ix_iand hd q, hp⟩
theorem ie_ior {x y : Int32} (hd : decode (ix_by m) pc = .ok (.ior, 1)) (k : ix_E G m (pc + 1) lv (.int (x ||| y) :: st) h P) : ix_E G m pc lv (.int y :: .int x :: st) h P := by
  obtain ⟨r, h', q, hp⟩ := k
  exact ⟨r, h', ix_ior hd q, hp⟩
theorem ie_ixor {x y : Int32} (hd : decode (ix_by m) pc = .ok (.ixor, 1)) (k : ix_E G m (pc + 1) lv (.int (x ^^^ y) :: st) h P) : ix_E G m pc lv (.int y :: .int x :: st) h P := by
  obtain ⟨r, h', q, hp⟩ := k
  exact ⟨r, h', ix_ixor hd q, hp⟩
theorem ie_idiv {x y : Int32} (hd : decode (ix_by m) pc = .ok (.idiv, 1)) (hne : ¬ y = 0) (k : ix_E G m (pc + 1) lv (.int (x / y) :: st) h P) : ix_E G m pc lv (.int y :: .int x :: st) h P := by
  obtain ⟨r, h', q, hp⟩ := k
  exact ⟨r, h', ix_idiv hd hne q, hp⟩
theorem ie_irem {x y : Int32} (hd : decode (ix_by m) pc = .ok (.irem, 1)) (hne : ¬ y = 0) (k : ix_E G m (pc + 1) lv (.int (x - x / y * y) :: st) h P) : ix_E G m pc lv (.int y :: .int x :: st) h P := by
  obtain ⟨r, h', q, hp⟩ := k
  exact ⟨r, h', ix_irem hd hne q, hp⟩
theorem ie_ineg {x : Int32} (hd : decode (ix_by m) pc = .ok (.ineg, 1)) (k : ix_E G m (pc + 1) lv (.int (-x) :: st) h P) : ix_E G m pc lv (.int x :: st) h P := by
  obtain ⟨r, h', q, hp⟩ := k
  exact ⟨r, h', ix_ineg hd q, hp⟩
theorem ie_ishl {x y : Int32} (hd : decode (ix_by m) pc = .ok (.ishl, 1)) (k : ix_E G m (pc + 1) lv (.int (x <<< (y &&& 31)) :: st) h P) : ix_E G m pc lv (.int y :: .int x :: st) h P := by
  obtain ⟨r, h', q, hp⟩ := k
  exact ⟨r, h', ix_ishl hd q, hp⟩
theorem ie_ishr {x y : Int32} (hd : decode (ix_by m) pc = .ok (.ishr, 1)) (k : ix_E G m (pc + 1) lv (.int (x >>> (y &&& 31)) :: st) h P) : ix_E G m pc lv (.int y :: .int x :: st) h P := by
  obtain ⟨r, h', q, hp⟩ := k
  exact ⟨r, h', ix_ishr hd q, hp⟩
theorem ie_land {x y : Int64} (hd : decode (ix_by m) pc = .ok (.land, 1)) (k : ix_E G m (pc + 1) lv (.long (x &&& y) :: st) h P) : ix_E G m pc lv (.long y :: .long x :: st) h P := by
  obtain ⟨r, h', q, hp⟩ := k
  exact ⟨r, h', ix_land hd q, hp⟩
theorem ie_lor {x y : Int64} (hd : decode (ix_by m) pc = .ok (.lor, 1)) (k : ix_E G m (pc + 1) lv (.long (x ||| y) :: st) h P) : ix_E G m pc lv (.long y :: .long x :: st) h P := by
  obtain ⟨r, h', q, hp⟩ := k
  exact ⟨r, h', ix_lor hd q, hp⟩
theorem ie_lshl {x : Int64} {y : Int32} (hd : decode (ix_by m) pc = .ok (.lshl, 1)) (k : ix_E G m (pc + 1) lv (.long (x <<< (y.toInt64 &&& 63)) :: st) h P) : ix_E G m pc lv (.int y :: .long x :: st) h P := by
  obtain ⟨r, h', q, hp⟩ := k
  exact ⟨r, h', ix_lshl hd q, hp⟩
theorem ie_lshr {x : Int64} {y : Int32} (hd : decode (ix_by m) pc = .ok (.lshr, 1)) (k : ix_E G m (pc + 1) lv (.long (x >>> (y.toInt64 &&& 63)) :: st) h P) : ix_E G m pc lv (.int y :: .long x :: st) h P := by
  obtain ⟨r, h', q, hp⟩ := k
  exact ⟨r, h', ix_lshr hd q, hp⟩
theorem ie_i2l {x : Int32} (hd : decode (ix_by m) pc = .ok (.i2l, 1)) (k : ix_E G m (pc + 1) lv (.long x.toInt64 :: st) h P) : ix_E G m pc lv (.int x :: st) h P := by
  obtain ⟨r, h', q, hp⟩ := k
  exact ⟨r, h', ix_i2l hd q, hp⟩
theorem ie_l2i {x : Int64} (hd : decode (ix_by m) pc = .ok (.l2i, 1)) (k : ix_E G m (pc + 1) lv (.int x.toInt32 :: st) h P) : ix_E G m pc lv (.long x :: st) h P := by
  obtain ⟨r, h', q, hp⟩ := k
  exact ⟨r, h', ix_l2i hd q, hp⟩
theorem ie_i2b {x : Int32} (hd : decode (ix_by m) pc = .ok (.i2b, 1)) (k : ix_E G m (pc + 1) lv (.int x.toInt8.toInt32 :: st) h P) : ix_E G m pc lv (.int x :: st) h P := by
  obtain ⟨r, h', q, hp⟩ := k
  exact ⟨r, h', ix_i2b hd q, hp⟩
theorem ie_dup {v : Value} (hd : decode (ix_by m) pc = .ok (.dup, 1)) (hv : v.category = 1) (k : ix_E G m (pc + 1) lv (v :: v :: st) h P) : ix_E G m pc lv (v :: st) h P := by
  obtain ⟨r, h', q, hp⟩ := k
  exact ⟨r, h', ix_dup hd hv q, hp⟩
theorem ie_pop {v : Value} (hd : decode (ix_by m) pc = .ok (.pop, 1)) (hv : v.category = 1) (k : ix_E G m (pc + 1) lv st h P) : ix_E G m pc lv (v :: st) h P := by
  obtain ⟨r, h', q, hp⟩ := k
  exact ⟨r, h', ix_pop hd hv q, hp⟩
theorem ie_dup_x1 {v w : Value} (hd : decode (ix_by m) pc = .ok (.dup_x1, 1)) (hv : v.category = 1) (hw : w.category = 1) (k : ix_E G m (pc + 1) lv (v :: w :: v :: st) h P) : ix_E G m pc lv (v :: w :: st) h P := by
  obtain ⟨r, h', q, hp⟩ := k
  exact ⟨r, h', ix_dup_x1 hd hv hw q, hp⟩
theorem ie_dup2 {v w : Value} (hd : decode (ix_by m) pc = .ok (.dup2, 1)) (hv : v.category = 1) (hw : w.category = 1) (k : ix_E G m (pc + 1) lv (v :: w :: v :: w :: st) h P) : ix_E G m pc lv (v :: w :: st) h P := by
  obtain ⟨r, h', q, hp⟩ := k
  exact ⟨r, h', ix_dup2 hd hv hw q, hp⟩
theorem ie_goto {off : Int} (tgt : Nat) (hd : decode (ix_by m) pc = .ok (.goto off, 3)) (ht : (pc : Int) + off = (tgt : Int)) (k : ix_E G m tgt lv st h P) : ix_E G m pc lv st h P := by
  obtain ⟨r, h', q, hp⟩ := k
  exact ⟨r, h', ix_goto tgt hd ht q, hp⟩
theorem ie_ldc {i : Nat} {v : Int32} (hd : decode (ix_by m) pc = .ok (.ldc i, 2)) (hw : Cond.constant (ix_own m) i v ∈ ix_words) (k : ix_E G m (pc + 2) lv (.int v :: st) h P) : ix_E G m pc lv st h P := by
  obtain ⟨r, h', q, hp⟩ := k
  exact ⟨r, h', ix_ldc hd hw q, hp⟩
theorem ie_ldc2 {i : Nat} {v : Int64} (hd : decode (ix_by m) pc = .ok (.ldc2_w i, 3)) (hw : Cond.constantLong (ix_own m) i v ∈ ix_words) (k : ix_E G m (pc + 3) lv (.long v :: st) h P) : ix_E G m pc lv st h P := by
  obtain ⟨r, h', q, hp⟩ := k
  exact ⟨r, h', ix_ldc2 hd hw q, hp⟩
theorem ie_istore_n {i : Fin 4} {x : Int32} (hd : decode (ix_by m) pc = .ok (.istore_n i, 1)) (hn : (i : Nat) < ix_mL m) (k : ix_E G m (pc + 1) (ix_set lv (i : Nat) (.int x)) st h P) : ix_E G m pc lv (.int x :: st) h P := by
  obtain ⟨r, h', q, hp⟩ := k
  exact ⟨r, h', ix_istore_n hd hn q, hp⟩
theorem ie_istore {i : Nat} {x : Int32} (hd : decode (ix_by m) pc = .ok (.istore i, 2)) (hn : i < ix_mL m) (k : ix_E G m (pc + 2) (ix_set lv i (.int x)) st h P) : ix_E G m pc lv (.int x :: st) h P := by
  obtain ⟨r, h', q, hp⟩ := k
  exact ⟨r, h', ix_istore hd hn q, hp⟩
theorem ie_astore_n {i : Fin 4} {x : Nat} (hd : decode (ix_by m) pc = .ok (.astore_n i, 1)) (hn : (i : Nat) < ix_mL m) (k : ix_E G m (pc + 1) (ix_set lv (i : Nat) (.ref x)) st h P) : ix_E G m pc lv (.ref x :: st) h P := by
  obtain ⟨r, h', q, hp⟩ := k
  exact ⟨r, h', ix_astore_n hd hn q, hp⟩
theorem ie_astore {i : Nat} {x : Nat} (hd : decode (ix_by m) pc = .ok (.astore i, 2)) (hn : i < ix_mL m) (k : ix_E G m (pc + 2) (ix_set lv i (.ref x)) st h P) : ix_E G m pc lv (.ref x :: st) h P := by
  obtain ⟨r, h', q, hp⟩ := k
  exact ⟨r, h', ix_astore hd hn q, hp⟩
theorem ie_astore_nN {i : Fin 4} (hd : decode (ix_by m) pc = .ok (.astore_n i, 1)) (hn : (i : Nat) < ix_mL m) (k : ix_E G m (pc + 1) (ix_set lv (i : Nat) .null) st h P) : ix_E G m pc lv (.null :: st) h P := by
  obtain ⟨r, h', q, hp⟩ := k
  exact ⟨r, h', ix_astore_nN hd hn q, hp⟩
theorem ie_astoreN {i : Nat} (hd : decode (ix_by m) pc = .ok (.astore i, 2)) (hn : i < ix_mL m) (k : ix_E G m (pc + 2) (ix_set lv i .null) st h P) : ix_E G m pc lv (.null :: st) h P := by
  obtain ⟨r, h', q, hp⟩ := k
  exact ⟨r, h', ix_astoreN hd hn q, hp⟩
theorem ie_iinc {i : Nat} {n : Int} {x : Int32} (v : Int32) (hd : decode (ix_by m) pc = .ok (.iinc i n, 3)) (hl : lv.lookup i = some (.int x)) (hv : x + Int32.ofInt n = v) (hn : i < ix_mL m) (k : ix_E G m (pc + 3) (ix_set lv i (.int v)) st h P) : ix_E G m pc lv st h P := by
  obtain ⟨r, h', q, hp⟩ := k
  exact ⟨r, h', ix_iinc v hd hl hv hn q, hp⟩
theorem ie_if_eq {x : Int32} {off : Int} (tgt : Nat) (hd : decode (ix_by m) pc = .ok (.ifCond .eq off, 3)) (ht : (pc : Int) + off = (tgt : Int)) (kt : x = 0 → ix_E G m tgt lv st h P) (kf : ¬ (x = 0) → ix_E G m (pc + 3) lv st h P) : ix_E G m pc lv (.int x :: st) h P := by
  by_cases hc : x = 0
  · obtain ⟨r, h', q, hp⟩ := kt hc
    exact ⟨r, h', ix_if_eq tgt hd ht (fun _ => q) (fun e => absurd hc e), hp⟩
  · obtain ⟨r, h', q, hp⟩ := kf hc
    exact ⟨r, h', ix_if_eq tgt hd ht (fun e => absurd e hc) (fun _ => q), hp⟩
theorem ie_icmp_eq {x y : Int32} {off : Int} (tgt : Nat) (hd : decode (ix_by m) pc = .ok (.if_icmp .eq off, 3)) (ht : (pc : Int) + off = (tgt : Int)) (kt : x = y → ix_E G m tgt lv st h P) (kf : ¬ (x = y) → ix_E G m (pc + 3) lv st h P) : ix_E G m pc lv (.int y :: .int x :: st) h P := by
  by_cases hc : x = y
  · obtain ⟨r, h', q, hp⟩ := kt hc
    exact ⟨r, h', ix_icmp_eq tgt hd ht (fun _ => q) (fun e => absurd hc e), hp⟩
  · obtain ⟨r, h', q, hp⟩ := kf hc
    exact ⟨r, h', ix_icmp_eq tgt hd ht (fun e => absurd e hc) (fun _ => q), hp⟩
theorem ie_if_ne {x : Int32} {off : Int} (tgt : Nat) (hd : decode (ix_by m) pc = .ok (.ifCond .ne off, 3)) (ht : (pc : Int) + off = (tgt : Int)) (kt : ¬ x = 0 → ix_E G m tgt lv st h P) (kf : x = 0 → ix_E G m (pc + 3) lv st h P) : ix_E G m pc lv (.int x :: st) h P := by
  by_cases hc : x = 0
  · obtain ⟨r, h', q, hp⟩ := kf hc
    exact ⟨r, h', ix_if_ne tgt hd ht (fun e => absurd hc e) (fun _ => q), hp⟩
  · obtain ⟨r, h', q, hp⟩ := kt hc
    exact ⟨r, h', ix_if_ne tgt hd ht (fun _ => q) (fun e => absurd e hc), hp⟩
theorem ie_icmp_ne {x y : Int32} {off : Int} (tgt : Nat) (hd : decode (ix_by m) pc = .ok (.if_icmp .ne off, 3)) (ht : (pc : Int) + off = (tgt : Int)) (kt : ¬ x = y → ix_E G m tgt lv st h P) (kf : x = y → ix_E G m (pc + 3) lv st h P) : ix_E G m pc lv (.int y :: .int x :: st) h P := by
  by_cases hc : x = y
  · obtain ⟨r, h', q, hp⟩ := kf hc
    exact ⟨r, h', ix_icmp_ne tgt hd ht (fun e => absurd hc e) (fun _ => q), hp⟩
  · obtain ⟨r, h', q, hp⟩ := kt hc
    exact ⟨r, h', ix_icmp_ne tgt hd ht (fun _ => q) (fun e => absurd e hc), hp⟩
theorem ie_if_lt {x : Int32} {off : Int} (tgt : Nat) (hd : decode (ix_by m) pc = .ok (.ifCond .lt off, 3)) (ht : (pc : Int) + off = (tgt : Int)) (kt : x < 0 → ix_E G m tgt lv st h P) (kf : ¬ (x < 0) → ix_E G m (pc + 3) lv st h P) : ix_E G m pc lv (.int x :: st) h P := by
  by_cases hc : x < 0
  · obtain ⟨r, h', q, hp⟩ := kt hc
    exact ⟨r, h', ix_if_lt tgt hd ht (fun _ => q) (fun e => absurd hc e), hp⟩
  · obtain ⟨r, h', q, hp⟩ := kf hc
    exact ⟨r, h', ix_if_lt tgt hd ht (fun e => absurd e hc) (fun _ => q), hp⟩
theorem ie_icmp_lt {x y : Int32} {off : Int} (tgt : Nat) (hd : decode (ix_by m) pc = .ok (.if_icmp .lt off, 3)) (ht : (pc : Int) + off = (tgt : Int)) (kt : x < y → ix_E G m tgt lv st h P) (kf : ¬ (x < y) → ix_E G m (pc + 3) lv st h P) : ix_E G m pc lv (.int y :: .int x :: st) h P := by
  by_cases hc : x < y
  · obtain ⟨r, h', q, hp⟩ := kt hc
    exact ⟨r, h', ix_icmp_lt tgt hd ht (fun _ => q) (fun e => absurd hc e), hp⟩
  · obtain ⟨r, h', q, hp⟩ := kf hc
    exact ⟨r, h', ix_icmp_lt tgt hd ht (fun e => absurd e hc) (fun _ => q), hp⟩
theorem ie_if_ge {x : Int32} {off : Int} (tgt : Nat) (hd : decode (ix_by m) pc = .ok (.ifCond .ge off, 3)) (ht : (pc : Int) + off = (tgt : Int)) (kt : 0 ≤ x → ix_E G m tgt lv st h P) (kf : ¬ (0 ≤ x) → ix_E G m (pc + 3) lv st h P) : ix_E G m pc lv (.int x :: st) h P := by
  by_cases hc : 0 ≤ x
  · obtain ⟨r, h', q, hp⟩ := kt hc
    exact ⟨r, h', ix_if_ge tgt hd ht (fun _ => q) (fun e => absurd hc e), hp⟩
  · obtain ⟨r, h', q, hp⟩ := kf hc
    exact ⟨r, h', ix_if_ge tgt hd ht (fun e => absurd e hc) (fun _ => q), hp⟩
theorem ie_icmp_ge {x y : Int32} {off : Int} (tgt : Nat) (hd : decode (ix_by m) pc = .ok (.if_icmp .ge off, 3)) (ht : (pc : Int) + off = (tgt : Int)) (kt : y ≤ x → ix_E G m tgt lv st h P) (kf : ¬ (y ≤ x) → ix_E G m (pc + 3) lv st h P) : ix_E G m pc lv (.int y :: .int x :: st) h P := by
  by_cases hc : y ≤ x
  · obtain ⟨r, h', q, hp⟩ := kt hc
    exact ⟨r, h', ix_icmp_ge tgt hd ht (fun _ => q) (fun e => absurd hc e), hp⟩
  · obtain ⟨r, h', q, hp⟩ := kf hc
    exact ⟨r, h', ix_icmp_ge tgt hd ht (fun e => absurd e hc) (fun _ => q), hp⟩
theorem ie_if_gt {x : Int32} {off : Int} (tgt : Nat) (hd : decode (ix_by m) pc = .ok (.ifCond .gt off, 3)) (ht : (pc : Int) + off = (tgt : Int)) (kt : 0 < x → ix_E G m tgt lv st h P) (kf : ¬ (0 < x) → ix_E G m (pc + 3) lv st h P) : ix_E G m pc lv (.int x :: st) h P := by
  by_cases hc : 0 < x
  · obtain ⟨r, h', q, hp⟩ := kt hc
    exact ⟨r, h', ix_if_gt tgt hd ht (fun _ => q) (fun e => absurd hc e), hp⟩
  · obtain ⟨r, h', q, hp⟩ := kf hc
    exact ⟨r, h', ix_if_gt tgt hd ht (fun e => absurd e hc) (fun _ => q), hp⟩
theorem ie_icmp_gt {x y : Int32} {off : Int} (tgt : Nat) (hd : decode (ix_by m) pc = .ok (.if_icmp .gt off, 3)) (ht : (pc : Int) + off = (tgt : Int)) (kt : y < x → ix_E G m tgt lv st h P) (kf : ¬ (y < x) → ix_E G m (pc + 3) lv st h P) : ix_E G m pc lv (.int y :: .int x :: st) h P := by
  by_cases hc : y < x
  · obtain ⟨r, h', q, hp⟩ := kt hc
    exact ⟨r, h', ix_icmp_gt tgt hd ht (fun _ => q) (fun e => absurd hc e), hp⟩
  · obtain ⟨r, h', q, hp⟩ := kf hc
    exact ⟨r, h', ix_icmp_gt tgt hd ht (fun e => absurd e hc) (fun _ => q), hp⟩
theorem ie_if_le {x : Int32} {off : Int} (tgt : Nat) (hd : decode (ix_by m) pc = .ok (.ifCond .le off, 3)) (ht : (pc : Int) + off = (tgt : Int)) (kt : x ≤ 0 → ix_E G m tgt lv st h P) (kf : ¬ (x ≤ 0) → ix_E G m (pc + 3) lv st h P) : ix_E G m pc lv (.int x :: st) h P := by
  by_cases hc : x ≤ 0
  · obtain ⟨r, h', q, hp⟩ := kt hc
    exact ⟨r, h', ix_if_le tgt hd ht (fun _ => q) (fun e => absurd hc e), hp⟩
  · obtain ⟨r, h', q, hp⟩ := kf hc
    exact ⟨r, h', ix_if_le tgt hd ht (fun e => absurd e hc) (fun _ => q), hp⟩
theorem ie_icmp_le {x y : Int32} {off : Int} (tgt : Nat) (hd : decode (ix_by m) pc = .ok (.if_icmp .le off, 3)) (ht : (pc : Int) + off = (tgt : Int)) (kt : x ≤ y → ix_E G m tgt lv st h P) (kf : ¬ (x ≤ y) → ix_E G m (pc + 3) lv st h P) : ix_E G m pc lv (.int y :: .int x :: st) h P := by
  by_cases hc : x ≤ y
  · obtain ⟨r, h', q, hp⟩ := kt hc
    exact ⟨r, h', ix_icmp_le tgt hd ht (fun _ => q) (fun e => absurd hc e), hp⟩
  · obtain ⟨r, h', q, hp⟩ := kf hc
    exact ⟨r, h', ix_icmp_le tgt hd ht (fun e => absurd e hc) (fun _ => q), hp⟩
theorem ie_ifnull {x : Nat} {off : Int} (tgt : Nat) (hd : decode (ix_by m) pc = .ok (.ifnull off, 3)) (ht : (pc : Int) + off = (tgt : Int)) (k : ix_E G m (pc + 3) lv st h P) : ix_E G m pc lv (.ref x :: st) h P := by
  obtain ⟨r, h', q, hp⟩ := k
  exact ⟨r, h', ix_ifnull tgt hd ht q, hp⟩
theorem ie_ifnonnull {x : Nat} {off : Int} (tgt : Nat) (hd : decode (ix_by m) pc = .ok (.ifnonnull off, 3)) (ht : (pc : Int) + off = (tgt : Int)) (k : ix_E G m tgt lv st h P) : ix_E G m pc lv (.ref x :: st) h P := by
  obtain ⟨r, h', q, hp⟩ := k
  exact ⟨r, h', ix_ifnonnull tgt hd ht q, hp⟩
theorem ie_ifnullN {off : Int} (tgt : Nat) (hd : decode (ix_by m) pc = .ok (.ifnull off, 3)) (ht : (pc : Int) + off = (tgt : Int)) (k : ix_E G m tgt lv st h P) : ix_E G m pc lv (.null :: st) h P := by
  obtain ⟨r, h', q, hp⟩ := k
  exact ⟨r, h', ix_ifnullN tgt hd ht q, hp⟩
theorem ie_ifnonnullN {off : Int} (tgt : Nat) (hd : decode (ix_by m) pc = .ok (.ifnonnull off, 3)) (ht : (pc : Int) + off = (tgt : Int)) (k : ix_E G m (pc + 3) lv st h P) : ix_E G m pc lv (.null :: st) h P := by
  obtain ⟨r, h', q, hp⟩ := k
  exact ⟨r, h', ix_ifnonnullN tgt hd ht q, hp⟩
theorem ie_acmp_eq {a b : Nat} {off : Int} (tgt : Nat) (hd : decode (ix_by m) pc = .ok (.if_acmp .eq off, 3)) (ht : (pc : Int) + off = (tgt : Int)) (kt : a = b → ix_E G m tgt lv st h P) (kf : ¬ a = b → ix_E G m (pc + 3) lv st h P) : ix_E G m pc lv (.ref b :: .ref a :: st) h P := by
  by_cases hc : a = b
  · obtain ⟨r, h', q, hp⟩ := kt hc
    exact ⟨r, h', ix_acmp_eq tgt hd ht (fun _ => q) (fun e => absurd hc e), hp⟩
  · obtain ⟨r, h', q, hp⟩ := kf hc
    exact ⟨r, h', ix_acmp_eq tgt hd ht (fun e => absurd e hc) (fun _ => q), hp⟩
theorem ie_acmp_ne {a b : Nat} {off : Int} (tgt : Nat) (hd : decode (ix_by m) pc = .ok (.if_acmp .ne off, 3)) (ht : (pc : Int) + off = (tgt : Int)) (kt : ¬ a = b → ix_E G m tgt lv st h P) (kf : a = b → ix_E G m (pc + 3) lv st h P) : ix_E G m pc lv (.ref b :: .ref a :: st) h P := by
  by_cases hc : a = b
  · obtain ⟨r, h', q, hp⟩ := kf hc
    exact ⟨r, h', ix_acmp_ne tgt hd ht (fun e => absurd hc e) (fun _ => q), hp⟩
  · obtain ⟨r, h', q, hp⟩ := kt hc
    exact ⟨r, h', ix_acmp_ne tgt hd ht (fun _ => q) (fun e => absurd e hc), hp⟩
theorem ie_tabIn {dflt lo hi off : Int} {offs : Array Int} {len : Nat} {x : Int32} (tgt : Nat) (hd : decode (ix_by m) pc = .ok (.tableswitch dflt lo hi offs, len)) (h1 : ¬ x.toInt < lo) (h2 : ¬ hi < x.toInt) (ho : offs[(x.toInt - lo).toNat]? = some off) (ht : (pc : Int) + off = (tgt : Int)) (k : ix_E G m tgt lv st h P) : ix_E G m pc lv (.int x :: st) h P := by
  obtain ⟨r, h', q, hp⟩ := k
  exact ⟨r, h', ix_tabIn tgt hd h1 h2 ho ht q, hp⟩
theorem ie_tabOut {dflt lo hi : Int} {offs : Array Int} {len : Nat} {x : Int32} (tgt : Nat) (hd : decode (ix_by m) pc = .ok (.tableswitch dflt lo hi offs, len)) (h1 : x.toInt < lo ∨ hi < x.toInt) (ht : (pc : Int) + dflt = (tgt : Int)) (k : ix_E G m tgt lv st h P) : ix_E G m pc lv (.int x :: st) h P := by
  obtain ⟨r, h', q, hp⟩ := k
  exact ⟨r, h', ix_tabOut tgt hd h1 ht q, hp⟩
theorem ie_geti {i k j a : Nat} (hd : decode (ix_by m) pc = .ok (.getfield i, 3)) (hF : ix_FL (ix_own m) i k j 0) (ht : ix_tg h a = k + 1) (kk : ix_E G m (pc + 3) lv (.int (ix_i h a j) :: st) h P) : ix_E G m pc lv (.ref a :: st) h P := by
  obtain ⟨r, h', q, hp⟩ := kk
  exact ⟨r, h', ix_geti hd hF ht q, hp⟩
theorem ie_getq {i k j a : Nat} (hd : decode (ix_by m) pc = .ok (.getfield i, 3)) (hF : ix_FL (ix_own m) i k j 2) (ht : ix_tg h a = k + 1) (kk : ix_E G m (pc + 3) lv (va_rf (ix_r h a j) :: st) h P) : ix_E G m pc lv (.ref a :: st) h P := by
  obtain ⟨r, h', q, hp⟩ := kk
  exact ⟨r, h', ix_getq hd hF ht q, hp⟩
theorem ie_getr {i k j a : Nat} (b : Nat) (hd : decode (ix_by m) pc = .ok (.getfield i, 3)) (hF : ix_FL (ix_own m) i k j 2) (ht : ix_tg h a = k + 1) (hb : ix_r h a j = some b) (kk : ix_E G m (pc + 3) lv (.ref b :: st) h P) : ix_E G m pc lv (.ref a :: st) h P := by
  obtain ⟨r, h', q, hp⟩ := kk
  exact ⟨r, h', ix_getr b hd hF ht hb q, hp⟩
theorem ie_getn {i k j a : Nat} (hd : decode (ix_by m) pc = .ok (.getfield i, 3)) (hF : ix_FL (ix_own m) i k j 2) (ht : ix_tg h a = k + 1) (hb : ix_r h a j = none) (kk : ix_E G m (pc + 3) lv (.null :: st) h P) : ix_E G m pc lv (.ref a :: st) h P := by
  obtain ⟨r, h', q, hp⟩ := kk
  exact ⟨r, h', ix_getn hd hF ht hb q, hp⟩
theorem ie_puti {i k j a : Nat} {x : Int32} (hd : decode (ix_by m) pc = .ok (.putfield i, 3)) (hF : ix_FL (ix_own m) i k j 0) (hfin : (ix_cT k j).2.2.2 = false ∨ ((ix_y m).name = "<init>" ∧ (ix_cT k j).1 = ix_own m ∧ (ix_cT k j).2.2.2 = true)) (ht : ix_tg h a = k + 1) (hn : narrow (ix_ty k j) (.int x) = .int x) (hfit : fits (ix_ty k j) (.int x) = true) (kk : ix_E G m (pc + 3) lv st (ix_si h a j x) P) : ix_E G m pc lv (.int x :: .ref a :: st) h P := by
  obtain ⟨r, h', q, hp⟩ := kk
  exact ⟨r, h', ix_puti hd hF hfin ht hn hfit q, hp⟩
theorem ie_putr {i k j a b : Nat} (hd : decode (ix_by m) pc = .ok (.putfield i, 3)) (hF : ix_FL (ix_own m) i k j 2) (hfin : (ix_cT k j).2.2.2 = false ∨ ((ix_y m).name = "<init>" ∧ (ix_cT k j).1 = ix_own m ∧ (ix_cT k j).2.2.2 = true)) (ht : ix_tg h a = k + 1) (hn : narrow (ix_ty k j) (.ref b) = .ref b) (hfit : fits (ix_ty k j) (.ref b) = true) (kk : ix_E G m (pc + 3) lv st (ix_sr h a j (some b)) P) : ix_E G m pc lv (.ref b :: .ref a :: st) h P := by
  obtain ⟨r, h', q, hp⟩ := kk
  exact ⟨r, h', ix_putr hd hF hfin ht hn hfit q, hp⟩
theorem ie_putN {i k j a : Nat} (hd : decode (ix_by m) pc = .ok (.putfield i, 3)) (hF : ix_FL (ix_own m) i k j 2) (hfin : (ix_cT k j).2.2.2 = false ∨ ((ix_y m).name = "<init>" ∧ (ix_cT k j).1 = ix_own m ∧ (ix_cT k j).2.2.2 = true)) (ht : ix_tg h a = k + 1) (hn : narrow (ix_ty k j) .null = .null) (hfit : fits (ix_ty k j) .null = true) (kk : ix_E G m (pc + 3) lv st (ix_sr h a j none) P) : ix_E G m pc lv (.null :: .ref a :: st) h P := by
  obtain ⟨r, h', q, hp⟩ := kk
  exact ⟨r, h', ix_putN hd hF hfin ht hn hfit q, hp⟩
theorem ie_alen {a t : Nat} (hd : decode (ix_by m) pc = .ok (.arraylength, 1)) (t8 : t < 8) (ht : ix_tg h a = 100 + t ∨ ix_tg h a = 200 + t) (kk : ix_E G m (pc + 1) lv (.int (nI (ix_ln h a)) :: st) h P) : ix_E G m pc lv (.ref a :: st) h P := by
  obtain ⟨r, h', q, hp⟩ := kk
  exact ⟨r, h', ix_alen hd t8 ht q, hp⟩
theorem ie_iald {a : Nat} {j : Int32} (hd : decode (ix_by m) pc = .ok (.iaload, 1)) (ht : ix_tg h a = 100 ∨ ix_tg h a = 200) (hin : vp_in j (ix_ln h a)) (kk : ix_E G m (pc + 1) lv (.int (ix_i h a j.toNatClampNeg) :: st) h P) : ix_E G m pc lv (.int j :: .ref a :: st) h P := by
  obtain ⟨r, h', q, hp⟩ := kk
  exact ⟨r, h', ix_iald hd ht hin q, hp⟩
theorem ie_zald {a : Nat} {j : Int32} (hd : decode (ix_by m) pc = .ok (.baload, 1)) (ht : ix_tg h a = 101) (hin : vp_in j (ix_ln h a)) (kk : ix_E G m (pc + 1) lv (.int (ix_i h a j.toNatClampNeg) :: st) h P) : ix_E G m pc lv (.int j :: .ref a :: st) h P := by
  obtain ⟨r, h', q, hp⟩ := kk
  exact ⟨r, h', ix_zald hd ht hin q, hp⟩
theorem ie_bald {a : Nat} {j : Int32} (hd : decode (ix_by m) pc = .ok (.baload, 1)) (ht : ix_tg h a = 102) (hin : vp_in j (ix_ln h a)) (kk : ix_E G m (pc + 1) lv (.int (ix_i h a j.toNatClampNeg) :: st) h P) : ix_E G m pc lv (.int j :: .ref a :: st) h P := by
  obtain ⟨r, h', q, hp⟩ := kk
  exact ⟨r, h', ix_bald hd ht hin q, hp⟩
theorem ie_lald {a : Nat} {j : Int32} (hd : decode (ix_by m) pc = .ok (.laload, 1)) (ht : ix_tg h a = 103) (hin : vp_in j (ix_ln h a)) (kk : ix_E G m (pc + 1) lv (.long (ix_l h a j.toNatClampNeg) :: st) h P) : ix_E G m pc lv (.int j :: .ref a :: st) h P := by
  obtain ⟨r, h', q, hp⟩ := kk
  exact ⟨r, h', ix_lald hd ht hin q, hp⟩
theorem ie_aald {a t : Nat} {j : Int32} (hd : decode (ix_by m) pc = .ok (.aaload, 1)) (t8 : t < 8) (hty : (ix_at t).isReference = true) (hkd : ix_kd (ix_at t) = 2) (ht : ix_tg h a = 100 + t ∨ ix_tg h a = 200 + t) (hin : vp_in j (ix_ln h a)) (kk : ix_E G m (pc + 1) lv (va_rf (ix_r h a j.toNatClampNeg) :: st) h P) : ix_E G m pc lv (.int j :: .ref a :: st) h P := by
  obtain ⟨r, h', q, hp⟩ := kk
  exact ⟨r, h', ix_aald hd t8 hty hkd ht hin q, hp⟩
theorem ie_iast {a : Nat} {j x : Int32} (hd : decode (ix_by m) pc = .ok (.iastore, 1)) (ht : ix_tg h a = 100) (hin : vp_in j (ix_ln h a)) (kk : ix_E G m (pc + 1) lv st (ix_si h a j.toNatClampNeg x) P) : ix_E G m pc lv (.int x :: .int j :: .ref a :: st) h P := by
  obtain ⟨r, h', q, hp⟩ := kk
  exact ⟨r, h', ix_iast hd ht hin q, hp⟩
theorem ie_bast {a : Nat} {j x : Int32} (hd : decode (ix_by m) pc = .ok (.bastore, 1)) (ht : ix_tg h a = 102) (hin : vp_in j (ix_ln h a)) (kk : ix_E G m (pc + 1) lv st (ix_si h a j.toNatClampNeg x.toInt8.toInt32) P) : ix_E G m pc lv (.int x :: .int j :: .ref a :: st) h P := by
  obtain ⟨r, h', q, hp⟩ := kk
  exact ⟨r, h', ix_bast hd ht hin q, hp⟩
theorem ie_zast {a : Nat} {j x : Int32} (hd : decode (ix_by m) pc = .ok (.bastore, 1)) (ht : ix_tg h a = 101) (hx : x = 0 ∨ x = 1) (hin : vp_in j (ix_ln h a)) (kk : ix_E G m (pc + 1) lv st (ix_si h a j.toNatClampNeg x) P) : ix_E G m pc lv (.int x :: .int j :: .ref a :: st) h P := by
  obtain ⟨r, h', q, hp⟩ := kk
  exact ⟨r, h', ix_zast hd ht hx hin q, hp⟩
theorem ie_last {a : Nat} {j : Int32} {x : Int64} (hd : decode (ix_by m) pc = .ok (.lastore, 1)) (ht : ix_tg h a = 103) (hin : vp_in j (ix_ln h a)) (kk : ix_E G m (pc + 1) lv st (ix_sl h a j.toNatClampNeg x) P) : ix_E G m pc lv (.long x :: .int j :: .ref a :: st) h P := by
  obtain ⟨r, h', q, hp⟩ := kk
  exact ⟨r, h', ix_last hd ht hin q, hp⟩
theorem ie_new {i k : Nat} (hd : decode (ix_by m) pc = .ok (.new i, 3)) (hN : ix_NL (ix_own m) i k) (kk : ix_E G m (pc + 3) lv (.ref (ix_nx h) :: st) (ix_nw h (k + 1) 0 (ix_nf k)) P) : ix_E G m pc lv st h P := by
  obtain ⟨r, h', q, hp⟩ := kk
  exact ⟨r, h', ix_new hd hN q, hp⟩
theorem ie_newa {t : Nat} {at_ : ArrayType} {n : Int32} {N : Nat} (hd : decode (ix_by m) pc = .ok (.newarray at_, 2)) (hA : ix_AK t at_) (hn : n = nI N) (hN : N ≤ 100000) (kk : ix_E G m (pc + 2) lv (.ref (ix_nx h) :: st) (ix_nw h (100 + t) N N) P) : ix_E G m pc lv (.int n :: st) h P := by
  obtain ⟨r, h', q, hp⟩ := kk
  exact ⟨r, h', ix_newa hd hA hn hN q, hp⟩
theorem ie_anew {t i : Nat} {Cn : String} {n : Int32} {N : Nat} (hd : decode (ix_by m) pc = .ok (.anewarray i, 3)) (t8 : t < 8) (hat : ix_at t = .object Cn) (hCn : Cn = "FileDelivery$Side" ∨ Cn = "FileDelivery$Unit" ∨ Cn = "java/lang/Object") (hlink : Cond.classLink (ix_own m) i Cn ∈ ix_words) (hn : n = nI N) (hN : N ≤ 100000) (kk : ix_E G m (pc + 3) lv (.ref (ix_nx h) :: st) (ix_nw h (100 + t) N N) P) : ix_E G m pc lv (.int n :: st) h P := by
  obtain ⟨r, h', q, hp⟩ := kk
  exact ⟨r, h', ix_anew hd t8 hat hCn hlink hn hN q, hp⟩
theorem ie_aast {a b t k : Nat} {j : Int32} (hd : decode (ix_by m) pc = .ok (.aastore, 1)) (hAS : ix_AS k t) (ht : ix_tg h a = 100 + t) (hb : ix_tg h b = k + 1) (hin : vp_in j (ix_ln h a)) (kk : ix_E G m (pc + 1) lv st (ix_sr h a j.toNatClampNeg (some b)) P) : ix_E G m pc lv (.ref b :: .int j :: .ref a :: st) h P := by
  obtain ⟨r, h', q, hp⟩ := kk
  exact ⟨r, h', ix_aast hd hAS ht hb hin q, hp⟩
theorem ie_aastN {a t : Nat} {Cn : String} {j : Int32} (hd : decode (ix_by m) pc = .ok (.aastore, 1)) (t8 : t < 8) (hat : ix_at t = .object Cn) (ht : ix_tg h a = 100 + t) (hin : vp_in j (ix_ln h a)) (kk : ix_E G m (pc + 1) lv st (ix_sr h a j.toNatClampNeg none) P) : ix_E G m pc lv (.null :: .int j :: .ref a :: st) h P := by
  obtain ⟨r, h', q, hp⟩ := kk
  exact ⟨r, h', ix_aastN hd t8 hat ht hin q, hp⟩
theorem ie_objI {i b : Nat} (hd : decode (ix_by m) pc = .ok (.invokespecial i, 3)) (hL : Cond.methodLink (ix_own m) i objectInit ∈ ix_words) (hI : Cond.instanceMethod objectInit ∈ ix_words) (hC : Cond.code objectInit ⟨#[0xb1]⟩ 1 none ∈ ix_words) (hf : 1 ≤ ix_fr m) (hlo : (st.map fun v => v.category).sum + 12 ≤ ix_lo m) (kk : ix_E G m (pc + 3) lv st h P) : ix_E G m pc lv (.ref b :: st) h P := by
  obtain ⟨r, h', q, hp⟩ := kk
  exact ⟨r, h', ix_objI hd hL hI hC hf hlo q, hp⟩
theorem ie_cast {i k a : Nat} {nm : String} (hd : decode (ix_by m) pc = .ok (.checkcast i, 3)) (hk : k < 10) (hcl : ix_cl[k]? = some (ix_cn k, ix_cT k, ix_nf k)) (hL : Cond.classLink (ix_own m) i nm ∈ ix_words) (hC : Cond.castable (ix_cn k) nm ∈ ix_words) (ht : ix_tg h a = k + 1) (kk : ix_E G m (pc + 3) lv (.ref a :: st) h P) : ix_E G m pc lv (.ref a :: st) h P := by
  obtain ⟨r, h', q, hp⟩ := kk
  exact ⟨r, h', ix_cast hd hk hcl hL hC ht q, hp⟩
theorem ie_castN {i : Nat} (hd : decode (ix_by m) pc = .ok (.checkcast i, 3)) (kk : ix_E G m (pc + 3) lv (.null :: st) h P) : ix_E G m pc lv (.null :: st) h P := by
  obtain ⟨r, h', q, hp⟩ := kk
  exact ⟨r, h', ix_castN hd q, hp⟩
theorem ie_gets {i : Nat} (hd : decode (ix_by m) pc = .ok (.getstatic i, 3)) (hL : Cond.fieldLink (ix_own m) i "java/util/ArrayList" "DEFAULTCAPACITY_EMPTY_ELEMENTDATA" "[Ljava/lang/Object;" ∈ ix_words) (kk : ix_E G m (pc + 3) lv (.ref G.2.2.2.1 :: st) h P) : ix_E G m pc lv st h P := by
  obtain ⟨r, h', q, hp⟩ := kk
  exact ⟨r, h', ix_gets hd hL q, hp⟩
theorem ie_ldcM {i : Nat} (hd : decode (ix_by m) pc = .ok (.ldc i, 2)) (hL : Cond.classLink (ix_own m) i "[Ljava/lang/Object;" ∈ ix_words) (kk : ix_E G m (pc + 2) lv (.ref G.2.2.2.2 :: st) h P) : ix_E G m pc lv st h P := by
  obtain ⟨r, h', q, hp⟩ := kk
  exact ⟨r, h', ix_ldcM hd hL q, hp⟩
theorem ie_getC {i a : Nat} (hd : decode (ix_by m) pc = .ok (.invokevirtual i, 3)) (hL : Cond.methodLink (ix_own m) i ix_gc ∈ ix_words) (hD : Cond.declares ix_gc ∈ ix_words) (hSel : Cond.selects "[Ljava/lang/Object;" ix_gc ix_gc ∈ ix_words) (hI : Cond.instanceMethod ix_gc ∈ ix_words) (hNt : Cond.native ix_gc ∈ ix_words) (hf : 1 ≤ ix_fr m) (hlo : (st.map fun v => v.category).sum + 14 ≤ ix_lo m) (ht : ix_tg h a = 107 ∨ ix_tg h a = 207) (kk : ix_E G m (pc + 3) lv (.ref G.2.2.2.2 :: st) h P) : ix_E G m pc lv (.ref a :: st) h P := by
  obtain ⟨r, h', q, hp⟩ := kk
  exact ⟨r, h', ix_getC hd hL hD hSel hI hNt hf hlo ht q, hp⟩
theorem ie_copyB {i src dst : Nat} {sp dp n : Int32} (hd : decode (ix_by m) pc = .ok (.invokestatic i, 3)) (hL : ix_CpL (ix_own m) i) (hf : 1 ≤ ix_fr m) (hlo : (st.map fun v => v.category).sum + (nativeFrameWords "java/lang/System" "arraycopy" 5 + 11) ≤ ix_lo m) (hsrc : ix_tg h src = 102) (hdst : ix_tg h dst = 102) (q1 : ¬ sp < 0) (q2 : ¬ dp < 0) (q3 : ¬ n < 0) (q4 : sp.toNatClampNeg + n.toNatClampNeg ≤ ix_ln h src) (q5 : dp.toNatClampNeg + n.toNatClampNeg ≤ ix_ln h dst) (hfit : ∀ j, j < n.toNatClampNeg → fits .byte (.int (ix_i h src (sp.toNatClampNeg + j))) = true) (kk : ix_E G m (pc + 3) lv st (ix_cpi h src sp.toNatClampNeg dst dp.toNatClampNeg n.toNatClampNeg) P) : ix_E G m pc lv (.int n :: .int dp :: .ref dst :: .int sp :: .ref src :: st) h P := by
  obtain ⟨r, h', q, hp⟩ := kk
  exact ⟨r, h', ix_copyB hd hL hf hlo hsrc hdst q1 q2 q3 q4 q5 hfit q, hp⟩
theorem ie_copyR {i src dst : Nat} {sp dp n : Int32} (hd : decode (ix_by m) pc = .ok (.invokestatic i, 3)) (hL : ix_CpL (ix_own m) i) (hf : 1 ≤ ix_fr m) (hlo : (st.map fun v => v.category).sum + (nativeFrameWords "java/lang/System" "arraycopy" 5 + 11) ≤ ix_lo m) (hsrc : ix_tg h src = 107 ∨ ix_tg h src = 207) (hdst : ix_tg h dst = 107) (q1 : ¬ sp < 0) (q2 : ¬ dp < 0) (q3 : ¬ n < 0) (q4 : sp.toNatClampNeg + n.toNatClampNeg ≤ ix_ln h src) (q5 : dp.toNatClampNeg + n.toNatClampNeg ≤ ix_ln h dst) (hel : ∀ j, j < n.toNatClampNeg → ∀ y : Nat, ix_r h src (sp.toNatClampNeg + j) = some y → ∃ k : Nat, k < 10 ∧ ix_tg h y = k + 1 ∧ ix_cl[k]? = some (ix_cn k, ix_cT k, ix_nf k) ∧ Cond.castable (ix_cn k) "java/lang/Object" ∈ ix_words) (kk : ix_E G m (pc + 3) lv st (ix_cpr h src sp.toNatClampNeg dst dp.toNatClampNeg n.toNatClampNeg) P) : ix_E G m pc lv (.int n :: .int dp :: .ref dst :: .int sp :: .ref src :: st) h P := by
  obtain ⟨r, h', q, hp⟩ := kk
  exact ⟨r, h', ix_copyR hd hL hf hlo hsrc hdst q1 q2 q3 q4 q5 hel q, hp⟩
theorem ie_iret {v : Int32} {ty : FieldType} (hd : decode (ix_by m) pc = .ok (.ireturn, 1)) (hr : ix_rt m = some ty) (hn : narrow ty (.int v) = .int v) (hp : P (some (.int v)) h) : ix_E G m pc lv [.int v] h P := ⟨_, _, ix_iret hd hr hn, hp⟩
theorem ie_vret (hd : decode (ix_by m) pc = .ok (.return_, 1)) (hr : ix_rt m = none) (hp : P none h) : ix_E G m pc lv [] h P := ⟨_, _, ix_vret hd hr, hp⟩
theorem ie_aret {v : Value} {ty : FieldType} (hd : decode (ix_by m) pc = .ok (.areturn, 1)) (hr : ix_rt m = some ty) (hty : (∃ n, ty = .object n) ∨ ∃ t, ty = .array t) (hv : v = .null ∨ ∃ a, v = .ref a) (hp : P (some v) h) : ix_E G m pc lv [v] h P := ⟨_, _, ix_aret hd hr hty hv, hp⟩
theorem ie_callV {stk : List Value} {i k kc n b : Nat} {P1 : ix_O → ix_H → Prop} (as : List Value) (hd : decode (ix_by m) pc = .ok (.invokevirtual i, 3)) (hk : ix_ok k n) (hroom : ix_room m k) (hL : ix_VL (ix_own m) i k kc) (hstk : stk = as.reverse ++ .ref b :: st) (hn : as.length = n) (hcat : (st.map fun v => v.category).sum ≤ 8) (hsl : (lg_sl (.ref b :: as)).length ≤ ix_mL k) (hb : ix_tg h b = kc + 1) (hM : ix_E G k 0 (lv_args 0 (.ref b :: as)) [] h P1) (kk : ∀ (rv : ix_O) (h1 : ix_H), P1 rv h1 → ix_E G m (pc + 3) lv (rv.toList ++ st) h1 P) : ix_E G m pc lv stk h P := by
  obtain ⟨rv, h1, q1, hp1⟩ := hM
  obtain ⟨r, h', q, hp⟩ := kk rv h1 hp1
  exact ⟨r, h', ix_callV as hd hk hroom hL hstk hn hcat hsl hb q1 q, hp⟩
theorem ie_callS {stk : List Value} {i k n : Nat} {P1 : ix_O → ix_H → Prop} (as : List Value) (hd : decode (ix_by m) pc = .ok (.invokestatic i, 3)) (hk : ix_ok k n) (hroom : ix_room m k) (hL : ix_SL (ix_own m) i k) (hstk : stk = as.reverse ++ st) (hn : as.length = n) (hcat : (st.map fun v => v.category).sum ≤ 8) (hsl : (lg_sl as).length ≤ ix_mL k) (hM : ix_E G k 0 (lv_args 0 as) [] h P1) (kk : ∀ (rv : ix_O) (h1 : ix_H), P1 rv h1 → ix_E G m (pc + 3) lv (rv.toList ++ st) h1 P) : ix_E G m pc lv stk h P := by
  obtain ⟨rv, h1, q1, hp1⟩ := hM
  obtain ⟨r, h', q, hp⟩ := kk rv h1 hp1
  exact ⟨r, h', ix_callS as hd hk hroom hL hstk hn hcat hsl q1 q, hp⟩
theorem ie_callI {stk : List Value} {i k n b : Nat} {P1 : ix_H → Prop} (as : List Value) (hd : decode (ix_by m) pc = .ok (.invokespecial i, 3)) (hk : ix_ok k n) (hroom : ix_room m k) (hL : ix_IL (ix_own m) i k) (hstk : stk = as.reverse ++ .ref b :: st) (hn : as.length = n) (hcat : (st.map fun v => v.category).sum ≤ 8) (hsl : (lg_sl (.ref b :: as)).length ≤ ix_mL k) (hM : ix_E G k 0 (lv_args 0 (.ref b :: as)) [] h (fun rv h1 => rv = none ∧ P1 h1)) (kk : ∀ h1 : ix_H, P1 h1 → ix_E G m (pc + 3) lv st h1 P) : ix_E G m pc lv stk h P := by
  obtain ⟨rv, h1, q1, hp0, hp1⟩ := hM
  subst hp0
  obtain ⟨r, h', q, hp⟩ := kk h1 hp1
  exact ⟨r, h', ix_callI as hd hk hroom hL hstk hn hcat hsl q1 q, hp⟩
theorem ie_mono {P1 : ix_O → ix_H → Prop} (hE : ix_E G m pc lv st h P1) (hP : ∀ r h', P1 r h' → P r h') : ix_E G m pc lv st h P := by
  obtain ⟨r, h', q, hp⟩ := hE
  exact ⟨r, h', q, hP r h' hp⟩
end IE1
end
section
/-! ===== field places, callees, calls of this claim (written by wip/whole/gen5.py) ===== -/
theorem ix_uw0 : ∀ w ∈ u_ws (ix_cn 0) (ix_cT 0) (ix_nf 0), w ∈ ix_words := by
  show ∀ w ∈ ([.laysFinal "FileDelivery" "FileDelivery" "timeout" "I", .laysFinal "FileDelivery" "FileDelivery" "sides" "[LFileDelivery$Side;", .laysFinal "FileDelivery" "FileDelivery" "link" "LFileDelivery$Link;", .lays "FileDelivery" "FileDelivery" "time" "I"] : List Cond), w ∈ ix_words
  exact List.forall_mem_cons.mpr ⟨ix_in 181 (by decide +kernel) (by decide +kernel), List.forall_mem_cons.mpr ⟨ix_in 183 (by decide +kernel) (by decide +kernel), List.forall_mem_cons.mpr ⟨ix_in 185 (by decide +kernel) (by decide +kernel), List.forall_mem_cons.mpr ⟨ix_in 187 (by decide +kernel) (by decide +kernel), fun _ h => absurd h List.not_mem_nil⟩⟩⟩⟩
theorem ix_uw1 : ∀ w ∈ u_ws (ix_cn 1) (ix_cT 1) (ix_nf 1), w ∈ ix_words := by
  show ∀ w ∈ ([.laysFinal "FileDelivery$Link" "FileDelivery$Link" "row" "[LFileDelivery$Unit;", .lays "FileDelivery$Link" "FileDelivery$Link" "count" "I"] : List Cond), w ∈ ix_words
  exact List.forall_mem_cons.mpr ⟨ix_in 172 (by decide +kernel) (by decide +kernel), List.forall_mem_cons.mpr ⟨ix_in 174 (by decide +kernel) (by decide +kernel), fun _ h => absurd h List.not_mem_nil⟩⟩
theorem ix_uw2 : ∀ w ∈ u_ws (ix_cn 2) (ix_cT 2) (ix_nf 2), w ∈ ix_words := by
  show ∀ w ∈ ([.laysFinal "FileDelivery$Receiver" "FileDelivery$Receiver" "about" "LFileDelivery$Transaction;", .laysFinal "FileDelivery$Receiver" "FileDelivery$Receiver" "home" "LFileDelivery$Side;", .laysFinal "FileDelivery$Receiver" "FileDelivery$Receiver" "link" "LFileDelivery$Link;", .laysFinal "FileDelivery$Receiver" "FileDelivery$Receiver" "timeout" "I", .laysFinal "FileDelivery$Receiver" "FileDelivery$Receiver" "bytes" "[B", .lays "FileDelivery$Receiver" "FileDelivery$Receiver" "metadataThere" "Z", .lays "FileDelivery$Receiver" "FileDelivery$Receiver" "segmentsThere" "I", .lays "FileDelivery$Receiver" "FileDelivery$Receiver" "endSize" "I", .lays "FileDelivery$Receiver" "FileDelivery$Receiver" "endChecksum" "I", .lays "FileDelivery$Receiver" "FileDelivery$Receiver" "waitsFrom" "I", .lays "FileDelivery$Receiver" "FileDelivery$Receiver" "tries" "I", .lays "FileDelivery$Receiver" "FileDelivery$Receiver" "result" "I", .lays "FileDelivery$Receiver" "FileDelivery$Receiver" "closed" "Z", .lays "FileDelivery$Receiver" "FileDelivery$Receiver" "requestAnswer" "I"] : List Cond), w ∈ ix_words
  exact List.forall_mem_cons.mpr ⟨ix_in 495 (by decide +kernel) (by decide +kernel), List.forall_mem_cons.mpr ⟨ix_in 497 (by decide +kernel) (by decide +kernel), List.forall_mem_cons.mpr ⟨ix_in 499 (by decide +kernel) (by decide +kernel), List.forall_mem_cons.mpr ⟨ix_in 501 (by decide +kernel) (by decide +kernel), List.forall_mem_cons.mpr ⟨ix_in 503 (by decide +kernel) (by decide +kernel), List.forall_mem_cons.mpr ⟨ix_in 505 (by decide +kernel) (by decide +kernel), List.forall_mem_cons.mpr ⟨ix_in 507 (by decide +kernel) (by decide +kernel), List.forall_mem_cons.mpr ⟨ix_in 509 (by decide +kernel) (by decide +kernel), List.forall_mem_cons.mpr ⟨ix_in 511 (by decide +kernel) (by decide +kernel), List.forall_mem_cons.mpr ⟨ix_in 513 (by decide +kernel) (by decide +kernel), List.forall_mem_cons.mpr ⟨ix_in 515 (by decide +kernel) (by decide +kernel), List.forall_mem_cons.mpr ⟨ix_in 517 (by decide +kernel) (by decide +kernel), List.forall_mem_cons.mpr ⟨ix_in 519 (by decide +kernel) (by decide +kernel), List.forall_mem_cons.mpr ⟨ix_in 521 (by decide +kernel) (by decide +kernel), fun _ h => absurd h List.not_mem_nil⟩⟩⟩⟩⟩⟩⟩⟩⟩⟩⟩⟩⟩⟩
theorem ix_uw3 : ∀ w ∈ u_ws (ix_cn 3) (ix_cT 3) (ix_nf 3), w ∈ ix_words := by
  show ∀ w ∈ ([.laysFinal "FileDelivery$Sender" "FileDelivery$Sender" "about" "LFileDelivery$Transaction;", .laysFinal "FileDelivery$Sender" "FileDelivery$Sender" "store" "LFileDelivery$Store;", .laysFinal "FileDelivery$Sender" "FileDelivery$Sender" "link" "LFileDelivery$Link;", .laysFinal "FileDelivery$Sender" "FileDelivery$Sender" "timeout" "I", .laysFinal "FileDelivery$Sender" "FileDelivery$Sender" "segments" "I", .lays "FileDelivery$Sender" "FileDelivery$Sender" "next" "I", .lays "FileDelivery$Sender" "FileDelivery$Sender" "cancelled" "Z", .lays "FileDelivery$Sender" "FileDelivery$Sender" "suspended" "Z", .lays "FileDelivery$Sender" "FileDelivery$Sender" "endAcknowledged" "Z", .lays "FileDelivery$Sender" "FileDelivery$Sender" "metadataWanted" "Z", .lays "FileDelivery$Sender" "FileDelivery$Sender" "repairs" "I", .lays "FileDelivery$Sender" "FileDelivery$Sender" "endsSent" "I", .lays "FileDelivery$Sender" "FileDelivery$Sender" "clock" "I", .lays "FileDelivery$Sender" "FileDelivery$Sender" "endSentAt" "I", .lays "FileDelivery$Sender" "FileDelivery$Sender" "latestUnitAt" "I", .lays "FileDelivery$Sender" "FileDelivery$Sender" "result" "I"] : List Cond), w ∈ ix_words
  exact List.forall_mem_cons.mpr ⟨ix_in 908 (by decide +kernel) (by decide +kernel), List.forall_mem_cons.mpr ⟨ix_in 910 (by decide +kernel) (by decide +kernel), List.forall_mem_cons.mpr ⟨ix_in 912 (by decide +kernel) (by decide +kernel), List.forall_mem_cons.mpr ⟨ix_in 914 (by decide +kernel) (by decide +kernel), List.forall_mem_cons.mpr ⟨ix_in 916 (by decide +kernel) (by decide +kernel), List.forall_mem_cons.mpr ⟨ix_in 918 (by decide +kernel) (by decide +kernel), List.forall_mem_cons.mpr ⟨ix_in 920 (by decide +kernel) (by decide +kernel), List.forall_mem_cons.mpr ⟨ix_in 922 (by decide +kernel) (by decide +kernel), List.forall_mem_cons.mpr ⟨ix_in 924 (by decide +kernel) (by decide +kernel), List.forall_mem_cons.mpr ⟨ix_in 926 (by decide +kernel) (by decide +kernel), List.forall_mem_cons.mpr ⟨ix_in 928 (by decide +kernel) (by decide +kernel), List.forall_mem_cons.mpr ⟨ix_in 930 (by decide +kernel) (by decide +kernel), List.forall_mem_cons.mpr ⟨ix_in 932 (by decide +kernel) (by decide +kernel), List.forall_mem_cons.mpr ⟨ix_in 934 (by decide +kernel) (by decide +kernel), List.forall_mem_cons.mpr ⟨ix_in 936 (by decide +kernel) (by decide +kernel), List.forall_mem_cons.mpr ⟨ix_in 938 (by decide +kernel) (by decide +kernel), fun _ h => absurd h List.not_mem_nil⟩⟩⟩⟩⟩⟩⟩⟩⟩⟩⟩⟩⟩⟩⟩⟩
theorem ix_uw4 : ∀ w ∈ u_ws (ix_cn 4) (ix_cT 4) (ix_nf 4), w ∈ ix_words := by
  show ∀ w ∈ ([.laysFinal "FileDelivery$Side" "FileDelivery$Side" "store" "LFileDelivery$Store;", .laysFinal "FileDelivery$Side" "FileDelivery$Side" "senders" "Ljava/util/ArrayList;", .laysFinal "FileDelivery$Side" "FileDelivery$Side" "openSenders" "Ljava/util/ArrayList;", .laysFinal "FileDelivery$Side" "FileDelivery$Side" "openReceivers" "Ljava/util/ArrayList;"] : List Cond), w ∈ ix_words
  exact List.forall_mem_cons.mpr ⟨ix_in 152 (by decide +kernel) (by decide +kernel), List.forall_mem_cons.mpr ⟨ix_in 154 (by decide +kernel) (by decide +kernel), List.forall_mem_cons.mpr ⟨ix_in 156 (by decide +kernel) (by decide +kernel), List.forall_mem_cons.mpr ⟨ix_in 158 (by decide +kernel) (by decide +kernel), fun _ h => absurd h List.not_mem_nil⟩⟩⟩⟩
theorem ix_uw5 : ∀ w ∈ u_ws (ix_cn 5) (ix_cT 5) (ix_nf 5), w ∈ ix_words := by
  show ∀ w ∈ ([.laysFinal "FileDelivery$Store" "FileDelivery$Store" "bytes" "[[B", .laysFinal "FileDelivery$Store" "FileDelivery$Store" "sizes" "[I"] : List Cond), w ∈ ix_words
  exact List.forall_mem_cons.mpr ⟨ix_in 110 (by decide +kernel) (by decide +kernel), List.forall_mem_cons.mpr ⟨ix_in 112 (by decide +kernel) (by decide +kernel), fun _ h => absurd h List.not_mem_nil⟩⟩
theorem ix_uw6 : ∀ w ∈ u_ws (ix_cn 6) (ix_cT 6) (ix_nf 6), w ∈ ix_words := by
  show ∀ w ∈ ([.laysFinal "FileDelivery$Transaction" "FileDelivery$Transaction" "entity" "I", .laysFinal "FileDelivery$Transaction" "FileDelivery$Transaction" "number" "I", .laysFinal "FileDelivery$Transaction" "FileDelivery$Transaction" "file" "I", .laysFinal "FileDelivery$Transaction" "FileDelivery$Transaction" "dest" "I", .laysFinal "FileDelivery$Transaction" "FileDelivery$Transaction" "kind" "I", .laysFinal "FileDelivery$Transaction" "FileDelivery$Transaction" "wish" "I", .laysFinal "FileDelivery$Transaction" "FileDelivery$Transaction" "other" "I", .lays "FileDelivery$Transaction" "FileDelivery$Transaction" "receiver" "LFileDelivery$Receiver;"] : List Cond), w ∈ ix_words
  exact List.forall_mem_cons.mpr ⟨ix_in 866 (by decide +kernel) (by decide +kernel), List.forall_mem_cons.mpr ⟨ix_in 868 (by decide +kernel) (by decide +kernel), List.forall_mem_cons.mpr ⟨ix_in 870 (by decide +kernel) (by decide +kernel), List.forall_mem_cons.mpr ⟨ix_in 872 (by decide +kernel) (by decide +kernel), List.forall_mem_cons.mpr ⟨ix_in 874 (by decide +kernel) (by decide +kernel), List.forall_mem_cons.mpr ⟨ix_in 876 (by decide +kernel) (by decide +kernel), List.forall_mem_cons.mpr ⟨ix_in 878 (by decide +kernel) (by decide +kernel), List.forall_mem_cons.mpr ⟨ix_in 880 (by decide +kernel) (by decide +kernel), fun _ h => absurd h List.not_mem_nil⟩⟩⟩⟩⟩⟩⟩⟩
theorem ix_uw7 : ∀ w ∈ u_ws (ix_cn 7) (ix_cT 7) (ix_nf 7), w ∈ ix_words := by
  show ∀ w ∈ ([.laysFinal "FileDelivery$Unit" "FileDelivery$Unit" "about" "LFileDelivery$Transaction;", .laysFinal "FileDelivery$Unit" "FileDelivery$Unit" "what" "I", .laysFinal "FileDelivery$Unit" "FileDelivery$Unit" "to" "I", .laysFinal "FileDelivery$Unit" "FileDelivery$Unit" "detail" "I", .laysFinal "FileDelivery$Unit" "FileDelivery$Unit" "length" "I", .lays "FileDelivery$Unit" "FileDelivery$Unit" "content" "I"] : List Cond), w ∈ ix_words
  exact List.forall_mem_cons.mpr ⟨ix_in 323 (by decide +kernel) (by decide +kernel), List.forall_mem_cons.mpr ⟨ix_in 325 (by decide +kernel) (by decide +kernel), List.forall_mem_cons.mpr ⟨ix_in 327 (by decide +kernel) (by decide +kernel), List.forall_mem_cons.mpr ⟨ix_in 329 (by decide +kernel) (by decide +kernel), List.forall_mem_cons.mpr ⟨ix_in 331 (by decide +kernel) (by decide +kernel), List.forall_mem_cons.mpr ⟨ix_in 333 (by decide +kernel) (by decide +kernel), fun _ h => absurd h List.not_mem_nil⟩⟩⟩⟩⟩⟩
theorem ix_uw8 : ∀ w ∈ u_ws (ix_cn 8) (ix_cT 8) (ix_nf 8), w ∈ ix_words := by
  show ∀ w ∈ ([.laysFinal "FileDeliveryModel" "FileDeliveryModel" "span" "I", .lays "FileDeliveryModel" "FileDeliveryModel" "time" "I", .lays "FileDeliveryModel" "FileDeliveryModel" "now" "I", .lays "FileDeliveryModel" "FileDeliveryModel" "fault" "I", .laysFinal "FileDeliveryModel" "FileDeliveryModel" "there" "[Z", .laysFinal "FileDeliveryModel" "FileDeliveryModel" "length" "[I", .laysFinal "FileDeliveryModel" "FileDeliveryModel" "content" "[I", .laysFinal "FileDeliveryModel" "FileDeliveryModel" "numbers" "[I", .laysFinal "FileDeliveryModel" "FileDeliveryModel" "kindOf" "[I", .laysFinal "FileDeliveryModel" "FileDeliveryModel" "fileOf" "[I", .laysFinal "FileDeliveryModel" "FileDeliveryModel" "destOf" "[I", .laysFinal "FileDeliveryModel" "FileDeliveryModel" "wishOf" "[I", .laysFinal "FileDeliveryModel" "FileDeliveryModel" "otherOf" "[I", .laysFinal "FileDeliveryModel" "FileDeliveryModel" "sender" "[I", .laysFinal "FileDeliveryModel" "FileDeliveryModel" "step" "[I", .laysFinal "FileDeliveryModel" "FileDeliveryModel" "ends" "[I", .laysFinal "FileDeliveryModel" "FileDeliveryModel" "clock" "[I", .laysFinal "FileDeliveryModel" "FileDeliveryModel" "endAt" "[I", .laysFinal "FileDeliveryModel" "FileDeliveryModel" "lastAt" "[I", .laysFinal "FileDeliveryModel" "FileDeliveryModel" "repairs" "[I", .laysFinal "FileDeliveryModel" "FileDeliveryModel" "acked" "[Z", .laysFinal "FileDeliveryModel" "FileDeliveryModel" "dropped" "[Z", .laysFinal "FileDeliveryModel" "FileDeliveryModel" "still" "[Z", .laysFinal "FileDeliveryModel" "FileDeliveryModel" "receiver" "[I", .laysFinal "FileDeliveryModel" "FileDeliveryModel" "wish" "[I", .laysFinal "FileDeliveryModel" "FileDeliveryModel" "slot" "[I", .laysFinal "FileDeliveryModel" "FileDeliveryModel" "outcome" "[I", .laysFinal "FileDeliveryModel" "FileDeliveryModel" "size" "[I", .laysFinal "FileDeliveryModel" "FileDeliveryModel" "sum" "[I", .laysFinal "FileDeliveryModel" "FileDeliveryModel" "sends" "[I", .laysFinal "FileDeliveryModel" "FileDeliveryModel" "sentAt" "[I", .laysFinal "FileDeliveryModel" "FileDeliveryModel" "gotAt" "[I", .laysFinal "FileDeliveryModel" "FileDeliveryModel" "toDest" "[I", .laysFinal "FileDeliveryModel" "FileDeliveryModel" "toWish" "[I", .laysFinal "FileDeliveryModel" "FileDeliveryModel" "toOther" "[I", .laysFinal "FileDeliveryModel" "FileDeliveryModel" "used" "[Z", .laysFinal "FileDeliveryModel" "FileDeliveryModel" "knows" "[Z", .laysFinal "FileDeliveryModel" "FileDeliveryModel" "ended" "[Z", .laysFinal "FileDeliveryModel" "FileDeliveryModel" "part" "[I", .laysFinal "FileDeliveryModel" "FileDeliveryModel" "parts" "[I", .laysFinal "FileDeliveryModel" "FileDeliveryModel" "senders" "[I", .laysFinal "FileDeliveryModel" "FileDeliveryModel" "receivers" "[I", .laysFinal "FileDeliveryModel" "FileDeliveryModel" "sending" "[I", .laysFinal "FileDeliveryModel" "FileDeliveryModel" "receiving" "[I", .lays "FileDeliveryModel" "FileDeliveryModel" "units" "I", .laysFinal "FileDeliveryModel" "FileDeliveryModel" "unit" "[I", .laysFinal "FileDeliveryModel" "FileDeliveryModel" "came" "[I", .laysFinal "FileDeliveryModel" "FileDeliveryModel" "gap" "[I"] : List Cond), w ∈ ix_words
  exact List.forall_mem_cons.mpr ⟨ix_in 1000 (by decide +kernel) (by decide +kernel), List.forall_mem_cons.mpr ⟨ix_in 1002 (by decide +kernel) (by decide +kernel), List.forall_mem_cons.mpr ⟨ix_in 1004 (by decide +kernel) (by decide +kernel), List.forall_mem_cons.mpr ⟨ix_in 1006 (by decide +kernel) (by decide +kernel), List.forall_mem_cons.mpr ⟨ix_in 1008 (by decide +kernel) (by decide +kernel), List.forall_mem_cons.mpr ⟨ix_in 1010 (by decide +kernel) (by decide +kernel), List.forall_mem_cons.mpr ⟨ix_in 1012 (by decide +kernel) (by decide +kernel), List.forall_mem_cons.mpr ⟨ix_in 1014 (by decide +kernel) (by decide +kernel), List.forall_mem_cons.mpr ⟨ix_in 1016 (by decide +kernel) (by decide +kernel), List.forall_mem_cons.mpr ⟨ix_in 1018 (by decide +kernel) (by decide +kernel), List.forall_mem_cons.mpr ⟨ix_in 1020 (by decide +kernel) (by decide +kernel), List.forall_mem_cons.mpr ⟨ix_in 1022 (by decide +kernel) (by decide +kernel), List.forall_mem_cons.mpr ⟨ix_in 1024 (by decide +kernel) (by decide +kernel), List.forall_mem_cons.mpr ⟨ix_in 1026 (by decide +kernel) (by decide +kernel), List.forall_mem_cons.mpr ⟨ix_in 1028 (by decide +kernel) (by decide +kernel), List.forall_mem_cons.mpr ⟨ix_in 1030 (by decide +kernel) (by decide +kernel), List.forall_mem_cons.mpr ⟨ix_in 1032 (by decide +kernel) (by decide +kernel), List.forall_mem_cons.mpr ⟨ix_in 1034 (by decide +kernel) (by decide +kernel), List.forall_mem_cons.mpr ⟨ix_in 1036 (by decide +kernel) (by decide +kernel), List.forall_mem_cons.mpr ⟨ix_in 1038 (by decide +kernel) (by decide +kernel), List.forall_mem_cons.mpr ⟨ix_in 1040 (by decide +kernel) (by decide +kernel), List.forall_mem_cons.mpr ⟨ix_in 1042 (by decide +kernel) (by decide +kernel), List.forall_mem_cons.mpr ⟨ix_in 1044 (by decide +kernel) (by decide +kernel), List.forall_mem_cons.mpr ⟨ix_in 1046 (by decide +kernel) (by decide +kernel), List.forall_mem_cons.mpr ⟨ix_in 1048 (by decide +kernel) (by decide +kernel), List.forall_mem_cons.mpr ⟨ix_in 1050 (by decide +kernel) (by decide +kernel), List.forall_mem_cons.mpr ⟨ix_in 1052 (by decide +kernel) (by decide +kernel), List.forall_mem_cons.mpr ⟨ix_in 1054 (by decide +kernel) (by decide +kernel), List.forall_mem_cons.mpr ⟨ix_in 1056 (by decide +kernel) (by decide +kernel), List.forall_mem_cons.mpr ⟨ix_in 1058 (by decide +kernel) (by decide +kernel), List.forall_mem_cons.mpr ⟨ix_in 1060 (by decide +kernel) (by decide +kernel), List.forall_mem_cons.mpr ⟨ix_in 1062 (by decide +kernel) (by decide +kernel), List.forall_mem_cons.mpr ⟨ix_in 1064 (by decide +kernel) (by decide +kernel), List.forall_mem_cons.mpr ⟨ix_in 1066 (by decide +kernel) (by decide +kernel), List.forall_mem_cons.mpr ⟨ix_in 1068 (by decide +kernel) (by decide +kernel), List.forall_mem_cons.mpr ⟨ix_in 1070 (by decide +kernel) (by decide +kernel), List.forall_mem_cons.mpr ⟨ix_in 1072 (by decide +kernel) (by decide +kernel), List.forall_mem_cons.mpr ⟨ix_in 1074 (by decide +kernel) (by decide +kernel), List.forall_mem_cons.mpr ⟨ix_in 1076 (by decide +kernel) (by decide +kernel), List.forall_mem_cons.mpr ⟨ix_in 1078 (by decide +kernel) (by decide +kernel), List.forall_mem_cons.mpr ⟨ix_in 1080 (by decide +kernel) (by decide +kernel), List.forall_mem_cons.mpr ⟨ix_in 1082 (by decide +kernel) (by decide +kernel), List.forall_mem_cons.mpr ⟨ix_in 1084 (by decide +kernel) (by decide +kernel), List.forall_mem_cons.mpr ⟨ix_in 1086 (by decide +kernel) (by decide +kernel), List.forall_mem_cons.mpr ⟨ix_in 1088 (by decide +kernel) (by decide +kernel), List.forall_mem_cons.mpr ⟨ix_in 1090 (by decide +kernel) (by decide +kernel), List.forall_mem_cons.mpr ⟨ix_in 1092 (by decide +kernel) (by decide +kernel), List.forall_mem_cons.mpr ⟨ix_in 1094 (by decide +kernel) (by decide +kernel), fun _ h => absurd h List.not_mem_nil⟩⟩⟩⟩⟩⟩⟩⟩⟩⟩⟩⟩⟩⟩⟩⟩⟩⟩⟩⟩⟩⟩⟩⟩⟩⟩⟩⟩⟩⟩⟩⟩⟩⟩⟩⟩⟩⟩⟩⟩⟩⟩⟩⟩⟩⟩⟩⟩
theorem ix_uw9 : ∀ w ∈ u_ws (ix_cn 9) (ix_cT 9) (ix_nf 9), w ∈ ix_words := by
  show ∀ w ∈ ([.lays "java/util/ArrayList" "java/util/ArrayList" "elementData" "[Ljava/lang/Object;", .lays "java/util/ArrayList" "java/util/ArrayList" "size" "I", .lays "java/util/ArrayList" "java/util/AbstractList" "modCount" "I"] : List Cond), w ∈ ix_words
  exact List.forall_mem_cons.mpr ⟨ix_in 136 (by decide +kernel) (by decide +kernel), List.forall_mem_cons.mpr ⟨ix_in 138 (by decide +kernel) (by decide +kernel), List.forall_mem_cons.mpr ⟨ix_in 140 (by decide +kernel) (by decide +kernel), fun _ h => absurd h List.not_mem_nil⟩⟩⟩
theorem fl1_7 : ix_FL "FileDelivery" 7 0 0 0 := ⟨by decide, by decide, by decide, rfl, ix_uw0, "FileDelivery", Or.inl (ix_in 177 (by decide +kernel) (by decide +kernel)), Or.inl rfl⟩
theorem fl1_16 : ix_FL "FileDelivery" 16 0 1 2 := ⟨by decide, by decide, by decide, rfl, ix_uw0, "FileDelivery", Or.inl (ix_in 178 (by decide +kernel) (by decide +kernel)), Or.inl rfl⟩
theorem fl1_23 : ix_FL "FileDelivery" 23 0 2 2 := ⟨by decide, by decide, by decide, rfl, ix_uw0, "FileDelivery", Or.inl (ix_in 179 (by decide +kernel) (by decide +kernel)), Or.inl rfl⟩
theorem fl1_27 : ix_FL "FileDelivery" 27 0 3 0 := ⟨by decide, by decide, by decide, rfl, ix_uw0, "FileDelivery", Or.inl (ix_in 180 (by decide +kernel) (by decide +kernel)), Or.inl rfl⟩
theorem fl1_34 : ix_FL "FileDelivery" 34 4 0 2 := ⟨by decide, by decide, by decide, rfl, ix_uw4, "FileDelivery$Side", Or.inr ⟨"FileDelivery", ix_in 144 (by decide +kernel) (by decide +kernel)⟩, Or.inl rfl⟩
theorem fl1_100 : ix_FL "FileDelivery" 100 4 2 2 := ⟨by decide, by decide, by decide, rfl, ix_uw4, "FileDelivery$Side", Or.inr ⟨"FileDelivery", ix_in 149 (by decide +kernel) (by decide +kernel)⟩, Or.inl rfl⟩
theorem fl1_110 : ix_FL "FileDelivery" 110 4 1 2 := ⟨by decide, by decide, by decide, rfl, ix_uw4, "FileDelivery$Side", Or.inr ⟨"FileDelivery", ix_in 147 (by decide +kernel) (by decide +kernel)⟩, Or.inl rfl⟩
theorem fl1_148 : ix_FL "FileDelivery" 148 7 2 0 := ⟨by decide, by decide, by decide, rfl, ix_uw7, "FileDelivery$Unit", Or.inr ⟨"FileDelivery", ix_in 312 (by decide +kernel) (by decide +kernel)⟩, Or.inl rfl⟩
theorem fl1_153 : ix_FL "FileDelivery" 153 7 0 2 := ⟨by decide, by decide, by decide, rfl, ix_uw7, "FileDelivery$Unit", Or.inr ⟨"FileDelivery", ix_in 306 (by decide +kernel) (by decide +kernel)⟩, Or.inl rfl⟩
theorem fl1_157 : ix_FL "FileDelivery" 157 6 0 0 := ⟨by decide, by decide, by decide, rfl, ix_uw6, "FileDelivery$Transaction", Or.inr ⟨"FileDelivery", ix_in 850 (by decide +kernel) (by decide +kernel)⟩, Or.inl rfl⟩
theorem fl1_180 : ix_FL "FileDelivery" 180 7 1 0 := ⟨by decide, by decide, by decide, rfl, ix_uw7, "FileDelivery$Unit", Or.inr ⟨"FileDelivery", ix_in 310 (by decide +kernel) (by decide +kernel)⟩, Or.inl rfl⟩
theorem fl1_183 : ix_FL "FileDelivery" 183 7 5 0 := ⟨by decide, by decide, by decide, rfl, ix_uw7, "FileDelivery$Unit", Or.inr ⟨"FileDelivery", ix_in 321 (by decide +kernel) (by decide +kernel)⟩, Or.inl rfl⟩
theorem fl1_186 : ix_FL "FileDelivery" 186 1 1 0 := ⟨by decide, by decide, by decide, rfl, ix_uw1, "FileDelivery$Link", Or.inr ⟨"FileDelivery", ix_in 171 (by decide +kernel) (by decide +kernel)⟩, Or.inl rfl⟩
theorem fl1_189 : ix_FL "FileDelivery" 189 6 1 0 := ⟨by decide, by decide, by decide, rfl, ix_uw6, "FileDelivery$Transaction", Or.inr ⟨"FileDelivery", ix_in 853 (by decide +kernel) (by decide +kernel)⟩, Or.inl rfl⟩
theorem fl1_192 : ix_FL "FileDelivery" 192 7 3 0 := ⟨by decide, by decide, by decide, rfl, ix_uw7, "FileDelivery$Unit", Or.inr ⟨"FileDelivery", ix_in 316 (by decide +kernel) (by decide +kernel)⟩, Or.inl rfl⟩
theorem fl1_198 : ix_FL "FileDelivery" 198 3 15 0 := ⟨by decide, by decide, by decide, rfl, ix_uw3, "FileDelivery$Sender", Or.inr ⟨"FileDelivery", ix_in 907 (by decide +kernel) (by decide +kernel)⟩, Or.inl rfl⟩
theorem fl1_205 : ix_FL "FileDelivery" 205 2 12 0 := ⟨by decide, by decide, by decide, rfl, ix_uw2, "FileDelivery$Receiver", Or.inr ⟨"FileDelivery", ix_in 492 (by decide +kernel) (by decide +kernel)⟩, Or.inl rfl⟩
theorem fl1_211 : ix_FL "FileDelivery" 211 2 11 0 := ⟨by decide, by decide, by decide, rfl, ix_uw2, "FileDelivery$Receiver", Or.inr ⟨"FileDelivery", ix_in 489 (by decide +kernel) (by decide +kernel)⟩, Or.inl rfl⟩
theorem fl1_215 : ix_FL "FileDelivery" 215 2 13 0 := ⟨by decide, by decide, by decide, rfl, ix_uw2, "FileDelivery$Receiver", Or.inr ⟨"FileDelivery", ix_in 494 (by decide +kernel) (by decide +kernel)⟩, Or.inl rfl⟩
theorem fl1_225 : ix_FL "FileDelivery" 225 3 0 2 := ⟨by decide, by decide, by decide, rfl, ix_uw3, "FileDelivery$Sender", Or.inr ⟨"FileDelivery", ix_in 891 (by decide +kernel) (by decide +kernel)⟩, Or.inl rfl⟩
theorem fl1_226 : ix_FL "FileDelivery" 226 6 7 2 := ⟨by decide, by decide, by decide, rfl, ix_uw6, "FileDelivery$Transaction", Or.inr ⟨"FileDelivery", ix_in 865 (by decide +kernel) (by decide +kernel)⟩, Or.inl rfl⟩
theorem fl1_243 : ix_FL "FileDelivery" 243 4 3 2 := ⟨by decide, by decide, by decide, rfl, ix_uw4, "FileDelivery$Side", Or.inr ⟨"FileDelivery", ix_in 151 (by decide +kernel) (by decide +kernel)⟩, Or.inl rfl⟩
theorem fl7_11 : ix_FL "FileDelivery$Link" 11 1 0 2 := ⟨by decide, by decide, by decide, rfl, ix_uw1, "FileDelivery$Link", Or.inl (ix_in 169 (by decide +kernel) (by decide +kernel)), Or.inl rfl⟩
theorem fl7_17 : ix_FL "FileDelivery$Link" 17 1 1 0 := ⟨by decide, by decide, by decide, rfl, ix_uw1, "FileDelivery$Link", Or.inl (ix_in 170 (by decide +kernel) (by decide +kernel)), Or.inl rfl⟩
theorem fl13_9 : ix_FL "FileDelivery$Receiver" 9 2 4 2 := ⟨by decide, by decide, by decide, rfl, ix_uw2, "FileDelivery$Receiver", Or.inl (ix_in 481 (by decide +kernel) (by decide +kernel)), Or.inl rfl⟩
theorem fl13_15 : ix_FL "FileDelivery$Receiver" 15 2 7 0 := ⟨by decide, by decide, by decide, rfl, ix_uw2, "FileDelivery$Receiver", Or.inl (ix_in 484 (by decide +kernel) (by decide +kernel)), Or.inl rfl⟩
theorem fl13_19 : ix_FL "FileDelivery$Receiver" 19 2 0 2 := ⟨by decide, by decide, by decide, rfl, ix_uw2, "FileDelivery$Receiver", Or.inl (ix_in 477 (by decide +kernel) (by decide +kernel)), Or.inl rfl⟩
theorem fl13_23 : ix_FL "FileDelivery$Receiver" 23 2 1 2 := ⟨by decide, by decide, by decide, rfl, ix_uw2, "FileDelivery$Receiver", Or.inl (ix_in 478 (by decide +kernel) (by decide +kernel)), Or.inl rfl⟩
theorem fl13_27 : ix_FL "FileDelivery$Receiver" 27 2 2 2 := ⟨by decide, by decide, by decide, rfl, ix_uw2, "FileDelivery$Receiver", Or.inl (ix_in 479 (by decide +kernel) (by decide +kernel)), Or.inl rfl⟩
theorem fl13_31 : ix_FL "FileDelivery$Receiver" 31 2 3 0 := ⟨by decide, by decide, by decide, rfl, ix_uw2, "FileDelivery$Receiver", Or.inl (ix_in 480 (by decide +kernel) (by decide +kernel)), Or.inl rfl⟩
theorem fl13_34 : ix_FL "FileDelivery$Receiver" 34 2 11 0 := ⟨by decide, by decide, by decide, rfl, ix_uw2, "FileDelivery$Receiver", Or.inl (ix_in 488 (by decide +kernel) (by decide +kernel)), Or.inl rfl⟩
theorem fl13_37 : ix_FL "FileDelivery$Receiver" 37 2 12 0 := ⟨by decide, by decide, by decide, rfl, ix_uw2, "FileDelivery$Receiver", Or.inl (ix_in 490 (by decide +kernel) (by decide +kernel)), Or.inl rfl⟩
theorem fl13_41 : ix_FL "FileDelivery$Receiver" 41 2 9 0 := ⟨by decide, by decide, by decide, rfl, ix_uw2, "FileDelivery$Receiver", Or.inl (ix_in 486 (by decide +kernel) (by decide +kernel)), Or.inl rfl⟩
theorem fl13_57 : ix_FL "FileDelivery$Receiver" 57 2 10 0 := ⟨by decide, by decide, by decide, rfl, ix_uw2, "FileDelivery$Receiver", Or.inl (ix_in 487 (by decide +kernel) (by decide +kernel)), Or.inl rfl⟩
theorem fl13_70 : ix_FL "FileDelivery$Receiver" 70 7 1 0 := ⟨by decide, by decide, by decide, rfl, ix_uw7, "FileDelivery$Unit", Or.inr ⟨"FileDelivery", ix_in 308 (by decide +kernel) (by decide +kernel)⟩, Or.inl rfl⟩
theorem fl13_83 : ix_FL "FileDelivery$Receiver" 83 7 3 0 := ⟨by decide, by decide, by decide, rfl, ix_uw7, "FileDelivery$Unit", Or.inr ⟨"FileDelivery", ix_in 314 (by decide +kernel) (by decide +kernel)⟩, Or.inl rfl⟩
theorem fl13_96 : ix_FL "FileDelivery$Receiver" 96 2 5 0 := ⟨by decide, by decide, by decide, rfl, ix_uw2, "FileDelivery$Receiver", Or.inl (ix_in 482 (by decide +kernel) (by decide +kernel)), Or.inl rfl⟩
theorem fl13_102 : ix_FL "FileDelivery$Receiver" 102 7 5 0 := ⟨by decide, by decide, by decide, rfl, ix_uw7, "FileDelivery$Unit", Or.inr ⟨"FileDelivery", ix_in 320 (by decide +kernel) (by decide +kernel)⟩, Or.inl rfl⟩
theorem fl13_105 : ix_FL "FileDelivery$Receiver" 105 2 8 0 := ⟨by decide, by decide, by decide, rfl, ix_uw2, "FileDelivery$Receiver", Or.inl (ix_in 485 (by decide +kernel) (by decide +kernel)), Or.inl rfl⟩
theorem fl13_108 : ix_FL "FileDelivery$Receiver" 108 2 6 0 := ⟨by decide, by decide, by decide, rfl, ix_uw2, "FileDelivery$Receiver", Or.inl (ix_in 483 (by decide +kernel) (by decide +kernel)), Or.inl rfl⟩
theorem fl13_111 : ix_FL "FileDelivery$Receiver" 111 7 4 0 := ⟨by decide, by decide, by decide, rfl, ix_uw7, "FileDelivery$Unit", Or.inr ⟨"FileDelivery", ix_in 318 (by decide +kernel) (by decide +kernel)⟩, Or.inl rfl⟩
theorem fl13_125 : ix_FL "FileDelivery$Receiver" 125 6 3 0 := ⟨by decide, by decide, by decide, rfl, ix_uw6, "FileDelivery$Transaction", Or.inr ⟨"FileDelivery", ix_in 859 (by decide +kernel) (by decide +kernel)⟩, Or.inl rfl⟩
theorem fl13_134 : ix_FL "FileDelivery$Receiver" 134 4 0 2 := ⟨by decide, by decide, by decide, rfl, ix_uw4, "FileDelivery$Side", Or.inr ⟨"FileDelivery", ix_in 145 (by decide +kernel) (by decide +kernel)⟩, Or.inl rfl⟩
theorem fl13_144 : ix_FL "FileDelivery$Receiver" 144 6 5 0 := ⟨by decide, by decide, by decide, rfl, ix_uw6, "FileDelivery$Transaction", Or.inr ⟨"FileDelivery", ix_in 862 (by decide +kernel) (by decide +kernel)⟩, Or.inl rfl⟩
theorem fl13_150 : ix_FL "FileDelivery$Receiver" 150 2 13 0 := ⟨by decide, by decide, by decide, rfl, ix_uw2, "FileDelivery$Receiver", Or.inl (ix_in 493 (by decide +kernel) (by decide +kernel)), Or.inl rfl⟩
theorem fl13_153 : ix_FL "FileDelivery$Receiver" 153 6 6 0 := ⟨by decide, by decide, by decide, rfl, ix_uw6, "FileDelivery$Transaction", Or.inr ⟨"FileDelivery", ix_in 864 (by decide +kernel) (by decide +kernel)⟩, Or.inl rfl⟩
theorem fl13_165 : ix_FL "FileDelivery$Receiver" 165 6 0 0 := ⟨by decide, by decide, by decide, rfl, ix_uw6, "FileDelivery$Transaction", Or.inr ⟨"FileDelivery", ix_in 851 (by decide +kernel) (by decide +kernel)⟩, Or.inl rfl⟩
theorem fl10_11 : ix_FL "FileDelivery$Sender" 11 3 5 0 := ⟨by decide, by decide, by decide, rfl, ix_uw3, "FileDelivery$Sender", Or.inl (ix_in 896 (by decide +kernel) (by decide +kernel)), Or.inl rfl⟩
theorem fl10_15 : ix_FL "FileDelivery$Sender" 15 3 0 2 := ⟨by decide, by decide, by decide, rfl, ix_uw3, "FileDelivery$Sender", Or.inl (ix_in 889 (by decide +kernel) (by decide +kernel)), Or.inl rfl⟩
theorem fl10_19 : ix_FL "FileDelivery$Sender" 19 3 1 2 := ⟨by decide, by decide, by decide, rfl, ix_uw3, "FileDelivery$Sender", Or.inl (ix_in 892 (by decide +kernel) (by decide +kernel)), Or.inl rfl⟩
theorem fl10_23 : ix_FL "FileDelivery$Sender" 23 3 2 2 := ⟨by decide, by decide, by decide, rfl, ix_uw3, "FileDelivery$Sender", Or.inl (ix_in 893 (by decide +kernel) (by decide +kernel)), Or.inl rfl⟩
theorem fl10_27 : ix_FL "FileDelivery$Sender" 27 3 3 0 := ⟨by decide, by decide, by decide, rfl, ix_uw3, "FileDelivery$Sender", Or.inl (ix_in 894 (by decide +kernel) (by decide +kernel)), Or.inl rfl⟩
theorem fl10_30 : ix_FL "FileDelivery$Sender" 30 6 2 0 := ⟨by decide, by decide, by decide, rfl, ix_uw6, "FileDelivery$Transaction", Or.inr ⟨"FileDelivery", ix_in 855 (by decide +kernel) (by decide +kernel)⟩, Or.inl rfl⟩
theorem fl10_44 : ix_FL "FileDelivery$Sender" 44 3 4 0 := ⟨by decide, by decide, by decide, rfl, ix_uw3, "FileDelivery$Sender", Or.inl (ix_in 895 (by decide +kernel) (by decide +kernel)), Or.inl rfl⟩
theorem fl10_47 : ix_FL "FileDelivery$Sender" 47 3 15 0 := ⟨by decide, by decide, by decide, rfl, ix_uw3, "FileDelivery$Sender", Or.inl (ix_in 906 (by decide +kernel) (by decide +kernel)), Or.inl rfl⟩
theorem fl10_54 : ix_FL "FileDelivery$Sender" 54 3 6 0 := ⟨by decide, by decide, by decide, rfl, ix_uw3, "FileDelivery$Sender", Or.inl (ix_in 897 (by decide +kernel) (by decide +kernel)), Or.inl rfl⟩
theorem fl10_58 : ix_FL "FileDelivery$Sender" 58 3 9 0 := ⟨by decide, by decide, by decide, rfl, ix_uw3, "FileDelivery$Sender", Or.inl (ix_in 900 (by decide +kernel) (by decide +kernel)), Or.inl rfl⟩
theorem fl10_61 : ix_FL "FileDelivery$Sender" 61 3 10 0 := ⟨by decide, by decide, by decide, rfl, ix_uw3, "FileDelivery$Sender", Or.inl (ix_in 901 (by decide +kernel) (by decide +kernel)), Or.inl rfl⟩
theorem fl10_64 : ix_FL "FileDelivery$Sender" 64 3 11 0 := ⟨by decide, by decide, by decide, rfl, ix_uw3, "FileDelivery$Sender", Or.inl (ix_in 902 (by decide +kernel) (by decide +kernel)), Or.inl rfl⟩
theorem fl10_67 : ix_FL "FileDelivery$Sender" 67 3 8 0 := ⟨by decide, by decide, by decide, rfl, ix_uw3, "FileDelivery$Sender", Or.inl (ix_in 899 (by decide +kernel) (by decide +kernel)), Or.inl rfl⟩
theorem fl10_70 : ix_FL "FileDelivery$Sender" 70 3 7 0 := ⟨by decide, by decide, by decide, rfl, ix_uw3, "FileDelivery$Sender", Or.inl (ix_in 898 (by decide +kernel) (by decide +kernel)), Or.inl rfl⟩
theorem fl10_73 : ix_FL "FileDelivery$Sender" 73 3 12 0 := ⟨by decide, by decide, by decide, rfl, ix_uw3, "FileDelivery$Sender", Or.inl (ix_in 903 (by decide +kernel) (by decide +kernel)), Or.inl rfl⟩
theorem fl10_85 : ix_FL "FileDelivery$Sender" 85 3 14 0 := ⟨by decide, by decide, by decide, rfl, ix_uw3, "FileDelivery$Sender", Or.inl (ix_in 905 (by decide +kernel) (by decide +kernel)), Or.inl rfl⟩
theorem fl10_101 : ix_FL "FileDelivery$Sender" 101 3 13 0 := ⟨by decide, by decide, by decide, rfl, ix_uw3, "FileDelivery$Sender", Or.inl (ix_in 904 (by decide +kernel) (by decide +kernel)), Or.inl rfl⟩
theorem fl10_104 : ix_FL "FileDelivery$Sender" 104 6 3 0 := ⟨by decide, by decide, by decide, rfl, ix_uw6, "FileDelivery$Transaction", Or.inr ⟨"FileDelivery", ix_in 858 (by decide +kernel) (by decide +kernel)⟩, Or.inl rfl⟩
theorem fl10_136 : ix_FL "FileDelivery$Sender" 136 7 1 0 := ⟨by decide, by decide, by decide, rfl, ix_uw7, "FileDelivery$Unit", Or.inr ⟨"FileDelivery", ix_in 309 (by decide +kernel) (by decide +kernel)⟩, Or.inl rfl⟩
theorem fl10_139 : ix_FL "FileDelivery$Sender" 139 7 3 0 := ⟨by decide, by decide, by decide, rfl, ix_uw7, "FileDelivery$Unit", Or.inr ⟨"FileDelivery", ix_in 315 (by decide +kernel) (by decide +kernel)⟩, Or.inl rfl⟩
theorem fl10_145 : ix_FL "FileDelivery$Sender" 145 7 5 0 := ⟨by decide, by decide, by decide, rfl, ix_uw7, "FileDelivery$Unit", Or.inr ⟨"FileDelivery", ix_in 322 (by decide +kernel) (by decide +kernel)⟩, Or.inl rfl⟩
theorem fl2_10 : ix_FL "FileDelivery$Side" 10 4 0 2 := ⟨by decide, by decide, by decide, rfl, ix_uw4, "FileDelivery$Side", Or.inl (ix_in 143 (by decide +kernel) (by decide +kernel)), Or.inl rfl⟩
theorem fl2_19 : ix_FL "FileDelivery$Side" 19 4 1 2 := ⟨by decide, by decide, by decide, rfl, ix_uw4, "FileDelivery$Side", Or.inl (ix_in 146 (by decide +kernel) (by decide +kernel)), Or.inl rfl⟩
theorem fl2_23 : ix_FL "FileDelivery$Side" 23 4 2 2 := ⟨by decide, by decide, by decide, rfl, ix_uw4, "FileDelivery$Side", Or.inl (ix_in 148 (by decide +kernel) (by decide +kernel)), Or.inl rfl⟩
theorem fl2_26 : ix_FL "FileDelivery$Side" 26 4 3 2 := ⟨by decide, by decide, by decide, rfl, ix_uw4, "FileDelivery$Side", Or.inl (ix_in 150 (by decide +kernel) (by decide +kernel)), Or.inl rfl⟩
theorem fl2_43 : ix_FL "FileDelivery$Side" 43 3 0 2 := ⟨by decide, by decide, by decide, rfl, ix_uw3, "FileDelivery$Sender", Or.inr ⟨"FileDelivery", ix_in 890 (by decide +kernel) (by decide +kernel)⟩, Or.inl rfl⟩
theorem fl2_47 : ix_FL "FileDelivery$Side" 47 6 2 0 := ⟨by decide, by decide, by decide, rfl, ix_uw6, "FileDelivery$Transaction", Or.inr ⟨"FileDelivery", ix_in 856 (by decide +kernel) (by decide +kernel)⟩, Or.inl rfl⟩
theorem fl2_71 : ix_FL "FileDelivery$Side" 71 2 12 0 := ⟨by decide, by decide, by decide, rfl, ix_uw2, "FileDelivery$Receiver", Or.inr ⟨"FileDelivery", ix_in 491 (by decide +kernel) (by decide +kernel)⟩, Or.inl rfl⟩
theorem fl3_11 : ix_FL "FileDelivery$Store" 11 5 0 2 := ⟨by decide, by decide, by decide, rfl, ix_uw5, "FileDelivery$Store", Or.inl (ix_in 108 (by decide +kernel) (by decide +kernel)), Or.inl rfl⟩
theorem fl3_16 : ix_FL "FileDelivery$Store" 16 5 1 2 := ⟨by decide, by decide, by decide, rfl, ix_uw5, "FileDelivery$Store", Or.inl (ix_in 109 (by decide +kernel) (by decide +kernel)), Or.inl rfl⟩
theorem fl11_9 : ix_FL "FileDelivery$Transaction" 9 6 0 0 := ⟨by decide, by decide, by decide, rfl, ix_uw6, "FileDelivery$Transaction", Or.inl (ix_in 849 (by decide +kernel) (by decide +kernel)), Or.inl rfl⟩
theorem fl11_15 : ix_FL "FileDelivery$Transaction" 15 6 1 0 := ⟨by decide, by decide, by decide, rfl, ix_uw6, "FileDelivery$Transaction", Or.inl (ix_in 852 (by decide +kernel) (by decide +kernel)), Or.inl rfl⟩
theorem fl11_18 : ix_FL "FileDelivery$Transaction" 18 6 2 0 := ⟨by decide, by decide, by decide, rfl, ix_uw6, "FileDelivery$Transaction", Or.inl (ix_in 854 (by decide +kernel) (by decide +kernel)), Or.inl rfl⟩
theorem fl11_21 : ix_FL "FileDelivery$Transaction" 21 6 3 0 := ⟨by decide, by decide, by decide, rfl, ix_uw6, "FileDelivery$Transaction", Or.inl (ix_in 857 (by decide +kernel) (by decide +kernel)), Or.inl rfl⟩
theorem fl11_24 : ix_FL "FileDelivery$Transaction" 24 6 4 0 := ⟨by decide, by decide, by decide, rfl, ix_uw6, "FileDelivery$Transaction", Or.inl (ix_in 860 (by decide +kernel) (by decide +kernel)), Or.inl rfl⟩
theorem fl11_27 : ix_FL "FileDelivery$Transaction" 27 6 5 0 := ⟨by decide, by decide, by decide, rfl, ix_uw6, "FileDelivery$Transaction", Or.inl (ix_in 861 (by decide +kernel) (by decide +kernel)), Or.inl rfl⟩
theorem fl11_30 : ix_FL "FileDelivery$Transaction" 30 6 6 0 := ⟨by decide, by decide, by decide, rfl, ix_uw6, "FileDelivery$Transaction", Or.inl (ix_in 863 (by decide +kernel) (by decide +kernel)), Or.inl rfl⟩
theorem fl12_7 : ix_FL "FileDelivery$Unit" 7 7 0 2 := ⟨by decide, by decide, by decide, rfl, ix_uw7, "FileDelivery$Unit", Or.inl (ix_in 305 (by decide +kernel) (by decide +kernel)), Or.inl rfl⟩
theorem fl12_13 : ix_FL "FileDelivery$Unit" 13 7 1 0 := ⟨by decide, by decide, by decide, rfl, ix_uw7, "FileDelivery$Unit", Or.inl (ix_in 307 (by decide +kernel) (by decide +kernel)), Or.inl rfl⟩
theorem fl12_17 : ix_FL "FileDelivery$Unit" 17 7 2 0 := ⟨by decide, by decide, by decide, rfl, ix_uw7, "FileDelivery$Unit", Or.inl (ix_in 311 (by decide +kernel) (by decide +kernel)), Or.inl rfl⟩
theorem fl12_20 : ix_FL "FileDelivery$Unit" 20 7 3 0 := ⟨by decide, by decide, by decide, rfl, ix_uw7, "FileDelivery$Unit", Or.inl (ix_in 313 (by decide +kernel) (by decide +kernel)), Or.inl rfl⟩
theorem fl12_23 : ix_FL "FileDelivery$Unit" 23 7 4 0 := ⟨by decide, by decide, by decide, rfl, ix_uw7, "FileDelivery$Unit", Or.inl (ix_in 317 (by decide +kernel) (by decide +kernel)), Or.inl rfl⟩
theorem fl12_26 : ix_FL "FileDelivery$Unit" 26 7 5 0 := ⟨by decide, by decide, by decide, rfl, ix_uw7, "FileDelivery$Unit", Or.inl (ix_in 319 (by decide +kernel) (by decide +kernel)), Or.inl rfl⟩
theorem fl17_7 : ix_FL "FileDeliveryModel" 7 8 4 2 := ⟨by decide, by decide, by decide, rfl, ix_uw8, "FileDeliveryModel", Or.inl (ix_in 956 (by decide +kernel) (by decide +kernel)), Or.inl rfl⟩
theorem fl17_13 : ix_FL "FileDeliveryModel" 13 8 5 2 := ⟨by decide, by decide, by decide, rfl, ix_uw8, "FileDeliveryModel", Or.inl (ix_in 957 (by decide +kernel) (by decide +kernel)), Or.inl rfl⟩
theorem fl17_17 : ix_FL "FileDeliveryModel" 17 8 6 2 := ⟨by decide, by decide, by decide, rfl, ix_uw8, "FileDeliveryModel", Or.inl (ix_in 958 (by decide +kernel) (by decide +kernel)), Or.inl rfl⟩
theorem fl17_20 : ix_FL "FileDeliveryModel" 20 8 7 2 := ⟨by decide, by decide, by decide, rfl, ix_uw8, "FileDeliveryModel", Or.inl (ix_in 959 (by decide +kernel) (by decide +kernel)), Or.inl rfl⟩
theorem fl17_23 : ix_FL "FileDeliveryModel" 23 8 8 2 := ⟨by decide, by decide, by decide, rfl, ix_uw8, "FileDeliveryModel", Or.inl (ix_in 960 (by decide +kernel) (by decide +kernel)), Or.inl rfl⟩
theorem fl17_26 : ix_FL "FileDeliveryModel" 26 8 9 2 := ⟨by decide, by decide, by decide, rfl, ix_uw8, "FileDeliveryModel", Or.inl (ix_in 961 (by decide +kernel) (by decide +kernel)), Or.inl rfl⟩
theorem fl17_29 : ix_FL "FileDeliveryModel" 29 8 10 2 := ⟨by decide, by decide, by decide, rfl, ix_uw8, "FileDeliveryModel", Or.inl (ix_in 962 (by decide +kernel) (by decide +kernel)), Or.inl rfl⟩
theorem fl17_32 : ix_FL "FileDeliveryModel" 32 8 11 2 := ⟨by decide, by decide, by decide, rfl, ix_uw8, "FileDeliveryModel", Or.inl (ix_in 963 (by decide +kernel) (by decide +kernel)), Or.inl rfl⟩
theorem fl17_35 : ix_FL "FileDeliveryModel" 35 8 12 2 := ⟨by decide, by decide, by decide, rfl, ix_uw8, "FileDeliveryModel", Or.inl (ix_in 964 (by decide +kernel) (by decide +kernel)), Or.inl rfl⟩
theorem fl17_38 : ix_FL "FileDeliveryModel" 38 8 13 2 := ⟨by decide, by decide, by decide, rfl, ix_uw8, "FileDeliveryModel", Or.inl (ix_in 965 (by decide +kernel) (by decide +kernel)), Or.inl rfl⟩
theorem fl17_41 : ix_FL "FileDeliveryModel" 41 8 14 2 := ⟨by decide, by decide, by decide, rfl, ix_uw8, "FileDeliveryModel", Or.inl (ix_in 966 (by decide +kernel) (by decide +kernel)), Or.inl rfl⟩
theorem fl17_44 : ix_FL "FileDeliveryModel" 44 8 15 2 := ⟨by decide, by decide, by decide, rfl, ix_uw8, "FileDeliveryModel", Or.inl (ix_in 967 (by decide +kernel) (by decide +kernel)), Or.inl rfl⟩
theorem fl17_47 : ix_FL "FileDeliveryModel" 47 8 16 2 := ⟨by decide, by decide, by decide, rfl, ix_uw8, "FileDeliveryModel", Or.inl (ix_in 968 (by decide +kernel) (by decide +kernel)), Or.inl rfl⟩
theorem fl17_50 : ix_FL "FileDeliveryModel" 50 8 17 2 := ⟨by decide, by decide, by decide, rfl, ix_uw8, "FileDeliveryModel", Or.inl (ix_in 969 (by decide +kernel) (by decide +kernel)), Or.inl rfl⟩
theorem fl17_53 : ix_FL "FileDeliveryModel" 53 8 18 2 := ⟨by decide, by decide, by decide, rfl, ix_uw8, "FileDeliveryModel", Or.inl (ix_in 970 (by decide +kernel) (by decide +kernel)), Or.inl rfl⟩
theorem fl17_56 : ix_FL "FileDeliveryModel" 56 8 19 2 := ⟨by decide, by decide, by decide, rfl, ix_uw8, "FileDeliveryModel", Or.inl (ix_in 971 (by decide +kernel) (by decide +kernel)), Or.inl rfl⟩
theorem fl17_59 : ix_FL "FileDeliveryModel" 59 8 20 2 := ⟨by decide, by decide, by decide, rfl, ix_uw8, "FileDeliveryModel", Or.inl (ix_in 972 (by decide +kernel) (by decide +kernel)), Or.inl rfl⟩
theorem fl17_62 : ix_FL "FileDeliveryModel" 62 8 21 2 := ⟨by decide, by decide, by decide, rfl, ix_uw8, "FileDeliveryModel", Or.inl (ix_in 973 (by decide +kernel) (by decide +kernel)), Or.inl rfl⟩
theorem fl17_65 : ix_FL "FileDeliveryModel" 65 8 22 2 := ⟨by decide, by decide, by decide, rfl, ix_uw8, "FileDeliveryModel", Or.inl (ix_in 974 (by decide +kernel) (by decide +kernel)), Or.inl rfl⟩
theorem fl17_68 : ix_FL "FileDeliveryModel" 68 8 23 2 := ⟨by decide, by decide, by decide, rfl, ix_uw8, "FileDeliveryModel", Or.inl (ix_in 975 (by decide +kernel) (by decide +kernel)), Or.inl rfl⟩
theorem fl17_71 : ix_FL "FileDeliveryModel" 71 8 24 2 := ⟨by decide, by decide, by decide, rfl, ix_uw8, "FileDeliveryModel", Or.inl (ix_in 976 (by decide +kernel) (by decide +kernel)), Or.inl rfl⟩
theorem fl17_74 : ix_FL "FileDeliveryModel" 74 8 25 2 := ⟨by decide, by decide, by decide, rfl, ix_uw8, "FileDeliveryModel", Or.inl (ix_in 977 (by decide +kernel) (by decide +kernel)), Or.inl rfl⟩
theorem fl17_77 : ix_FL "FileDeliveryModel" 77 8 26 2 := ⟨by decide, by decide, by decide, rfl, ix_uw8, "FileDeliveryModel", Or.inl (ix_in 978 (by decide +kernel) (by decide +kernel)), Or.inl rfl⟩
theorem fl17_80 : ix_FL "FileDeliveryModel" 80 8 27 2 := ⟨by decide, by decide, by decide, rfl, ix_uw8, "FileDeliveryModel", Or.inl (ix_in 979 (by decide +kernel) (by decide +kernel)), Or.inl rfl⟩
theorem fl17_83 : ix_FL "FileDeliveryModel" 83 8 28 2 := ⟨by decide, by decide, by decide, rfl, ix_uw8, "FileDeliveryModel", Or.inl (ix_in 980 (by decide +kernel) (by decide +kernel)), Or.inl rfl⟩
theorem fl17_86 : ix_FL "FileDeliveryModel" 86 8 29 2 := ⟨by decide, by decide, by decide, rfl, ix_uw8, "FileDeliveryModel", Or.inl (ix_in 981 (by decide +kernel) (by decide +kernel)), Or.inl rfl⟩
theorem fl17_89 : ix_FL "FileDeliveryModel" 89 8 30 2 := ⟨by decide, by decide, by decide, rfl, ix_uw8, "FileDeliveryModel", Or.inl (ix_in 982 (by decide +kernel) (by decide +kernel)), Or.inl rfl⟩
theorem fl17_92 : ix_FL "FileDeliveryModel" 92 8 31 2 := ⟨by decide, by decide, by decide, rfl, ix_uw8, "FileDeliveryModel", Or.inl (ix_in 983 (by decide +kernel) (by decide +kernel)), Or.inl rfl⟩
theorem fl17_95 : ix_FL "FileDeliveryModel" 95 8 32 2 := ⟨by decide, by decide, by decide, rfl, ix_uw8, "FileDeliveryModel", Or.inl (ix_in 984 (by decide +kernel) (by decide +kernel)), Or.inl rfl⟩
theorem fl17_98 : ix_FL "FileDeliveryModel" 98 8 33 2 := ⟨by decide, by decide, by decide, rfl, ix_uw8, "FileDeliveryModel", Or.inl (ix_in 985 (by decide +kernel) (by decide +kernel)), Or.inl rfl⟩
theorem fl17_101 : ix_FL "FileDeliveryModel" 101 8 34 2 := ⟨by decide, by decide, by decide, rfl, ix_uw8, "FileDeliveryModel", Or.inl (ix_in 986 (by decide +kernel) (by decide +kernel)), Or.inl rfl⟩
theorem fl17_104 : ix_FL "FileDeliveryModel" 104 8 35 2 := ⟨by decide, by decide, by decide, rfl, ix_uw8, "FileDeliveryModel", Or.inl (ix_in 987 (by decide +kernel) (by decide +kernel)), Or.inl rfl⟩
theorem fl17_107 : ix_FL "FileDeliveryModel" 107 8 36 2 := ⟨by decide, by decide, by decide, rfl, ix_uw8, "FileDeliveryModel", Or.inl (ix_in 988 (by decide +kernel) (by decide +kernel)), Or.inl rfl⟩
theorem fl17_110 : ix_FL "FileDeliveryModel" 110 8 37 2 := ⟨by decide, by decide, by decide, rfl, ix_uw8, "FileDeliveryModel", Or.inl (ix_in 989 (by decide +kernel) (by decide +kernel)), Or.inl rfl⟩
theorem fl17_113 : ix_FL "FileDeliveryModel" 113 8 38 2 := ⟨by decide, by decide, by decide, rfl, ix_uw8, "FileDeliveryModel", Or.inl (ix_in 990 (by decide +kernel) (by decide +kernel)), Or.inl rfl⟩
theorem fl17_116 : ix_FL "FileDeliveryModel" 116 8 39 2 := ⟨by decide, by decide, by decide, rfl, ix_uw8, "FileDeliveryModel", Or.inl (ix_in 991 (by decide +kernel) (by decide +kernel)), Or.inl rfl⟩
theorem fl17_119 : ix_FL "FileDeliveryModel" 119 8 40 2 := ⟨by decide, by decide, by decide, rfl, ix_uw8, "FileDeliveryModel", Or.inl (ix_in 992 (by decide +kernel) (by decide +kernel)), Or.inl rfl⟩
theorem fl17_122 : ix_FL "FileDeliveryModel" 122 8 41 2 := ⟨by decide, by decide, by decide, rfl, ix_uw8, "FileDeliveryModel", Or.inl (ix_in 993 (by decide +kernel) (by decide +kernel)), Or.inl rfl⟩
theorem fl17_125 : ix_FL "FileDeliveryModel" 125 8 42 2 := ⟨by decide, by decide, by decide, rfl, ix_uw8, "FileDeliveryModel", Or.inl (ix_in 994 (by decide +kernel) (by decide +kernel)), Or.inl rfl⟩
theorem fl17_128 : ix_FL "FileDeliveryModel" 128 8 43 2 := ⟨by decide, by decide, by decide, rfl, ix_uw8, "FileDeliveryModel", Or.inl (ix_in 995 (by decide +kernel) (by decide +kernel)), Or.inl rfl⟩
theorem fl17_131 : ix_FL "FileDeliveryModel" 131 8 45 2 := ⟨by decide, by decide, by decide, rfl, ix_uw8, "FileDeliveryModel", Or.inl (ix_in 997 (by decide +kernel) (by decide +kernel)), Or.inl rfl⟩
theorem fl17_134 : ix_FL "FileDeliveryModel" 134 8 46 2 := ⟨by decide, by decide, by decide, rfl, ix_uw8, "FileDeliveryModel", Or.inl (ix_in 998 (by decide +kernel) (by decide +kernel)), Or.inl rfl⟩
theorem fl17_137 : ix_FL "FileDeliveryModel" 137 8 47 2 := ⟨by decide, by decide, by decide, rfl, ix_uw8, "FileDeliveryModel", Or.inl (ix_in 999 (by decide +kernel) (by decide +kernel)), Or.inl rfl⟩
theorem fl17_140 : ix_FL "FileDeliveryModel" 140 8 0 0 := ⟨by decide, by decide, by decide, rfl, ix_uw8, "FileDeliveryModel", Or.inl (ix_in 952 (by decide +kernel) (by decide +kernel)), Or.inl rfl⟩
theorem fl17_144 : ix_FL "FileDeliveryModel" 144 8 3 0 := ⟨by decide, by decide, by decide, rfl, ix_uw8, "FileDeliveryModel", Or.inl (ix_in 955 (by decide +kernel) (by decide +kernel)), Or.inl rfl⟩
theorem fl17_171 : ix_FL "FileDeliveryModel" 171 8 44 0 := ⟨by decide, by decide, by decide, rfl, ix_uw8, "FileDeliveryModel", Or.inl (ix_in 996 (by decide +kernel) (by decide +kernel)), Or.inl rfl⟩
theorem fl17_215 : ix_FL "FileDeliveryModel" 215 8 1 0 := ⟨by decide, by decide, by decide, rfl, ix_uw8, "FileDeliveryModel", Or.inl (ix_in 953 (by decide +kernel) (by decide +kernel)), Or.inl rfl⟩
theorem fl17_234 : ix_FL "FileDeliveryModel" 234 8 2 0 := ⟨by decide, by decide, by decide, rfl, ix_uw8, "FileDeliveryModel", Or.inl (ix_in 954 (by decide +kernel) (by decide +kernel)), Or.inl rfl⟩
theorem fl4_9 : ix_FL "java/util/ArrayList" 9 9 0 2 := ⟨by decide, by decide, by decide, rfl, ix_uw9, "java/util/ArrayList", Or.inl (ix_in 131 (by decide +kernel) (by decide +kernel)), Or.inl rfl⟩
theorem fl4_48 : ix_FL "java/util/ArrayList" 48 9 1 0 := ⟨by decide, by decide, by decide, rfl, ix_uw9, "java/util/ArrayList", Or.inl (ix_in 132 (by decide +kernel) (by decide +kernel)), Or.inl rfl⟩
theorem fl4_63 : ix_FL "java/util/ArrayList" 63 9 2 0 := ⟨by decide, by decide, by decide, rfl, ix_uw9, "java/util/ArrayList", Or.inl (ix_in 134 (by decide +kernel) (by decide +kernel)), Or.inr (ix_in 135 (by decide +kernel) (by decide +kernel))⟩
set_option maxRecDepth 100000 in
theorem ok1 : ix_ok 1 1 := ⟨by decide +kernel, ⟨by decide +kernel, by decide +kernel, by decide +kernel⟩, ix_in 89 (by decide +kernel) (by decide +kernel), ix_in 60 (by decide +kernel) (by decide +kernel)⟩
set_option maxRecDepth 100000 in
theorem ok2 : ix_ok 2 0 := ⟨by decide +kernel, ⟨by decide +kernel, by decide +kernel, by decide +kernel⟩, ix_in 98 (by decide +kernel) (by decide +kernel), ix_in 61 (by decide +kernel) (by decide +kernel)⟩
set_option maxRecDepth 100000 in
theorem ok3 : ix_ok 3 0 := ⟨by decide +kernel, ⟨by decide +kernel, by decide +kernel, by decide +kernel⟩, ix_in 104 (by decide +kernel) (by decide +kernel), ix_in 62 (by decide +kernel) (by decide +kernel)⟩
set_option maxRecDepth 100000 in
theorem ok4 : ix_ok 4 0 := ⟨by decide +kernel, ⟨by decide +kernel, by decide +kernel, by decide +kernel⟩, ix_in 121 (by decide +kernel) (by decide +kernel), ix_in 65 (by decide +kernel) (by decide +kernel)⟩
set_option maxRecDepth 100000 in
theorem ok5 : ix_ok 5 0 := ⟨by decide +kernel, ⟨by decide +kernel, by decide +kernel, by decide +kernel⟩, ix_in 124 (by decide +kernel) (by decide +kernel), ix_in 64 (by decide +kernel) (by decide +kernel)⟩
set_option maxRecDepth 100000 in
theorem ok6 : ix_ok 6 0 := ⟨by decide +kernel, ⟨by decide +kernel, by decide +kernel, by decide +kernel⟩, ix_in 127 (by decide +kernel) (by decide +kernel), ix_in 63 (by decide +kernel) (by decide +kernel)⟩
set_option maxRecDepth 100000 in
theorem ok7 : ix_ok 7 0 := ⟨by decide +kernel, ⟨by decide +kernel, by decide +kernel, by decide +kernel⟩, ix_in 165 (by decide +kernel) (by decide +kernel), ix_in 66 (by decide +kernel) (by decide +kernel)⟩
set_option maxRecDepth 100000 in
theorem ok8 : ix_ok 8 2 := ⟨by decide +kernel, ⟨by decide +kernel, by decide +kernel, by decide +kernel⟩, ix_in 193 (by decide +kernel) (by decide +kernel), ix_in 60 (by decide +kernel) (by decide +kernel)⟩
set_option maxRecDepth 100000 in
theorem ok9 : ix_ok 9 2 := ⟨by decide +kernel, ⟨by decide +kernel, by decide +kernel, by decide +kernel⟩, ix_in 196 (by decide +kernel) (by decide +kernel), ix_in 60 (by decide +kernel) (by decide +kernel)⟩
set_option maxRecDepth 100000 in
theorem ok10 : ix_ok 10 1 := ⟨by decide +kernel, ⟨by decide +kernel, by decide +kernel, by decide +kernel⟩, ix_in 199 (by decide +kernel) (by decide +kernel), ix_in 60 (by decide +kernel) (by decide +kernel)⟩
set_option maxRecDepth 100000 in
theorem ok11 : ix_ok 11 1 := ⟨by decide +kernel, ⟨by decide +kernel, by decide +kernel, by decide +kernel⟩, ix_in 202 (by decide +kernel) (by decide +kernel), ix_in 60 (by decide +kernel) (by decide +kernel)⟩
set_option maxRecDepth 100000 in
theorem ok12 : ix_ok 12 1 := ⟨by decide +kernel, ⟨by decide +kernel, by decide +kernel, by decide +kernel⟩, ix_in 206 (by decide +kernel) (by decide +kernel), ix_in 62 (by decide +kernel) (by decide +kernel)⟩
set_option maxRecDepth 100000 in
theorem ok13 : ix_ok 13 1 := ⟨by decide +kernel, ⟨by decide +kernel, by decide +kernel, by decide +kernel⟩, ix_in 210 (by decide +kernel) (by decide +kernel), ix_in 62 (by decide +kernel) (by decide +kernel)⟩
set_option maxRecDepth 100000 in
theorem ok14 : ix_ok 14 2 := ⟨by decide +kernel, ⟨by decide +kernel, by decide +kernel, by decide +kernel⟩, ix_in 214 (by decide +kernel) (by decide +kernel), ix_in 60 (by decide +kernel) (by decide +kernel)⟩
set_option maxRecDepth 100000 in
theorem ok15 : ix_ok 15 2 := ⟨by decide +kernel, ⟨by decide +kernel, by decide +kernel, by decide +kernel⟩, ix_in 218 (by decide +kernel) (by decide +kernel), ix_in 60 (by decide +kernel) (by decide +kernel)⟩
set_option maxRecDepth 100000 in
theorem ok16 : ix_ok 16 1 := ⟨by decide +kernel, ⟨by decide +kernel, by decide +kernel, by decide +kernel⟩, ix_in 222 (by decide +kernel) (by decide +kernel), ix_in 62 (by decide +kernel) (by decide +kernel)⟩
set_option maxRecDepth 100000 in
theorem ok17 : ix_ok 17 2 := ⟨by decide +kernel, ⟨by decide +kernel, by decide +kernel, by decide +kernel⟩, ix_in 226 (by decide +kernel) (by decide +kernel), ix_in 60 (by decide +kernel) (by decide +kernel)⟩
set_option maxRecDepth 100000 in
theorem ok18 : ix_ok 18 2 := ⟨by decide +kernel, ⟨by decide +kernel, by decide +kernel, by decide +kernel⟩, ix_in 230 (by decide +kernel) (by decide +kernel), ix_in 60 (by decide +kernel) (by decide +kernel)⟩
set_option maxRecDepth 100000 in
theorem ok19 : ix_ok 19 1 := ⟨by decide +kernel, ⟨by decide +kernel, by decide +kernel, by decide +kernel⟩, ix_in 234 (by decide +kernel) (by decide +kernel), ix_in 61 (by decide +kernel) (by decide +kernel)⟩
set_option maxRecDepth 100000 in
theorem ok20 : ix_ok 20 0 := ⟨by decide +kernel, ⟨by decide +kernel, by decide +kernel, by decide +kernel⟩, ix_in 238 (by decide +kernel) (by decide +kernel), ix_in 65 (by decide +kernel) (by decide +kernel)⟩
set_option maxRecDepth 100000 in
theorem ok21 : ix_ok 21 1 := ⟨by decide +kernel, ⟨by decide +kernel, by decide +kernel, by decide +kernel⟩, ix_in 242 (by decide +kernel) (by decide +kernel), ix_in 65 (by decide +kernel) (by decide +kernel)⟩
set_option maxRecDepth 100000 in
theorem ok22 : ix_ok 22 2 := ⟨by decide +kernel, ⟨by decide +kernel, by decide +kernel, by decide +kernel⟩, ix_in 245 (by decide +kernel) (by decide +kernel), ix_in 73 (by decide +kernel) (by decide +kernel)⟩
set_option maxRecDepth 100000 in
theorem ok23 : ix_ok 23 3 := ⟨by decide +kernel, ⟨by decide +kernel, by decide +kernel, by decide +kernel⟩, ix_in 248 (by decide +kernel) (by decide +kernel), ix_in 74 (by decide +kernel) (by decide +kernel)⟩
set_option maxRecDepth 100000 in
theorem ok24 : ix_ok 24 1 := ⟨by decide +kernel, ⟨by decide +kernel, by decide +kernel, by decide +kernel⟩, ix_in 252 (by decide +kernel) (by decide +kernel), ix_in 65 (by decide +kernel) (by decide +kernel)⟩
set_option maxRecDepth 100000 in
theorem ok25 : ix_ok 25 0 := ⟨by decide +kernel, ⟨by decide +kernel, by decide +kernel, by decide +kernel⟩, ix_in 257 (by decide +kernel) (by decide +kernel), ix_in 78 (by decide +kernel) (by decide +kernel)⟩
set_option maxRecDepth 100000 in
theorem ok26 : ix_ok 26 0 := ⟨by decide +kernel, ⟨by decide +kernel, by decide +kernel, by decide +kernel⟩, ix_in 261 (by decide +kernel) (by decide +kernel), ix_in 78 (by decide +kernel) (by decide +kernel)⟩
set_option maxRecDepth 100000 in
theorem ok27 : ix_ok 27 3 := ⟨by decide +kernel, ⟨by decide +kernel, by decide +kernel, by decide +kernel⟩, ix_in 265 (by decide +kernel) (by decide +kernel), ix_in 60 (by decide +kernel) (by decide +kernel)⟩
set_option maxRecDepth 100000 in
theorem ok28 : ix_ok 28 1 := ⟨by decide +kernel, ⟨by decide +kernel, by decide +kernel, by decide +kernel⟩, ix_in 269 (by decide +kernel) (by decide +kernel), ix_in 78 (by decide +kernel) (by decide +kernel)⟩
set_option maxRecDepth 100000 in
theorem ok29 : ix_ok 29 0 := ⟨by decide +kernel, ⟨by decide +kernel, by decide +kernel, by decide +kernel⟩, ix_in 273 (by decide +kernel) (by decide +kernel), ix_in 60 (by decide +kernel) (by decide +kernel)⟩
set_option maxRecDepth 100000 in
theorem ok30 : ix_ok 30 1 := ⟨by decide +kernel, ⟨by decide +kernel, by decide +kernel, by decide +kernel⟩, ix_in 277 (by decide +kernel) (by decide +kernel), ix_in 61 (by decide +kernel) (by decide +kernel)⟩
set_option maxRecDepth 100000 in
theorem ok31 : ix_ok 31 0 := ⟨by decide +kernel, ⟨by decide +kernel, by decide +kernel, by decide +kernel⟩, ix_in 281 (by decide +kernel) (by decide +kernel), ix_in 78 (by decide +kernel) (by decide +kernel)⟩
set_option maxRecDepth 100000 in
theorem ok32 : ix_ok 32 0 := ⟨by decide +kernel, ⟨by decide +kernel, by decide +kernel, by decide +kernel⟩, ix_in 286 (by decide +kernel) (by decide +kernel), ix_in 78 (by decide +kernel) (by decide +kernel)⟩
set_option maxRecDepth 100000 in
theorem ok33 : ix_ok 33 0 := ⟨by decide +kernel, ⟨by decide +kernel, by decide +kernel, by decide +kernel⟩, ix_in 290 (by decide +kernel) (by decide +kernel), ix_in 78 (by decide +kernel) (by decide +kernel)⟩
set_option maxRecDepth 100000 in
theorem ok34 : ix_ok 34 4 := ⟨by decide +kernel, ⟨by decide +kernel, by decide +kernel, by decide +kernel⟩, ix_in 294 (by decide +kernel) (by decide +kernel), ix_in 78 (by decide +kernel) (by decide +kernel)⟩
set_option maxRecDepth 100000 in
theorem ok35 : ix_ok 35 0 := ⟨by decide +kernel, ⟨by decide +kernel, by decide +kernel, by decide +kernel⟩, ix_in 300 (by decide +kernel) (by decide +kernel), ix_in 77 (by decide +kernel) (by decide +kernel)⟩
set_option maxRecDepth 100000 in
theorem ok36 : ix_ok 36 6 := ⟨by decide +kernel, ⟨by decide +kernel, by decide +kernel, by decide +kernel⟩, ix_in 303 (by decide +kernel) (by decide +kernel), ix_in 83 (by decide +kernel) (by decide +kernel)⟩
set_option maxRecDepth 100000 in
theorem ok37 : ix_ok 37 1 := ⟨by decide +kernel, ⟨by decide +kernel, by decide +kernel, by decide +kernel⟩, ix_in 339 (by decide +kernel) (by decide +kernel), ix_in 66 (by decide +kernel) (by decide +kernel)⟩
set_option maxRecDepth 100000 in
theorem ok38 : ix_ok 38 1 := ⟨by decide +kernel, ⟨by decide +kernel, by decide +kernel, by decide +kernel⟩, ix_in 343 (by decide +kernel) (by decide +kernel), ix_in 78 (by decide +kernel) (by decide +kernel)⟩
set_option maxRecDepth 100000 in
theorem ok39 : ix_ok 39 2 := ⟨by decide +kernel, ⟨by decide +kernel, by decide +kernel, by decide +kernel⟩, ix_in 347 (by decide +kernel) (by decide +kernel), ix_in 62 (by decide +kernel) (by decide +kernel)⟩
set_option maxRecDepth 100000 in
theorem ok40 : ix_ok 40 2 := ⟨by decide +kernel, ⟨by decide +kernel, by decide +kernel, by decide +kernel⟩, ix_in 351 (by decide +kernel) (by decide +kernel), ix_in 62 (by decide +kernel) (by decide +kernel)⟩
set_option maxRecDepth 100000 in
theorem ok41 : ix_ok 41 2 := ⟨by decide +kernel, ⟨by decide +kernel, by decide +kernel, by decide +kernel⟩, ix_in 356 (by decide +kernel) (by decide +kernel), ix_in 62 (by decide +kernel) (by decide +kernel)⟩
set_option maxRecDepth 100000 in
theorem ok42 : ix_ok 42 0 := ⟨by decide +kernel, ⟨by decide +kernel, by decide +kernel, by decide +kernel⟩, ix_in 360 (by decide +kernel) (by decide +kernel), ix_in 78 (by decide +kernel) (by decide +kernel)⟩
set_option maxRecDepth 100000 in
theorem ok43 : ix_ok 43 1 := ⟨by decide +kernel, ⟨by decide +kernel, by decide +kernel, by decide +kernel⟩, ix_in 365 (by decide +kernel) (by decide +kernel), ix_in 62 (by decide +kernel) (by decide +kernel)⟩
set_option maxRecDepth 100000 in
theorem ok44 : ix_ok 44 2 := ⟨by decide +kernel, ⟨by decide +kernel, by decide +kernel, by decide +kernel⟩, ix_in 368 (by decide +kernel) (by decide +kernel), ix_in 60 (by decide +kernel) (by decide +kernel)⟩
set_option maxRecDepth 100000 in
theorem ok45 : ix_ok 45 0 := ⟨by decide +kernel, ⟨by decide +kernel, by decide +kernel, by decide +kernel⟩, ix_in 372 (by decide +kernel) (by decide +kernel), ix_in 77 (by decide +kernel) (by decide +kernel)⟩
set_option maxRecDepth 100000 in
theorem ok46 : ix_ok 46 0 := ⟨by decide +kernel, ⟨by decide +kernel, by decide +kernel, by decide +kernel⟩, ix_in 376 (by decide +kernel) (by decide +kernel), ix_in 78 (by decide +kernel) (by decide +kernel)⟩
set_option maxRecDepth 100000 in
theorem ok47 : ix_ok 47 0 := ⟨by decide +kernel, ⟨by decide +kernel, by decide +kernel, by decide +kernel⟩, ix_in 380 (by decide +kernel) (by decide +kernel), ix_in 78 (by decide +kernel) (by decide +kernel)⟩
set_option maxRecDepth 100000 in
theorem ok48 : ix_ok 48 1 := ⟨by decide +kernel, ⟨by decide +kernel, by decide +kernel, by decide +kernel⟩, ix_in 385 (by decide +kernel) (by decide +kernel), ix_in 84 (by decide +kernel) (by decide +kernel)⟩
set_option maxRecDepth 100000 in
theorem ok49 : ix_ok 49 0 := ⟨by decide +kernel, ⟨by decide +kernel, by decide +kernel, by decide +kernel⟩, ix_in 389 (by decide +kernel) (by decide +kernel), ix_in 84 (by decide +kernel) (by decide +kernel)⟩
set_option maxRecDepth 100000 in
theorem ok50 : ix_ok 50 2 := ⟨by decide +kernel, ⟨by decide +kernel, by decide +kernel, by decide +kernel⟩, ix_in 394 (by decide +kernel) (by decide +kernel), ix_in 84 (by decide +kernel) (by decide +kernel)⟩
set_option maxRecDepth 100000 in
theorem ok51 : ix_ok 51 1 := ⟨by decide +kernel, ⟨by decide +kernel, by decide +kernel, by decide +kernel⟩, ix_in 398 (by decide +kernel) (by decide +kernel), ix_in 84 (by decide +kernel) (by decide +kernel)⟩
set_option maxRecDepth 100000 in
theorem ok52 : ix_ok 52 3 := ⟨by decide +kernel, ⟨by decide +kernel, by decide +kernel, by decide +kernel⟩, ix_in 402 (by decide +kernel) (by decide +kernel), ix_in 84 (by decide +kernel) (by decide +kernel)⟩
set_option maxRecDepth 100000 in
theorem ok53 : ix_ok 53 1 := ⟨by decide +kernel, ⟨by decide +kernel, by decide +kernel, by decide +kernel⟩, ix_in 410 (by decide +kernel) (by decide +kernel), ix_in 84 (by decide +kernel) (by decide +kernel)⟩
set_option maxRecDepth 100000 in
theorem ok54 : ix_ok 54 0 := ⟨by decide +kernel, ⟨by decide +kernel, by decide +kernel, by decide +kernel⟩, ix_in 414 (by decide +kernel) (by decide +kernel), ix_in 84 (by decide +kernel) (by decide +kernel)⟩
set_option maxRecDepth 100000 in
theorem ok55 : ix_ok 55 1 := ⟨by decide +kernel, ⟨by decide +kernel, by decide +kernel, by decide +kernel⟩, ix_in 417 (by decide +kernel) (by decide +kernel), ix_in 60 (by decide +kernel) (by decide +kernel)⟩
set_option maxRecDepth 100000 in
theorem ok56 : ix_ok 56 2 := ⟨by decide +kernel, ⟨by decide +kernel, by decide +kernel, by decide +kernel⟩, ix_in 421 (by decide +kernel) (by decide +kernel), ix_in 84 (by decide +kernel) (by decide +kernel)⟩
set_option maxRecDepth 100000 in
theorem ok57 : ix_ok 57 0 := ⟨by decide +kernel, ⟨by decide +kernel, by decide +kernel, by decide +kernel⟩, ix_in 425 (by decide +kernel) (by decide +kernel), ix_in 61 (by decide +kernel) (by decide +kernel)⟩
set_option maxRecDepth 100000 in
theorem ok58 : ix_ok 58 1 := ⟨by decide +kernel, ⟨by decide +kernel, by decide +kernel, by decide +kernel⟩, ix_in 430 (by decide +kernel) (by decide +kernel), ix_in 65 (by decide +kernel) (by decide +kernel)⟩
set_option maxRecDepth 100000 in
theorem ok59 : ix_ok 59 2 := ⟨by decide +kernel, ⟨by decide +kernel, by decide +kernel, by decide +kernel⟩, ix_in 434 (by decide +kernel) (by decide +kernel), ix_in 65 (by decide +kernel) (by decide +kernel)⟩
set_option maxRecDepth 100000 in
theorem ok60 : ix_ok 60 1 := ⟨by decide +kernel, ⟨by decide +kernel, by decide +kernel, by decide +kernel⟩, ix_in 441 (by decide +kernel) (by decide +kernel), ix_in 60 (by decide +kernel) (by decide +kernel)⟩
set_option maxRecDepth 100000 in
theorem ok61 : ix_ok 61 1 := ⟨by decide +kernel, ⟨by decide +kernel, by decide +kernel, by decide +kernel⟩, ix_in 445 (by decide +kernel) (by decide +kernel), ix_in 66 (by decide +kernel) (by decide +kernel)⟩
set_option maxRecDepth 100000 in
theorem ok62 : ix_ok 62 1 := ⟨by decide +kernel, ⟨by decide +kernel, by decide +kernel, by decide +kernel⟩, ix_in 449 (by decide +kernel) (by decide +kernel), ix_in 66 (by decide +kernel) (by decide +kernel)⟩
set_option maxRecDepth 100000 in
theorem ok63 : ix_ok 63 1 := ⟨by decide +kernel, ⟨by decide +kernel, by decide +kernel, by decide +kernel⟩, ix_in 453 (by decide +kernel) (by decide +kernel), ix_in 60 (by decide +kernel) (by decide +kernel)⟩
set_option maxRecDepth 100000 in
theorem ok64 : ix_ok 64 1 := ⟨by decide +kernel, ⟨by decide +kernel, by decide +kernel, by decide +kernel⟩, ix_in 457 (by decide +kernel) (by decide +kernel), ix_in 78 (by decide +kernel) (by decide +kernel)⟩
set_option maxRecDepth 100000 in
theorem ok65 : ix_ok 65 1 := ⟨by decide +kernel, ⟨by decide +kernel, by decide +kernel, by decide +kernel⟩, ix_in 461 (by decide +kernel) (by decide +kernel), ix_in 78 (by decide +kernel) (by decide +kernel)⟩
set_option maxRecDepth 100000 in
theorem ok66 : ix_ok 66 1 := ⟨by decide +kernel, ⟨by decide +kernel, by decide +kernel, by decide +kernel⟩, ix_in 466 (by decide +kernel) (by decide +kernel), ix_in 60 (by decide +kernel) (by decide +kernel)⟩
set_option maxRecDepth 100000 in
theorem ok67 : ix_ok 67 2 := ⟨by decide +kernel, ⟨by decide +kernel, by decide +kernel, by decide +kernel⟩, ix_in 470 (by decide +kernel) (by decide +kernel), ix_in 60 (by decide +kernel) (by decide +kernel)⟩
set_option maxRecDepth 100000 in
theorem ok68 : ix_ok 68 4 := ⟨by decide +kernel, ⟨by decide +kernel, by decide +kernel, by decide +kernel⟩, ix_in 475 (by decide +kernel) (by decide +kernel), ix_in 84 (by decide +kernel) (by decide +kernel)⟩
set_option maxRecDepth 100000 in
theorem ok69 : ix_ok 69 1 := ⟨by decide +kernel, ⟨by decide +kernel, by decide +kernel, by decide +kernel⟩, ix_in 527 (by decide +kernel) (by decide +kernel), ix_in 65 (by decide +kernel) (by decide +kernel)⟩
set_option maxRecDepth 100000 in
theorem ok70 : ix_ok 70 3 := ⟨by decide +kernel, ⟨by decide +kernel, by decide +kernel, by decide +kernel⟩, ix_in 531 (by decide +kernel) (by decide +kernel), ix_in 65 (by decide +kernel) (by decide +kernel)⟩
set_option maxRecDepth 100000 in
theorem ok71 : ix_ok 71 0 := ⟨by decide +kernel, ⟨by decide +kernel, by decide +kernel, by decide +kernel⟩, ix_in 535 (by decide +kernel) (by decide +kernel), ix_in 65 (by decide +kernel) (by decide +kernel)⟩
set_option maxRecDepth 100000 in
theorem ok72 : ix_ok 72 1 := ⟨by decide +kernel, ⟨by decide +kernel, by decide +kernel, by decide +kernel⟩, ix_in 539 (by decide +kernel) (by decide +kernel), ix_in 65 (by decide +kernel) (by decide +kernel)⟩
set_option maxRecDepth 100000 in
theorem ok73 : ix_ok 73 3 := ⟨by decide +kernel, ⟨by decide +kernel, by decide +kernel, by decide +kernel⟩, ix_in 542 (by decide +kernel) (by decide +kernel), ix_in 79 (by decide +kernel) (by decide +kernel)⟩
set_option maxRecDepth 100000 in
theorem ok74 : ix_ok 74 2 := ⟨by decide +kernel, ⟨by decide +kernel, by decide +kernel, by decide +kernel⟩, ix_in 545 (by decide +kernel) (by decide +kernel), ix_in 80 (by decide +kernel) (by decide +kernel)⟩
set_option maxRecDepth 100000 in
theorem ok75 : ix_ok 75 2 := ⟨by decide +kernel, ⟨by decide +kernel, by decide +kernel, by decide +kernel⟩, ix_in 549 (by decide +kernel) (by decide +kernel), ix_in 79 (by decide +kernel) (by decide +kernel)⟩
set_option maxRecDepth 100000 in
theorem ok76 : ix_ok 76 2 := ⟨by decide +kernel, ⟨by decide +kernel, by decide +kernel, by decide +kernel⟩, ix_in 552 (by decide +kernel) (by decide +kernel), ix_in 81 (by decide +kernel) (by decide +kernel)⟩
set_option maxRecDepth 100000 in
theorem ok77 : ix_ok 77 3 := ⟨by decide +kernel, ⟨by decide +kernel, by decide +kernel, by decide +kernel⟩, ix_in 573 (by decide +kernel) (by decide +kernel), ix_in 81 (by decide +kernel) (by decide +kernel)⟩
set_option maxRecDepth 100000 in
theorem ok78 : ix_ok 78 2 := ⟨by decide +kernel, ⟨by decide +kernel, by decide +kernel, by decide +kernel⟩, ix_in 579 (by decide +kernel) (by decide +kernel), ix_in 80 (by decide +kernel) (by decide +kernel)⟩
set_option maxRecDepth 100000 in
theorem ok79 : ix_ok 79 2 := ⟨by decide +kernel, ⟨by decide +kernel, by decide +kernel, by decide +kernel⟩, ix_in 586 (by decide +kernel) (by decide +kernel), ix_in 84 (by decide +kernel) (by decide +kernel)⟩
set_option maxRecDepth 100000 in
theorem ok80 : ix_ok 80 1 := ⟨by decide +kernel, ⟨by decide +kernel, by decide +kernel, by decide +kernel⟩, ix_in 590 (by decide +kernel) (by decide +kernel), ix_in 84 (by decide +kernel) (by decide +kernel)⟩
set_option maxRecDepth 100000 in
theorem ok81 : ix_ok 81 1 := ⟨by decide +kernel, ⟨by decide +kernel, by decide +kernel, by decide +kernel⟩, ix_in 594 (by decide +kernel) (by decide +kernel), ix_in 84 (by decide +kernel) (by decide +kernel)⟩
set_option maxRecDepth 100000 in
theorem ok82 : ix_ok 82 0 := ⟨by decide +kernel, ⟨by decide +kernel, by decide +kernel, by decide +kernel⟩, ix_in 598 (by decide +kernel) (by decide +kernel), ix_in 84 (by decide +kernel) (by decide +kernel)⟩
set_option maxRecDepth 100000 in
theorem ok83 : ix_ok 83 0 := ⟨by decide +kernel, ⟨by decide +kernel, by decide +kernel, by decide +kernel⟩, ix_in 602 (by decide +kernel) (by decide +kernel), ix_in 84 (by decide +kernel) (by decide +kernel)⟩
set_option maxRecDepth 100000 in
theorem ok84 : ix_ok 84 1 := ⟨by decide +kernel, ⟨by decide +kernel, by decide +kernel, by decide +kernel⟩, ix_in 607 (by decide +kernel) (by decide +kernel), ix_in 61 (by decide +kernel) (by decide +kernel)⟩
set_option maxRecDepth 100000 in
theorem ok85 : ix_ok 85 3 := ⟨by decide +kernel, ⟨by decide +kernel, by decide +kernel, by decide +kernel⟩, ix_in 611 (by decide +kernel) (by decide +kernel), ix_in 62 (by decide +kernel) (by decide +kernel)⟩
set_option maxRecDepth 100000 in
theorem ok86 : ix_ok 86 0 := ⟨by decide +kernel, ⟨by decide +kernel, by decide +kernel, by decide +kernel⟩, ix_in 616 (by decide +kernel) (by decide +kernel), ix_in 84 (by decide +kernel) (by decide +kernel)⟩
set_option maxRecDepth 100000 in
theorem ok87 : ix_ok 87 2 := ⟨by decide +kernel, ⟨by decide +kernel, by decide +kernel, by decide +kernel⟩, ix_in 620 (by decide +kernel) (by decide +kernel), ix_in 62 (by decide +kernel) (by decide +kernel)⟩
set_option maxRecDepth 100000 in
theorem ok88 : ix_ok 88 1 := ⟨by decide +kernel, ⟨by decide +kernel, by decide +kernel, by decide +kernel⟩, ix_in 626 (by decide +kernel) (by decide +kernel), ix_in 62 (by decide +kernel) (by decide +kernel)⟩
set_option maxRecDepth 100000 in
theorem ok89 : ix_ok 89 1 := ⟨by decide +kernel, ⟨by decide +kernel, by decide +kernel, by decide +kernel⟩, ix_in 630 (by decide +kernel) (by decide +kernel), ix_in 84 (by decide +kernel) (by decide +kernel)⟩
set_option maxRecDepth 100000 in
theorem ok90 : ix_ok 90 1 := ⟨by decide +kernel, ⟨by decide +kernel, by decide +kernel, by decide +kernel⟩, ix_in 634 (by decide +kernel) (by decide +kernel), ix_in 60 (by decide +kernel) (by decide +kernel)⟩
set_option maxRecDepth 100000 in
theorem ok91 : ix_ok 91 1 := ⟨by decide +kernel, ⟨by decide +kernel, by decide +kernel, by decide +kernel⟩, ix_in 638 (by decide +kernel) (by decide +kernel), ix_in 60 (by decide +kernel) (by decide +kernel)⟩
set_option maxRecDepth 100000 in
theorem ok92 : ix_ok 92 0 := ⟨by decide +kernel, ⟨by decide +kernel, by decide +kernel, by decide +kernel⟩, ix_in 643 (by decide +kernel) (by decide +kernel), ix_in 66 (by decide +kernel) (by decide +kernel)⟩
set_option maxRecDepth 100000 in
theorem ok93 : ix_ok 93 0 := ⟨by decide +kernel, ⟨by decide +kernel, by decide +kernel, by decide +kernel⟩, ix_in 647 (by decide +kernel) (by decide +kernel), ix_in 83 (by decide +kernel) (by decide +kernel)⟩
set_option maxRecDepth 100000 in
theorem ok94 : ix_ok 94 2 := ⟨by decide +kernel, ⟨by decide +kernel, by decide +kernel, by decide +kernel⟩, ix_in 654 (by decide +kernel) (by decide +kernel), ix_in 60 (by decide +kernel) (by decide +kernel)⟩
set_option maxRecDepth 100000 in
theorem ok95 : ix_ok 95 0 := ⟨by decide +kernel, ⟨by decide +kernel, by decide +kernel, by decide +kernel⟩, ix_in 658 (by decide +kernel) (by decide +kernel), ix_in 60 (by decide +kernel) (by decide +kernel)⟩
set_option maxRecDepth 100000 in
theorem ok96 : ix_ok 96 2 := ⟨by decide +kernel, ⟨by decide +kernel, by decide +kernel, by decide +kernel⟩, ix_in 662 (by decide +kernel) (by decide +kernel), ix_in 60 (by decide +kernel) (by decide +kernel)⟩
set_option maxRecDepth 100000 in
theorem ok97 : ix_ok 97 2 := ⟨by decide +kernel, ⟨by decide +kernel, by decide +kernel, by decide +kernel⟩, ix_in 666 (by decide +kernel) (by decide +kernel), ix_in 60 (by decide +kernel) (by decide +kernel)⟩
set_option maxRecDepth 100000 in
theorem ok98 : ix_ok 98 2 := ⟨by decide +kernel, ⟨by decide +kernel, by decide +kernel, by decide +kernel⟩, ix_in 671 (by decide +kernel) (by decide +kernel), ix_in 60 (by decide +kernel) (by decide +kernel)⟩
set_option maxRecDepth 100000 in
theorem ok99 : ix_ok 99 2 := ⟨by decide +kernel, ⟨by decide +kernel, by decide +kernel, by decide +kernel⟩, ix_in 675 (by decide +kernel) (by decide +kernel), ix_in 60 (by decide +kernel) (by decide +kernel)⟩
set_option maxRecDepth 100000 in
theorem ok100 : ix_ok 100 2 := ⟨by decide +kernel, ⟨by decide +kernel, by decide +kernel, by decide +kernel⟩, ix_in 680 (by decide +kernel) (by decide +kernel), ix_in 60 (by decide +kernel) (by decide +kernel)⟩
set_option maxRecDepth 100000 in
theorem ok101 : ix_ok 101 2 := ⟨by decide +kernel, ⟨by decide +kernel, by decide +kernel, by decide +kernel⟩, ix_in 683 (by decide +kernel) (by decide +kernel), ix_in 59 (by decide +kernel) (by decide +kernel)⟩
set_option maxRecDepth 100000 in
theorem ok103 : ix_ok 103 4 := ⟨by decide +kernel, ⟨by decide +kernel, by decide +kernel, by decide +kernel⟩, ix_in 693 (by decide +kernel) (by decide +kernel), ix_in 60 (by decide +kernel) (by decide +kernel)⟩
set_option maxRecDepth 100000 in
theorem ok104 : ix_ok 104 3 := ⟨by decide +kernel, ⟨by decide +kernel, by decide +kernel, by decide +kernel⟩, ix_in 798 (by decide +kernel) (by decide +kernel), ix_in 62 (by decide +kernel) (by decide +kernel)⟩
set_option maxRecDepth 100000 in
theorem ok106 : ix_ok 106 2 := ⟨by decide +kernel, ⟨by decide +kernel, by decide +kernel, by decide +kernel⟩, ix_in 805 (by decide +kernel) (by decide +kernel), ix_in 60 (by decide +kernel) (by decide +kernel)⟩
set_option maxRecDepth 100000 in
theorem ok108 : ix_ok 108 3 := ⟨by decide +kernel, ⟨by decide +kernel, by decide +kernel, by decide +kernel⟩, ix_in 815 (by decide +kernel) (by decide +kernel), ix_in 60 (by decide +kernel) (by decide +kernel)⟩
set_option maxRecDepth 100000 in
theorem ok110 : ix_ok 110 6 := ⟨by decide +kernel, ⟨by decide +kernel, by decide +kernel, by decide +kernel⟩, ix_in 839 (by decide +kernel) (by decide +kernel), ix_in 60 (by decide +kernel) (by decide +kernel)⟩
set_option maxRecDepth 100000 in
theorem ok111 : ix_ok 111 7 := ⟨by decide +kernel, ⟨by decide +kernel, by decide +kernel, by decide +kernel⟩, ix_in 847 (by decide +kernel) (by decide +kernel), ix_in 77 (by decide +kernel) (by decide +kernel)⟩
set_option maxRecDepth 100000 in
theorem ok112 : ix_ok 112 4 := ⟨by decide +kernel, ⟨by decide +kernel, by decide +kernel, by decide +kernel⟩, ix_in 886 (by decide +kernel) (by decide +kernel), ix_in 78 (by decide +kernel) (by decide +kernel)⟩
set_option maxRecDepth 100000 in
theorem ok113 : ix_ok 113 1 := ⟨by decide +kernel, ⟨by decide +kernel, by decide +kernel, by decide +kernel⟩, ix_in 944 (by decide +kernel) (by decide +kernel), ix_in 61 (by decide +kernel) (by decide +kernel)⟩
set_option maxRecDepth 100000 in
theorem ok114 : ix_ok 114 1 := ⟨by decide +kernel, ⟨by decide +kernel, by decide +kernel, by decide +kernel⟩, ix_in 950 (by decide +kernel) (by decide +kernel), ix_in 67 (by decide +kernel) (by decide +kernel)⟩
set_option maxRecDepth 100000 in
theorem ok115 : ix_ok 115 0 := ⟨by decide +kernel, ⟨by decide +kernel, by decide +kernel, by decide +kernel⟩, ix_in 1101 (by decide +kernel) (by decide +kernel), ix_in 67 (by decide +kernel) (by decide +kernel)⟩
set_option maxRecDepth 100000 in
theorem ok116 : ix_ok 116 2 := ⟨by decide +kernel, ⟨by decide +kernel, by decide +kernel, by decide +kernel⟩, ix_in 1105 (by decide +kernel) (by decide +kernel), ix_in 67 (by decide +kernel) (by decide +kernel)⟩
set_option maxRecDepth 100000 in
theorem ok117 : ix_ok 117 2 := ⟨by decide +kernel, ⟨by decide +kernel, by decide +kernel, by decide +kernel⟩, ix_in 1108 (by decide +kernel) (by decide +kernel), ix_in 67 (by decide +kernel) (by decide +kernel)⟩
set_option maxRecDepth 100000 in
theorem ok118 : ix_ok 118 3 := ⟨by decide +kernel, ⟨by decide +kernel, by decide +kernel, by decide +kernel⟩, ix_in 1111 (by decide +kernel) (by decide +kernel), ix_in 67 (by decide +kernel) (by decide +kernel)⟩
set_option maxRecDepth 100000 in
theorem ok119 : ix_ok 119 4 := ⟨by decide +kernel, ⟨by decide +kernel, by decide +kernel, by decide +kernel⟩, ix_in 1115 (by decide +kernel) (by decide +kernel), ix_in 67 (by decide +kernel) (by decide +kernel)⟩
set_option maxRecDepth 100000 in
theorem ok120 : ix_ok 120 1 := ⟨by decide +kernel, ⟨by decide +kernel, by decide +kernel, by decide +kernel⟩, ix_in 1119 (by decide +kernel) (by decide +kernel), ix_in 67 (by decide +kernel) (by decide +kernel)⟩
set_option maxRecDepth 100000 in
theorem ok121 : ix_ok 121 2 := ⟨by decide +kernel, ⟨by decide +kernel, by decide +kernel, by decide +kernel⟩, ix_in 1123 (by decide +kernel) (by decide +kernel), ix_in 67 (by decide +kernel) (by decide +kernel)⟩
set_option maxRecDepth 100000 in
theorem ok122 : ix_ok 122 2 := ⟨by decide +kernel, ⟨by decide +kernel, by decide +kernel, by decide +kernel⟩, ix_in 1128 (by decide +kernel) (by decide +kernel), ix_in 67 (by decide +kernel) (by decide +kernel)⟩
set_option maxRecDepth 100000 in
theorem ok123 : ix_ok 123 2 := ⟨by decide +kernel, ⟨by decide +kernel, by decide +kernel, by decide +kernel⟩, ix_in 1132 (by decide +kernel) (by decide +kernel), ix_in 67 (by decide +kernel) (by decide +kernel)⟩
set_option maxRecDepth 100000 in
theorem ok124 : ix_ok 124 3 := ⟨by decide +kernel, ⟨by decide +kernel, by decide +kernel, by decide +kernel⟩, ix_in 1136 (by decide +kernel) (by decide +kernel), ix_in 67 (by decide +kernel) (by decide +kernel)⟩
set_option maxRecDepth 100000 in
theorem ok125 : ix_ok 125 6 := ⟨by decide +kernel, ⟨by decide +kernel, by decide +kernel, by decide +kernel⟩, ix_in 1140 (by decide +kernel) (by decide +kernel), ix_in 67 (by decide +kernel) (by decide +kernel)⟩
set_option maxRecDepth 100000 in
theorem ok126 : ix_ok 126 2 := ⟨by decide +kernel, ⟨by decide +kernel, by decide +kernel, by decide +kernel⟩, ix_in 1144 (by decide +kernel) (by decide +kernel), ix_in 67 (by decide +kernel) (by decide +kernel)⟩
set_option maxRecDepth 100000 in
theorem ok127 : ix_ok 127 2 := ⟨by decide +kernel, ⟨by decide +kernel, by decide +kernel, by decide +kernel⟩, ix_in 1148 (by decide +kernel) (by decide +kernel), ix_in 67 (by decide +kernel) (by decide +kernel)⟩
set_option maxRecDepth 100000 in
theorem ok128 : ix_ok 128 3 := ⟨by decide +kernel, ⟨by decide +kernel, by decide +kernel, by decide +kernel⟩, ix_in 1152 (by decide +kernel) (by decide +kernel), ix_in 67 (by decide +kernel) (by decide +kernel)⟩
set_option maxRecDepth 100000 in
theorem ok129 : ix_ok 129 0 := ⟨by decide +kernel, ⟨by decide +kernel, by decide +kernel, by decide +kernel⟩, ix_in 1156 (by decide +kernel) (by decide +kernel), ix_in 67 (by decide +kernel) (by decide +kernel)⟩
set_option maxRecDepth 100000 in
theorem ok130 : ix_ok 130 1 := ⟨by decide +kernel, ⟨by decide +kernel, by decide +kernel, by decide +kernel⟩, ix_in 1160 (by decide +kernel) (by decide +kernel), ix_in 67 (by decide +kernel) (by decide +kernel)⟩
set_option maxRecDepth 100000 in
theorem ok131 : ix_ok 131 1 := ⟨by decide +kernel, ⟨by decide +kernel, by decide +kernel, by decide +kernel⟩, ix_in 1164 (by decide +kernel) (by decide +kernel), ix_in 67 (by decide +kernel) (by decide +kernel)⟩
set_option maxRecDepth 100000 in
theorem ok132 : ix_ok 132 1 := ⟨by decide +kernel, ⟨by decide +kernel, by decide +kernel, by decide +kernel⟩, ix_in 1167 (by decide +kernel) (by decide +kernel), ix_in 67 (by decide +kernel) (by decide +kernel)⟩
set_option maxRecDepth 100000 in
theorem ok133 : ix_ok 133 1 := ⟨by decide +kernel, ⟨by decide +kernel, by decide +kernel, by decide +kernel⟩, ix_in 1171 (by decide +kernel) (by decide +kernel), ix_in 67 (by decide +kernel) (by decide +kernel)⟩
set_option maxRecDepth 100000 in
theorem ok134 : ix_ok 134 1 := ⟨by decide +kernel, ⟨by decide +kernel, by decide +kernel, by decide +kernel⟩, ix_in 1175 (by decide +kernel) (by decide +kernel), ix_in 67 (by decide +kernel) (by decide +kernel)⟩
set_option maxRecDepth 100000 in
theorem ok135 : ix_ok 135 2 := ⟨by decide +kernel, ⟨by decide +kernel, by decide +kernel, by decide +kernel⟩, ix_in 1179 (by decide +kernel) (by decide +kernel), ix_in 67 (by decide +kernel) (by decide +kernel)⟩
set_option maxRecDepth 100000 in
theorem ok136 : ix_ok 136 6 := ⟨by decide +kernel, ⟨by decide +kernel, by decide +kernel, by decide +kernel⟩, ix_in 1183 (by decide +kernel) (by decide +kernel), ix_in 67 (by decide +kernel) (by decide +kernel)⟩
set_option maxRecDepth 100000 in
theorem ok137 : ix_ok 137 2 := ⟨by decide +kernel, ⟨by decide +kernel, by decide +kernel, by decide +kernel⟩, ix_in 1187 (by decide +kernel) (by decide +kernel), ix_in 67 (by decide +kernel) (by decide +kernel)⟩
set_option maxRecDepth 100000 in
theorem ok138 : ix_ok 138 1 := ⟨by decide +kernel, ⟨by decide +kernel, by decide +kernel, by decide +kernel⟩, ix_in 1191 (by decide +kernel) (by decide +kernel), ix_in 67 (by decide +kernel) (by decide +kernel)⟩
set_option maxRecDepth 100000 in
theorem ok139 : ix_ok 139 2 := ⟨by decide +kernel, ⟨by decide +kernel, by decide +kernel, by decide +kernel⟩, ix_in 1195 (by decide +kernel) (by decide +kernel), ix_in 67 (by decide +kernel) (by decide +kernel)⟩
set_option maxRecDepth 100000 in
theorem ok140 : ix_ok 140 1 := ⟨by decide +kernel, ⟨by decide +kernel, by decide +kernel, by decide +kernel⟩, ix_in 1199 (by decide +kernel) (by decide +kernel), ix_in 67 (by decide +kernel) (by decide +kernel)⟩
set_option maxRecDepth 100000 in
theorem ok141 : ix_ok 141 1 := ⟨by decide +kernel, ⟨by decide +kernel, by decide +kernel, by decide +kernel⟩, ix_in 1204 (by decide +kernel) (by decide +kernel), ix_in 67 (by decide +kernel) (by decide +kernel)⟩
set_option maxRecDepth 100000 in
theorem ok142 : ix_ok 142 2 := ⟨by decide +kernel, ⟨by decide +kernel, by decide +kernel, by decide +kernel⟩, ix_in 1208 (by decide +kernel) (by decide +kernel), ix_in 67 (by decide +kernel) (by decide +kernel)⟩
set_option maxRecDepth 100000 in
theorem ok143 : ix_ok 143 1 := ⟨by decide +kernel, ⟨by decide +kernel, by decide +kernel, by decide +kernel⟩, ix_in 1212 (by decide +kernel) (by decide +kernel), ix_in 67 (by decide +kernel) (by decide +kernel)⟩
set_option maxRecDepth 100000 in
theorem ok144 : ix_ok 144 3 := ⟨by decide +kernel, ⟨by decide +kernel, by decide +kernel, by decide +kernel⟩, ix_in 1216 (by decide +kernel) (by decide +kernel), ix_in 67 (by decide +kernel) (by decide +kernel)⟩
set_option maxRecDepth 100000 in
theorem ok145 : ix_ok 145 1 := ⟨by decide +kernel, ⟨by decide +kernel, by decide +kernel, by decide +kernel⟩, ix_in 1220 (by decide +kernel) (by decide +kernel), ix_in 67 (by decide +kernel) (by decide +kernel)⟩
set_option maxRecDepth 100000 in
theorem ok146 : ix_ok 146 2 := ⟨by decide +kernel, ⟨by decide +kernel, by decide +kernel, by decide +kernel⟩, ix_in 1224 (by decide +kernel) (by decide +kernel), ix_in 67 (by decide +kernel) (by decide +kernel)⟩
set_option maxRecDepth 100000 in
theorem ok147 : ix_ok 147 1 := ⟨by decide +kernel, ⟨by decide +kernel, by decide +kernel, by decide +kernel⟩, ix_in 1228 (by decide +kernel) (by decide +kernel), ix_in 67 (by decide +kernel) (by decide +kernel)⟩
set_option maxRecDepth 100000 in
theorem ok148 : ix_ok 148 1 := ⟨by decide +kernel, ⟨by decide +kernel, by decide +kernel, by decide +kernel⟩, ix_in 1232 (by decide +kernel) (by decide +kernel), ix_in 67 (by decide +kernel) (by decide +kernel)⟩
set_option maxRecDepth 100000 in
theorem ok149 : ix_ok 149 1 := ⟨by decide +kernel, ⟨by decide +kernel, by decide +kernel, by decide +kernel⟩, ix_in 1236 (by decide +kernel) (by decide +kernel), ix_in 67 (by decide +kernel) (by decide +kernel)⟩
set_option maxRecDepth 100000 in
theorem ok150 : ix_ok 150 1 := ⟨by decide +kernel, ⟨by decide +kernel, by decide +kernel, by decide +kernel⟩, ix_in 1240 (by decide +kernel) (by decide +kernel), ix_in 67 (by decide +kernel) (by decide +kernel)⟩
set_option maxRecDepth 100000 in
theorem ok151 : ix_ok 151 1 := ⟨by decide +kernel, ⟨by decide +kernel, by decide +kernel, by decide +kernel⟩, ix_in 1244 (by decide +kernel) (by decide +kernel), ix_in 67 (by decide +kernel) (by decide +kernel)⟩
set_option maxRecDepth 100000 in
theorem ok152 : ix_ok 152 2 := ⟨by decide +kernel, ⟨by decide +kernel, by decide +kernel, by decide +kernel⟩, ix_in 1249 (by decide +kernel) (by decide +kernel), ix_in 67 (by decide +kernel) (by decide +kernel)⟩
set_option maxRecDepth 100000 in
theorem ok153 : ix_ok 153 2 := ⟨by decide +kernel, ⟨by decide +kernel, by decide +kernel, by decide +kernel⟩, ix_in 1253 (by decide +kernel) (by decide +kernel), ix_in 67 (by decide +kernel) (by decide +kernel)⟩
set_option maxRecDepth 100000 in
theorem ok154 : ix_ok 154 2 := ⟨by decide +kernel, ⟨by decide +kernel, by decide +kernel, by decide +kernel⟩, ix_in 1257 (by decide +kernel) (by decide +kernel), ix_in 67 (by decide +kernel) (by decide +kernel)⟩
set_option maxRecDepth 100000 in
theorem ok155 : ix_ok 155 2 := ⟨by decide +kernel, ⟨by decide +kernel, by decide +kernel, by decide +kernel⟩, ix_in 1261 (by decide +kernel) (by decide +kernel), ix_in 67 (by decide +kernel) (by decide +kernel)⟩
set_option maxRecDepth 100000 in
theorem ok156 : ix_ok 156 3 := ⟨by decide +kernel, ⟨by decide +kernel, by decide +kernel, by decide +kernel⟩, ix_in 1265 (by decide +kernel) (by decide +kernel), ix_in 67 (by decide +kernel) (by decide +kernel)⟩
set_option maxRecDepth 100000 in
theorem ok157 : ix_ok 157 1 := ⟨by decide +kernel, ⟨by decide +kernel, by decide +kernel, by decide +kernel⟩, ix_in 1269 (by decide +kernel) (by decide +kernel), ix_in 67 (by decide +kernel) (by decide +kernel)⟩
set_option maxRecDepth 100000 in
theorem ok158 : ix_ok 158 1 := ⟨by decide +kernel, ⟨by decide +kernel, by decide +kernel, by decide +kernel⟩, ix_in 1273 (by decide +kernel) (by decide +kernel), ix_in 67 (by decide +kernel) (by decide +kernel)⟩
set_option maxRecDepth 100000 in
theorem ok159 : ix_ok 159 2 := ⟨by decide +kernel, ⟨by decide +kernel, by decide +kernel, by decide +kernel⟩, ix_in 1277 (by decide +kernel) (by decide +kernel), ix_in 67 (by decide +kernel) (by decide +kernel)⟩
set_option maxRecDepth 100000 in
theorem ok160 : ix_ok 160 0 := ⟨by decide +kernel, ⟨by decide +kernel, by decide +kernel, by decide +kernel⟩, ix_in 1281 (by decide +kernel) (by decide +kernel), ix_in 67 (by decide +kernel) (by decide +kernel)⟩
set_option maxRecDepth 100000 in
theorem ok161 : ix_ok 161 2 := ⟨by decide +kernel, ⟨by decide +kernel, by decide +kernel, by decide +kernel⟩, ix_in 1285 (by decide +kernel) (by decide +kernel), ix_in 67 (by decide +kernel) (by decide +kernel)⟩
set_option maxRecDepth 100000 in
theorem ok162 : ix_ok 162 2 := ⟨by decide +kernel, ⟨by decide +kernel, by decide +kernel, by decide +kernel⟩, ix_in 1289 (by decide +kernel) (by decide +kernel), ix_in 67 (by decide +kernel) (by decide +kernel)⟩
set_option maxRecDepth 100000 in
theorem ok163 : ix_ok 163 2 := ⟨by decide +kernel, ⟨by decide +kernel, by decide +kernel, by decide +kernel⟩, ix_in 1293 (by decide +kernel) (by decide +kernel), ix_in 67 (by decide +kernel) (by decide +kernel)⟩
set_option maxRecDepth 100000 in
theorem ok164 : ix_ok 164 2 := ⟨by decide +kernel, ⟨by decide +kernel, by decide +kernel, by decide +kernel⟩, ix_in 1297 (by decide +kernel) (by decide +kernel), ix_in 67 (by decide +kernel) (by decide +kernel)⟩
theorem cl1_15 : ix_IL "FileDelivery" 15 2 := ⟨Or.inr ⟨"FileDelivery", ix_in 96 (by decide +kernel) (by decide +kernel)⟩, ix_in 97 (by decide +kernel) (by decide +kernel), rfl, rfl⟩
theorem cl1_22 : ix_IL "FileDelivery" 22 7 := ⟨Or.inr ⟨"FileDelivery", ix_in 163 (by decide +kernel) (by decide +kernel)⟩, ix_in 164 (by decide +kernel) (by decide +kernel), rfl, rfl⟩
theorem cl1_30 : ix_SL "FileDelivery" 30 9 := ⟨Or.inl (ix_in 194 (by decide +kernel) (by decide +kernel)), ix_in 195 (by decide +kernel) (by decide +kernel)⟩
theorem cl1_38 : ix_VL "FileDelivery" 38 12 5 := ⟨ix_in 203 (by decide +kernel) (by decide +kernel), ix_in 204 (by decide +kernel) (by decide +kernel), ix_in 205 (by decide +kernel) (by decide +kernel), by decide, rfl, rfl⟩
theorem cl1_44 : ix_VL "FileDelivery" 44 13 5 := ⟨ix_in 207 (by decide +kernel) (by decide +kernel), ix_in 208 (by decide +kernel) (by decide +kernel), ix_in 209 (by decide +kernel) (by decide +kernel), by decide, rfl, rfl⟩
theorem cl1_60 : ix_VL "FileDelivery" 60 84 4 := ⟨ix_in 778 (by decide +kernel) (by decide +kernel), ix_in 605 (by decide +kernel) (by decide +kernel), ix_in 606 (by decide +kernel) (by decide +kernel), by decide, rfl, rfl⟩
theorem cl1_63 : ix_VL "FileDelivery" 63 16 5 := ⟨ix_in 219 (by decide +kernel) (by decide +kernel), ix_in 220 (by decide +kernel) (by decide +kernel), ix_in 221 (by decide +kernel) (by decide +kernel), by decide, rfl, rfl⟩
theorem cl1_72 : ix_VL "FileDelivery" 72 104 5 := ⟨ix_in 795 (by decide +kernel) (by decide +kernel), ix_in 796 (by decide +kernel) (by decide +kernel), ix_in 797 (by decide +kernel) (by decide +kernel), by decide, rfl, rfl⟩
theorem cl1_76 : ix_VL "FileDelivery" 76 15 0 := ⟨ix_in 215 (by decide +kernel) (by decide +kernel), ix_in 217 (by decide +kernel) (by decide +kernel), ix_in 0 (by decide +kernel) (by decide +kernel), by decide, rfl, rfl⟩
theorem cl1_81 : ix_VL "FileDelivery" 81 88 5 := ⟨ix_in 807 (by decide +kernel) (by decide +kernel), ix_in 624 (by decide +kernel) (by decide +kernel), ix_in 625 (by decide +kernel) (by decide +kernel), by decide, rfl, rfl⟩
theorem cl1_89 : ix_VL "FileDelivery" 89 41 5 := ⟨ix_in 832 (by decide +kernel) (by decide +kernel), ix_in 354 (by decide +kernel) (by decide +kernel), ix_in 355 (by decide +kernel) (by decide +kernel), by decide, rfl, rfl⟩
theorem cl1_93 : ix_SL "FileDelivery" 93 11 := ⟨Or.inl (ix_in 200 (by decide +kernel) (by decide +kernel)), ix_in 201 (by decide +kernel) (by decide +kernel)⟩
theorem cl1_104 : ix_VL "FileDelivery" 104 20 9 := ⟨ix_in 471 (by decide +kernel) (by decide +kernel), ix_in 236 (by decide +kernel) (by decide +kernel), ix_in 237 (by decide +kernel) (by decide +kernel), by decide, rfl, rfl⟩
theorem cl1_117 : ix_IL "FileDelivery" 117 111 := ⟨Or.inl (ix_in 845 (by decide +kernel) (by decide +kernel)), ix_in 846 (by decide +kernel) (by decide +kernel), rfl, rfl⟩
theorem cl1_122 : ix_IL "FileDelivery" 122 112 := ⟨Or.inl (ix_in 884 (by decide +kernel) (by decide +kernel)), ix_in 885 (by decide +kernel) (by decide +kernel), rfl, rfl⟩
theorem cl1_125 : ix_VL "FileDelivery" 125 113 4 := ⟨ix_in 941 (by decide +kernel) (by decide +kernel), ix_in 942 (by decide +kernel) (by decide +kernel), ix_in 943 (by decide +kernel) (by decide +kernel), by decide, rfl, rfl⟩
theorem cl1_129 : ix_VL "FileDelivery" 129 18 0 := ⟨ix_in 227 (by decide +kernel) (by decide +kernel), ix_in 229 (by decide +kernel) (by decide +kernel), ix_in 1 (by decide +kernel) (by decide +kernel), by decide, rfl, rfl⟩
theorem cl1_133 : ix_VL "FileDelivery" 133 25 3 := ⟨ix_in 254 (by decide +kernel) (by decide +kernel), ix_in 255 (by decide +kernel) (by decide +kernel), ix_in 256 (by decide +kernel) (by decide +kernel), by decide, rfl, rfl⟩
theorem cl1_137 : ix_VL "FileDelivery" 137 28 3 := ⟨ix_in 266 (by decide +kernel) (by decide +kernel), ix_in 267 (by decide +kernel) (by decide +kernel), ix_in 268 (by decide +kernel) (by decide +kernel), by decide, rfl, rfl⟩
theorem cl1_141 : ix_VL "FileDelivery" 141 30 4 := ⟨ix_in 274 (by decide +kernel) (by decide +kernel), ix_in 275 (by decide +kernel) (by decide +kernel), ix_in 276 (by decide +kernel) (by decide +kernel), by decide, rfl, rfl⟩
theorem cl1_144 : ix_VL "FileDelivery" 144 61 1 := ⟨ix_in 442 (by decide +kernel) (by decide +kernel), ix_in 443 (by decide +kernel) (by decide +kernel), ix_in 444 (by decide +kernel) (by decide +kernel), by decide, rfl, rfl⟩
theorem cl1_160 : ix_VL "FileDelivery" 160 63 0 := ⟨ix_in 450 (by decide +kernel) (by decide +kernel), ix_in 452 (by decide +kernel) (by decide +kernel), ix_in 16 (by decide +kernel) (by decide +kernel), by decide, rfl, rfl⟩
theorem cl1_164 : ix_VL "FileDelivery" 164 66 0 := ⟨ix_in 463 (by decide +kernel) (by decide +kernel), ix_in 465 (by decide +kernel) (by decide +kernel), ix_in 18 (by decide +kernel) (by decide +kernel), by decide, rfl, rfl⟩
theorem cl1_167 : ix_VL "FileDelivery" 167 62 1 := ⟨ix_in 639 (by decide +kernel) (by decide +kernel), ix_in 447 (by decide +kernel) (by decide +kernel), ix_in 448 (by decide +kernel) (by decide +kernel), by decide, rfl, rfl⟩
theorem cl1_170 : ix_VL "FileDelivery" 170 92 1 := ⟨ix_in 640 (by decide +kernel) (by decide +kernel), ix_in 641 (by decide +kernel) (by decide +kernel), ix_in 642 (by decide +kernel) (by decide +kernel), by decide, rfl, rfl⟩
theorem cl1_173 : ix_VL "FileDelivery" 173 93 7 := ⟨ix_in 644 (by decide +kernel) (by decide +kernel), ix_in 645 (by decide +kernel) (by decide +kernel), ix_in 646 (by decide +kernel) (by decide +kernel), by decide, rfl, rfl⟩
theorem cl1_177 : ix_VL "FileDelivery" 177 37 1 := ⟨ix_in 650 (by decide +kernel) (by decide +kernel), ix_in 337 (by decide +kernel) (by decide +kernel), ix_in 338 (by decide +kernel) (by decide +kernel), by decide, rfl, rfl⟩
theorem cl1_195 : ix_VL "FileDelivery" 195 26 3 := ⟨ix_in 667 (by decide +kernel) (by decide +kernel), ix_in 259 (by decide +kernel) (by decide +kernel), ix_in 260 (by decide +kernel) (by decide +kernel), by decide, rfl, rfl⟩
theorem cl1_201 : ix_VL "FileDelivery" 201 99 0 := ⟨ix_in 672 (by decide +kernel) (by decide +kernel), ix_in 674 (by decide +kernel) (by decide +kernel), ix_in 29 (by decide +kernel) (by decide +kernel), by decide, rfl, rfl⟩
theorem cl1_212 : ix_VL "FileDelivery" 212 49 2 := ⟨ix_in 676 (by decide +kernel) (by decide +kernel), ix_in 387 (by decide +kernel) (by decide +kernel), ix_in 388 (by decide +kernel) (by decide +kernel), by decide, rfl, rfl⟩
theorem cl1_218 : ix_SL "FileDelivery" 218 10 := ⟨Or.inl (ix_in 197 (by decide +kernel) (by decide +kernel)), ix_in 198 (by decide +kernel) (by decide +kernel)⟩
theorem cl1_221 : ix_VL "FileDelivery" 221 19 4 := ⟨ix_in 231 (by decide +kernel) (by decide +kernel), ix_in 232 (by decide +kernel) (by decide +kernel), ix_in 233 (by decide +kernel) (by decide +kernel), by decide, rfl, rfl⟩
theorem cl1_230 : ix_VL "FileDelivery" 230 64 3 := ⟨ix_in 454 (by decide +kernel) (by decide +kernel), ix_in 455 (by decide +kernel) (by decide +kernel), ix_in 456 (by decide +kernel) (by decide +kernel), by decide, rfl, rfl⟩
theorem cl1_233 : ix_VL "FileDelivery" 233 57 4 := ⟨ix_in 462 (by decide +kernel) (by decide +kernel), ix_in 423 (by decide +kernel) (by decide +kernel), ix_in 424 (by decide +kernel) (by decide +kernel), by decide, rfl, rfl⟩
theorem cl1_236 : ix_VL "FileDelivery" 236 67 0 := ⟨ix_in 467 (by decide +kernel) (by decide +kernel), ix_in 469 (by decide +kernel) (by decide +kernel), ix_in 19 (by decide +kernel) (by decide +kernel), by decide, rfl, rfl⟩
theorem cl1_240 : ix_VL "FileDelivery" 240 79 2 := ⟨ix_in 583 (by decide +kernel) (by decide +kernel), ix_in 584 (by decide +kernel) (by decide +kernel), ix_in 585 (by decide +kernel) (by decide +kernel), by decide, rfl, rfl⟩
theorem cl1_246 : ix_IL "FileDelivery" 246 68 := ⟨Or.inl (ix_in 473 (by decide +kernel) (by decide +kernel)), ix_in 474 (by decide +kernel) (by decide +kernel), rfl, rfl⟩
theorem cl1_249 : ix_VL "FileDelivery" 249 69 9 := ⟨ix_in 524 (by decide +kernel) (by decide +kernel), ix_in 525 (by decide +kernel) (by decide +kernel), ix_in 526 (by decide +kernel) (by decide +kernel), by decide, rfl, rfl⟩
theorem cl7_21 : ix_VL "FileDelivery$Link" 21 62 1 := ⟨ix_in 446 (by decide +kernel) (by decide +kernel), ix_in 447 (by decide +kernel) (by decide +kernel), ix_in 448 (by decide +kernel) (by decide +kernel), by decide, rfl, rfl⟩
theorem cl13_44 : ix_VL "FileDelivery$Receiver" 44 49 2 := ⟨ix_in 386 (by decide +kernel) (by decide +kernel), ix_in 387 (by decide +kernel) (by decide +kernel), ix_in 388 (by decide +kernel) (by decide +kernel), by decide, rfl, rfl⟩
theorem cl13_48 : ix_VL "FileDelivery$Receiver" 48 50 2 := ⟨ix_in 390 (by decide +kernel) (by decide +kernel), ix_in 392 (by decide +kernel) (by decide +kernel), ix_in 9 (by decide +kernel) (by decide +kernel), by decide, rfl, rfl⟩
theorem cl13_52 : ix_VL "FileDelivery$Receiver" 52 45 6 := ⟨ix_in 406 (by decide +kernel) (by decide +kernel), ix_in 370 (by decide +kernel) (by decide +kernel), ix_in 371 (by decide +kernel) (by decide +kernel), by decide, rfl, rfl⟩
theorem cl13_60 : ix_VL "FileDelivery$Receiver" 60 53 2 := ⟨ix_in 407 (by decide +kernel) (by decide +kernel), ix_in 409 (by decide +kernel) (by decide +kernel), ix_in 12 (by decide +kernel) (by decide +kernel), by decide, rfl, rfl⟩
theorem cl13_64 : ix_VL "FileDelivery$Receiver" 64 56 2 := ⟨ix_in 418 (by decide +kernel) (by decide +kernel), ix_in 420 (by decide +kernel) (by decide +kernel), ix_in 14 (by decide +kernel) (by decide +kernel), by decide, rfl, rfl⟩
theorem cl13_67 : ix_VL "FileDelivery$Receiver" 67 51 2 := ⟨ix_in 395 (by decide +kernel) (by decide +kernel), ix_in 397 (by decide +kernel) (by decide +kernel), ix_in 10 (by decide +kernel) (by decide +kernel), by decide, rfl, rfl⟩
theorem cl13_75 : ix_VL "FileDelivery$Receiver" 75 52 2 := ⟨ix_in 399 (by decide +kernel) (by decide +kernel), ix_in 401 (by decide +kernel) (by decide +kernel), ix_in 11 (by decide +kernel) (by decide +kernel), by decide, rfl, rfl⟩
theorem cl13_79 : ix_VL "FileDelivery$Receiver" 79 80 2 := ⟨ix_in 587 (by decide +kernel) (by decide +kernel), ix_in 589 (by decide +kernel) (by decide +kernel), ix_in 23 (by decide +kernel) (by decide +kernel), by decide, rfl, rfl⟩
theorem cl13_86 : ix_VL "FileDelivery$Receiver" 86 82 2 := ⟨ix_in 595 (by decide +kernel) (by decide +kernel), ix_in 597 (by decide +kernel) (by decide +kernel), ix_in 25 (by decide +kernel) (by decide +kernel), by decide, rfl, rfl⟩
theorem cl13_89 : ix_VL "FileDelivery$Receiver" 89 83 2 := ⟨ix_in 599 (by decide +kernel) (by decide +kernel), ix_in 601 (by decide +kernel) (by decide +kernel), ix_in 26 (by decide +kernel) (by decide +kernel), by decide, rfl, rfl⟩
theorem cl13_93 : ix_VL "FileDelivery$Receiver" 93 89 2 := ⟨ix_in 627 (by decide +kernel) (by decide +kernel), ix_in 629 (by decide +kernel) (by decide +kernel), ix_in 28 (by decide +kernel) (by decide +kernel), by decide, rfl, rfl⟩
theorem cl13_99 : ix_VL "FileDelivery$Receiver" 99 81 2 := ⟨ix_in 591 (by decide +kernel) (by decide +kernel), ix_in 593 (by decide +kernel) (by decide +kernel), ix_in 24 (by decide +kernel) (by decide +kernel), by decide, rfl, rfl⟩
theorem cl13_114 : ix_SL "FileDelivery$Receiver" 114 55 := ⟨Or.inr ⟨"FileDelivery", ix_in 415 (by decide +kernel) (by decide +kernel)⟩, ix_in 416 (by decide +kernel) (by decide +kernel)⟩
theorem cl13_118 : ix_VL "FileDelivery$Receiver" 118 54 2 := ⟨ix_in 411 (by decide +kernel) (by decide +kernel), ix_in 413 (by decide +kernel) (by decide +kernel), ix_in 13 (by decide +kernel) (by decide +kernel), by decide, rfl, rfl⟩
theorem cl13_121 : ix_SL "FileDelivery$Receiver" 121 44 := ⟨Or.inr ⟨"FileDelivery", ix_in 603 (by decide +kernel) (by decide +kernel)⟩, ix_in 367 (by decide +kernel) (by decide +kernel)⟩
theorem cl13_128 : ix_VL "FileDelivery$Receiver" 128 84 4 := ⟨ix_in 604 (by decide +kernel) (by decide +kernel), ix_in 605 (by decide +kernel) (by decide +kernel), ix_in 606 (by decide +kernel) (by decide +kernel), by decide, rfl, rfl⟩
theorem cl13_138 : ix_VL "FileDelivery$Receiver" 138 85 5 := ⟨ix_in 608 (by decide +kernel) (by decide +kernel), ix_in 609 (by decide +kernel) (by decide +kernel), ix_in 610 (by decide +kernel) (by decide +kernel), by decide, rfl, rfl⟩
theorem cl13_147 : ix_VL "FileDelivery$Receiver" 147 86 2 := ⟨ix_in 613 (by decide +kernel) (by decide +kernel), ix_in 615 (by decide +kernel) (by decide +kernel), ix_in 27 (by decide +kernel) (by decide +kernel), by decide, rfl, rfl⟩
theorem cl13_156 : ix_VL "FileDelivery$Receiver" 156 87 5 := ⟨ix_in 617 (by decide +kernel) (by decide +kernel), ix_in 618 (by decide +kernel) (by decide +kernel), ix_in 619 (by decide +kernel) (by decide +kernel), by decide, rfl, rfl⟩
theorem cl13_159 : ix_VL "FileDelivery$Receiver" 159 12 5 := ⟨ix_in 622 (by decide +kernel) (by decide +kernel), ix_in 204 (by decide +kernel) (by decide +kernel), ix_in 205 (by decide +kernel) (by decide +kernel), by decide, rfl, rfl⟩
theorem cl13_162 : ix_VL "FileDelivery$Receiver" 162 88 5 := ⟨ix_in 623 (by decide +kernel) (by decide +kernel), ix_in 624 (by decide +kernel) (by decide +kernel), ix_in 625 (by decide +kernel) (by decide +kernel), by decide, rfl, rfl⟩
theorem cl13_168 : ix_IL "FileDelivery$Receiver" 168 36 := ⟨Or.inl (ix_in 404 (by decide +kernel) (by decide +kernel)), ix_in 302 (by decide +kernel) (by decide +kernel), rfl, rfl⟩
theorem cl13_171 : ix_VL "FileDelivery$Receiver" 171 37 1 := ⟨ix_in 405 (by decide +kernel) (by decide +kernel), ix_in 337 (by decide +kernel) (by decide +kernel), ix_in 338 (by decide +kernel) (by decide +kernel), by decide, rfl, rfl⟩
theorem cl10_35 : ix_VL "FileDelivery$Sender" 35 16 5 := ⟨ix_in 361 (by decide +kernel) (by decide +kernel), ix_in 220 (by decide +kernel) (by decide +kernel), ix_in 221 (by decide +kernel) (by decide +kernel), by decide, rfl, rfl⟩
theorem cl10_41 : ix_SL "FileDelivery$Sender" 41 55 := ⟨Or.inr ⟨"FileDelivery", ix_in 888 (by decide +kernel) (by decide +kernel)⟩, ix_in 416 (by decide +kernel) (by decide +kernel)⟩
theorem cl10_50 : ix_VL "FileDelivery$Sender" 50 26 3 := ⟨ix_in 258 (by decide +kernel) (by decide +kernel), ix_in 259 (by decide +kernel) (by decide +kernel), ix_in 260 (by decide +kernel) (by decide +kernel), by decide, rfl, rfl⟩
theorem cl10_76 : ix_VL "FileDelivery$Sender" 76 32 3 := ⟨ix_in 282 (by decide +kernel) (by decide +kernel), ix_in 284 (by decide +kernel) (by decide +kernel), ix_in 2 (by decide +kernel) (by decide +kernel), by decide, rfl, rfl⟩
theorem cl10_79 : ix_VL "FileDelivery$Sender" 79 46 3 := ⟨ix_in 373 (by decide +kernel) (by decide +kernel), ix_in 375 (by decide +kernel) (by decide +kernel), ix_in 7 (by decide +kernel) (by decide +kernel), by decide, rfl, rfl⟩
theorem cl10_82 : ix_VL "FileDelivery$Sender" 82 47 3 := ⟨ix_in 377 (by decide +kernel) (by decide +kernel), ix_in 379 (by decide +kernel) (by decide +kernel), ix_in 8 (by decide +kernel) (by decide +kernel), by decide, rfl, rfl⟩
theorem cl10_88 : ix_VL "FileDelivery$Sender" 88 33 3 := ⟨ix_in 287 (by decide +kernel) (by decide +kernel), ix_in 289 (by decide +kernel) (by decide +kernel), ix_in 3 (by decide +kernel) (by decide +kernel), by decide, rfl, rfl⟩
theorem cl10_91 : ix_VL "FileDelivery$Sender" 91 38 3 := ⟨ix_in 340 (by decide +kernel) (by decide +kernel), ix_in 342 (by decide +kernel) (by decide +kernel), ix_in 5 (by decide +kernel) (by decide +kernel), by decide, rfl, rfl⟩
theorem cl10_95 : ix_VL "FileDelivery$Sender" 95 42 3 := ⟨ix_in 357 (by decide +kernel) (by decide +kernel), ix_in 359 (by decide +kernel) (by decide +kernel), ix_in 6 (by decide +kernel) (by decide +kernel), by decide, rfl, rfl⟩
theorem cl10_98 : ix_VL "FileDelivery$Sender" 98 45 6 := ⟨ix_in 369 (by decide +kernel) (by decide +kernel), ix_in 370 (by decide +kernel) (by decide +kernel), ix_in 371 (by decide +kernel) (by decide +kernel), by decide, rfl, rfl⟩
theorem cl10_107 : ix_VL "FileDelivery$Sender" 107 34 3 := ⟨ix_in 291 (by decide +kernel) (by decide +kernel), ix_in 293 (by decide +kernel) (by decide +kernel), ix_in 4 (by decide +kernel) (by decide +kernel), by decide, rfl, rfl⟩
theorem cl10_111 : ix_VL "FileDelivery$Sender" 111 39 5 := ⟨ix_in 344 (by decide +kernel) (by decide +kernel), ix_in 345 (by decide +kernel) (by decide +kernel), ix_in 346 (by decide +kernel) (by decide +kernel), by decide, rfl, rfl⟩
theorem cl10_115 : ix_VL "FileDelivery$Sender" 115 40 5 := ⟨ix_in 348 (by decide +kernel) (by decide +kernel), ix_in 349 (by decide +kernel) (by decide +kernel), ix_in 350 (by decide +kernel) (by decide +kernel), by decide, rfl, rfl⟩
theorem cl10_118 : ix_VL "FileDelivery$Sender" 118 43 5 := ⟨ix_in 362 (by decide +kernel) (by decide +kernel), ix_in 363 (by decide +kernel) (by decide +kernel), ix_in 364 (by decide +kernel) (by decide +kernel), by decide, rfl, rfl⟩
theorem cl10_123 : ix_VL "FileDelivery$Sender" 123 35 6 := ⟨ix_in 297 (by decide +kernel) (by decide +kernel), ix_in 298 (by decide +kernel) (by decide +kernel), ix_in 299 (by decide +kernel) (by decide +kernel), by decide, rfl, rfl⟩
theorem cl10_127 : ix_IL "FileDelivery$Sender" 127 36 := ⟨Or.inl (ix_in 301 (by decide +kernel) (by decide +kernel)), ix_in 302 (by decide +kernel) (by decide +kernel), rfl, rfl⟩
theorem cl10_130 : ix_VL "FileDelivery$Sender" 130 37 1 := ⟨ix_in 336 (by decide +kernel) (by decide +kernel), ix_in 337 (by decide +kernel) (by decide +kernel), ix_in 338 (by decide +kernel) (by decide +kernel), by decide, rfl, rfl⟩
theorem cl10_142 : ix_VL "FileDelivery$Sender" 142 65 3 := ⟨ix_in 458 (by decide +kernel) (by decide +kernel), ix_in 460 (by decide +kernel) (by decide +kernel), ix_in 17 (by decide +kernel) (by decide +kernel), by decide, rfl, rfl⟩
theorem cl2_9 : ix_IL "FileDelivery$Side" 9 3 := ⟨Or.inl (ix_in 102 (by decide +kernel) (by decide +kernel)), ix_in 103 (by decide +kernel) (by decide +kernel), rfl, rfl⟩
theorem cl2_18 : ix_IL "FileDelivery$Side" 18 4 := ⟨Or.inl (ix_in 119 (by decide +kernel) (by decide +kernel)), ix_in 120 (by decide +kernel) (by decide +kernel), rfl, rfl⟩
theorem cl2_29 : ix_VL "FileDelivery$Side" 29 69 9 := ⟨ix_in 945 (by decide +kernel) (by decide +kernel), ix_in 525 (by decide +kernel) (by decide +kernel), ix_in 526 (by decide +kernel) (by decide +kernel), by decide, rfl, rfl⟩
theorem cl2_33 : ix_VL "FileDelivery$Side" 33 20 9 := ⟨ix_in 235 (by decide +kernel) (by decide +kernel), ix_in 236 (by decide +kernel) (by decide +kernel), ix_in 237 (by decide +kernel) (by decide +kernel), by decide, rfl, rfl⟩
theorem cl2_37 : ix_VL "FileDelivery$Side" 37 21 9 := ⟨ix_in 239 (by decide +kernel) (by decide +kernel), ix_in 240 (by decide +kernel) (by decide +kernel), ix_in 241 (by decide +kernel) (by decide +kernel), by decide, rfl, rfl⟩
theorem cl2_53 : ix_VL "FileDelivery$Side" 53 31 3 := ⟨ix_in 278 (by decide +kernel) (by decide +kernel), ix_in 279 (by decide +kernel) (by decide +kernel), ix_in 280 (by decide +kernel) (by decide +kernel), by decide, rfl, rfl⟩
theorem cl2_58 : ix_VL "FileDelivery$Side" 58 48 2 := ⟨ix_in 382 (by decide +kernel) (by decide +kernel), ix_in 383 (by decide +kernel) (by decide +kernel), ix_in 384 (by decide +kernel) (by decide +kernel), by decide, rfl, rfl⟩
theorem cl2_61 : ix_VL "FileDelivery$Side" 61 57 4 := ⟨ix_in 422 (by decide +kernel) (by decide +kernel), ix_in 423 (by decide +kernel) (by decide +kernel), ix_in 424 (by decide +kernel) (by decide +kernel), by decide, rfl, rfl⟩
theorem cl2_64 : ix_VL "FileDelivery$Side" 64 26 3 := ⟨ix_in 426 (by decide +kernel) (by decide +kernel), ix_in 259 (by decide +kernel) (by decide +kernel), ix_in 260 (by decide +kernel) (by decide +kernel), by decide, rfl, rfl⟩
theorem cl2_68 : ix_VL "FileDelivery$Side" 68 58 9 := ⟨ix_in 427 (by decide +kernel) (by decide +kernel), ix_in 428 (by decide +kernel) (by decide +kernel), ix_in 429 (by decide +kernel) (by decide +kernel), by decide, rfl, rfl⟩
theorem cl3_20 : ix_SL "FileDelivery$Store" 20 44 := ⟨Or.inr ⟨"FileDelivery", ix_in 366 (by decide +kernel) (by decide +kernel)⟩, ix_in 367 (by decide +kernel) (by decide +kernel)⟩
theorem cl3_24 : ix_VL "FileDelivery$Store" 24 39 5 := ⟨ix_in 352 (by decide +kernel) (by decide +kernel), ix_in 345 (by decide +kernel) (by decide +kernel), ix_in 346 (by decide +kernel) (by decide +kernel), by decide, rfl, rfl⟩
theorem cl3_28 : ix_VL "FileDelivery$Store" 28 41 5 := ⟨ix_in 353 (by decide +kernel) (by decide +kernel), ix_in 354 (by decide +kernel) (by decide +kernel), ix_in 355 (by decide +kernel) (by decide +kernel), by decide, rfl, rfl⟩
theorem cl3_37 : ix_VL "FileDelivery$Store" 37 85 5 := ⟨ix_in 621 (by decide +kernel) (by decide +kernel), ix_in 609 (by decide +kernel) (by decide +kernel), ix_in 610 (by decide +kernel) (by decide +kernel), by decide, rfl, rfl⟩
theorem cl12_29 : ix_IL "FileDelivery$Unit" 29 36 := ⟨Or.inl (ix_in 649 (by decide +kernel) (by decide +kernel)), ix_in 302 (by decide +kernel) (by decide +kernel), rfl, rfl⟩
theorem cl0_7 : ix_VL "FileDeliveryLaw" 7 103 0 := ⟨ix_in 690 (by decide +kernel) (by decide +kernel), ix_in 691 (by decide +kernel) (by decide +kernel), ix_in 692 (by decide +kernel) (by decide +kernel), by decide, rfl, rfl⟩
theorem cl0_19 : ix_VL "FileDeliveryLaw" 19 106 0 := ⟨ix_in 802 (by decide +kernel) (by decide +kernel), ix_in 803 (by decide +kernel) (by decide +kernel), ix_in 804 (by decide +kernel) (by decide +kernel), by decide, rfl, rfl⟩
theorem cl0_23 : ix_VL "FileDeliveryLaw" 23 108 0 := ⟨ix_in 812 (by decide +kernel) (by decide +kernel), ix_in 813 (by decide +kernel) (by decide +kernel), ix_in 814 (by decide +kernel) (by decide +kernel), by decide, rfl, rfl⟩
theorem cl0_29 : ix_VL "FileDeliveryLaw" 29 110 0 := ⟨ix_in 836 (by decide +kernel) (by decide +kernel), ix_in 837 (by decide +kernel) (by decide +kernel), ix_in 838 (by decide +kernel) (by decide +kernel), by decide, rfl, rfl⟩
theorem cl0_33 : ix_SL "FileDeliveryLaw" 33 101 := ⟨Or.inl (ix_in 681 (by decide +kernel) (by decide +kernel)), ix_in 682 (by decide +kernel) (by decide +kernel)⟩
theorem cl0_39 : ix_IL "FileDeliveryLaw" 39 1 := ⟨Or.inl (ix_in 87 (by decide +kernel) (by decide +kernel)), ix_in 88 (by decide +kernel) (by decide +kernel), rfl, rfl⟩
theorem cl0_44 : ix_IL "FileDeliveryLaw" 44 114 := ⟨Or.inl (ix_in 948 (by decide +kernel) (by decide +kernel)), ix_in 949 (by decide +kernel) (by decide +kernel), rfl, rfl⟩
theorem cl0_45 : ix_VL "FileDeliveryLaw" 45 8 0 := ⟨ix_in 190 (by decide +kernel) (by decide +kernel), ix_in 191 (by decide +kernel) (by decide +kernel), ix_in 192 (by decide +kernel) (by decide +kernel), by decide, rfl, rfl⟩
theorem cl0_48 : ix_VL "FileDeliveryLaw" 48 116 8 := ⟨ix_in 1102 (by decide +kernel) (by decide +kernel), ix_in 1103 (by decide +kernel) (by decide +kernel), ix_in 1104 (by decide +kernel) (by decide +kernel), by decide, rfl, rfl⟩
theorem cl0_54 : ix_VL "FileDeliveryLaw" 54 119 8 := ⟨ix_in 1112 (by decide +kernel) (by decide +kernel), ix_in 1113 (by decide +kernel) (by decide +kernel), ix_in 1114 (by decide +kernel) (by decide +kernel), by decide, rfl, rfl⟩
theorem cl0_55 : ix_VL "FileDeliveryLaw" 55 115 8 := ⟨ix_in 1098 (by decide +kernel) (by decide +kernel), ix_in 1099 (by decide +kernel) (by decide +kernel), ix_in 1100 (by decide +kernel) (by decide +kernel), by decide, rfl, rfl⟩
theorem cl0_62 : ix_VL "FileDeliveryLaw" 62 122 8 := ⟨ix_in 1125 (by decide +kernel) (by decide +kernel), ix_in 1126 (by decide +kernel) (by decide +kernel), ix_in 1127 (by decide +kernel) (by decide +kernel), by decide, rfl, rfl⟩
theorem cl0_63 : ix_VL "FileDeliveryLaw" 63 14 0 := ⟨ix_in 211 (by decide +kernel) (by decide +kernel), ix_in 212 (by decide +kernel) (by decide +kernel), ix_in 213 (by decide +kernel) (by decide +kernel), by decide, rfl, rfl⟩
theorem cl0_67 : ix_VL "FileDeliveryLaw" 67 123 8 := ⟨ix_in 1129 (by decide +kernel) (by decide +kernel), ix_in 1130 (by decide +kernel) (by decide +kernel), ix_in 1131 (by decide +kernel) (by decide +kernel), by decide, rfl, rfl⟩
theorem cl0_71 : ix_VL "FileDeliveryLaw" 71 124 8 := ⟨ix_in 1133 (by decide +kernel) (by decide +kernel), ix_in 1134 (by decide +kernel) (by decide +kernel), ix_in 1135 (by decide +kernel) (by decide +kernel), by decide, rfl, rfl⟩
theorem cl0_75 : ix_VL "FileDeliveryLaw" 75 125 8 := ⟨ix_in 1137 (by decide +kernel) (by decide +kernel), ix_in 1138 (by decide +kernel) (by decide +kernel), ix_in 1139 (by decide +kernel) (by decide +kernel), by decide, rfl, rfl⟩
theorem cl0_76 : ix_VL "FileDeliveryLaw" 76 17 0 := ⟨ix_in 223 (by decide +kernel) (by decide +kernel), ix_in 224 (by decide +kernel) (by decide +kernel), ix_in 225 (by decide +kernel) (by decide +kernel), by decide, rfl, rfl⟩
theorem cl0_79 : ix_VL "FileDeliveryLaw" 79 126 8 := ⟨ix_in 1141 (by decide +kernel) (by decide +kernel), ix_in 1142 (by decide +kernel) (by decide +kernel), ix_in 1143 (by decide +kernel) (by decide +kernel), by decide, rfl, rfl⟩
theorem cl0_80 : ix_VL "FileDeliveryLaw" 80 27 0 := ⟨ix_in 262 (by decide +kernel) (by decide +kernel), ix_in 263 (by decide +kernel) (by decide +kernel), ix_in 264 (by decide +kernel) (by decide +kernel), by decide, rfl, rfl⟩
theorem cl0_84 : ix_VL "FileDeliveryLaw" 84 128 8 := ⟨ix_in 1149 (by decide +kernel) (by decide +kernel), ix_in 1150 (by decide +kernel) (by decide +kernel), ix_in 1151 (by decide +kernel) (by decide +kernel), by decide, rfl, rfl⟩
theorem cl0_85 : ix_VL "FileDeliveryLaw" 85 29 0 := ⟨ix_in 270 (by decide +kernel) (by decide +kernel), ix_in 271 (by decide +kernel) (by decide +kernel), ix_in 272 (by decide +kernel) (by decide +kernel), by decide, rfl, rfl⟩
theorem cl0_88 : ix_VL "FileDeliveryLaw" 88 129 8 := ⟨ix_in 1153 (by decide +kernel) (by decide +kernel), ix_in 1154 (by decide +kernel) (by decide +kernel), ix_in 1155 (by decide +kernel) (by decide +kernel), by decide, rfl, rfl⟩
theorem cl0_89 : ix_VL "FileDeliveryLaw" 89 60 0 := ⟨ix_in 438 (by decide +kernel) (by decide +kernel), ix_in 439 (by decide +kernel) (by decide +kernel), ix_in 440 (by decide +kernel) (by decide +kernel), by decide, rfl, rfl⟩
theorem cl0_93 : ix_VL "FileDeliveryLaw" 93 147 8 := ⟨ix_in 1225 (by decide +kernel) (by decide +kernel), ix_in 1226 (by decide +kernel) (by decide +kernel), ix_in 1227 (by decide +kernel) (by decide +kernel), by decide, rfl, rfl⟩
theorem cl0_94 : ix_VL "FileDeliveryLaw" 94 90 0 := ⟨ix_in 631 (by decide +kernel) (by decide +kernel), ix_in 632 (by decide +kernel) (by decide +kernel), ix_in 633 (by decide +kernel) (by decide +kernel), by decide, rfl, rfl⟩
theorem cl0_97 : ix_VL "FileDeliveryLaw" 97 157 8 := ⟨ix_in 1266 (by decide +kernel) (by decide +kernel), ix_in 1267 (by decide +kernel) (by decide +kernel), ix_in 1268 (by decide +kernel) (by decide +kernel), by decide, rfl, rfl⟩
theorem cl0_98 : ix_VL "FileDeliveryLaw" 98 91 0 := ⟨ix_in 635 (by decide +kernel) (by decide +kernel), ix_in 636 (by decide +kernel) (by decide +kernel), ix_in 637 (by decide +kernel) (by decide +kernel), by decide, rfl, rfl⟩
theorem cl0_101 : ix_VL "FileDeliveryLaw" 101 158 8 := ⟨ix_in 1270 (by decide +kernel) (by decide +kernel), ix_in 1271 (by decide +kernel) (by decide +kernel), ix_in 1272 (by decide +kernel) (by decide +kernel), by decide, rfl, rfl⟩
theorem cl0_102 : ix_VL "FileDeliveryLaw" 102 94 0 := ⟨ix_in 651 (by decide +kernel) (by decide +kernel), ix_in 652 (by decide +kernel) (by decide +kernel), ix_in 653 (by decide +kernel) (by decide +kernel), by decide, rfl, rfl⟩
theorem cl0_105 : ix_VL "FileDeliveryLaw" 105 159 8 := ⟨ix_in 1274 (by decide +kernel) (by decide +kernel), ix_in 1275 (by decide +kernel) (by decide +kernel), ix_in 1276 (by decide +kernel) (by decide +kernel), by decide, rfl, rfl⟩
theorem cl0_106 : ix_VL "FileDeliveryLaw" 106 95 0 := ⟨ix_in 655 (by decide +kernel) (by decide +kernel), ix_in 656 (by decide +kernel) (by decide +kernel), ix_in 657 (by decide +kernel) (by decide +kernel), by decide, rfl, rfl⟩
theorem cl0_109 : ix_VL "FileDeliveryLaw" 109 160 8 := ⟨ix_in 1278 (by decide +kernel) (by decide +kernel), ix_in 1279 (by decide +kernel) (by decide +kernel), ix_in 1280 (by decide +kernel) (by decide +kernel), by decide, rfl, rfl⟩
theorem cl0_110 : ix_VL "FileDeliveryLaw" 110 96 0 := ⟨ix_in 659 (by decide +kernel) (by decide +kernel), ix_in 660 (by decide +kernel) (by decide +kernel), ix_in 661 (by decide +kernel) (by decide +kernel), by decide, rfl, rfl⟩
theorem cl0_113 : ix_VL "FileDeliveryLaw" 113 161 8 := ⟨ix_in 1282 (by decide +kernel) (by decide +kernel), ix_in 1283 (by decide +kernel) (by decide +kernel), ix_in 1284 (by decide +kernel) (by decide +kernel), by decide, rfl, rfl⟩
theorem cl0_114 : ix_VL "FileDeliveryLaw" 114 97 0 := ⟨ix_in 663 (by decide +kernel) (by decide +kernel), ix_in 664 (by decide +kernel) (by decide +kernel), ix_in 665 (by decide +kernel) (by decide +kernel), by decide, rfl, rfl⟩
theorem cl0_117 : ix_VL "FileDeliveryLaw" 117 162 8 := ⟨ix_in 1286 (by decide +kernel) (by decide +kernel), ix_in 1287 (by decide +kernel) (by decide +kernel), ix_in 1288 (by decide +kernel) (by decide +kernel), by decide, rfl, rfl⟩
theorem cl0_118 : ix_VL "FileDeliveryLaw" 118 98 0 := ⟨ix_in 668 (by decide +kernel) (by decide +kernel), ix_in 669 (by decide +kernel) (by decide +kernel), ix_in 670 (by decide +kernel) (by decide +kernel), by decide, rfl, rfl⟩
theorem cl0_121 : ix_VL "FileDeliveryLaw" 121 163 8 := ⟨ix_in 1290 (by decide +kernel) (by decide +kernel), ix_in 1291 (by decide +kernel) (by decide +kernel), ix_in 1292 (by decide +kernel) (by decide +kernel), by decide, rfl, rfl⟩
theorem cl0_122 : ix_VL "FileDeliveryLaw" 122 100 0 := ⟨ix_in 677 (by decide +kernel) (by decide +kernel), ix_in 678 (by decide +kernel) (by decide +kernel), ix_in 679 (by decide +kernel) (by decide +kernel), by decide, rfl, rfl⟩
theorem cl0_125 : ix_VL "FileDeliveryLaw" 125 164 8 := ⟨ix_in 1294 (by decide +kernel) (by decide +kernel), ix_in 1295 (by decide +kernel) (by decide +kernel), ix_in 1296 (by decide +kernel) (by decide +kernel), by decide, rfl, rfl⟩
theorem cl17_147 : ix_SL "FileDeliveryModel" 147 118 := ⟨Or.inl (ix_in 1109 (by decide +kernel) (by decide +kernel)), ix_in 1110 (by decide +kernel) (by decide +kernel)⟩
theorem cl17_151 : ix_SL "FileDeliveryModel" 151 117 := ⟨Or.inl (ix_in 1106 (by decide +kernel) (by decide +kernel)), ix_in 1107 (by decide +kernel) (by decide +kernel)⟩
theorem cl17_155 : ix_VL "FileDeliveryModel" 155 120 8 := ⟨ix_in 1116 (by decide +kernel) (by decide +kernel), ix_in 1118 (by decide +kernel) (by decide +kernel), ix_in 31 (by decide +kernel) (by decide +kernel), by decide, rfl, rfl⟩
theorem cl17_159 : ix_VL "FileDeliveryModel" 159 121 8 := ⟨ix_in 1120 (by decide +kernel) (by decide +kernel), ix_in 1122 (by decide +kernel) (by decide +kernel), ix_in 32 (by decide +kernel) (by decide +kernel), by decide, rfl, rfl⟩
theorem cl17_164 : ix_SL "FileDeliveryModel" 164 132 := ⟨Or.inl (ix_in 1165 (by decide +kernel) (by decide +kernel)), ix_in 1166 (by decide +kernel) (by decide +kernel)⟩
theorem cl17_167 : ix_VL "FileDeliveryModel" 167 135 8 := ⟨ix_in 1176 (by decide +kernel) (by decide +kernel), ix_in 1178 (by decide +kernel) (by decide +kernel), ix_in 38 (by decide +kernel) (by decide +kernel), by decide, rfl, rfl⟩
theorem cl17_174 : ix_VL "FileDeliveryModel" 174 127 8 := ⟨ix_in 1145 (by decide +kernel) (by decide +kernel), ix_in 1147 (by decide +kernel) (by decide +kernel), ix_in 33 (by decide +kernel) (by decide +kernel), by decide, rfl, rfl⟩
theorem cl17_177 : ix_VL "FileDeliveryModel" 177 136 8 := ⟨ix_in 1180 (by decide +kernel) (by decide +kernel), ix_in 1182 (by decide +kernel) (by decide +kernel), ix_in 39 (by decide +kernel) (by decide +kernel), by decide, rfl, rfl⟩
theorem cl17_181 : ix_VL "FileDeliveryModel" 181 131 8 := ⟨ix_in 1161 (by decide +kernel) (by decide +kernel), ix_in 1163 (by decide +kernel) (by decide +kernel), ix_in 35 (by decide +kernel) (by decide +kernel), by decide, rfl, rfl⟩
theorem cl17_184 : ix_VL "FileDeliveryModel" 184 134 8 := ⟨ix_in 1172 (by decide +kernel) (by decide +kernel), ix_in 1174 (by decide +kernel) (by decide +kernel), ix_in 37 (by decide +kernel) (by decide +kernel), by decide, rfl, rfl⟩
theorem cl17_187 : ix_VL "FileDeliveryModel" 187 137 8 := ⟨ix_in 1184 (by decide +kernel) (by decide +kernel), ix_in 1186 (by decide +kernel) (by decide +kernel), ix_in 40 (by decide +kernel) (by decide +kernel), by decide, rfl, rfl⟩
theorem cl17_191 : ix_VL "FileDeliveryModel" 191 133 8 := ⟨ix_in 1168 (by decide +kernel) (by decide +kernel), ix_in 1170 (by decide +kernel) (by decide +kernel), ix_in 36 (by decide +kernel) (by decide +kernel), by decide, rfl, rfl⟩
theorem cl17_195 : ix_VL "FileDeliveryModel" 195 138 8 := ⟨ix_in 1188 (by decide +kernel) (by decide +kernel), ix_in 1190 (by decide +kernel) (by decide +kernel), ix_in 41 (by decide +kernel) (by decide +kernel), by decide, rfl, rfl⟩
theorem cl17_198 : ix_VL "FileDeliveryModel" 198 139 8 := ⟨ix_in 1192 (by decide +kernel) (by decide +kernel), ix_in 1194 (by decide +kernel) (by decide +kernel), ix_in 42 (by decide +kernel) (by decide +kernel), by decide, rfl, rfl⟩
theorem cl17_201 : ix_VL "FileDeliveryModel" 201 140 8 := ⟨ix_in 1196 (by decide +kernel) (by decide +kernel), ix_in 1198 (by decide +kernel) (by decide +kernel), ix_in 43 (by decide +kernel) (by decide +kernel), by decide, rfl, rfl⟩
theorem cl17_205 : ix_VL "FileDeliveryModel" 205 151 8 := ⟨ix_in 1241 (by decide +kernel) (by decide +kernel), ix_in 1243 (by decide +kernel) (by decide +kernel), ix_in 53 (by decide +kernel) (by decide +kernel), by decide, rfl, rfl⟩
theorem cl17_209 : ix_VL "FileDeliveryModel" 209 142 8 := ⟨ix_in 1205 (by decide +kernel) (by decide +kernel), ix_in 1207 (by decide +kernel) (by decide +kernel), ix_in 45 (by decide +kernel) (by decide +kernel), by decide, rfl, rfl⟩
theorem cl17_212 : ix_VL "FileDeliveryModel" 212 153 8 := ⟨ix_in 1250 (by decide +kernel) (by decide +kernel), ix_in 1252 (by decide +kernel) (by decide +kernel), ix_in 55 (by decide +kernel) (by decide +kernel), by decide, rfl, rfl⟩
theorem cl17_218 : ix_VL "FileDeliveryModel" 218 144 8 := ⟨ix_in 1213 (by decide +kernel) (by decide +kernel), ix_in 1215 (by decide +kernel) (by decide +kernel), ix_in 47 (by decide +kernel) (by decide +kernel), by decide, rfl, rfl⟩
theorem cl17_222 : ix_VL "FileDeliveryModel" 222 146 8 := ⟨ix_in 1221 (by decide +kernel) (by decide +kernel), ix_in 1223 (by decide +kernel) (by decide +kernel), ix_in 49 (by decide +kernel) (by decide +kernel), by decide, rfl, rfl⟩
theorem cl17_225 : ix_VL "FileDeliveryModel" 225 154 8 := ⟨ix_in 1254 (by decide +kernel) (by decide +kernel), ix_in 1256 (by decide +kernel) (by decide +kernel), ix_in 56 (by decide +kernel) (by decide +kernel), by decide, rfl, rfl⟩
theorem cl17_228 : ix_VL "FileDeliveryModel" 228 145 8 := ⟨ix_in 1217 (by decide +kernel) (by decide +kernel), ix_in 1219 (by decide +kernel) (by decide +kernel), ix_in 48 (by decide +kernel) (by decide +kernel), by decide, rfl, rfl⟩
theorem cl17_231 : ix_VL "FileDeliveryModel" 231 143 8 := ⟨ix_in 1209 (by decide +kernel) (by decide +kernel), ix_in 1211 (by decide +kernel) (by decide +kernel), ix_in 46 (by decide +kernel) (by decide +kernel), by decide, rfl, rfl⟩
theorem cl17_237 : ix_VL "FileDeliveryModel" 237 155 8 := ⟨ix_in 1258 (by decide +kernel) (by decide +kernel), ix_in 1260 (by decide +kernel) (by decide +kernel), ix_in 57 (by decide +kernel) (by decide +kernel), by decide, rfl, rfl⟩
theorem cl17_240 : ix_VL "FileDeliveryModel" 240 156 8 := ⟨ix_in 1262 (by decide +kernel) (by decide +kernel), ix_in 1264 (by decide +kernel) (by decide +kernel), ix_in 58 (by decide +kernel) (by decide +kernel), by decide, rfl, rfl⟩
theorem cl17_243 : ix_VL "FileDeliveryModel" 243 130 8 := ⟨ix_in 1157 (by decide +kernel) (by decide +kernel), ix_in 1159 (by decide +kernel) (by decide +kernel), ix_in 34 (by decide +kernel) (by decide +kernel), by decide, rfl, rfl⟩
theorem cl17_246 : ix_VL "FileDeliveryModel" 246 141 8 := ⟨ix_in 1201 (by decide +kernel) (by decide +kernel), ix_in 1203 (by decide +kernel) (by decide +kernel), ix_in 44 (by decide +kernel) (by decide +kernel), by decide, rfl, rfl⟩
theorem cl17_249 : ix_VL "FileDeliveryModel" 249 148 8 := ⟨ix_in 1229 (by decide +kernel) (by decide +kernel), ix_in 1231 (by decide +kernel) (by decide +kernel), ix_in 50 (by decide +kernel) (by decide +kernel), by decide, rfl, rfl⟩
theorem cl17_253 : ix_VL "FileDeliveryModel" 253 149 8 := ⟨ix_in 1233 (by decide +kernel) (by decide +kernel), ix_in 1235 (by decide +kernel) (by decide +kernel), ix_in 51 (by decide +kernel) (by decide +kernel), by decide, rfl, rfl⟩
theorem cl17_256 : ix_VL "FileDeliveryModel" 256 150 8 := ⟨ix_in 1237 (by decide +kernel) (by decide +kernel), ix_in 1239 (by decide +kernel) (by decide +kernel), ix_in 52 (by decide +kernel) (by decide +kernel), by decide, rfl, rfl⟩
theorem cl17_259 : ix_VL "FileDeliveryModel" 259 152 8 := ⟨ix_in 1246 (by decide +kernel) (by decide +kernel), ix_in 1248 (by decide +kernel) (by decide +kernel), ix_in 54 (by decide +kernel) (by decide +kernel), by decide, rfl, rfl⟩
theorem cl5_1 : ix_IL "java/util/AbstractList" 1 6 := ⟨Or.inl (ix_in 125 (by decide +kernel) (by decide +kernel)), ix_in 126 (by decide +kernel) (by decide +kernel), rfl, rfl⟩
theorem cl4_1 : ix_IL "java/util/ArrayList" 1 5 := ⟨Or.inl (ix_in 122 (by decide +kernel) (by decide +kernel)), ix_in 123 (by decide +kernel) (by decide +kernel), rfl, rfl⟩
theorem cl4_66 : ix_SL "java/util/ArrayList" 66 76 := ⟨Or.inl (ix_in 550 (by decide +kernel) (by decide +kernel)), ix_in 551 (by decide +kernel) (by decide +kernel)⟩
theorem cl4_69 : ix_VL "java/util/ArrayList" 69 72 9 := ⟨ix_in 536 (by decide +kernel) (by decide +kernel), ix_in 538 (by decide +kernel) (by decide +kernel), ix_in 22 (by decide +kernel) (by decide +kernel), by decide, rfl, rfl⟩
theorem cl4_73 : ix_SL "java/util/ArrayList" 73 73 := ⟨Or.inl (ix_in 540 (by decide +kernel) (by decide +kernel)), ix_in 541 (by decide +kernel) (by decide +kernel)⟩
theorem cl4_79 : ix_SL "java/util/ArrayList" 79 74 := ⟨Or.inl (ix_in 581 (by decide +kernel) (by decide +kernel)), ix_in 544 (by decide +kernel) (by decide +kernel)⟩
theorem cl4_118 : ix_SL "java/util/ArrayList" 118 22 := ⟨Or.inl (ix_in 243 (by decide +kernel) (by decide +kernel)), ix_in 244 (by decide +kernel) (by decide +kernel)⟩
theorem cl4_123 : ix_VL "java/util/ArrayList" 123 24 9 := ⟨ix_in 249 (by decide +kernel) (by decide +kernel), ix_in 250 (by decide +kernel) (by decide +kernel), ix_in 251 (by decide +kernel) (by decide +kernel), by decide, rfl, rfl⟩
theorem cl4_129 : ix_VL "java/util/ArrayList" 129 71 9 := ⟨ix_in 532 (by decide +kernel) (by decide +kernel), ix_in 534 (by decide +kernel) (by decide +kernel), ix_in 21 (by decide +kernel) (by decide +kernel), by decide, rfl, rfl⟩
theorem cl4_131 : ix_VL "java/util/ArrayList" 131 70 9 := ⟨ix_in 528 (by decide +kernel) (by decide +kernel), ix_in 530 (by decide +kernel) (by decide +kernel), ix_in 20 (by decide +kernel) (by decide +kernel), by decide, rfl, rfl⟩
theorem cl4_144 : ix_VL "java/util/ArrayList" 144 59 9 := ⟨ix_in 431 (by decide +kernel) (by decide +kernel), ix_in 433 (by decide +kernel) (by decide +kernel), ix_in 15 (by decide +kernel) (by decide +kernel), by decide, rfl, rfl⟩
theorem cl16_300 : ix_SL "java/util/Arrays" 300 77 := ⟨Or.inl (ix_in 571 (by decide +kernel) (by decide +kernel)), ix_in 572 (by decide +kernel) (by decide +kernel)⟩
theorem cl16_304 : ix_SL "java/util/Arrays" 304 78 := ⟨Or.inl (ix_in 577 (by decide +kernel) (by decide +kernel)), ix_in 578 (by decide +kernel) (by decide +kernel)⟩
theorem cl8_105 : ix_SL "java/util/Objects" 105 23 := ⟨Or.inl (ix_in 246 (by decide +kernel) (by decide +kernel)), ix_in 247 (by decide +kernel) (by decide +kernel)⟩
theorem cl14_194 : ix_SL "jdk/internal/util/ArraysSupport" 194 74 := ⟨Or.inl (ix_in 543 (by decide +kernel) (by decide +kernel)), ix_in 544 (by decide +kernel) (by decide +kernel)⟩
theorem cl14_201 : ix_SL "jdk/internal/util/ArraysSupport" 201 75 := ⟨Or.inl (ix_in 547 (by decide +kernel) (by decide +kernel)), ix_in 548 (by decide +kernel) (by decide +kernel)⟩
theorem rm0_1 : ix_room 0 1 := ⟨by decide +kernel, by decide +kernel⟩
theorem rm0_8 : ix_room 0 8 := ⟨by decide +kernel, by decide +kernel⟩
theorem rm0_14 : ix_room 0 14 := ⟨by decide +kernel, by decide +kernel⟩
theorem rm0_17 : ix_room 0 17 := ⟨by decide +kernel, by decide +kernel⟩
theorem rm0_27 : ix_room 0 27 := ⟨by decide +kernel, by decide +kernel⟩
theorem rm0_29 : ix_room 0 29 := ⟨by decide +kernel, by decide +kernel⟩
theorem rm0_60 : ix_room 0 60 := ⟨by decide +kernel, by decide +kernel⟩
theorem rm0_90 : ix_room 0 90 := ⟨by decide +kernel, by decide +kernel⟩
theorem rm0_91 : ix_room 0 91 := ⟨by decide +kernel, by decide +kernel⟩
theorem rm0_94 : ix_room 0 94 := ⟨by decide +kernel, by decide +kernel⟩
theorem rm0_95 : ix_room 0 95 := ⟨by decide +kernel, by decide +kernel⟩
theorem rm0_96 : ix_room 0 96 := ⟨by decide +kernel, by decide +kernel⟩
theorem rm0_97 : ix_room 0 97 := ⟨by decide +kernel, by decide +kernel⟩
theorem rm0_98 : ix_room 0 98 := ⟨by decide +kernel, by decide +kernel⟩
theorem rm0_100 : ix_room 0 100 := ⟨by decide +kernel, by decide +kernel⟩
theorem rm0_101 : ix_room 0 101 := ⟨by decide +kernel, by decide +kernel⟩
theorem rm0_114 : ix_room 0 114 := ⟨by decide +kernel, by decide +kernel⟩
theorem rm0_115 : ix_room 0 115 := ⟨by decide +kernel, by decide +kernel⟩
theorem rm0_116 : ix_room 0 116 := ⟨by decide +kernel, by decide +kernel⟩
theorem rm0_119 : ix_room 0 119 := ⟨by decide +kernel, by decide +kernel⟩
theorem rm0_122 : ix_room 0 122 := ⟨by decide +kernel, by decide +kernel⟩
theorem rm0_123 : ix_room 0 123 := ⟨by decide +kernel, by decide +kernel⟩
theorem rm0_124 : ix_room 0 124 := ⟨by decide +kernel, by decide +kernel⟩
theorem rm0_125 : ix_room 0 125 := ⟨by decide +kernel, by decide +kernel⟩
theorem rm0_126 : ix_room 0 126 := ⟨by decide +kernel, by decide +kernel⟩
theorem rm0_128 : ix_room 0 128 := ⟨by decide +kernel, by decide +kernel⟩
theorem rm0_129 : ix_room 0 129 := ⟨by decide +kernel, by decide +kernel⟩
theorem rm0_147 : ix_room 0 147 := ⟨by decide +kernel, by decide +kernel⟩
theorem rm0_157 : ix_room 0 157 := ⟨by decide +kernel, by decide +kernel⟩
theorem rm0_158 : ix_room 0 158 := ⟨by decide +kernel, by decide +kernel⟩
theorem rm0_159 : ix_room 0 159 := ⟨by decide +kernel, by decide +kernel⟩
theorem rm0_160 : ix_room 0 160 := ⟨by decide +kernel, by decide +kernel⟩
theorem rm0_161 : ix_room 0 161 := ⟨by decide +kernel, by decide +kernel⟩
theorem rm0_162 : ix_room 0 162 := ⟨by decide +kernel, by decide +kernel⟩
theorem rm0_163 : ix_room 0 163 := ⟨by decide +kernel, by decide +kernel⟩
theorem rm0_164 : ix_room 0 164 := ⟨by decide +kernel, by decide +kernel⟩
theorem rm1_2 : ix_room 1 2 := ⟨by decide +kernel, by decide +kernel⟩
theorem rm1_7 : ix_room 1 7 := ⟨by decide +kernel, by decide +kernel⟩
theorem rm2_3 : ix_room 2 3 := ⟨by decide +kernel, by decide +kernel⟩
theorem rm2_4 : ix_room 2 4 := ⟨by decide +kernel, by decide +kernel⟩
theorem rm4_5 : ix_room 4 5 := ⟨by decide +kernel, by decide +kernel⟩
theorem rm5_6 : ix_room 5 6 := ⟨by decide +kernel, by decide +kernel⟩
theorem rm8_9 : ix_room 8 9 := ⟨by decide +kernel, by decide +kernel⟩
theorem rm8_12 : ix_room 8 12 := ⟨by decide +kernel, by decide +kernel⟩
theorem rm8_13 : ix_room 8 13 := ⟨by decide +kernel, by decide +kernel⟩
theorem rm9_10 : ix_room 9 10 := ⟨by decide +kernel, by decide +kernel⟩
theorem rm9_11 : ix_room 9 11 := ⟨by decide +kernel, by decide +kernel⟩
theorem rm14_15 : ix_room 14 15 := ⟨by decide +kernel, by decide +kernel⟩
theorem rm14_16 : ix_room 14 16 := ⟨by decide +kernel, by decide +kernel⟩
theorem rm15_9 : ix_room 15 9 := ⟨by decide +kernel, by decide +kernel⟩
theorem rm15_12 : ix_room 15 12 := ⟨by decide +kernel, by decide +kernel⟩
theorem rm17_18 : ix_room 17 18 := ⟨by decide +kernel, by decide +kernel⟩
theorem rm17_25 : ix_room 17 25 := ⟨by decide +kernel, by decide +kernel⟩
theorem rm18_10 : ix_room 18 10 := ⟨by decide +kernel, by decide +kernel⟩
theorem rm18_19 : ix_room 18 19 := ⟨by decide +kernel, by decide +kernel⟩
theorem rm19_20 : ix_room 19 20 := ⟨by decide +kernel, by decide +kernel⟩
theorem rm19_21 : ix_room 19 21 := ⟨by decide +kernel, by decide +kernel⟩
theorem rm21_22 : ix_room 21 22 := ⟨by decide +kernel, by decide +kernel⟩
theorem rm21_24 : ix_room 21 24 := ⟨by decide +kernel, by decide +kernel⟩
theorem rm22_23 : ix_room 22 23 := ⟨by decide +kernel, by decide +kernel⟩
theorem rm25_26 : ix_room 25 26 := ⟨by decide +kernel, by decide +kernel⟩
theorem rm27_18 : ix_room 27 18 := ⟨by decide +kernel, by decide +kernel⟩
theorem rm27_28 : ix_room 27 28 := ⟨by decide +kernel, by decide +kernel⟩
theorem rm28_26 : ix_room 28 26 := ⟨by decide +kernel, by decide +kernel⟩
theorem rm29_30 : ix_room 29 30 := ⟨by decide +kernel, by decide +kernel⟩
theorem rm30_20 : ix_room 30 20 := ⟨by decide +kernel, by decide +kernel⟩
theorem rm30_21 : ix_room 30 21 := ⟨by decide +kernel, by decide +kernel⟩
theorem rm30_31 : ix_room 30 31 := ⟨by decide +kernel, by decide +kernel⟩
theorem rm30_48 : ix_room 30 48 := ⟨by decide +kernel, by decide +kernel⟩
theorem rm30_57 : ix_room 30 57 := ⟨by decide +kernel, by decide +kernel⟩
theorem rm31_26 : ix_room 31 26 := ⟨by decide +kernel, by decide +kernel⟩
theorem rm31_32 : ix_room 31 32 := ⟨by decide +kernel, by decide +kernel⟩
theorem rm31_46 : ix_room 31 46 := ⟨by decide +kernel, by decide +kernel⟩
theorem rm31_47 : ix_room 31 47 := ⟨by decide +kernel, by decide +kernel⟩
theorem rm32_33 : ix_room 32 33 := ⟨by decide +kernel, by decide +kernel⟩
theorem rm32_38 : ix_room 32 38 := ⟨by decide +kernel, by decide +kernel⟩
theorem rm32_42 : ix_room 32 42 := ⟨by decide +kernel, by decide +kernel⟩
theorem rm32_45 : ix_room 32 45 := ⟨by decide +kernel, by decide +kernel⟩
theorem rm33_34 : ix_room 33 34 := ⟨by decide +kernel, by decide +kernel⟩
theorem rm34_35 : ix_room 34 35 := ⟨by decide +kernel, by decide +kernel⟩
theorem rm34_36 : ix_room 34 36 := ⟨by decide +kernel, by decide +kernel⟩
theorem rm34_37 : ix_room 34 37 := ⟨by decide +kernel, by decide +kernel⟩
theorem rm38_34 : ix_room 38 34 := ⟨by decide +kernel, by decide +kernel⟩
theorem rm38_39 : ix_room 38 39 := ⟨by decide +kernel, by decide +kernel⟩
theorem rm38_40 : ix_room 38 40 := ⟨by decide +kernel, by decide +kernel⟩
theorem rm40_39 : ix_room 40 39 := ⟨by decide +kernel, by decide +kernel⟩
theorem rm40_41 : ix_room 40 41 := ⟨by decide +kernel, by decide +kernel⟩
theorem rm42_16 : ix_room 42 16 := ⟨by decide +kernel, by decide +kernel⟩
theorem rm42_34 : ix_room 42 34 := ⟨by decide +kernel, by decide +kernel⟩
theorem rm42_43 : ix_room 42 43 := ⟨by decide +kernel, by decide +kernel⟩
theorem rm43_44 : ix_room 43 44 := ⟨by decide +kernel, by decide +kernel⟩
theorem rm46_33 : ix_room 46 33 := ⟨by decide +kernel, by decide +kernel⟩
theorem rm46_38 : ix_room 46 38 := ⟨by decide +kernel, by decide +kernel⟩
theorem rm47_42 : ix_room 47 42 := ⟨by decide +kernel, by decide +kernel⟩
theorem rm48_45 : ix_room 48 45 := ⟨by decide +kernel, by decide +kernel⟩
theorem rm48_49 : ix_room 48 49 := ⟨by decide +kernel, by decide +kernel⟩
theorem rm48_50 : ix_room 48 50 := ⟨by decide +kernel, by decide +kernel⟩
theorem rm48_53 : ix_room 48 53 := ⟨by decide +kernel, by decide +kernel⟩
theorem rm48_56 : ix_room 48 56 := ⟨by decide +kernel, by decide +kernel⟩
theorem rm50_51 : ix_room 50 51 := ⟨by decide +kernel, by decide +kernel⟩
theorem rm51_52 : ix_room 51 52 := ⟨by decide +kernel, by decide +kernel⟩
theorem rm52_36 : ix_room 52 36 := ⟨by decide +kernel, by decide +kernel⟩
theorem rm52_37 : ix_room 52 37 := ⟨by decide +kernel, by decide +kernel⟩
theorem rm53_52 : ix_room 53 52 := ⟨by decide +kernel, by decide +kernel⟩
theorem rm53_54 : ix_room 53 54 := ⟨by decide +kernel, by decide +kernel⟩
theorem rm54_55 : ix_room 54 55 := ⟨by decide +kernel, by decide +kernel⟩
theorem rm56_45 : ix_room 56 45 := ⟨by decide +kernel, by decide +kernel⟩
theorem rm56_51 : ix_room 56 51 := ⟨by decide +kernel, by decide +kernel⟩
theorem rm57_20 : ix_room 57 20 := ⟨by decide +kernel, by decide +kernel⟩
theorem rm57_21 : ix_room 57 21 := ⟨by decide +kernel, by decide +kernel⟩
theorem rm57_26 : ix_room 57 26 := ⟨by decide +kernel, by decide +kernel⟩
theorem rm57_58 : ix_room 57 58 := ⟨by decide +kernel, by decide +kernel⟩
theorem rm58_22 : ix_room 58 22 := ⟨by decide +kernel, by decide +kernel⟩
theorem rm58_59 : ix_room 58 59 := ⟨by decide +kernel, by decide +kernel⟩
theorem rm60_61 : ix_room 60 61 := ⟨by decide +kernel, by decide +kernel⟩
theorem rm60_63 : ix_room 60 63 := ⟨by decide +kernel, by decide +kernel⟩
theorem rm60_66 : ix_room 60 66 := ⟨by decide +kernel, by decide +kernel⟩
theorem rm61_62 : ix_room 61 62 := ⟨by decide +kernel, by decide +kernel⟩
theorem rm63_19 : ix_room 63 19 := ⟨by decide +kernel, by decide +kernel⟩
theorem rm63_57 : ix_room 63 57 := ⟨by decide +kernel, by decide +kernel⟩
theorem rm63_64 : ix_room 63 64 := ⟨by decide +kernel, by decide +kernel⟩
theorem rm64_26 : ix_room 64 26 := ⟨by decide +kernel, by decide +kernel⟩
theorem rm64_34 : ix_room 64 34 := ⟨by decide +kernel, by decide +kernel⟩
theorem rm64_45 : ix_room 64 45 := ⟨by decide +kernel, by decide +kernel⟩
theorem rm64_65 : ix_room 64 65 := ⟨by decide +kernel, by decide +kernel⟩
theorem rm66_57 : ix_room 66 57 := ⟨by decide +kernel, by decide +kernel⟩
theorem rm66_67 : ix_room 66 67 := ⟨by decide +kernel, by decide +kernel⟩
theorem rm66_79 : ix_room 66 79 := ⟨by decide +kernel, by decide +kernel⟩
theorem rm67_20 : ix_room 67 20 := ⟨by decide +kernel, by decide +kernel⟩
theorem rm67_68 : ix_room 67 68 := ⟨by decide +kernel, by decide +kernel⟩
theorem rm67_69 : ix_room 67 69 := ⟨by decide +kernel, by decide +kernel⟩
theorem rm69_70 : ix_room 69 70 := ⟨by decide +kernel, by decide +kernel⟩
theorem rm70_71 : ix_room 70 71 := ⟨by decide +kernel, by decide +kernel⟩
theorem rm71_72 : ix_room 71 72 := ⟨by decide +kernel, by decide +kernel⟩
theorem rm72_73 : ix_room 72 73 := ⟨by decide +kernel, by decide +kernel⟩
theorem rm72_74 : ix_room 72 74 := ⟨by decide +kernel, by decide +kernel⟩
theorem rm72_76 : ix_room 72 76 := ⟨by decide +kernel, by decide +kernel⟩
theorem rm73_74 : ix_room 73 74 := ⟨by decide +kernel, by decide +kernel⟩
theorem rm73_75 : ix_room 73 75 := ⟨by decide +kernel, by decide +kernel⟩
theorem rm76_77 : ix_room 76 77 := ⟨by decide +kernel, by decide +kernel⟩
theorem rm77_78 : ix_room 77 78 := ⟨by decide +kernel, by decide +kernel⟩
theorem rm79_45 : ix_room 79 45 := ⟨by decide +kernel, by decide +kernel⟩
theorem rm79_49 : ix_room 79 49 := ⟨by decide +kernel, by decide +kernel⟩
theorem rm79_52 : ix_room 79 52 := ⟨by decide +kernel, by decide +kernel⟩
theorem rm79_56 : ix_room 79 56 := ⟨by decide +kernel, by decide +kernel⟩
theorem rm79_80 : ix_room 79 80 := ⟨by decide +kernel, by decide +kernel⟩
theorem rm79_82 : ix_room 79 82 := ⟨by decide +kernel, by decide +kernel⟩
theorem rm79_83 : ix_room 79 83 := ⟨by decide +kernel, by decide +kernel⟩
theorem rm79_89 : ix_room 79 89 := ⟨by decide +kernel, by decide +kernel⟩
theorem rm80_81 : ix_room 80 81 := ⟨by decide +kernel, by decide +kernel⟩
theorem rm82_54 : ix_room 82 54 := ⟨by decide +kernel, by decide +kernel⟩
theorem rm83_44 : ix_room 83 44 := ⟨by decide +kernel, by decide +kernel⟩
theorem rm83_84 : ix_room 83 84 := ⟨by decide +kernel, by decide +kernel⟩
theorem rm83_85 : ix_room 83 85 := ⟨by decide +kernel, by decide +kernel⟩
theorem rm83_86 : ix_room 83 86 := ⟨by decide +kernel, by decide +kernel⟩
theorem rm84_20 : ix_room 84 20 := ⟨by decide +kernel, by decide +kernel⟩
theorem rm84_21 : ix_room 84 21 := ⟨by decide +kernel, by decide +kernel⟩
theorem rm86_12 : ix_room 86 12 := ⟨by decide +kernel, by decide +kernel⟩
theorem rm86_84 : ix_room 86 84 := ⟨by decide +kernel, by decide +kernel⟩
theorem rm86_87 : ix_room 86 87 := ⟨by decide +kernel, by decide +kernel⟩
theorem rm86_88 : ix_room 86 88 := ⟨by decide +kernel, by decide +kernel⟩
theorem rm87_85 : ix_room 87 85 := ⟨by decide +kernel, by decide +kernel⟩
theorem rm89_45 : ix_room 89 45 := ⟨by decide +kernel, by decide +kernel⟩
theorem rm89_53 : ix_room 89 53 := ⟨by decide +kernel, by decide +kernel⟩
theorem rm90_61 : ix_room 90 61 := ⟨by decide +kernel, by decide +kernel⟩
theorem rm91_37 : ix_room 91 37 := ⟨by decide +kernel, by decide +kernel⟩
theorem rm91_62 : ix_room 91 62 := ⟨by decide +kernel, by decide +kernel⟩
theorem rm91_92 : ix_room 91 92 := ⟨by decide +kernel, by decide +kernel⟩
theorem rm91_93 : ix_room 91 93 := ⟨by decide +kernel, by decide +kernel⟩
theorem rm93_36 : ix_room 93 36 := ⟨by decide +kernel, by decide +kernel⟩
theorem rm94_62 : ix_room 94 62 := ⟨by decide +kernel, by decide +kernel⟩
theorem rm96_62 : ix_room 96 62 := ⟨by decide +kernel, by decide +kernel⟩
theorem rm97_18 : ix_room 97 18 := ⟨by decide +kernel, by decide +kernel⟩
theorem rm97_26 : ix_room 97 26 := ⟨by decide +kernel, by decide +kernel⟩
theorem rm98_49 : ix_room 98 49 := ⟨by decide +kernel, by decide +kernel⟩
theorem rm98_99 : ix_room 98 99 := ⟨by decide +kernel, by decide +kernel⟩
theorem rm99_18 : ix_room 99 18 := ⟨by decide +kernel, by decide +kernel⟩
theorem rm100_99 : ix_room 100 99 := ⟨by decide +kernel, by decide +kernel⟩
theorem rm102_103 : ix_room 102 103 := ⟨by decide +kernel, by decide +kernel⟩
theorem rm103_9 : ix_room 103 9 := ⟨by decide +kernel, by decide +kernel⟩
theorem rm103_12 : ix_room 103 12 := ⟨by decide +kernel, by decide +kernel⟩
theorem rm103_16 : ix_room 103 16 := ⟨by decide +kernel, by decide +kernel⟩
theorem rm103_84 : ix_room 103 84 := ⟨by decide +kernel, by decide +kernel⟩
theorem rm103_104 : ix_room 103 104 := ⟨by decide +kernel, by decide +kernel⟩
theorem rm105_106 : ix_room 105 106 := ⟨by decide +kernel, by decide +kernel⟩
theorem rm106_15 : ix_room 106 15 := ⟨by decide +kernel, by decide +kernel⟩
theorem rm106_84 : ix_room 106 84 := ⟨by decide +kernel, by decide +kernel⟩
theorem rm106_88 : ix_room 106 88 := ⟨by decide +kernel, by decide +kernel⟩
theorem rm107_108 : ix_room 107 108 := ⟨by decide +kernel, by decide +kernel⟩
theorem rm108_15 : ix_room 108 15 := ⟨by decide +kernel, by decide +kernel⟩
theorem rm108_16 : ix_room 108 16 := ⟨by decide +kernel, by decide +kernel⟩
theorem rm108_41 : ix_room 108 41 := ⟨by decide +kernel, by decide +kernel⟩
theorem rm109_110 : ix_room 109 110 := ⟨by decide +kernel, by decide +kernel⟩
theorem rm110_9 : ix_room 110 9 := ⟨by decide +kernel, by decide +kernel⟩
theorem rm110_11 : ix_room 110 11 := ⟨by decide +kernel, by decide +kernel⟩
theorem rm110_12 : ix_room 110 12 := ⟨by decide +kernel, by decide +kernel⟩
theorem rm110_20 : ix_room 110 20 := ⟨by decide +kernel, by decide +kernel⟩
theorem rm110_111 : ix_room 110 111 := ⟨by decide +kernel, by decide +kernel⟩
theorem rm110_112 : ix_room 110 112 := ⟨by decide +kernel, by decide +kernel⟩
theorem rm110_113 : ix_room 110 113 := ⟨by decide +kernel, by decide +kernel⟩
theorem rm112_16 : ix_room 112 16 := ⟨by decide +kernel, by decide +kernel⟩
theorem rm112_55 : ix_room 112 55 := ⟨by decide +kernel, by decide +kernel⟩
theorem rm113_69 : ix_room 113 69 := ⟨by decide +kernel, by decide +kernel⟩
theorem rm116_117 : ix_room 116 117 := ⟨by decide +kernel, by decide +kernel⟩
theorem rm117_118 : ix_room 117 118 := ⟨by decide +kernel, by decide +kernel⟩
theorem rm119_117 : ix_room 119 117 := ⟨by decide +kernel, by decide +kernel⟩
theorem rm119_118 : ix_room 119 118 := ⟨by decide +kernel, by decide +kernel⟩
theorem rm119_120 : ix_room 119 120 := ⟨by decide +kernel, by decide +kernel⟩
theorem rm119_121 : ix_room 119 121 := ⟨by decide +kernel, by decide +kernel⟩
theorem rm122_117 : ix_room 122 117 := ⟨by decide +kernel, by decide +kernel⟩
theorem rm122_121 : ix_room 122 121 := ⟨by decide +kernel, by decide +kernel⟩
theorem rm123_117 : ix_room 123 117 := ⟨by decide +kernel, by decide +kernel⟩
theorem rm124_117 : ix_room 124 117 := ⟨by decide +kernel, by decide +kernel⟩
theorem rm124_120 : ix_room 124 120 := ⟨by decide +kernel, by decide +kernel⟩
theorem rm125_117 : ix_room 125 117 := ⟨by decide +kernel, by decide +kernel⟩
theorem rm125_118 : ix_room 125 118 := ⟨by decide +kernel, by decide +kernel⟩
theorem rm125_120 : ix_room 125 120 := ⟨by decide +kernel, by decide +kernel⟩
theorem rm126_127 : ix_room 126 127 := ⟨by decide +kernel, by decide +kernel⟩
theorem rm127_118 : ix_room 127 118 := ⟨by decide +kernel, by decide +kernel⟩
theorem rm128_127 : ix_room 128 127 := ⟨by decide +kernel, by decide +kernel⟩
theorem rm129_130 : ix_room 129 130 := ⟨by decide +kernel, by decide +kernel⟩
theorem rm129_141 : ix_room 129 141 := ⟨by decide +kernel, by decide +kernel⟩
theorem rm130_131 : ix_room 130 131 := ⟨by decide +kernel, by decide +kernel⟩
theorem rm130_132 : ix_room 130 132 := ⟨by decide +kernel, by decide +kernel⟩
theorem rm130_133 : ix_room 130 133 := ⟨by decide +kernel, by decide +kernel⟩
theorem rm130_137 : ix_room 130 137 := ⟨by decide +kernel, by decide +kernel⟩
theorem rm130_138 : ix_room 130 138 := ⟨by decide +kernel, by decide +kernel⟩
theorem rm130_139 : ix_room 130 139 := ⟨by decide +kernel, by decide +kernel⟩
theorem rm130_140 : ix_room 130 140 := ⟨by decide +kernel, by decide +kernel⟩
theorem rm133_131 : ix_room 133 131 := ⟨by decide +kernel, by decide +kernel⟩
theorem rm133_134 : ix_room 133 134 := ⟨by decide +kernel, by decide +kernel⟩
theorem rm133_136 : ix_room 133 136 := ⟨by decide +kernel, by decide +kernel⟩
theorem rm133_137 : ix_room 133 137 := ⟨by decide +kernel, by decide +kernel⟩
theorem rm134_132 : ix_room 134 132 := ⟨by decide +kernel, by decide +kernel⟩
theorem rm134_135 : ix_room 134 135 := ⟨by decide +kernel, by decide +kernel⟩
theorem rm138_136 : ix_room 138 136 := ⟨by decide +kernel, by decide +kernel⟩
theorem rm139_131 : ix_room 139 131 := ⟨by decide +kernel, by decide +kernel⟩
theorem rm139_135 : ix_room 139 135 := ⟨by decide +kernel, by decide +kernel⟩
theorem rm139_136 : ix_room 139 136 := ⟨by decide +kernel, by decide +kernel⟩
theorem rm140_138 : ix_room 140 138 := ⟨by decide +kernel, by decide +kernel⟩
theorem rm140_139 : ix_room 140 139 := ⟨by decide +kernel, by decide +kernel⟩
theorem rm141_142 : ix_room 141 142 := ⟨by decide +kernel, by decide +kernel⟩
theorem rm141_143 : ix_room 141 143 := ⟨by decide +kernel, by decide +kernel⟩
theorem rm141_144 : ix_room 141 144 := ⟨by decide +kernel, by decide +kernel⟩
theorem rm141_145 : ix_room 141 145 := ⟨by decide +kernel, by decide +kernel⟩
theorem rm143_136 : ix_room 143 136 := ⟨by decide +kernel, by decide +kernel⟩
theorem rm144_142 : ix_room 144 142 := ⟨by decide +kernel, by decide +kernel⟩
theorem rm144_143 : ix_room 144 143 := ⟨by decide +kernel, by decide +kernel⟩
theorem rm145_132 : ix_room 145 132 := ⟨by decide +kernel, by decide +kernel⟩
theorem rm145_136 : ix_room 145 136 := ⟨by decide +kernel, by decide +kernel⟩
theorem rm145_146 : ix_room 145 146 := ⟨by decide +kernel, by decide +kernel⟩
theorem rm146_132 : ix_room 146 132 := ⟨by decide +kernel, by decide +kernel⟩
theorem rm147_148 : ix_room 147 148 := ⟨by decide +kernel, by decide +kernel⟩
theorem rm147_149 : ix_room 147 149 := ⟨by decide +kernel, by decide +kernel⟩
theorem rm147_150 : ix_room 147 150 := ⟨by decide +kernel, by decide +kernel⟩
theorem rm147_152 : ix_room 147 152 := ⟨by decide +kernel, by decide +kernel⟩
theorem rm150_127 : ix_room 150 127 := ⟨by decide +kernel, by decide +kernel⟩
theorem rm150_136 : ix_room 150 136 := ⟨by decide +kernel, by decide +kernel⟩
theorem rm150_137 : ix_room 150 137 := ⟨by decide +kernel, by decide +kernel⟩
theorem rm150_151 : ix_room 150 151 := ⟨by decide +kernel, by decide +kernel⟩
theorem rm151_131 : ix_room 151 131 := ⟨by decide +kernel, by decide +kernel⟩
theorem rm151_132 : ix_room 151 132 := ⟨by decide +kernel, by decide +kernel⟩
theorem rm152_136 : ix_room 152 136 := ⟨by decide +kernel, by decide +kernel⟩
theorem rm152_142 : ix_room 152 142 := ⟨by decide +kernel, by decide +kernel⟩
theorem rm152_144 : ix_room 152 144 := ⟨by decide +kernel, by decide +kernel⟩
theorem rm152_145 : ix_room 152 145 := ⟨by decide +kernel, by decide +kernel⟩
theorem rm152_146 : ix_room 152 146 := ⟨by decide +kernel, by decide +kernel⟩
theorem rm152_153 : ix_room 152 153 := ⟨by decide +kernel, by decide +kernel⟩
theorem rm152_154 : ix_room 152 154 := ⟨by decide +kernel, by decide +kernel⟩
theorem rm154_121 : ix_room 154 121 := ⟨by decide +kernel, by decide +kernel⟩
theorem rm154_144 : ix_room 154 144 := ⟨by decide +kernel, by decide +kernel⟩
theorem rm154_155 : ix_room 154 155 := ⟨by decide +kernel, by decide +kernel⟩
theorem rm154_156 : ix_room 154 156 := ⟨by decide +kernel, by decide +kernel⟩
theorem rm156_121 : ix_room 156 121 := ⟨by decide +kernel, by decide +kernel⟩
theorem rm157_148 : ix_room 157 148 := ⟨by decide +kernel, by decide +kernel⟩
theorem rm157_149 : ix_room 157 149 := ⟨by decide +kernel, by decide +kernel⟩
theorem rm158_148 : ix_room 158 148 := ⟨by decide +kernel, by decide +kernel⟩
theorem rm159_148 : ix_room 159 148 := ⟨by decide +kernel, by decide +kernel⟩
theorem rm161_118 : ix_room 161 118 := ⟨by decide +kernel, by decide +kernel⟩
theorem rm161_148 : ix_room 161 148 := ⟨by decide +kernel, by decide +kernel⟩
theorem rm162_127 : ix_room 162 127 := ⟨by decide +kernel, by decide +kernel⟩
theorem rm163_127 : ix_room 163 127 := ⟨by decide +kernel, by decide +kernel⟩
theorem rm164_127 : ix_room 164 127 := ⟨by decide +kernel, by decide +kernel⟩
theorem nl0_8 : ix_NL "FileDeliveryLaw" 8 0 := ⟨by decide, rfl, ix_uw0, ix_in 85 (by decide +kernel) (by decide +kernel), ix_in 86 (by decide +kernel) (by decide +kernel), ix_in 60 (by decide +kernel) (by decide +kernel)⟩
theorem nl0_42 : ix_NL "FileDeliveryLaw" 42 8 := ⟨by decide, rfl, ix_uw8, ix_in 946 (by decide +kernel) (by decide +kernel), ix_in 947 (by decide +kernel) (by decide +kernel), ix_in 67 (by decide +kernel) (by decide +kernel)⟩
theorem nl1_13 : ix_NL "FileDelivery" 13 4 := ⟨by decide, rfl, ix_uw4, ix_in 93 (by decide +kernel) (by decide +kernel), ix_in 95 (by decide +kernel) (by decide +kernel), ix_in 61 (by decide +kernel) (by decide +kernel)⟩
theorem nl1_20 : ix_NL "FileDelivery" 20 1 := ⟨by decide, rfl, ix_uw1, ix_in 161 (by decide +kernel) (by decide +kernel), ix_in 162 (by decide +kernel) (by decide +kernel), ix_in 66 (by decide +kernel) (by decide +kernel)⟩
theorem nl2_7 : ix_NL "FileDelivery$Side" 7 5 := ⟨by decide, rfl, ix_uw5, ix_in 100 (by decide +kernel) (by decide +kernel), ix_in 101 (by decide +kernel) (by decide +kernel), ix_in 62 (by decide +kernel) (by decide +kernel)⟩
theorem nl2_16 : ix_NL "FileDelivery$Side" 16 9 := ⟨by decide, rfl, ix_uw9, ix_in 117 (by decide +kernel) (by decide +kernel), ix_in 118 (by decide +kernel) (by decide +kernel), ix_in 65 (by decide +kernel) (by decide +kernel)⟩
theorem nl10_121 : ix_NL "FileDelivery$Sender" 121 7 := ⟨by decide, rfl, ix_uw7, ix_in 295 (by decide +kernel) (by decide +kernel), ix_in 296 (by decide +kernel) (by decide +kernel), ix_in 83 (by decide +kernel) (by decide +kernel)⟩
theorem nl13_71 : ix_NL "FileDelivery$Receiver" 71 7 := ⟨by decide, rfl, ix_uw7, ix_in 403 (by decide +kernel) (by decide +kernel), ix_in 296 (by decide +kernel) (by decide +kernel), ix_in 83 (by decide +kernel) (by decide +kernel)⟩
theorem nl1_206 : ix_NL "FileDelivery" 206 2 := ⟨by decide, rfl, ix_uw2, ix_in 472 (by decide +kernel) (by decide +kernel), ix_in 393 (by decide +kernel) (by decide +kernel), ix_in 84 (by decide +kernel) (by decide +kernel)⟩
theorem nl12_8 : ix_NL "FileDelivery$Unit" 8 7 := ⟨by decide, rfl, ix_uw7, ix_in 648 (by decide +kernel) (by decide +kernel), ix_in 296 (by decide +kernel) (by decide +kernel), ix_in 83 (by decide +kernel) (by decide +kernel)⟩
theorem nl1_115 : ix_NL "FileDelivery" 115 6 := ⟨by decide, rfl, ix_uw6, ix_in 843 (by decide +kernel) (by decide +kernel), ix_in 844 (by decide +kernel) (by decide +kernel), ix_in 77 (by decide +kernel) (by decide +kernel)⟩
theorem nl1_120 : ix_NL "FileDelivery" 120 3 := ⟨by decide, rfl, ix_uw3, ix_in 883 (by decide +kernel) (by decide +kernel), ix_in 285 (by decide +kernel) (by decide +kernel), ix_in 78 (by decide +kernel) (by decide +kernel)⟩
theorem oi_I : Cond.instanceMethod objectInit ∈ ix_words := ix_in 91 (by decide +kernel) (by decide +kernel)
set_option maxRecDepth 100000 in
theorem oi_C : Cond.code objectInit ⟨#[0xb1]⟩ 1 none ∈ ix_words := ix_in 92 rfl rfl
theorem oi1_1 : Cond.methodLink "FileDelivery" 1 objectInit ∈ ix_words := ix_in 90 (by decide +kernel) (by decide +kernel)
theorem oi7_3 : Cond.methodLink "FileDelivery$Link" 3 objectInit ∈ ix_words := ix_in 166 (by decide +kernel) (by decide +kernel)
theorem oi13_3 : Cond.methodLink "FileDelivery$Receiver" 3 objectInit ∈ ix_words := ix_in 476 (by decide +kernel) (by decide +kernel)
theorem oi10_3 : Cond.methodLink "FileDelivery$Sender" 3 objectInit ∈ ix_words := ix_in 887 (by decide +kernel) (by decide +kernel)
theorem oi2_1 : Cond.methodLink "FileDelivery$Side" 1 objectInit ∈ ix_words := ix_in 99 (by decide +kernel) (by decide +kernel)
theorem oi3_3 : Cond.methodLink "FileDelivery$Store" 3 objectInit ∈ ix_words := ix_in 105 (by decide +kernel) (by decide +kernel)
theorem oi11_3 : Cond.methodLink "FileDelivery$Transaction" 3 objectInit ∈ ix_words := ix_in 848 (by decide +kernel) (by decide +kernel)
theorem oi12_1 : Cond.methodLink "FileDelivery$Unit" 1 objectInit ∈ ix_words := ix_in 304 (by decide +kernel) (by decide +kernel)
theorem oi17_1 : Cond.methodLink "FileDeliveryModel" 1 objectInit ∈ ix_words := ix_in 951 (by decide +kernel) (by decide +kernel)
theorem oi6_1 : Cond.methodLink "java/util/AbstractCollection" 1 objectInit ∈ ix_words := ix_in 128 (by decide +kernel) (by decide +kernel)
end
section
/-! ===== small rows for the methods' contracts ===== -/
def bI (c : Prop) [Decidable c] : Int32 := if c then 1 else 0
theorem bI_t {c : Prop} [Decidable c] (h : c) : bI c = 1 := if_pos h
theorem bI_f {c : Prop} [Decidable c] (h : ¬ c) : bI c = 0 := if_neg h
theorem bI_01 (c : Prop) [Decidable c] : bI c = 0 ∨ bI c = 1 := by
  unfold bI
  split
  · exact Or.inr rfl
  · exact Or.inl rfl
theorem bI_0 {c : Prop} [Decidable c] : bI c = 0 ↔ ¬ c := by
  unfold bI
  split
  · rename_i h; exact ⟨fun e => absurd e (by decide), fun e => absurd h e⟩
  · rename_i h; exact ⟨fun _ => h, fun _ => rfl⟩
theorem bI_1 {c : Prop} [Decidable c] : bI c = 1 ↔ c := by
  unfold bI
  split
  · rename_i h; exact ⟨fun _ => h, fun _ => rfl⟩
  · rename_i h; exact ⟨fun e => absurd e (by decide), fun e => absurd e h⟩
theorem ix_bz {x : Int32} (h : x = 0 ∨ x = 1) : narrow .boolean (.int x) = .int x ∧ fits .boolean (.int x) = true := by
  rcases h with rfl | rfl <;> exact ⟨by decide +kernel, by decide +kernel⟩
theorem ix_ofE {G : ix_G} {m pc : Nat} {lv : List (Nat × Value)} {st : List Value} {h h' : ix_H} {r : ix_O} (hE : ix_E G m pc lv st h (fun r1 h1 => r1 = r ∧ h1 = h')) : ix_Ev G m pc lv st h r h' := by
  obtain ⟨r1, h1, q, e1, e2⟩ := hE
  subst e1
  subst e2
  exact q
section IE2
variable {G : ix_G} {m pc : Nat} {lv : List (Nat × Value)} {stk st : List Value} {h h1 : ix_H} {rv : ix_O} {P : ix_O → ix_H → Prop}
theorem ie_callVx {i k kc n b : Nat} (as : List Value) (hd : decode (ix_by m) pc = .ok (.invokevirtual i, 3)) (hk : ix_ok k n) (hroom : ix_room m k) (hL : ix_VL (ix_own m) i k kc) (hstk : stk = as.reverse ++ .ref b :: st) (hn : as.length = n) (hcat : (st.map fun v => v.category).sum ≤ 8) (hsl : (lg_sl (.ref b :: as)).length ≤ ix_mL k) (hb : ix_tg h b = kc + 1) (hM : ix_Ev G k 0 (lv_args 0 (.ref b :: as)) [] h rv h1) (kk : ix_E G m (pc + 3) lv (rv.toList ++ st) h1 P) : ix_E G m pc lv stk h P := by
  obtain ⟨r, h', q, hp⟩ := kk
  exact ⟨r, h', ix_callV as hd hk hroom hL hstk hn hcat hsl hb hM q, hp⟩
theorem ie_callSx {i k n : Nat} (as : List Value) (hd : decode (ix_by m) pc = .ok (.invokestatic i, 3)) (hk : ix_ok k n) (hroom : ix_room m k) (hL : ix_SL (ix_own m) i k) (hstk : stk = as.reverse ++ st) (hn : as.length = n) (hcat : (st.map fun v => v.category).sum ≤ 8) (hsl : (lg_sl as).length ≤ ix_mL k) (hM : ix_Ev G k 0 (lv_args 0 as) [] h rv h1) (kk : ix_E G m (pc + 3) lv (rv.toList ++ st) h1 P) : ix_E G m pc lv stk h P := by
  obtain ⟨r, h', q, hp⟩ := kk
  exact ⟨r, h', ix_callS as hd hk hroom hL hstk hn hcat hsl hM q, hp⟩
theorem ie_callIx {i k n b : Nat} (as : List Value) (hd : decode (ix_by m) pc = .ok (.invokespecial i, 3)) (hk : ix_ok k n) (hroom : ix_room m k) (hL : ix_IL (ix_own m) i k) (hstk : stk = as.reverse ++ .ref b :: st) (hn : as.length = n) (hcat : (st.map fun v => v.category).sum ≤ 8) (hsl : (lg_sl (.ref b :: as)).length ≤ ix_mL k) (hM : ix_Ev G k 0 (lv_args 0 (.ref b :: as)) [] h none h1) (kk : ix_E G m (pc + 3) lv st h1 P) : ix_E G m pc lv stk h P := by
  obtain ⟨r, h', q, hp⟩ := kk
  exact ⟨r, h', ix_callI as hd hk hroom hL hstk hn hcat hsl hM q, hp⟩
end IE2
/-- the numbers that the code writes -/
theorem tI : (0 : Int32).toInt = 0 ∧ (1 : Int32).toInt = 1 ∧ (2 : Int32).toInt = 2 ∧ (3 : Int32).toInt = 3 ∧ (4 : Int32).toInt = 4 ∧ (5 : Int32).toInt = 5 ∧ (6 : Int32).toInt = 6 ∧ (7 : Int32).toInt = 7 ∧ (8 : Int32).toInt = 8 ∧ (15 : Int32).toInt = 15 ∧ (16 : Int32).toInt = 16 ∧ (24 : Int32).toInt = 24 ∧ (64 : Int32).toInt = 64 ∧ (320 : Int32).toInt = 320 ∧ (512 : Int32).toInt = 512 ∧ (-1 : Int32).toInt = -1 := by decide +kernel
end
section
set_option maxRecDepth 100000 in
set_option maxHeartbeats 4000000 in
/-- isEntity -/
theorem s10 {G : ix_G} {h : ix_H} (e : Int32) : ix_Ev G 10 0 (lv_args 0 [.int e]) [] h (some (.int (bI (0 ≤ e ∧ e < 2)))) (h) := by
  refine ix_ofE ?_
  refine ie_iload_n d10_0 rfl ?_
  refine ie_if_lt 13 d10_1 (by decide) (fun c1 => ?_) (fun c1 => ?_)
  · skip
    refine ie_iconst (0) d10_13 (by decide) ?_
    exact ie_iret d10_14 rfl (by first | rfl | decide) ⟨congrArg (fun z => some (Value.int z)) (by unfold bI; split <;> first | rfl | (exfalso; (((try simp only [bI_0, bI_1] at *); simp only [Int32.le_iff_toInt_le, Int32.lt_iff_toInt_lt, ← Int32.toInt_inj, tI] at *) <;> omega))), rfl⟩
  · skip
    refine ie_iload_n d10_4 rfl ?_
    refine ie_iconst (2) d10_5 (by decide) ?_
    refine ie_icmp_ge 13 d10_6 (by decide) (fun c6 => ?_) (fun c6 => ?_)
    · skip
      refine ie_iconst (0) d10_13 (by decide) ?_
      exact ie_iret d10_14 rfl (by first | rfl | decide) ⟨congrArg (fun z => some (Value.int z)) (by unfold bI; split <;> first | rfl | (exfalso; (((try simp only [bI_0, bI_1] at *); simp only [Int32.le_iff_toInt_le, Int32.lt_iff_toInt_lt, ← Int32.toInt_inj, tI] at *) <;> omega))), rfl⟩
    · skip
      refine ie_iconst (1) d10_9 (by decide) ?_
      refine ie_goto 14 d10_10 (by decide) ?_
      exact ie_iret d10_14 rfl (by first | rfl | decide) ⟨congrArg (fun z => some (Value.int z)) (by unfold bI; split <;> first | rfl | (exfalso; (((try simp only [bI_0, bI_1] at *); simp only [Int32.le_iff_toInt_le, Int32.lt_iff_toInt_lt, ← Int32.toInt_inj, tI] at *) <;> omega))), rfl⟩
set_option maxRecDepth 100000 in
set_option maxHeartbeats 4000000 in
/-- isFileNumber -/
theorem s11 {G : ix_G} {h : ix_H} (f : Int32) : ix_Ev G 11 0 (lv_args 0 [.int f]) [] h (some (.int (bI (0 ≤ f ∧ f < 6)))) (h) := by
  refine ix_ofE ?_
  refine ie_iload_n d11_0 rfl ?_
  refine ie_if_lt 14 d11_1 (by decide) (fun c1 => ?_) (fun c1 => ?_)
  · skip
    refine ie_iconst (0) d11_14 (by decide) ?_
    exact ie_iret d11_15 rfl (by first | rfl | decide) ⟨congrArg (fun z => some (Value.int z)) (by unfold bI; split <;> first | rfl | (exfalso; (((try simp only [bI_0, bI_1] at *); simp only [Int32.le_iff_toInt_le, Int32.lt_iff_toInt_lt, ← Int32.toInt_inj, tI] at *) <;> omega))), rfl⟩
  · skip
    refine ie_iload_n d11_4 rfl ?_
    refine ie_bipush (6) d11_5 (by decide) ?_
    refine ie_icmp_ge 14 d11_7 (by decide) (fun c7 => ?_) (fun c7 => ?_)
    · skip
      refine ie_iconst (0) d11_14 (by decide) ?_
      exact ie_iret d11_15 rfl (by first | rfl | decide) ⟨congrArg (fun z => some (Value.int z)) (by unfold bI; split <;> first | rfl | (exfalso; (((try simp only [bI_0, bI_1] at *); simp only [Int32.le_iff_toInt_le, Int32.lt_iff_toInt_lt, ← Int32.toInt_inj, tI] at *) <;> omega))), rfl⟩
    · skip
      refine ie_iconst (1) d11_10 (by decide) ?_
      refine ie_goto 15 d11_11 (by decide) ?_
      exact ie_iret d11_15 rfl (by first | rfl | decide) ⟨congrArg (fun z => some (Value.int z)) (by unfold bI; split <;> first | rfl | (exfalso; (((try simp only [bI_0, bI_1] at *); simp only [Int32.le_iff_toInt_le, Int32.lt_iff_toInt_lt, ← Int32.toInt_inj, tI] at *) <;> omega))), rfl⟩
set_option maxRecDepth 100000 in
set_option maxHeartbeats 4000000 in
/-- isFile -/
theorem s9 {G : ix_G} {h : ix_H} (e f : Int32) : ix_Ev G 9 0 (lv_args 0 [.int e, .int f]) [] h (some (.int (bI ((0 ≤ e ∧ e < 2) ∧ 0 ≤ f ∧ f < 6)))) (h) := by
  refine ix_ofE ?_
  refine ie_iload_n d9_0 rfl ?_
  refine ie_callSx [_] d9_1 ok10 rm9_10 cl1_218 rfl rfl (Nat.le_of_ble_eq_true rfl) (Nat.le_of_ble_eq_true rfl) (s10 _) ?_
  refine ie_if_eq 18 d9_4 (by decide) (fun c4 => ?_) (fun c4 => ?_)
  · skip
    refine ie_iconst (0) d9_18 (by decide) ?_
    exact ie_iret d9_19 rfl (by first | rfl | decide) ⟨congrArg (fun z => some (Value.int z)) (by unfold bI; split <;> first | rfl | (exfalso; (((try simp only [bI_0, bI_1] at *); simp only [Int32.le_iff_toInt_le, Int32.lt_iff_toInt_lt, ← Int32.toInt_inj, tI] at *) <;> omega))), rfl⟩
  · skip
    refine ie_iload_n d9_7 rfl ?_
    refine ie_callSx [_] d9_8 ok11 rm9_11 cl1_93 rfl rfl (Nat.le_of_ble_eq_true rfl) (Nat.le_of_ble_eq_true rfl) (s11 _) ?_
    refine ie_if_eq 18 d9_11 (by decide) (fun c11 => ?_) (fun c11 => ?_)
    · skip
      refine ie_iconst (0) d9_18 (by decide) ?_
      exact ie_iret d9_19 rfl (by first | rfl | decide) ⟨congrArg (fun z => some (Value.int z)) (by unfold bI; split <;> first | rfl | (exfalso; (((try simp only [bI_0, bI_1] at *); simp only [Int32.le_iff_toInt_le, Int32.lt_iff_toInt_lt, ← Int32.toInt_inj, tI] at *) <;> omega))), rfl⟩
    · skip
      refine ie_iconst (1) d9_14 (by decide) ?_
      refine ie_goto 19 d9_15 (by decide) ?_
      exact ie_iret d9_19 rfl (by first | rfl | decide) ⟨congrArg (fun z => some (Value.int z)) (by unfold bI; split <;> first | rfl | (exfalso; (((try simp only [bI_0, bI_1] at *); simp only [Int32.le_iff_toInt_le, Int32.lt_iff_toInt_lt, ← Int32.toInt_inj, tI] at *) <;> omega))), rfl⟩
set_option maxRecDepth 100000 in
set_option maxHeartbeats 4000000 in
/-- segmentsOf -/
theorem s55 {G : ix_G} {h : ix_H} (n : Int32) : ix_Ev G 55 0 (lv_args 0 [.int n]) [] h (some (.int ((n + 4 - 1) / 4))) (h) := by
  refine ix_ofE ?_
  refine ie_iload_n d55_0 rfl ?_
  refine ie_iconst (4) d55_1 (by decide) ?_
  refine ie_iadd d55_2 ?_
  refine ie_iconst (1) d55_3 (by decide) ?_
  refine ie_isub d55_4 ?_
  refine ie_iconst (4) d55_5 (by decide) ?_
  refine ie_idiv d55_6 (by decide) ?_
  exact ie_iret d55_7 rfl (by first | rfl | decide) ⟨rfl, rfl⟩
set_option maxRecDepth 100000 in
set_option maxHeartbeats 4000000 in
/-- in -/
theorem s118 {G : ix_G} {h : ix_H} (v lo hi : Int32) : ix_Ev G 118 0 (lv_args 0 [.int v, .int lo, .int hi]) [] h (some (.int (bI (lo ≤ v ∧ v ≤ hi)))) (h) := by
  refine ix_ofE ?_
  refine ie_iload_n d118_0 rfl ?_
  refine ie_iload_n d118_1 rfl ?_
  refine ie_icmp_lt 14 d118_2 (by decide) (fun c2 => ?_) (fun c2 => ?_)
  · skip
    refine ie_iconst (0) d118_14 (by decide) ?_
    exact ie_iret d118_15 rfl (by first | rfl | decide) ⟨congrArg (fun z => some (Value.int z)) (by unfold bI; split <;> first | rfl | (exfalso; (((try simp only [bI_0, bI_1] at *); simp only [Int32.le_iff_toInt_le, Int32.lt_iff_toInt_lt, ← Int32.toInt_inj, tI] at *) <;> omega))), rfl⟩
  · skip
    refine ie_iload_n d118_5 rfl ?_
    refine ie_iload_n d118_6 rfl ?_
    refine ie_icmp_gt 14 d118_7 (by decide) (fun c7 => ?_) (fun c7 => ?_)
    · skip
      refine ie_iconst (0) d118_14 (by decide) ?_
      exact ie_iret d118_15 rfl (by first | rfl | decide) ⟨congrArg (fun z => some (Value.int z)) (by unfold bI; split <;> first | rfl | (exfalso; (((try simp only [bI_0, bI_1] at *); simp only [Int32.le_iff_toInt_le, Int32.lt_iff_toInt_lt, ← Int32.toInt_inj, tI] at *) <;> omega))), rfl⟩
    · skip
      refine ie_iconst (1) d118_10 (by decide) ?_
      refine ie_goto 15 d118_11 (by decide) ?_
      exact ie_iret d118_15 rfl (by first | rfl | decide) ⟨congrArg (fun z => some (Value.int z)) (by unfold bI; split <;> first | rfl | (exfalso; (((try simp only [bI_0, bI_1] at *); simp only [Int32.le_iff_toInt_le, Int32.lt_iff_toInt_lt, ← Int32.toInt_inj, tI] at *) <;> omega))), rfl⟩
set_option maxRecDepth 100000 in
set_option maxHeartbeats 4000000 in
/-- isFile of the reference -/
theorem s117 {G : ix_G} {h : ix_H} (e f : Int32) : ix_Ev G 117 0 (lv_args 0 [.int e, .int f]) [] h (some (.int (bI ((0 ≤ e ∧ e ≤ 1) ∧ 0 ≤ f ∧ f ≤ 5)))) (h) := by
  refine ix_ofE ?_
  refine ie_iload_n d117_0 rfl ?_
  refine ie_iconst (0) d117_1 (by decide) ?_
  refine ie_iconst (1) d117_2 (by decide) ?_
  refine ie_callSx [_, _, _] d117_3 ok118 rm117_118 cl17_147 rfl rfl (Nat.le_of_ble_eq_true rfl) (Nat.le_of_ble_eq_true rfl) (s118 _ _ _) ?_
  refine ie_if_eq 22 d117_6 (by decide) (fun c6 => ?_) (fun c6 => ?_)
  · skip
    refine ie_iconst (0) d117_22 (by decide) ?_
    exact ie_iret d117_23 rfl (by first | rfl | decide) ⟨congrArg (fun z => some (Value.int z)) (by unfold bI; split <;> first | rfl | (exfalso; (((try simp only [bI_0, bI_1] at *); simp only [Int32.le_iff_toInt_le, Int32.lt_iff_toInt_lt, ← Int32.toInt_inj, tI] at *) <;> omega))), rfl⟩
  · skip
    refine ie_iload_n d117_9 rfl ?_
    refine ie_iconst (0) d117_10 (by decide) ?_
    refine ie_iconst (5) d117_11 (by decide) ?_
    refine ie_callSx [_, _, _] d117_12 ok118 rm117_118 cl17_147 rfl rfl (Nat.le_of_ble_eq_true rfl) (Nat.le_of_ble_eq_true rfl) (s118 _ _ _) ?_
    refine ie_if_eq 22 d117_15 (by decide) (fun c15 => ?_) (fun c15 => ?_)
    · skip
      refine ie_iconst (0) d117_22 (by decide) ?_
      exact ie_iret d117_23 rfl (by first | rfl | decide) ⟨congrArg (fun z => some (Value.int z)) (by unfold bI; split <;> first | rfl | (exfalso; (((try simp only [bI_0, bI_1] at *); simp only [Int32.le_iff_toInt_le, Int32.lt_iff_toInt_lt, ← Int32.toInt_inj, tI] at *) <;> omega))), rfl⟩
    · skip
      refine ie_iconst (1) d117_18 (by decide) ?_
      refine ie_goto 23 d117_19 (by decide) ?_
      exact ie_iret d117_23 rfl (by first | rfl | decide) ⟨congrArg (fun z => some (Value.int z)) (by unfold bI; split <;> first | rfl | (exfalso; (((try simp only [bI_0, bI_1] at *); simp only [Int32.le_iff_toInt_le, Int32.lt_iff_toInt_lt, ← Int32.toInt_inj, tI] at *) <;> omega))), rfl⟩
set_option maxRecDepth 100000 in
set_option maxHeartbeats 4000000 in
/-- segments -/
theorem s132 {G : ix_G} {h : ix_H} (n : Int32) : ix_Ev G 132 0 (lv_args 0 [.int n]) [] h (some (.int ((n + 3) / 4))) (h) := by
  refine ix_ofE ?_
  refine ie_iload_n d132_0 rfl ?_
  refine ie_iconst (3) d132_1 (by decide) ?_
  refine ie_iadd d132_2 ?_
  refine ie_iconst (4) d132_3 (by decide) ?_
  refine ie_idiv d132_4 (by decide) ?_
  exact ie_iret d132_5 rfl (by first | rfl | decide) ⟨rfl, rfl⟩
set_option maxRecDepth 100000 in
set_option maxHeartbeats 4000000 in
/-- Math.max -/
theorem s74 {G : ix_G} {h : ix_H} (a b : Int32) : ix_Ev G 74 0 (lv_args 0 [.int a, .int b]) [] h (some (.int (if a < b then b else a))) (h) := by
  refine ix_ofE ?_
  refine ie_iload_n d74_0 rfl ?_
  refine ie_iload_n d74_1 rfl ?_
  refine ie_icmp_lt 9 d74_2 (by decide) (fun c2 => ?_) (fun c2 => ?_)
  · skip
    refine ie_iload_n d74_9 rfl ?_
    exact ie_iret d74_10 rfl (by first | rfl | decide) ⟨congrArg (fun z => some (Value.int z)) (by split <;> first | rfl | (exfalso; (((try simp only [bI_0, bI_1] at *); simp only [Int32.le_iff_toInt_le, Int32.lt_iff_toInt_lt, ← Int32.toInt_inj, tI] at *) <;> omega))), rfl⟩
  · skip
    refine ie_iload_n d74_5 rfl ?_
    refine ie_goto 10 d74_6 (by decide) ?_
    exact ie_iret d74_10 rfl (by first | rfl | decide) ⟨congrArg (fun z => some (Value.int z)) (by split <;> first | rfl | (exfalso; (((try simp only [bI_0, bI_1] at *); simp only [Int32.le_iff_toInt_le, Int32.lt_iff_toInt_lt, ← Int32.toInt_inj, tI] at *) <;> omega))), rfl⟩
set_option maxRecDepth 100000 in
set_option maxHeartbeats 4000000 in
/-- Math.min -/
theorem s78 {G : ix_G} {h : ix_H} (a b : Int32) : ix_Ev G 78 0 (lv_args 0 [.int a, .int b]) [] h (some (.int (if b < a then b else a))) (h) := by
  refine ix_ofE ?_
  refine ie_iload_n d78_0 rfl ?_
  refine ie_iload_n d78_1 rfl ?_
  refine ie_icmp_gt 9 d78_2 (by decide) (fun c2 => ?_) (fun c2 => ?_)
  · skip
    refine ie_iload_n d78_9 rfl ?_
    exact ie_iret d78_10 rfl (by first | rfl | decide) ⟨congrArg (fun z => some (Value.int z)) (by split <;> first | rfl | (exfalso; (((try simp only [bI_0, bI_1] at *); simp only [Int32.le_iff_toInt_le, Int32.lt_iff_toInt_lt, ← Int32.toInt_inj, tI] at *) <;> omega))), rfl⟩
  · skip
    refine ie_iload_n d78_5 rfl ?_
    refine ie_goto 10 d78_6 (by decide) ?_
    exact ie_iret d78_10 rfl (by first | rfl | decide) ⟨congrArg (fun z => some (Value.int z)) (by split <;> first | rfl | (exfalso; (((try simp only [bI_0, bI_1] at *); simp only [Int32.le_iff_toInt_le, Int32.lt_iff_toInt_lt, ← Int32.toInt_inj, tI] at *) <;> omega))), rfl⟩
end
section
/-! ===== the reference: its object m and the arrays behind it ===== -/
/-- where field k's array lies -/
def mA (m k : Nat) : Nat := if k < 44 then m + (k - 3) else m + (k - 4)
/-- kind and length of field k's array -/
def mKL : List (Nat × Nat) := [(0, 0), (0, 0), (0, 0), (0, 0), (1, 12), (0, 12), (0, 768), (0, 2), (0, 640), (0, 640), (0, 640), (0, 640), (0, 640), (0, 640), (0, 640), (0, 640), (0, 640), (0, 640), (0, 640), (0, 640), (1, 640), (1, 640), (1, 640), (0, 640), (0, 640), (0, 640), (0, 6), (0, 6), (0, 6), (0, 6), (0, 6), (0, 6), (0, 6), (0, 6), (0, 6), (1, 6), (1, 6), (1, 6), (0, 96), (0, 96), (0, 6), (0, 6), (0, 2), (0, 2), (0, 0), (0, 264), (0, 11), (0, 6)]
def mK (k : Nat) : Nat := (mKL.getD k (0, 0)).1
def mL (k : Nat) : Nat := (mKL.getD k (0, 0)).2
/-- the fields that are arrays -/
def mIs (k : Nat) : Bool := decide (4 ≤ k) && decide (k < 48) && !(k == 44)
def md_ok (h : ix_H) (m : Nat) : Prop := ix_tg h m = 9 ∧ ∀ k, mIs k = true → ix_r h m k = some (mA m k) ∧ ix_tg h (mA m k) = 100 + mK k ∧ ix_ln h (mA m k) = mL k
theorem md_ok.t {h : ix_H} {m : Nat} (M : md_ok h m) : ix_tg h m = 9 := M.1
theorem md_ok.r {h : ix_H} {m : Nat} (M : md_ok h m) (k : Nat) (hk : mIs k = true) : ix_r h m k = some (mA m k) := (M.2 k hk).1
theorem md_ok.a {h : ix_H} {m : Nat} (M : md_ok h m) (k : Nat) (hk : mIs k = true) : ix_tg h (mA m k) = 100 + mK k := (M.2 k hk).2.1
theorem md_ok.l {h : ix_H} {m : Nat} (M : md_ok h m) (k : Nat) (hk : mIs k = true) : ix_ln h (mA m k) = mL k := (M.2 k hk).2.2
theorem md_ok.si {h : ix_H} {m : Nat} (M : md_ok h m) (a j : Nat) (x : Int32) : md_ok (ix_si h a j x) m := M
/-- the reference's numbers: field k, place j (a plain field: place 0) -/
abbrev MS : Type := Nat → Nat → Int32
def ms (h : ix_H) (m : Nat) : MS := fun k j => if mIs k = true then ix_i h (mA m k) j else ix_i h m k
def mset (S : MS) (k j : Nat) (x : Int32) : MS := fun k' j' => if k' = k ∧ (j' = j ∨ mIs k = false) then x else S k' j'
theorem ms_arr (h : ix_H) (m k j : Nat) (hk : mIs k = true) : ix_i h (mA m k) j = ms h m k j := by unfold ms; rw [if_pos hk]
theorem ms_fld (h : ix_H) (m k j : Nat) (hk : mIs k = false) : ix_i h m k = ms h m k j := by unfold ms; rw [if_neg (by rw [hk]; decide)]
theorem mIs_lt {k : Nat} (h : mIs k = true) : 4 ≤ k ∧ k < 48 ∧ k ≠ 44 := by
  simp only [mIs, Bool.and_eq_true, decide_eq_true_eq, Bool.not_eq_true', beq_eq_false_iff_ne, ne_eq] at h
  omega
theorem mA_inj {m k k' : Nat} (h : mIs k = true) (h' : mIs k' = true) (e : mA m k = mA m k') : k = k' := by
  have := mIs_lt h
  have := mIs_lt h'
  unfold mA at e
  split at e <;> split at e <;> omega
theorem mA_ne {m k : Nat} (h : mIs k = true) : mA m k ≠ m := by
  have := mIs_lt h
  unfold mA
  split <;> omega
theorem mA_in {m k : Nat} (h : mIs k = true) : m < mA m k ∧ mA m k ≤ m + 43 := by
  have := mIs_lt h
  unfold mA
  split <;> omega
theorem ms_set {h : ix_H} {m k j : Nat} {x : Int32} (hk : mIs k = true) : ms (ix_si h (mA m k) j x) m = mset (ms h m) k j x := by
  funext k' j'
  unfold ms mset
  by_cases hk' : mIs k' = true
  · rw [if_pos hk', ix_i_si]
    by_cases e : k' = k
    · subst e
      by_cases ej : j' = j
      · subst ej
        rw [if_pos ⟨rfl, rfl⟩, if_pos ⟨rfl, Or.inl rfl⟩]
      · rw [if_neg (fun z => ej z.2), if_neg (fun z => z.2.elim ej (fun q => by rw [hk] at q; cases q))]
        exact (if_pos hk').symm
    · rw [if_neg (fun z => e (mA_inj hk' hk z.1)), if_neg (fun z => e z.1)]
      exact (if_pos hk').symm
  · rw [if_neg hk', ix_i_si, if_neg (fun z => mA_ne hk z.1.symm), if_neg (fun z => hk' (by rw [z.1]; exact hk))]
    exact (if_neg hk').symm
theorem ms_setF {h : ix_H} {m k j : Nat} {x : Int32} (hk : mIs k = false) : ms (ix_si h m k x) m = mset (ms h m) k j x := by
  funext k' j'
  unfold ms mset
  by_cases hk' : mIs k' = true
  · rw [if_pos hk', ix_i_si, if_neg (fun z => mA_ne hk' z.1), if_neg (fun z => by rw [z.1, hk] at hk'; cases hk')]
    exact (if_pos hk').symm
  · rw [if_neg hk', ix_i_si]
    by_cases e : k' = k
    · subst e
      rw [if_pos ⟨rfl, rfl⟩, if_pos ⟨rfl, Or.inr hk⟩]
    · rw [if_neg (fun z => e z.2), if_neg (fun z => e z.1)]
      exact (if_neg hk').symm
/-- the heap with other numbers -/
def ix_wi (h : ix_H) (v : Nat → Nat → Int32) : ix_H := (h.1, h.2.1, v, h.2.2.2)
theorem ix_wi_si (h : ix_H) (v : Nat → Nat → Int32) (a k : Nat) (x : Int32) : ix_si (ix_wi h v) a k x = ix_wi h (ix_up2 v a k x) := rfl
theorem ix_wi_self (h : ix_H) : ix_wi h h.2.2.1 = h := rfl
theorem ix_wi_wi (h : ix_H) (v w : Nat → Nat → Int32) : ix_wi (ix_wi h v) w = ix_wi h w := rfl
/-- a step of the reference: only its own numbers change, and they are S' then -/
def mR (m : Nat) (h h' : ix_H) (S' : MS) : Prop := (∃ v, h' = ix_wi h v) ∧ (∀ b, (b < m ∨ m + 43 < b) → ∀ j, ix_i h' b j = ix_i h b j) ∧ ms h' m = S'
theorem mR.rf {m : Nat} {h : ix_H} {S : MS} (e : ms h m = S) : mR m h h S := ⟨⟨_, (ix_wi_self h).symm⟩, fun _ _ _ => rfl, e⟩
theorem mR.ok {m : Nat} {h h' : ix_H} {S : MS} (r : mR m h h' S) (M : md_ok h m) : md_ok h' m := by
  obtain ⟨⟨v, rfl⟩, -⟩ := r
  exact M
theorem mR.tr {m : Nat} {h h1 h2 : ix_H} {S1 S2 : MS} (r1 : mR m h h1 S1) (r2 : mR m h1 h2 S2) : mR m h h2 S2 := by
  obtain ⟨⟨v, rfl⟩, f1, e1⟩ := r1
  obtain ⟨⟨w, rfl⟩, f2, e2⟩ := r2
  exact ⟨⟨w, rfl⟩, fun b hb j => (f2 b hb j).trans (f1 b hb j), e2⟩
theorem mR.set {m k j : Nat} {h h1 : ix_H} {S : MS} {x : Int32} (r : mR m h h1 S) (hk : mIs k = true) : mR m h (ix_si h1 (mA m k) j x) (mset S k j x) := by
  obtain ⟨⟨v, rfl⟩, f1, e1⟩ := r
  refine ⟨⟨_, ix_wi_si h v _ _ _⟩, fun b hb j' => ?_, by rw [ms_set hk, e1]⟩
  rw [ix_i_si, if_neg]
  · exact f1 b hb j'
  · rintro ⟨e, -⟩
    have := mA_in (m := m) hk
    omega
theorem mR.setF {m k j : Nat} {h h1 : ix_H} {S : MS} {x : Int32} (r : mR m h h1 S) (hk : mIs k = false) : mR m h (ix_si h1 m k x) (mset S k j x) := by
  obtain ⟨⟨v, rfl⟩, f1, e1⟩ := r
  refine ⟨⟨_, ix_wi_si h v _ _ _⟩, fun b hb j' => ?_, by rw [ms_setF (j := j) hk, e1]⟩
  rw [ix_i_si, if_neg]
  · exact f1 b hb j'
  · rintro ⟨e, -⟩
    omega
/-! rows for the reference's walks: heaps by their numbers -/
section MD
variable {G : ix_G} {m pc o : Nat} {lv : List (Nat × Value)} {st : List Value} {h : ix_H} {P : ix_O → ix_H → Prop}
theorem me_geti {i j : Nat} (hd : decode (ix_by m) pc = .ok (.getfield i, 3)) (hF : ix_FL (ix_own m) i 8 j 0) (M : md_ok h o) (hj : mIs j = false) (kk : ix_E G m (pc + 3) lv (.int (ms h o j 0) :: st) h P) : ix_E G m pc lv (.ref o :: st) h P := ie_geti hd hF M.t (by rw [ms_fld h o j 0 hj]; exact kk)
theorem me_getr {i j : Nat} (hd : decode (ix_by m) pc = .ok (.getfield i, 3)) (hF : ix_FL (ix_own m) i 8 j 2) (M : md_ok h o) (hj : mIs j = true) (kk : ix_E G m (pc + 3) lv (.ref (mA o j) :: st) h P) : ix_E G m pc lv (.ref o :: st) h P := ie_getr _ hd hF M.t (M.r j hj) kk
theorem me_puti {i j : Nat} {x : Int32} (hd : decode (ix_by m) pc = .ok (.putfield i, 3)) (hF : ix_FL (ix_own m) i 8 j 0) (hfin : (ix_cT 8 j).2.2.2 = false) (hty : ix_ty 8 j = .int) (M : md_ok h o) (kk : ix_E G m (pc + 3) lv st (ix_si h o j x) P) : ix_E G m pc lv (.int x :: .ref o :: st) h P := ie_puti hd hF (Or.inl hfin) M.t (by rw [hty]; rfl) (by rw [hty]; rfl) kk
theorem me_in {h : ix_H} {o k n : Nat} {x : Int32} (M : md_ok h o) (hk : mIs k = true) (hx : x = nI n) (hn : n < mL k) (hL : mL k ≤ 768) : vp_in x (ix_ln h (mA o k)) := by rw [M.l k hk, hx]; exact vp_in_nI hn (by omega)
theorem mL_le (k : Nat) : mL k ≤ 768 := by
  by_cases h : k < 48
  · exact (by decide +kernel : ∀ k, k < 48 → mL k ≤ 768) k h
  · have : mL k = 0 := by
      unfold mL
      rw [List.getD_eq_getElem?_getD, List.getElem?_eq_none (by show 48 ≤ k; omega)]
      rfl
    omega
theorem me_iald {k n : Nat} {x : Int32} (hd : decode (ix_by m) pc = .ok (.iaload, 1)) (M : md_ok h o) (hk : mIs k = true) (hK : mK k = 0) (hx : x = nI n) (hn : n < mL k) (kk : ix_E G m (pc + 1) lv (.int (ms h o k n) :: st) h P) : ix_E G m pc lv (.int x :: .ref (mA o k) :: st) h P := by
  refine ie_iald hd (Or.inl (by rw [M.a k hk, hK])) (me_in M hk hx hn (mL_le k)) ?_
  rw [hx, nI_clamp (by have := mL_le k; omega), ms_arr h o k n hk]
  exact kk
theorem me_zald {k n : Nat} {x : Int32} (hd : decode (ix_by m) pc = .ok (.baload, 1)) (M : md_ok h o) (hk : mIs k = true) (hK : mK k = 1) (hx : x = nI n) (hn : n < mL k) (kk : ix_E G m (pc + 1) lv (.int (ms h o k n) :: st) h P) : ix_E G m pc lv (.int x :: .ref (mA o k) :: st) h P := by
  refine ie_zald hd (by rw [M.a k hk, hK]) (me_in M hk hx hn (mL_le k)) ?_
  rw [hx, nI_clamp (by have := mL_le k; omega), ms_arr h o k n hk]
  exact kk
theorem me_iast {k n : Nat} {x y : Int32} (hd : decode (ix_by m) pc = .ok (.iastore, 1)) (M : md_ok h o) (hk : mIs k = true) (hK : mK k = 0) (hx : x = nI n) (hn : n < mL k) (kk : ix_E G m (pc + 1) lv st (ix_si h (mA o k) n y) P) : ix_E G m pc lv (.int y :: .int x :: .ref (mA o k) :: st) h P := by
  refine ie_iast hd (by rw [M.a k hk, hK]) (me_in M hk hx hn (mL_le k)) ?_
  rw [hx, nI_clamp (by have := mL_le k; omega)]
  exact kk
theorem me_zast {k n : Nat} {x y : Int32} (hd : decode (ix_by m) pc = .ok (.bastore, 1)) (M : md_ok h o) (hk : mIs k = true) (hK : mK k = 1) (hy : y = 0 ∨ y = 1) (hx : x = nI n) (hn : n < mL k) (kk : ix_E G m (pc + 1) lv st (ix_si h (mA o k) n y) P) : ix_E G m pc lv (.int y :: .int x :: .ref (mA o k) :: st) h P := by
  refine ie_zast hd (by rw [M.a k hk, hK]) hy (me_in M hk hx hn (mL_le k)) ?_
  rw [hx, nI_clamp (by have := mL_le k; omega)]
  exact kk
end MD
end
section
theorem isF2 {e f : Int32} (q : (0 ≤ e ∧ e ≤ 1) ∧ 0 ≤ f ∧ f ≤ 5) : ∃ e' f' : Nat, e' < 2 ∧ f' < 6 ∧ e = nI e' ∧ f = nI f' := by
  obtain ⟨e', h1, h2⟩ := nI_of2 (M := 1) (n := 1) (by decide) (Int32.not_lt.mpr q.1.1) q.1.2
  obtain ⟨f', h3, h4⟩ := nI_of2 (M := 5) (n := 5) (by decide) (Int32.not_lt.mpr q.2.1) q.2.2
  exact ⟨e', f', by omega, by omega, h2, h4⟩
theorem isE2 {e : Int32} (q : 0 ≤ e ∧ e ≤ 1) : ∃ e' : Nat, e' < 2 ∧ e = nI e' := by
  obtain ⟨e', h1, h2⟩ := nI_of2 (M := 1) (n := 1) (by decide) (Int32.not_lt.mpr q.1) q.2
  exact ⟨e', by omega, h2⟩
theorem cl2 {e : Nat} (h : e < 768) : (nI e).toNatClampNeg = e := nI_clamp (by omega)
def mKnown (S : MS) (e n : Int32) : Int32 := if (0 ≤ e ∧ e ≤ 1) ∧ 1 ≤ n ∧ n ≤ S 7 e.toNatClampNeg then 320 * e + n else -1
set_option maxRecDepth 100000 in
set_option maxHeartbeats 4000000 in
/-- thrown -/
theorem s115 {G : ix_G} {h : ix_H} {o : Nat} (M : md_ok h o) : ix_Ev G 115 0 (lv_args 0 [.ref o]) [] h (some (.int (ms h o 3 0))) (h) := by
  refine ix_ofE ?_
  refine ie_aload_n d115_0 rfl ?_
  refine me_geti d115_1 fl17_144 M rfl ?_
  exact ie_iret d115_4 rfl (by first | rfl | decide | exact (ix_bz (bI_01 _)).1 | exact (ix_bz (by assumption)).1) ⟨rfl, rfl⟩
set_option maxRecDepth 100000 in
set_option maxHeartbeats 4000000 in
/-- fails -/
theorem s120 {G : ix_G} {h : ix_H} {o : Nat} (M : md_ok h o) (c : Int32) : ix_Ev G 120 0 (lv_args 0 [.ref o, .int c]) [] h (some (.int 0)) (ix_si h o 3 c) := by
  refine ix_ofE ?_
  refine ie_aload_n d120_0 rfl ?_
  refine ie_iload_n d120_1 rfl ?_
  refine me_puti d120_2 fl17_144 rfl rfl M ?_
  refine ie_iconst (nI 0) d120_5 (by decide) ?_
  exact ie_iret d120_6 rfl (by first | rfl | decide | exact (ix_bz (bI_01 _)).1 | exact (ix_bz (by assumption)).1) ⟨rfl, rfl⟩
set_option maxRecDepth 100000 in
set_option maxHeartbeats 4000000 in
/-- known -/
theorem s127 {G : ix_G} {h : ix_H} {o : Nat} (M : md_ok h o) (e n : Int32) : ix_Ev G 127 0 (lv_args 0 [.ref o, .int e, .int n]) [] h (some (.int (mKnown (ms h o) e n))) (h) := by
  refine ix_ofE ?_
  refine ie_iload_n d127_0 rfl ?_
  refine ie_iconst (nI 0) d127_1 (by decide) ?_
  refine ie_iconst (nI 1) d127_2 (by decide) ?_
  refine ie_callSx [_, _, _] d127_3 ok118 rm127_118 cl17_147 rfl rfl (Nat.le_of_ble_eq_true rfl) (Nat.le_of_ble_eq_true rfl) (s118 _ _ _) ?_
  refine ie_if_eq 34 d127_6 (by decide) (fun c6 => ?_) (fun c6 => ?_)
  · skip
    rw [bI_0] at c6
    have K : (-1 : Int32) = mKnown (ms h o) e n := by
      unfold mKnown
      rw [if_neg (fun z => c6 z.1)]
    refine ie_iconst (-1) d127_34 (by decide) ?_
    exact ie_iret d127_35 rfl (by first | rfl | decide | exact (ix_bz (bI_01 _)).1 | exact (ix_bz (by assumption)).1) ⟨congrArg (fun z => some (Value.int z)) K, rfl⟩
  · skip
    rw [bI_0, Classical.not_not] at c6
    obtain ⟨e', he, rfl⟩ := isE2 c6
    refine ie_iload_n d127_9 rfl ?_
    refine ie_iconst (nI 1) d127_10 (by decide) ?_
    refine ie_icmp_lt 34 d127_11 (by decide) (fun c11 => ?_) (fun c11 => ?_)
    · skip
      have K : (-1 : Int32) = mKnown (ms h o) (nI e') n := by
        unfold mKnown
        rw [if_neg (fun z => absurd c11 (Int32.not_lt.mpr z.2.1))]
      refine ie_iconst (-1) d127_34 (by decide) ?_
      exact ie_iret d127_35 rfl (by first | rfl | decide | exact (ix_bz (bI_01 _)).1 | exact (ix_bz (by assumption)).1) ⟨congrArg (fun z => some (Value.int z)) K, rfl⟩
    · skip
      refine ie_iload_n d127_14 rfl ?_
      refine ie_aload_n d127_15 rfl ?_
      refine me_getr d127_16 fl17_20 M rfl ?_
      refine ie_iload_n d127_19 rfl ?_
      refine me_iald (k := 7) (n := e') d127_20 M rfl rfl rfl (by show e' < 2; exact he) ?_
      refine ie_icmp_gt 34 d127_21 (by decide) (fun c21 => ?_) (fun c21 => ?_)
      · skip
        have K : (-1 : Int32) = mKnown (ms h o) (nI e') n := by
          unfold mKnown
          rw [cl2 (by omega), if_neg (fun z => absurd c21 (Int32.not_lt.mpr z.2.2))]
        refine ie_iconst (-1) d127_34 (by decide) ?_
        exact ie_iret d127_35 rfl (by first | rfl | decide | exact (ix_bz (bI_01 _)).1 | exact (ix_bz (by assumption)).1) ⟨congrArg (fun z => some (Value.int z)) K, rfl⟩
      · skip
        have K : nI (320 * e') + n = mKnown (ms h o) (nI e') n := by
          unfold mKnown
          rw [cl2 (by omega), if_pos ⟨c6, Int32.not_lt.mp c11, Int32.not_lt.mp c21⟩, ← pk_mul]
          rfl
        refine ie_sipush (nI 320) d127_24 (by decide) ?_
        refine ie_iload_n d127_27 rfl ?_
        refine ie_imul d127_28 ?_
        rw [pk_mul]
        refine ie_iload_n d127_29 rfl ?_
        refine ie_iadd d127_30 ?_
        refine ie_goto 35 d127_31 (by decide) ?_
        exact ie_iret d127_35 rfl (by first | rfl | decide | exact (ix_bz (bI_01 _)).1 | exact (ix_bz (by assumption)).1) ⟨congrArg (fun z => some (Value.int z)) K, rfl⟩
set_option maxRecDepth 100000 in
set_option maxHeartbeats 4000000 in
/-- flies -/
theorem s148 {G : ix_G} {h : ix_H} {o : Nat} (M : md_ok h o) (k : Int32) : ix_Ev G 148 0 (lv_args 0 [.ref o, .int k]) [] h (some (.int (bI (0 ≤ k ∧ k < ms h o 44 0)))) (h) := by
  refine ix_ofE ?_
  refine ie_iload_n d148_0 rfl ?_
  refine ie_if_lt 16 d148_1 (by decide) (fun c1 => ?_) (fun c1 => ?_)
  · skip
    refine ie_iconst (nI 0) d148_16 (by decide) ?_
    exact ie_iret d148_17 rfl (by first | rfl | decide | exact (ix_bz (bI_01 _)).1 | exact (ix_bz (by assumption)).1) ⟨congrArg (fun z => some (Value.int z)) (by unfold bI; split <;> first | rfl | (exfalso; (((try simp only [bI_0, bI_1] at *); simp only [Int32.le_iff_toInt_le, Int32.lt_iff_toInt_lt, ← Int32.toInt_inj, tI] at *) <;> omega))), rfl⟩
  · skip
    refine ie_iload_n d148_4 rfl ?_
    refine ie_aload_n d148_5 rfl ?_
    refine me_geti d148_6 fl17_171 M rfl ?_
    refine ie_icmp_ge 16 d148_9 (by decide) (fun c9 => ?_) (fun c9 => ?_)
    · skip
      refine ie_iconst (nI 0) d148_16 (by decide) ?_
      exact ie_iret d148_17 rfl (by first | rfl | decide | exact (ix_bz (bI_01 _)).1 | exact (ix_bz (by assumption)).1) ⟨congrArg (fun z => some (Value.int z)) (by unfold bI; split <;> first | rfl | (exfalso; (((try simp only [bI_0, bI_1] at *); simp only [Int32.le_iff_toInt_le, Int32.lt_iff_toInt_lt, ← Int32.toInt_inj, tI] at *) <;> omega))), rfl⟩
    · skip
      refine ie_iconst (nI 1) d148_12 (by decide) ?_
      refine ie_goto 17 d148_13 (by decide) ?_
      exact ie_iret d148_17 rfl (by first | rfl | decide | exact (ix_bz (bI_01 _)).1 | exact (ix_bz (by assumption)).1) ⟨congrArg (fun z => some (Value.int z)) (by unfold bI; split <;> first | rfl | (exfalso; (((try simp only [bI_0, bI_1] at *); simp only [Int32.le_iff_toInt_le, Int32.lt_iff_toInt_lt, ← Int32.toInt_inj, tI] at *) <;> omega))), rfl⟩
set_option maxRecDepth 100000 in
set_option maxHeartbeats 4000000 in
/-- fileIndex -/
theorem s131 {G : ix_G} {h : ix_H} {o t : Nat} (M : md_ok h o) (ht : t < 640) : ix_Ev G 131 0 (lv_args 0 [.ref o, .int (nI t)]) [] h (some (.int (nI (6 * (t / 320)) + ms h o 9 t))) (h) := by
  refine ix_ofE ?_
  refine ie_bipush (nI 6) d131_0 (by decide) ?_
  refine ie_iload_n d131_2 rfl ?_
  refine ie_sipush (nI 320) d131_3 (by decide) ?_
  refine ie_idiv d131_6 (by decide) ?_
  rw [pk_div (by omega) (by decide) (by decide)]
  refine ie_imul d131_7 ?_
  rw [pk_mul]
  refine ie_aload_n d131_8 rfl ?_
  refine me_getr d131_9 fl17_26 M rfl ?_
  refine ie_iload_n d131_12 rfl ?_
  refine me_iald (k := 9) (n := t) d131_13 M rfl rfl rfl (by show t < 640; exact ht) ?_
  refine ie_iadd d131_14 ?_
  exact ie_iret d131_15 rfl (by first | rfl | decide | exact (ix_bz (bI_01 _)).1 | exact (ix_bz (by assumption)).1) ⟨rfl, rfl⟩
/-- fault = 0 behind every call of the face -/
def m0 (S : MS) : MS := mset S 3 0 0
set_option maxRecDepth 100000 in
set_option maxHeartbeats 4000000 in
/-- create -/
theorem s116 {G : ix_G} {h : ix_H} {o : Nat} (M : md_ok h o) (e f : Int32) : ix_E G 116 0 (lv_args 0 [.ref o, .int e, .int f]) [] h (fun r h' => (r = some (.int (bI (((0 ≤ e ∧ e ≤ 1) ∧ 0 ≤ f ∧ f ≤ 5) ∧ ms h o 4 (6 * e.toNatClampNeg + f.toNatClampNeg) = 0)))) ∧ mR o h h' (if ((0 ≤ e ∧ e ≤ 1) ∧ 0 ≤ f ∧ f ≤ 5) ∧ ms h o 4 (6 * e.toNatClampNeg + f.toNatClampNeg) = 0 then mset (mset (m0 (ms h o)) 4 (6 * e.toNatClampNeg + f.toNatClampNeg) 1) 5 (6 * e.toNatClampNeg + f.toNatClampNeg) 0 else m0 (ms h o))) := by
  refine ie_aload_n d116_0 rfl ?_
  refine ie_iconst (nI 0) d116_1 (by decide) ?_
  refine me_puti d116_2 fl17_144 rfl rfl M ?_
  refine ie_iload_n d116_5 rfl ?_
  refine ie_iload_n d116_6 rfl ?_
  refine ie_callSx [_, _] d116_7 ok117 rm116_117 cl17_151 rfl rfl (Nat.le_of_ble_eq_true rfl) (Nat.le_of_ble_eq_true rfl) (s117 _ _) ?_
  refine ie_if_eq 27 d116_10 (by decide) (fun c10 => ?_) (fun c10 => ?_)
  · skip
    rw [bI_0] at c10
    rw [bI_f (fun z => c10 z.1), if_neg (fun z => c10 z.1)]
    have K := (⟨rfl, (mR.rf rfl).setF (j := 0) rfl⟩ : (some (Value.int 0) = some (Value.int 0)) ∧ mR o h (ix_si h o 3 (nI 0)) (mset (ms h o) 3 0 (nI 0)))
    refine ie_iconst (nI 0) d116_27 (by decide) ?_
    exact ie_iret d116_28 rfl (by first | rfl | decide | exact (ix_bz (bI_01 _)).1 | exact (ix_bz (by assumption)).1) K
  · skip
    rw [bI_0, Classical.not_not] at c10
    obtain ⟨e', f', he, hf, rfl, rfl⟩ := isF2 c10
    rw [cl2 (by omega : e' < 768), cl2 (by omega : f' < 768)]
    refine ie_aload_n d116_13 rfl ?_
    refine me_getr d116_14 fl17_7 M rfl ?_
    refine ie_bipush (nI 6) d116_17 (by decide) ?_
    refine ie_iload_n d116_19 rfl ?_
    refine ie_imul d116_20 ?_
    rw [pk_mul]
    refine ie_iload_n d116_21 rfl ?_
    refine ie_iadd d116_22 ?_
    rw [nI_add]
    refine me_zald (k := 4) (n := ((6 * e') + f')) d116_23 M rfl rfl rfl (by show 6 * e' + f' < 12; omega) ?_
    refine ie_if_eq 29 d116_24 (by decide) (fun c24 => ?_) (fun c24 => ?_)
    · skip
      have c25 : ms h o 4 (6 * e' + f') = 0 := by rw [ms_setF (j := 0) rfl] at c24; exact c24
      rw [bI_t ⟨c10, c25⟩, if_pos ⟨c10, c25⟩]
      have K := (⟨rfl, (((mR.rf rfl).setF (j := 0) rfl).set (k := 4) (j := 6 * e' + f') rfl).set (k := 5) (j := 6 * e' + f') rfl⟩ : (some (Value.int 1) = some (Value.int 1)) ∧ mR o h (ix_si (ix_si (ix_si h o 3 (nI 0)) (mA o 4) (6 * e' + f') (nI 1)) (mA o 5) (6 * e' + f') (nI 0)) (mset (mset (mset (ms h o) 3 0 (nI 0)) 4 (6 * e' + f') (nI 1)) 5 (6 * e' + f') (nI 0)))
      refine ie_aload_n d116_29 rfl ?_
      refine me_getr d116_30 fl17_7 M rfl ?_
      refine ie_bipush (nI 6) d116_33 (by decide) ?_
      refine ie_iload_n d116_35 rfl ?_
      refine ie_imul d116_36 ?_
      rw [pk_mul]
      refine ie_iload_n d116_37 rfl ?_
      refine ie_iadd d116_38 ?_
      rw [nI_add]
      refine ie_iconst (nI 1) d116_39 (by decide) ?_
      refine me_zast (k := 4) (n := ((6 * e') + f')) d116_40 M rfl rfl (by first | exact Or.inl rfl | exact Or.inr rfl | assumption | exact bI_01 _) rfl (by show 6 * e' + f' < 12; omega) ?_
      refine ie_aload_n d116_41 rfl ?_
      refine me_getr d116_42 fl17_13 M rfl ?_
      refine ie_bipush (nI 6) d116_45 (by decide) ?_
      refine ie_iload_n d116_47 rfl ?_
      refine ie_imul d116_48 ?_
      rw [pk_mul]
      refine ie_iload_n d116_49 rfl ?_
      refine ie_iadd d116_50 ?_
      rw [nI_add]
      refine ie_iconst (nI 0) d116_51 (by decide) ?_
      refine me_iast (k := 5) (n := ((6 * e') + f')) d116_52 M rfl rfl rfl (by show 6 * e' + f' < 12; omega) ?_
      refine ie_iconst (nI 1) d116_53 (by decide) ?_
      exact ie_iret d116_54 rfl (by first | rfl | decide | exact (ix_bz (bI_01 _)).1 | exact (ix_bz (by assumption)).1) K
    · skip
      have c25 : ¬ ms h o 4 (6 * e' + f') = 0 := by rw [ms_setF (j := 0) rfl] at c24; exact c24
      rw [bI_f (fun z => c25 z.2), if_neg (fun z => c25 z.2)]
      have K := (⟨rfl, (mR.rf rfl).setF (j := 0) rfl⟩ : (some (Value.int 0) = some (Value.int 0)) ∧ mR o h (ix_si h o 3 (nI 0)) (mset (ms h o) 3 0 (nI 0)))
      refine ie_iconst (nI 0) d116_27 (by decide) ?_
      exact ie_iret d116_28 rfl (by first | rfl | decide | exact (ix_bz (bI_01 _)).1 | exact (ix_bz (by assumption)).1) K
end
section
/-! ===== walks of the reference by its numbers alone: the heap is any that stands so to the first one ===== -/
theorem mset_s {S : MS} {k j : Nat} {x : Int32} : mset S k j x k j = x := if_pos ⟨rfl, Or.inl rfl⟩
theorem mset_k {S : MS} {k j k' j' : Nat} {x : Int32} (h : k' ≠ k) : mset S k j x k' j' = S k' j' := if_neg (fun z => h z.1)
theorem mset_j {S : MS} {k j j' : Nat} {x : Int32} (hk : mIs k = true) (h : j' ≠ j) : mset S k j x k j' = S k j' := if_neg (fun z => z.2.elim h (fun q => by rw [hk] at q; cases q))
theorem mset_if {S : MS} {k j j' : Nat} {x : Int32} (hk : mIs k = true) : mset S k j x k j' = if j' = j then x else S k j' := by
  by_cases e : j' = j
  · subst e
    rw [if_pos rfl, mset_s]
  · rw [if_neg e, mset_j hk e]
theorem mset_mset {S : MS} {k j : Nat} {x y : Int32} : mset (mset S k j x) k j y = mset S k j y := by
  funext k' j'
  unfold mset
  by_cases e : k' = k ∧ (j' = j ∨ mIs k = false)
  · rw [if_pos e, if_pos e]
  · rw [if_neg e, if_neg e, if_neg e]
section MX
variable {G : ix_G} {m pc o : Nat} {lv : List (Nat × Value)} {st : List Value} {h0 h : ix_H} {S : MS} {P : ix_O → ix_H → Prop}
theorem mx_geti {i j : Nat} (r : mR o h0 h S) (M : md_ok h0 o) (hd : decode (ix_by m) pc = .ok (.getfield i, 3)) (hF : ix_FL (ix_own m) i 8 j 0) (hj : mIs j = false) (kk : ix_E G m (pc + 3) lv (.int (S j 0) :: st) h P) : ix_E G m pc lv (.ref o :: st) h P := me_geti hd hF (r.ok M) hj (by rw [r.2.2]; exact kk)
theorem mx_getr {i j : Nat} (r : mR o h0 h S) (M : md_ok h0 o) (hd : decode (ix_by m) pc = .ok (.getfield i, 3)) (hF : ix_FL (ix_own m) i 8 j 2) (hj : mIs j = true) (kk : ix_E G m (pc + 3) lv (.ref (mA o j) :: st) h P) : ix_E G m pc lv (.ref o :: st) h P := me_getr hd hF (r.ok M) hj kk
theorem mx_puti {i j : Nat} {x : Int32} (r : mR o h0 h S) (M : md_ok h0 o) (hd : decode (ix_by m) pc = .ok (.putfield i, 3)) (hF : ix_FL (ix_own m) i 8 j 0) (hj : mIs j = false) (hfin : (ix_cT 8 j).2.2.2 = false) (hty : ix_ty 8 j = .int) (kk : ∀ h1, mR o h0 h1 (mset S j 0 x) → ix_E G m (pc + 3) lv st h1 P) : ix_E G m pc lv (.int x :: .ref o :: st) h P := me_puti hd hF hfin hty (r.ok M) (kk _ (r.setF hj))
theorem mx_iald {k n : Nat} {x : Int32} (r : mR o h0 h S) (M : md_ok h0 o) (hd : decode (ix_by m) pc = .ok (.iaload, 1)) (hk : mIs k = true) (hK : mK k = 0) (hx : x = nI n) (hn : n < mL k) (kk : ix_E G m (pc + 1) lv (.int (S k n) :: st) h P) : ix_E G m pc lv (.int x :: .ref (mA o k) :: st) h P := me_iald hd (r.ok M) hk hK hx hn (by rw [r.2.2]; exact kk)
theorem mx_zald {k n : Nat} {x : Int32} (r : mR o h0 h S) (M : md_ok h0 o) (hd : decode (ix_by m) pc = .ok (.baload, 1)) (hk : mIs k = true) (hK : mK k = 1) (hx : x = nI n) (hn : n < mL k) (kk : ix_E G m (pc + 1) lv (.int (S k n) :: st) h P) : ix_E G m pc lv (.int x :: .ref (mA o k) :: st) h P := me_zald hd (r.ok M) hk hK hx hn (by rw [r.2.2]; exact kk)
theorem mx_iast {k n : Nat} {x y : Int32} (r : mR o h0 h S) (M : md_ok h0 o) (hd : decode (ix_by m) pc = .ok (.iastore, 1)) (hk : mIs k = true) (hK : mK k = 0) (hx : x = nI n) (hn : n < mL k) (kk : ∀ h1, mR o h0 h1 (mset S k n y) → ix_E G m (pc + 1) lv st h1 P) : ix_E G m pc lv (.int y :: .int x :: .ref (mA o k) :: st) h P := me_iast hd (r.ok M) hk hK hx hn (kk _ (r.set hk))
theorem mx_zast {k n : Nat} {x y : Int32} (r : mR o h0 h S) (M : md_ok h0 o) (hd : decode (ix_by m) pc = .ok (.bastore, 1)) (hk : mIs k = true) (hK : mK k = 1) (hy : y = 0 ∨ y = 1) (hx : x = nI n) (hn : n < mL k) (kk : ∀ h1, mR o h0 h1 (mset S k n y) → ix_E G m (pc + 1) lv st h1 P) : ix_E G m pc lv (.int y :: .int x :: .ref (mA o k) :: st) h P := me_zast hd (r.ok M) hk hK hy hx hn (kk _ (r.set hk))
/-- a call of one of its own methods -/
theorem mx_call {stk : List Value} {i k n : Nat} {rv : ix_O} {S1 : MS} (r : mR o h0 h S) (M : md_ok h0 o) (as : List Value) (hd : decode (ix_by m) pc = .ok (.invokevirtual i, 3)) (hk : ix_ok k n) (hroom : ix_room m k) (hL : ix_VL (ix_own m) i k 8) (hstk : stk = as.reverse ++ .ref o :: st) (hn : as.length = n) (hcat : (st.map fun v => v.category).sum ≤ 8) (hsl : (lg_sl (.ref o :: as)).length ≤ ix_mL k)
    (hM : ix_E G k 0 (lv_args 0 (.ref o :: as)) [] h (fun r1 h1 => r1 = rv ∧ mR o h h1 S1)) (kk : ∀ h1, mR o h0 h1 S1 → ix_E G m (pc + 3) lv (rv.toList ++ st) h1 P) : ix_E G m pc lv stk h P := by
  refine ie_callV as hd hk hroom hL hstk hn hcat hsl (r.ok M).t hM (fun r1 h1 hq => ?_)
  obtain ⟨rfl, hq⟩ := hq
  exact kk h1 (r.tr hq)
/-- the same, of a method that only reads -/
theorem mx_ask {stk : List Value} {i k n : Nat} {rv : ix_O} (r : mR o h0 h S) (M : md_ok h0 o) (as : List Value) (hd : decode (ix_by m) pc = .ok (.invokevirtual i, 3)) (hk : ix_ok k n) (hroom : ix_room m k) (hL : ix_VL (ix_own m) i k 8) (hstk : stk = as.reverse ++ .ref o :: st) (hn : as.length = n) (hcat : (st.map fun v => v.category).sum ≤ 8) (hsl : (lg_sl (.ref o :: as)).length ≤ ix_mL k)
    (hM : ix_Ev G k 0 (lv_args 0 (.ref o :: as)) [] h rv h) (kk : ix_E G m (pc + 3) lv (rv.toList ++ st) h P) : ix_E G m pc lv stk h P := ie_callVx as hd hk hroom hL hstk hn hcat hsl (r.ok M).t hM kk
end MX
/-! locals behind a store -/
theorem ix_lk1 {lv : List (Nat × Value)} {i : Nat} {v : Value} : (ix_set lv i v).lookup i = some v := by
  simp [ix_set, List.lookup]
theorem ix_lk3 {lv : List (Nat × Value)} {i j : Nat} {v w : Value} (h : j ≠ i) (hl : lv.lookup j = some w) (hw : w.category = 1) : (ix_set lv i v).lookup j = some w := by
  have e0 : (j == i) = false := by simpa using h
  unfold ix_set
  simp only [List.lookup, e0]
  induction lv with
  | nil => cases hl
  | cons q t ih =>
    obtain ⟨a, b⟩ := q
    by_cases e : j = a
    · subst e
      have eb : b = w := by simpa [List.lookup] using hl
      subst eb
      rw [List.filter_cons_of_pos (by simp [h, hw])]
      simp [List.lookup]
    · have e2 : (j == a) = false := by simpa using e
      have hl2 : t.lookup j = some w := by simpa only [List.lookup, e2] using hl
      rw [List.filter_cons]
      split
      · simp only [List.lookup, e2]
        exact ih hl2
      · exact ih hl2
end
section

set_option maxRecDepth 100000 in
set_option maxHeartbeats 4000000 in
/-- units -/
theorem s160 {G : ix_G} {h : ix_H} {o : Nat} {S : MS} (M : md_ok h o) (hS : ms h o = S)  : ix_E G 160 0 (lv_args 0 [.ref o]) [] h (fun rv h' => rv = some (.int (S 44 0)) ∧ mR o h h' (m0 S)) := by
  have r : mR o h h S := mR.rf hS
  refine ie_aload_n d160_0 rfl ?_
  refine ie_iconst (nI 0) d160_1 (by decide) ?_
  refine mx_puti r M d160_2 fl17_144 rfl rfl rfl (fun hh r => ?_)
  refine ie_aload_n d160_5 rfl ?_
  refine mx_geti r M d160_6 fl17_171 rfl ?_
  rw [mset_k (by decide)]
  exact ie_iret d160_9 rfl (by first | rfl | decide | exact (ix_bz (bI_01 _)).1 | exact (ix_bz (by assumption)).1) ⟨rfl, r⟩
set_option maxRecDepth 100000 in
set_option maxHeartbeats 4000000 in
/-- size -/
theorem s123 {G : ix_G} {h : ix_H} {o : Nat} {S : MS} (M : md_ok h o) (hS : ms h o = S) (e f : Int32) : ix_E G 123 0 (lv_args 0 [.ref o, .int e, .int f]) [] h (fun rv h' => rv = some (.int (if ((0 ≤ e ∧ e ≤ 1) ∧ 0 ≤ f ∧ f ≤ 5) ∧ ¬ S 4 (6 * e.toNatClampNeg + f.toNatClampNeg) = 0 then S 5 (6 * e.toNatClampNeg + f.toNatClampNeg) else -1)) ∧ mR o h h' (m0 S)) := by
  have r : mR o h h S := mR.rf hS
  refine ie_aload_n d123_0 rfl ?_
  refine ie_iconst (nI 0) d123_1 (by decide) ?_
  refine mx_puti r M d123_2 fl17_144 rfl rfl rfl (fun hh r => ?_)
  refine ie_iload_n d123_5 rfl ?_
  refine ie_iload_n d123_6 rfl ?_
  refine ie_callSx [_, _] d123_7 ok117 rm123_117 cl17_151 rfl rfl (Nat.le_of_ble_eq_true rfl) (Nat.le_of_ble_eq_true rfl) (s117 _ _) ?_
  refine ie_if_eq 41 d123_10 (by decide) (fun c10 => ?_) (fun c10 => ?_)
  · skip
    rw [bI_0] at c10
    rw [if_neg (fun z => c10 z.1)]
    refine ie_iconst (-1) d123_41 (by decide) ?_
    exact ie_iret d123_42 rfl (by first | rfl | decide | exact (ix_bz (bI_01 _)).1 | exact (ix_bz (by assumption)).1) ⟨rfl, r⟩
  · skip
    rw [bI_0, Classical.not_not] at c10
    obtain ⟨e', f', he, hf, rfl, rfl⟩ := isF2 c10
    rw [cl2 (by omega : e' < 768), cl2 (by omega : f' < 768)]
    refine ie_aload_n d123_13 rfl ?_
    refine mx_getr r M d123_14 fl17_7 rfl ?_
    refine ie_bipush (nI 6) d123_17 (by decide) ?_
    refine ie_iload_n d123_19 rfl ?_
    refine ie_imul d123_20 ?_
    rw [pk_mul]
    refine ie_iload_n d123_21 rfl ?_
    refine ie_iadd d123_22 ?_
    rw [nI_add]
    refine mx_zald (k := 4) (n := ((6 * e') + f')) r M d123_23 rfl rfl rfl (by show 6 * e' + f' < 12; omega) ?_
    rw [mset_k (by decide)]
    refine ie_if_eq 41 d123_24 (by decide) (fun c24 => ?_) (fun c24 => ?_)
    · skip
      rw [if_neg (fun z => z.2 c24)]
      refine ie_iconst (-1) d123_41 (by decide) ?_
      exact ie_iret d123_42 rfl (by first | rfl | decide | exact (ix_bz (bI_01 _)).1 | exact (ix_bz (by assumption)).1) ⟨rfl, r⟩
    · skip
      rw [if_pos ⟨c10, c24⟩]
      refine ie_aload_n d123_27 rfl ?_
      refine mx_getr r M d123_28 fl17_13 rfl ?_
      refine ie_bipush (nI 6) d123_31 (by decide) ?_
      refine ie_iload_n d123_33 rfl ?_
      refine ie_imul d123_34 ?_
      rw [pk_mul]
      refine ie_iload_n d123_35 rfl ?_
      refine ie_iadd d123_36 ?_
      rw [nI_add]
      refine mx_iald (k := 5) (n := ((6 * e') + f')) r M d123_37 rfl rfl rfl (by show 6 * e' + f' < 12; omega) ?_
      rw [mset_k (by decide)]
      refine ie_goto 42 d123_38 (by decide) ?_
      exact ie_iret d123_42 rfl (by first | rfl | decide | exact (ix_bz (bI_01 _)).1 | exact (ix_bz (by assumption)).1) ⟨rfl, r⟩
/-- which files the open senders of an entity lock -/
def mLock (S : MS) (e : Nat) (f : Int32) (c : Nat) : Prop := ∃ k, k < c ∧ S 9 (S 40 (3 * e + k)).toNatClampNeg = f
theorem mLock_s {S : MS} {e c : Nat} {f : Int32} : mLock S e f (c + 1) ↔ mLock S e f c ∨ S 9 (S 40 (3 * e + c)).toNatClampNeg = f := by
  constructor
  · rintro ⟨k, hk, q⟩
    by_cases e2 : k = c
    · subst e2; exact Or.inr q
    · exact Or.inl ⟨k, by omega, q⟩
  · rintro (⟨k, hk, q⟩ | q)
    · exact ⟨k, by omega, q⟩
    · exact ⟨c, by omega, q⟩
theorem mLock_0 {S : MS} {e : Nat} {f : Int32} : ¬ mLock S e f 0 := fun ⟨_, h, _⟩ => absurd h (Nat.not_lt_zero _)
/-- the rows of open senders are in order -/
def mSnd (S : MS) (e : Nat) : Prop := ∃ c, c ≤ 3 ∧ S 42 e = nI c ∧ ∀ k, k < c → ∃ t, t < 640 ∧ S 40 (3 * e + k) = nI t
noncomputable def bP (c : Prop) : Int32 := @bI c (Classical.propDecidable c)
theorem bP_t {c : Prop} (h : c) : bP c = 1 := @if_pos c (Classical.propDecidable c) h _ _ _
theorem bP_f {c : Prop} (h : ¬ c) : bP c = 0 := @if_neg c (Classical.propDecidable c) h _ _ _
theorem bP_01 (c : Prop) : bP c = 0 ∨ bP c = 1 := @bI_01 c (Classical.propDecidable c)
theorem bP_0 {c : Prop} : bP c = 0 ↔ ¬ c := @bI_0 c (Classical.propDecidable c)
theorem bP_c {c d : Prop} (h : c ↔ d) : bP c = bP d := by rw [propext h]
set_option maxRecDepth 100000 in
set_option maxHeartbeats 4000000 in
/-- isLocked: its loop -/
theorem s121_loop {G : ix_G} {h : ix_H} {o : Nat} {S : MS} (M : md_ok h o) (r : mR o h h S) {e c : Nat} {f : Int32} (he : e < 2) (hc3 : c ≤ 3) (hc : S 42 e = nI c) (hs : ∀ k, k < c → ∃ t, t < 640 ∧ S 40 (3 * e + k) = nI t) :
    ∀ (n i : Nat), i ≤ c → c - i < n → ∀ (lv : List (Nat × Value)), lv.lookup 0 = some (.ref o) → lv.lookup 1 = some (.int (nI e)) → lv.lookup 2 = some (.int f) → lv.lookup 3 = some (.int (bP (mLock S e f i))) → lv.lookup 4 = some (.int (nI i)) →
      ix_E G 121 5 lv [] h (fun rv h' => rv = some (.int (bP (mLock S e f c))) ∧ h' = h) := by
  intro n
  induction n with
  | zero => intro i h1 h2; omega
  | succ n ih =>
    intro i hi hn lv l0 l1 l2 l3 l4
    refine ie_iload d121_5 l4 ?_
    refine ie_aload_n d121_7 l0 ?_
    refine mx_getr r M d121_8 fl17_125 rfl ?_
    refine ie_iload_n d121_11 l1 ?_
    refine mx_iald (k := 42) (n := e) r M d121_12 rfl rfl rfl (by show e < 2; exact he) ?_
    rw [hc]
    refine ie_icmp_ge 52 d121_13 (by decide) (fun c13 => ?_) (fun c13 => ?_)
    · rw [nI_leI (by omega) (by omega)] at c13
      have hi2 : i = c := by omega
      subst hi2
      refine ie_iload_n d121_52 l3 ?_
      exact ie_iret d121_53 rfl (ix_bz (bP_01 _)).1 ⟨rfl, rfl⟩
    · rw [nI_leI (by omega) (by omega)] at c13
      obtain ⟨t, ht0, ht⟩ := hs i (by omega)
      have key : ∀ x : Int32, x = bP (mLock S e f (i + 1)) → ix_E G 121 45 lv [.int x] h (fun rv h' => rv = some (.int (bP (mLock S e f c))) ∧ h' = h) := by
        intro x hx
        refine ie_istore_n d121_45 (by decide) ?_
        refine ie_iinc (nI (i + 1)) d121_46 (ix_lk3 (by decide) l4 rfl) (nI_1 _) (by decide) ?_
        refine ie_goto 5 d121_49 (by decide) ?_
        refine ih (i + 1) (by omega) (by omega) _ ?_ ?_ ?_ ?_ ?_
        · exact ix_lk3 (by decide) (ix_lk3 (by decide) l0 rfl) rfl
        · exact ix_lk3 (by decide) (ix_lk3 (by decide) l1 rfl) rfl
        · exact ix_lk3 (by decide) (ix_lk3 (by decide) l2 rfl) rfl
        · exact ix_lk3 (by decide) (by rw [← hx]; exact ix_lk1) rfl
        · exact ix_lk1
      refine ie_iload_n d121_16 l3 ?_
      refine ie_if_ne 40 d121_17 (by decide) (fun c17 => ?_) (fun c17 => ?_)
      · refine ie_iconst 1 d121_40 (by decide) ?_
        refine ie_goto 45 d121_41 (by decide) ?_
        exact key 1 (bP_t (mLock_s.mpr (Or.inl (Classical.byContradiction (fun z => c17 (bP_f z)))))).symm
      · refine ie_aload_n d121_20 l0 ?_
        refine mx_getr r M d121_21 fl17_26 rfl ?_
        refine ie_aload_n d121_24 l0 ?_
        refine mx_getr r M d121_25 fl17_119 rfl ?_
        refine ie_iconst (nI 3) d121_28 (by decide) ?_
        refine ie_iload_n d121_29 l1 ?_
        refine ie_imul d121_30 ?_
        rw [pk_mul]
        refine ie_iload d121_31 l4 ?_
        refine ie_iadd d121_33 ?_
        rw [nI_add]
        refine mx_iald (k := 40) (n := 3 * e + i) r M d121_34 rfl rfl rfl (by show 3 * e + i < 6; omega) ?_
        rw [ht]
        refine mx_iald (k := 9) (n := t) r M d121_35 rfl rfl rfl (by show t < 640; exact ht0) ?_
        refine ie_iload_n d121_36 l2 ?_
        have hz : S 9 (S 40 (3 * e + i)).toNatClampNeg = S 9 t := by rw [ht, cl2 (by omega)]
        rw [bP_0] at c17
        refine ie_icmp_ne 44 d121_37 (by decide) (fun c37 => ?_) (fun c37 => ?_)
        · refine ie_iconst 0 d121_44 (by decide) ?_
          exact key 0 (bP_f (fun q => (mLock_s.mp q).elim c17 (fun q2 => c37 (by rw [← hz]; exact q2)))).symm
        · refine ie_iconst 1 d121_40 (by decide) ?_
          refine ie_goto 45 d121_41 (by decide) ?_
          exact key 1 (bP_t (mLock_s.mpr (Or.inr (by rw [hz]; exact c37)))).symm
set_option maxRecDepth 100000 in
set_option maxHeartbeats 4000000 in
/-- isLocked -/
theorem s121 {G : ix_G} {h : ix_H} {o : Nat} {S : MS} (M : md_ok h o) (hS : ms h o = S) {e c : Nat} {f : Int32} (he : e < 2) (hc3 : c ≤ 3) (hc : S 42 e = nI c) (hs : ∀ k, k < c → ∃ t, t < 640 ∧ S 40 (3 * e + k) = nI t) : ix_Ev G 121 0 (lv_args 0 [.ref o, .int (nI e), .int f]) [] h (some (.int (bP (mLock S e f c)))) h := by
  refine ix_ofE ?_
  refine ie_iconst 0 d121_0 (by decide) ?_
  refine ie_istore_n d121_1 (by decide) ?_
  refine ie_iconst (nI 0) d121_2 (by decide) ?_
  refine ie_istore d121_3 (by decide) ?_
  exact s121_loop M (mR.rf hS) he hc3 hc hs (c + 1) 0 (by omega) (by omega) _ rfl rfl rfl (by rw [bP_f mLock_0]; rfl) rfl
end
section
theorem s120m {G : ix_G} {h : ix_H} {o : Nat} {S : MS} (M : md_ok h o) (hS : ms h o = S) (c : Int32) : ix_E G 120 0 (lv_args 0 [.ref o, .int c]) [] h (fun rv h' => rv = some (.int 0) ∧ mR o h h' (mset S 3 0 c)) := ⟨_, _, s120 M c, rfl, (mR.rf hS).setF rfl⟩
theorem m0_3 {S : MS} {c : Int32} : mset (m0 S) 3 0 c = mset S 3 0 c := mset_mset
noncomputable def mAt (S : MS) (e f i : Int32) : Int32 × MS := if ((0 ≤ e ∧ e ≤ 1) ∧ 0 ≤ f ∧ f ≤ 5) ∧ ¬ S 4 (6 * e.toNatClampNeg + f.toNatClampNeg) = 0 then (if 0 ≤ i ∧ i < S 5 (6 * e.toNatClampNeg + f.toNatClampNeg) then (S 6 (64 * (6 * e.toNatClampNeg + f.toNatClampNeg) + i.toNatClampNeg), m0 S) else (0, mset S 3 0 2)) else (0, mset S 3 0 1)
/-- rows of the link: u units are under way -/
def mRow (S : MS) (b : Nat) (f : Nat → Int32) : MS := fun k j => if k = 45 ∧ b ≤ j ∧ j < b + 11 then f (j - b) else S k j
def mZ (S : MS) (b n : Nat) : MS := fun k j => if k = 45 ∧ b ≤ j ∧ j < b + n then 0 else S k j
theorem mZ_0 {S : MS} {b : Nat} : mZ S b 0 = S := by
  funext k j
  unfold mZ
  rw [if_neg (by omega)]
theorem mZ_s {S : MS} {b n : Nat} : mset (mZ S b n) 45 (b + n) 0 = mZ S b (n + 1) := by
  funext k j
  unfold mset mZ
  have h45 : mIs 45 = true := rfl
  by_cases e : k = 45 ∧ j = b + n
  · rw [if_pos ⟨e.1, Or.inl e.2⟩, if_pos ⟨e.1, by omega, by omega⟩]
  · rw [if_neg (fun z => e ⟨z.1, z.2.elim id (fun q => by cases q)⟩)]
    by_cases q : k = 45 ∧ b ≤ j ∧ j < b + n
    · rw [if_pos q, if_pos ⟨q.1, q.2.1, by omega⟩]
    · rw [if_neg q, if_neg (fun z => q ⟨z.1, z.2.1, by omega⟩)]
def mSend (S : MS) (u : Nat) (kind to t a b c : Int32) : MS := if u = 24 then S else mset (mRow S (11 * u) (fun i => [kind, to, t, a, b, c].getD i 0)) 44 0 (nI (u + 1))
theorem mSend_eq {S : MS} {u : Nat} {kind to t a b c : Int32} (hu : ¬ u = 24) : mset (mset (mset (mset (mset (mset (mset (mZ S (11 * u) 11) 45 (11 * u) kind) 45 (11 * u + 1) to) 45 (11 * u + 2) t) 45 (11 * u + 3) a) 45 (11 * u + 4) b) 45 (11 * u + 5) c) 44 0 (nI (u + 1)) = mSend S u kind to t a b c := by
  unfold mSend
  rw [if_neg hu]
  congr 1
  funext k j
  have h45 : mIs 45 = true := rfl
  by_cases hk : k = 45
  · subst hk
    rw [mset_if h45, mset_if h45, mset_if h45, mset_if h45, mset_if h45, mset_if h45]
    unfold mRow mZ
    by_cases hj : 11 * u ≤ j ∧ j < 11 * u + 11
    · obtain ⟨i, rfl⟩ : ∃ i, j = 11 * u + i := ⟨j - 11 * u, by omega⟩
      have hi : i < 11 := by omega
      rw [if_pos (show (45 = 45 ∧ 11 * u ≤ 11 * u + i ∧ 11 * u + i < 11 * u + 11) from ⟨rfl, hj⟩), Nat.add_sub_cancel_left]
      have hs : ∀ q : Nat, (11 * u + i = 11 * u + q) = (i = q) := fun q => propext ⟨fun z => by omega, fun z => by omega⟩
      have h0 : (11 * u + i = 11 * u) = (i = 0) := propext ⟨fun z => by omega, fun z => by omega⟩
      rw [if_pos (show (45 = 45 ∧ 11 * u ≤ 11 * u + i ∧ 11 * u + i < 11 * u + 11) from ⟨rfl, hj⟩)]
      simp only [hs, h0]
      clear hs h0 hj
      match i, hi with
      | 0, _ => rfl
      | 1, _ => rfl
      | 2, _ => rfl
      | 3, _ => rfl
      | 4, _ => rfl
      | 5, _ => rfl
      | 6, _ => rfl
      | 7, _ => rfl
      | 8, _ => rfl
      | 9, _ => rfl
      | 10, _ => rfl
    · rw [if_neg (show ¬ (45 = 45 ∧ 11 * u ≤ j ∧ j < 11 * u + 11) from fun z => hj z.2), if_neg (by omega), if_neg (by omega), if_neg (by omega), if_neg (by omega), if_neg (by omega), if_neg (by omega), if_neg (show ¬ (45 = 45 ∧ 11 * u ≤ j ∧ j < 11 * u + 11) from fun z => hj z.2)]
  · rw [mset_k hk, mset_k hk, mset_k hk, mset_k hk, mset_k hk, mset_k hk]
    unfold mRow mZ
    rw [if_neg (fun z => hk z.1), if_neg (fun z => hk z.1)]
set_option maxRecDepth 100000 in
set_option maxHeartbeats 4000000 in
/-- send: its loop and what follows -/
theorem s136_loop {G : ix_G} {h0 : ix_H} {o : Nat} {S : MS} (M : md_ok h0 o) {u : Nat} {kind to t a b c : Int32} (hu : S 44 0 = nI u) (hu24 : u < 24) :
    ∀ (n i : Nat), i ≤ 11 → 11 - i < n → ∀ (h : ix_H), mR o h0 h (mZ S (11 * u) i) → ∀ (lv : List (Nat × Value)), lv.lookup 0 = some (.ref o) → lv.lookup 1 = some (.int kind) → lv.lookup 2 = some (.int to) → lv.lookup 3 = some (.int t) → lv.lookup 4 = some (.int a) → lv.lookup 5 = some (.int b) → lv.lookup 6 = some (.int c) → lv.lookup 7 = some (.int (nI (11 * u))) → lv.lookup 8 = some (.int (nI i)) →
      ix_E G 136 23 lv [] h (fun rv h' => rv = some (.int 1) ∧ mR o h0 h' (mSend S u kind to t a b c)) := by
  intro n
  induction n with
  | zero => intro i h1 h2; omega
  | succ n ih =>
    intro i hi hn h r lv l0 l1 l2 l3 l4 l5 l6 l7 l8
    refine ie_iload d136_23 l8 ?_
    refine ie_bipush (nI 11) d136_25 (by decide) ?_
    refine ie_icmp_ge 47 d136_27 (by decide) (fun c27 => ?_) (fun c27 => ?_)
    · rw [nI_leI (by omega) (by omega)] at c27
      have hi2 : i = 11 := by omega
      subst hi2
      refine ie_aload_n d136_47 l0 ?_
      refine mx_getr r M d136_48 fl17_131 rfl ?_
      refine ie_iload d136_51 l7 ?_
      refine ie_iload_n d136_53 l1 ?_
      refine mx_iast (k := 45) (n := (11 * u)) r M d136_54 rfl rfl rfl (by show 11 * u < 264; omega) (fun hh r => ?_)
      refine ie_aload_n d136_55 l0 ?_
      refine mx_getr r M d136_56 fl17_131 rfl ?_
      refine ie_iload d136_59 l7 ?_
      refine ie_iconst (nI 1) d136_61 (by decide) ?_
      refine ie_iadd d136_62 ?_
      rw [nI_add]
      refine ie_iload_n d136_63 l2 ?_
      refine mx_iast (k := 45) (n := (11 * u + 1)) r M d136_64 rfl rfl rfl (by show 11 * u + 1 < 264; omega) (fun hh r => ?_)
      refine ie_aload_n d136_65 l0 ?_
      refine mx_getr r M d136_66 fl17_131 rfl ?_
      refine ie_iload d136_69 l7 ?_
      refine ie_iconst (nI 2) d136_71 (by decide) ?_
      refine ie_iadd d136_72 ?_
      rw [nI_add]
      refine ie_iload_n d136_73 l3 ?_
      refine mx_iast (k := 45) (n := (11 * u + 2)) r M d136_74 rfl rfl rfl (by show 11 * u + 2 < 264; omega) (fun hh r => ?_)
      refine ie_aload_n d136_75 l0 ?_
      refine mx_getr r M d136_76 fl17_131 rfl ?_
      refine ie_iload d136_79 l7 ?_
      refine ie_iconst (nI 3) d136_81 (by decide) ?_
      refine ie_iadd d136_82 ?_
      rw [nI_add]
      refine ie_iload d136_83 l4 ?_
      refine mx_iast (k := 45) (n := (11 * u + 3)) r M d136_85 rfl rfl rfl (by show 11 * u + 3 < 264; omega) (fun hh r => ?_)
      refine ie_aload_n d136_86 l0 ?_
      refine mx_getr r M d136_87 fl17_131 rfl ?_
      refine ie_iload d136_90 l7 ?_
      refine ie_iconst (nI 4) d136_92 (by decide) ?_
      refine ie_iadd d136_93 ?_
      rw [nI_add]
      refine ie_iload d136_94 l5 ?_
      refine mx_iast (k := 45) (n := (11 * u + 4)) r M d136_96 rfl rfl rfl (by show 11 * u + 4 < 264; omega) (fun hh r => ?_)
      refine ie_aload_n d136_97 l0 ?_
      refine mx_getr r M d136_98 fl17_131 rfl ?_
      refine ie_iload d136_101 l7 ?_
      refine ie_iconst (nI 5) d136_103 (by decide) ?_
      refine ie_iadd d136_104 ?_
      rw [nI_add]
      refine ie_iload d136_105 l6 ?_
      refine mx_iast (k := 45) (n := (11 * u + 5)) r M d136_107 rfl rfl rfl (by show 11 * u + 5 < 264; omega) (fun hh r => ?_)
      refine ie_aload_n d136_108 l0 ?_
      refine ie_dup d136_109 rfl ?_
      refine mx_geti r M d136_110 fl17_171 rfl ?_
      rw [mset_k (by decide)]
      rw [mset_k (by decide)]
      rw [mset_k (by decide)]
      rw [mset_k (by decide)]
      rw [mset_k (by decide)]
      rw [mset_k (by decide)]
      repeat rw [mset_k (by decide)]
      rw [show mZ S (11 * u) 11 44 0 = nI u by unfold mZ; rw [if_neg (by omega)]; exact hu]
      refine ie_iconst (nI 1) d136_113 (by decide) ?_
      refine ie_iadd d136_114 ?_
      rw [nI_add]
      refine mx_puti r M d136_115 fl17_171 rfl rfl rfl (fun hh r => ?_)
      refine ie_iconst (nI 1) d136_118 (by decide) ?_
      exact ie_iret d136_119 rfl (by first | rfl | decide | exact (ix_bz (bI_01 _)).1 | exact (ix_bz (by assumption)).1) ⟨rfl, by rw [mSend_eq (by omega)] at r; exact r⟩
    · rw [nI_leI (by omega) (by omega)] at c27
      refine ie_aload_n d136_30 l0 ?_
      refine mx_getr r M d136_31 fl17_131 rfl ?_
      refine ie_iload d136_34 l7 ?_
      refine ie_iload d136_36 l8 ?_
      refine ie_iadd d136_38 ?_
      rw [nI_add]
      refine ie_iconst (nI 0) d136_39 (by decide) ?_
      refine mx_iast (k := 45) (n := (11 * u + i)) r M d136_40 rfl rfl rfl (by show 11 * u + i < 264; omega) (fun hh r => ?_)
      refine ie_iinc (nI (i + 1)) d136_41 l8 (nI_1 _) (by decide) ?_
      refine ie_goto 23 d136_44 (by decide) ?_
      exact ih (i + 1) (by omega) (by omega) hh (by rw [← mZ_s]; exact r) _ (ix_lk3 (by decide) l0 rfl) (ix_lk3 (by decide) l1 rfl) (ix_lk3 (by decide) l2 rfl) (ix_lk3 (by decide) l3 rfl) (ix_lk3 (by decide) l4 rfl) (ix_lk3 (by decide) l5 rfl) (ix_lk3 (by decide) l6 rfl) (ix_lk3 (by decide) l7 rfl) ix_lk1
set_option maxRecDepth 100000 in
set_option maxHeartbeats 4000000 in
/-- send -/
theorem s136 {G : ix_G} {h : ix_H} {o : Nat} {S : MS} (M : md_ok h o) (hS : ms h o = S) {u : Nat} (hu : S 44 0 = nI u) (hu24 : u ≤ 24) (kind to t a b c : Int32) : ix_E G 136 0 (lv_args 0 [.ref o, .int kind, .int to, .int t, .int a, .int b, .int c]) [] h (fun rv h' => rv = some (.int (bI (u < 24))) ∧ mR o h h' (mSend S u kind to t a b c)) := by
  have r : mR o h h S := mR.rf hS
  refine ie_aload_n d136_0 rfl ?_
  refine mx_geti r M d136_1 fl17_171 rfl ?_
  rw [hu]
  refine ie_bipush (nI 24) d136_4 (by decide) ?_
  refine ie_icmp_ne 11 d136_6 (by decide) (fun c6 => ?_) (fun c6 => ?_)
  · have hlt : u < 24 := by
      rcases Nat.lt_or_ge u 24 with q | q
      · exact q
      · exact absurd (by rw [show u = 24 by omega]) c6
    rw [bI_t hlt]
    refine ie_bipush (nI 11) d136_11 (by decide) ?_
    refine ie_aload_n d136_13 rfl ?_
    refine mx_geti r M d136_14 fl17_171 rfl ?_
    rw [hu]
    refine ie_imul d136_17 ?_
    rw [pk_mul]
    refine ie_istore d136_18 (by decide) ?_
    refine ie_iconst (nI 0) d136_20 (by decide) ?_
    refine ie_istore d136_21 (by decide) ?_
    exact s136_loop M hu hlt 12 0 (by omega) (by omega) h (by rw [mZ_0]; exact r) _ rfl rfl rfl rfl rfl rfl rfl rfl rfl
  · have hu2 : u = 24 := (nI_eq (by omega) (by omega)).mp c6
    rw [bI_f (by omega)]
    refine ie_iconst 0 d136_9 (by decide) ?_
    refine ie_iret d136_10 rfl (by decide) ⟨rfl, ?_⟩
    unfold mSend
    rw [if_pos hu2]
    exact r
end
section
def mWd (S : MS) (f n s : Nat) : Nat → Int32
  | 0 => 0
  | k + 1 => (mWd S f n s k <<< (nI 8 &&& 31)) ||| (if 4 * s + k < n then S 6 (64 * f + 4 * s + k) else 0)
set_option maxRecDepth 100000 in
set_option maxHeartbeats 4000000 in
/-- word: its loop -/
theorem s135_loop {G : ix_G} {h : ix_H} {o : Nat} {S : MS} (M : md_ok h o) (r : mR o h h S) {f n s : Nat} (hf : f < 12) (hn64 : n ≤ 64) (hs : s < 16) (hl : S 5 f = nI n) :
    ∀ (z i : Nat), i ≤ 4 → 4 - i < z → ∀ (lv : List (Nat × Value)), lv.lookup 0 = some (.ref o) → lv.lookup 1 = some (.int (nI f)) → lv.lookup 2 = some (.int (nI s)) → lv.lookup 3 = some (.int (mWd S f n s i)) → lv.lookup 4 = some (.int (nI i)) → ix_E G 135 5 lv [] h (fun rv h' => rv = some (.int (mWd S f n s 4)) ∧ h' = h) := by
  intro z
  induction z with
  | zero => intro i h1 h2; omega
  | succ z ih =>
    intro i hi hz lv l0 l1 l2 l3 l4
    refine ie_iload d135_5 l4 ?_
    refine ie_iconst (nI 4) d135_7 (by decide) ?_
    refine ie_icmp_ge 58 d135_8 (by decide) (fun c8 => ?_) (fun c8 => ?_)
    · rw [nI_leI (by omega) (by omega)] at c8
      have hi2 : i = 4 := by omega
      subst hi2
      refine ie_iload_n d135_58 l3 ?_
      exact ie_iret d135_59 rfl rfl ⟨rfl, rfl⟩
    · rw [nI_leI (by omega) (by omega)] at c8
      refine ie_iload_n d135_11 l3 ?_
      refine ie_bipush (nI 8) d135_12 (by decide) ?_
      refine ie_ishl d135_14 ?_
      refine ie_iconst (nI 4) d135_15 (by decide) ?_
      refine ie_iload_n d135_16 l2 ?_
      refine ie_imul d135_17 ?_
      rw [pk_mul]
      refine ie_iload d135_18 l4 ?_
      refine ie_iadd d135_20 ?_
      rw [nI_add]
      refine ie_aload_n d135_21 l0 ?_
      refine mx_getr r M d135_22 fl17_13 rfl ?_
      refine ie_iload_n d135_25 l1 ?_
      refine mx_iald (k := 5) (n := f) r M d135_26 rfl rfl rfl (by show f < 12; omega) ?_
      rw [hl]
      refine ie_icmp_ge 49 d135_27 (by decide) (fun c27 => ?_) (fun c27 => ?_)
      · skip
        rw [nI_leI (by omega) (by omega)] at c27
        have K : (mWd S f n s i <<< (nI 8 &&& 31)) ||| nI 0 = mWd S f n s (i + 1) := by
          show _ = (_ ||| (if 4 * s + i < n then _ else _))
          rw [if_neg (by omega)]
          rfl
        refine ie_iconst (nI 0) d135_49 (by decide) ?_
        refine ie_ior d135_50 ?_
        refine ie_istore_n d135_51 (by decide) ?_
        refine ie_iinc (nI (i + 1)) d135_52 (ix_lk3 (by decide) l4 rfl) (nI_1 _) (by decide) ?_
        refine ie_goto 5 d135_55 (by decide) ?_
        exact ih (i + 1) (by omega) (by omega) _ (ix_lk3 (by decide) (ix_lk3 (by decide) l0 rfl) rfl) (ix_lk3 (by decide) (ix_lk3 (by decide) l1 rfl) rfl) (ix_lk3 (by decide) (ix_lk3 (by decide) l2 rfl) rfl) (by rw [← K]; exact (ix_lk3 (by decide) ix_lk1 rfl)) ix_lk1
      · skip
        rw [nI_leI (by omega) (by omega)] at c27
        have K : (mWd S f n s i <<< (nI 8 &&& 31)) ||| S 6 (64 * f + 4 * s + i) = mWd S f n s (i + 1) := by
          show _ = (_ ||| (if 4 * s + i < n then _ else _))
          rw [if_pos (by omega)]
        refine ie_aload_n d135_30 l0 ?_
        refine mx_getr r M d135_31 fl17_17 rfl ?_
        refine ie_bipush (nI 64) d135_34 (by decide) ?_
        refine ie_iload_n d135_36 l1 ?_
        refine ie_imul d135_37 ?_
        rw [pk_mul]
        refine ie_iconst (nI 4) d135_38 (by decide) ?_
        refine ie_iload_n d135_39 l2 ?_
        refine ie_imul d135_40 ?_
        rw [pk_mul]
        refine ie_iadd d135_41 ?_
        rw [nI_add]
        refine ie_iload d135_42 l4 ?_
        refine ie_iadd d135_44 ?_
        rw [nI_add]
        refine mx_iald (k := 6) (n := (64 * f + 4 * s + i)) r M d135_45 rfl rfl rfl (by show 64 * f + 4 * s + i < 768; omega) ?_
        refine ie_goto 50 d135_46 (by decide) ?_
        refine ie_ior d135_50 ?_
        refine ie_istore_n d135_51 (by decide) ?_
        refine ie_iinc (nI (i + 1)) d135_52 (ix_lk3 (by decide) l4 rfl) (nI_1 _) (by decide) ?_
        refine ie_goto 5 d135_55 (by decide) ?_
        exact ih (i + 1) (by omega) (by omega) _ (ix_lk3 (by decide) (ix_lk3 (by decide) l0 rfl) rfl) (ix_lk3 (by decide) (ix_lk3 (by decide) l1 rfl) rfl) (ix_lk3 (by decide) (ix_lk3 (by decide) l2 rfl) rfl) (by rw [← K]; exact (ix_lk3 (by decide) ix_lk1 rfl)) ix_lk1
set_option maxRecDepth 100000 in
set_option maxHeartbeats 4000000 in
/-- word -/
theorem s135 {G : ix_G} {h : ix_H} {o : Nat} {S : MS} (M : md_ok h o) (hS : ms h o = S) {f n s : Nat} (hf : f < 12) (hn64 : n ≤ 64) (hs : s < 16) (hl : S 5 f = nI n) : ix_Ev G 135 0 (lv_args 0 [.ref o, .int (nI f), .int (nI s)]) [] h (some (.int (mWd S f n s 4))) (h) := by
  refine ix_ofE ?_
  have r : mR o h h S := mR.rf hS
  refine ie_iconst 0 d135_0 (by decide) ?_
  refine ie_istore_n d135_1 (by decide) ?_
  refine ie_iconst (nI 0) d135_2 (by decide) ?_
  refine ie_istore d135_3 (by decide) ?_
  exact s135_loop M r hf hn64 hs hl 5 0 (by omega) (by omega) _ rfl rfl rfl rfl rfl
def mCk (S : MS) (f n : Nat) : Nat → Int32
  | 0 => 0
  | s + 1 => mCk S f n s + mWd S f n s 4
theorem seg_nI {n : Nat} (h : n ≤ 100) : (nI n + 3) / 4 = nI ((n + 3) / 4) := by
  rw [show (3 : Int32) = nI 3 from rfl, nI_add, show (4 : Int32) = nI 4 from rfl, pk_div (by omega) (by decide) (by decide)]
set_option maxRecDepth 100000 in
set_option maxHeartbeats 4000000 in
/-- checksum: its loop -/
theorem s134_loop {G : ix_G} {h : ix_H} {o : Nat} {S : MS} (M : md_ok h o) (r : mR o h h S) {f n : Nat} (hf : f < 12) (hn64 : n ≤ 64) (hl : S 5 f = nI n) :
    ∀ (z i : Nat), i ≤ (n + 3) / 4 → (n + 3) / 4 - i < z → ∀ (lv : List (Nat × Value)), lv.lookup 0 = some (.ref o) → lv.lookup 1 = some (.int (nI f)) → lv.lookup 2 = some (.int (mCk S f n i)) → lv.lookup 3 = some (.int (nI i)) → ix_E G 134 4 lv [] h (fun rv h' => rv = some (.int (mCk S f n ((n + 3) / 4))) ∧ h' = h) := by
  intro z
  induction z with
  | zero => intro i h1 h2; omega
  | succ z ih =>
    intro i hi hz lv l0 l1 l2 l3
    refine ie_iload_n d134_4 l3 ?_
    refine ie_aload_n d134_5 l0 ?_
    refine mx_getr r M d134_6 fl17_13 rfl ?_
    refine ie_iload_n d134_9 l1 ?_
    refine mx_iald (k := 5) (n := f) r M d134_10 rfl rfl rfl (by show f < 12; exact hf) ?_
    rw [hl]
    refine ie_callSx [_] d134_11 ok132 rm134_132 cl17_164 rfl rfl (Nat.le_of_ble_eq_true rfl) (Nat.le_of_ble_eq_true rfl) (s132 _) ?_
    rw [seg_nI (by omega)]
    refine ie_icmp_ge 32 d134_14 (by decide) (fun c14 => ?_) (fun c14 => ?_)
    · rw [nI_leI (by omega) (by omega)] at c14
      have hi2 : i = (n + 3) / 4 := by omega
      subst hi2
      refine ie_iload_n d134_32 l2 ?_
      exact ie_iret d134_33 rfl rfl ⟨rfl, rfl⟩
    · rw [nI_leI (by omega) (by omega)] at c14
      refine ie_iload_n d134_17 l2 ?_
      refine ie_aload_n d134_18 l0 ?_
      refine ie_iload_n d134_19 l1 ?_
      refine ie_iload_n d134_20 l3 ?_
      refine mx_ask r M [_, _] d134_21 ok135 rm134_135 cl17_167 rfl rfl (Nat.le_of_ble_eq_true rfl) (Nat.le_of_ble_eq_true rfl) (s135 (r.ok M) r.2.2 hf hn64 (by omega) hl) ?_
      refine ie_iadd d134_24 ?_
      refine ie_istore_n d134_25 (by decide) ?_
      refine ie_iinc (nI (i + 1)) d134_26 (ix_lk3 (by decide) l3 rfl) (nI_1 _) (by decide) ?_
      refine ie_goto 4 d134_29 (by decide) ?_
      exact ih (i + 1) (by omega) (by omega) _ (ix_lk3 (by decide) (ix_lk3 (by decide) l0 rfl) rfl) (ix_lk3 (by decide) (ix_lk3 (by decide) l1 rfl) rfl) (ix_lk3 (by decide) ix_lk1 rfl) ix_lk1
set_option maxRecDepth 100000 in
set_option maxHeartbeats 4000000 in
/-- checksum -/
theorem s134 {G : ix_G} {h : ix_H} {o : Nat} {S : MS} (M : md_ok h o) (hS : ms h o = S) {f n : Nat} (hf : f < 12) (hn64 : n ≤ 64) (hl : S 5 f = nI n) : ix_Ev G 134 0 (lv_args 0 [.ref o, .int (nI f)]) [] h (some (.int (mCk S f n ((n + 3) / 4)))) (h) := by
  refine ix_ofE ?_
  have r : mR o h h S := mR.rf hS
  refine ie_iconst 0 d134_0 (by decide) ?_
  refine ie_istore_n d134_1 (by decide) ?_
  refine ie_iconst (nI 0) d134_2 (by decide) ?_
  refine ie_istore_n d134_3 (by decide) ?_
  exact s134_loop M r hf hn64 hl ((n + 3) / 4 + 1) 0 (by omega) (by omega) _ rfl rfl rfl rfl
def mSh (S : MS) (u k q : Nat) : MS := fun kk j => if kk = 45 ∧ 11 * k ≤ j ∧ j < q then S 45 (j + 11) else if kk = 44 then nI (u - 1) else S kk j
def mOut (S : MS) (u k : Nat) : MS := mSh S u k (11 * (u - 1))
theorem mSh_0 {S : MS} {u k : Nat} : mSh S u k (11 * k) = mset S 44 0 (nI (u - 1)) := by
  funext kk j
  unfold mSh mset
  rw [if_neg (by omega)]
  by_cases e : kk = 44
  · rw [if_pos e, if_pos ⟨e, Or.inr rfl⟩]
  · rw [if_neg e, if_neg (fun z => e z.1)]
theorem mSh_r {S : MS} {u k q j : Nat} (h : q ≤ j) : mSh S u k q 45 j = S 45 j := by
  unfold mSh
  rw [if_neg (by omega), if_neg (by decide)]
theorem mSh_s {S : MS} {u k q : Nat} (h : 11 * k ≤ q) : mset (mSh S u k q) 45 q (S 45 (q + 11)) = mSh S u k (q + 1) := by
  funext kk j
  by_cases e : kk = 45
  · subst e
    rw [mset_if rfl]
    unfold mSh
    by_cases ej : j = q
    · subst ej
      rw [if_pos rfl, if_pos ⟨rfl, h, by omega⟩]
    · rw [if_neg ej]
      by_cases z : 45 = 45 ∧ 11 * k ≤ j ∧ j < q
      · rw [if_pos z, if_pos ⟨rfl, z.2.1, by omega⟩]
      · rw [if_neg z, if_neg (show ¬ (45 = 45 ∧ 11 * k ≤ j ∧ j < q + 1) from fun y => z ⟨rfl, y.2.1, by omega⟩)]
  · rw [mset_k e]
    unfold mSh
    rw [if_neg (show ¬ (kk = 45 ∧ 11 * k ≤ j ∧ j < q) from fun z => e z.1), if_neg (show ¬ (kk = 45 ∧ 11 * k ≤ j ∧ j < q + 1) from fun z => e z.1)]
theorem mSh_44 {S : MS} {u k q : Nat} : mSh S u k q 44 0 = nI (u - 1) := by
  unfold mSh
  rw [if_neg (fun z => absurd z.1 (by decide)), if_pos rfl]
set_option maxRecDepth 100000 in
set_option maxHeartbeats 4000000 in
/-- out: its loop -/
theorem s149_loop {G : ix_G} {h0 : ix_H} {o : Nat} {S : MS} (M : md_ok h0 o) {u k : Nat} (hk : k < u) (hu : u ≤ 24) :
    ∀ (z q : Nat), 11 * k ≤ q → q ≤ 11 * (u - 1) → 11 * (u - 1) - q < z → ∀ h, mR o h0 h (mSh S u k q) → ∀ (lv : List (Nat × Value)), lv.lookup 0 = some (.ref o) → lv.lookup 2 = some (.int (nI q)) → ix_E G 149 15 lv [] h (fun rv h' => rv = none ∧ mR o h0 h' (mOut S u k)) := by
  intro z
  induction z with
  | zero => intro q h1 h2 h3; omega
  | succ z ih =>
    intro q hq1 hq2 hz h r lv l0 l2
    refine ie_iload_n d149_15 l2 ?_
    refine ie_bipush (nI 11) d149_16 (by decide) ?_
    refine ie_aload_n d149_18 l0 ?_
    refine mx_geti r M d149_19 fl17_171 rfl ?_
    rw [mSh_44]
    refine ie_imul d149_22 ?_
    rw [pk_mul]
    refine ie_icmp_ge 47 d149_23 (by decide) (fun c23 => ?_) (fun c23 => ?_)
    · rw [nI_leI (by omega) (by omega)] at c23
      have hi2 : q = 11 * (u - 1) := by omega
      subst hi2
      exact ie_vret d149_47 rfl ⟨rfl, r⟩
    · rw [nI_leI (by omega) (by omega)] at c23
      refine ie_aload_n d149_26 l0 ?_
      refine mx_getr r M d149_27 fl17_131 rfl ?_
      refine ie_iload_n d149_30 l2 ?_
      refine ie_aload_n d149_31 l0 ?_
      refine mx_getr r M d149_32 fl17_131 rfl ?_
      refine ie_iload_n d149_35 l2 ?_
      refine ie_bipush (nI 11) d149_36 (by decide) ?_
      refine ie_iadd d149_38 ?_
      rw [nI_add]
      refine mx_iald (k := 45) (n := (q + 11)) r M d149_39 rfl rfl rfl (by show q + 11 < 264; omega) ?_
      rw [mSh_r (by omega)]
      refine mx_iast (k := 45) (n := q) r M d149_40 rfl rfl rfl (by show q < 264; omega) (fun hh r => ?_)
      refine ie_iinc (nI (q + 1)) d149_41 l2 (nI_1 _) (by decide) ?_
      refine ie_goto 15 d149_44 (by decide) ?_
      exact ih (q + 1) (by omega) (by omega) (by omega) hh (by rw [← mSh_s (by omega)]; exact r) _ (ix_lk3 (by decide) l0 rfl) ix_lk1
set_option maxRecDepth 100000 in
set_option maxHeartbeats 4000000 in
/-- out -/
theorem s149 {G : ix_G} {h : ix_H} {o : Nat} {S : MS} (M : md_ok h o) (hS : ms h o = S) {u k : Nat} (hu : S 44 0 = nI u) (hu24 : u ≤ 24) (hk : k < u) : ix_E G 149 0 (lv_args 0 [.ref o, .int (nI k)]) [] h (fun rv h' => rv = none ∧ mR o h h' (mOut S u k)) := by
  have r : mR o h h S := mR.rf hS
  refine ie_aload_n d149_0 rfl ?_
  refine ie_dup d149_1 rfl ?_
  refine mx_geti r M d149_2 fl17_171 rfl ?_
  rw [hu]
  refine ie_iconst (nI 1) d149_5 (by decide) ?_
  refine ie_isub d149_6 ?_
  rw [pk_sub (by omega)]
  refine mx_puti r M d149_7 fl17_171 rfl rfl rfl (fun hh r => ?_)
  refine ie_bipush (nI 11) d149_10 (by decide) ?_
  refine ie_iload_n d149_12 rfl ?_
  refine ie_imul d149_13 ?_
  rw [pk_mul]
  refine ie_istore_n d149_14 (by decide) ?_
  exact s149_loop M hk hu24 (11 * (u - 1) + 1) (11 * k) (by omega) (by omega) (by omega) hh (by rw [mSh_0]; exact r) _ rfl rfl
set_option maxRecDepth 100000 in
set_option maxHeartbeats 4000000 in
/-- lose -/
theorem s157 {G : ix_G} {h : ix_H} {o : Nat} {S : MS} (M : md_ok h o) (hS : ms h o = S) {u : Nat} (hu : S 44 0 = nI u) (hu24 : u ≤ 24) (k : Int32) : ix_E G 157 0 (lv_args 0 [.ref o, .int k]) [] h (fun rv h' => rv = some (.int (bI (0 ≤ k ∧ k < nI u))) ∧ mR o h h' (if 0 ≤ k ∧ k < nI u then mOut (m0 S) u k.toNatClampNeg else m0 S)) := by
  have r : mR o h h S := mR.rf hS
  refine ie_aload_n d157_0 rfl ?_
  refine ie_iconst (nI 0) d157_1 (by decide) ?_
  refine mx_puti r M d157_2 fl17_144 rfl rfl rfl (fun hh r => ?_)
  refine ie_aload_n d157_5 rfl ?_
  refine ie_iload_n d157_6 rfl ?_
  refine mx_ask r M [_] d157_7 ok148 rm157_148 cl17_249 rfl rfl (Nat.le_of_ble_eq_true rfl) (Nat.le_of_ble_eq_true rfl) (s148 (r.ok M) _) ?_
  rw [r.2.2, mset_k (by decide), hu]
  refine ie_if_ne 15 d157_10 (by decide) (fun c10 => ?_) (fun c10 => ?_)
  · skip
    rw [bI_0, Classical.not_not] at c10
    rw [if_pos c10, bI_t c10]
    obtain ⟨k', hk, rfl⟩ := vp_in_of (n := u) (x := k) (by rw [vp_in_iff]; have e1 := Int32.le_iff_toInt_le.mp c10.1; have e2 := Int32.lt_iff_toInt_lt.mp c10.2; rw [nI_toInt (by omega)] at e2; exact ⟨by simpa using e1, e2⟩) (by omega)
    rw [cl2 (by omega)]
    refine ie_aload_n d157_15 rfl ?_
    refine ie_iload_n d157_16 rfl ?_
    refine mx_call r M [_] d157_17 ok149 rm157_149 cl17_253 rfl rfl (Nat.le_of_ble_eq_true rfl) (Nat.le_of_ble_eq_true rfl) (s149 (r.ok M) r.2.2 (u := u) (by rw [mset_k (by decide)]; exact hu) hu24 hk) (fun hh r => ?_)
    refine ie_iconst (nI 1) d157_20 (by decide) ?_
    exact ie_iret d157_21 rfl (by decide) ⟨rfl, r⟩
  · skip
    rw [bI_0] at c10
    rw [if_neg c10, bI_f c10]
    have K := (⟨rfl, r⟩ : (some (Value.int 0) = some (Value.int 0)) ∧ mR o h hh (mset S 3 0 (nI 0)))
    refine ie_iconst (nI 0) d157_13 (by decide) ?_
    exact ie_iret d157_14 rfl (by first | rfl | decide | exact (ix_bz (bI_01 _)).1 | exact (ix_bz (by assumption)).1) K
end
section
/-- how many transactions an entity has: within the rows -/
def mNum (S : MS) : Prop := ∀ e, e < 2 → ∃ c, c ≤ 319 ∧ S 7 e = nI c
theorem mKnown_m0 {S : MS} {x : Int32} {e n : Int32} : mKnown (mset S 3 0 x) e n = mKnown S e n := by
  unfold mKnown
  rw [mset_k (by decide)]
theorem mKnown_t {S : MS} (hN : mNum S) {e n : Int32} (q : 0 ≤ mKnown S e n) : ∃ e' n' c : Nat, e' < 2 ∧ 1 ≤ n' ∧ n' ≤ c ∧ c ≤ 319 ∧ S 7 e' = nI c ∧ e = nI e' ∧ n = nI n' ∧ mKnown S e n = nI (320 * e' + n') := by
  unfold mKnown at q ⊢
  by_cases z : (0 ≤ e ∧ e ≤ 1) ∧ 1 ≤ n ∧ n ≤ S 7 e.toNatClampNeg
  · rw [if_pos z]
    obtain ⟨e', he, rfl⟩ := isE2 z.1
    obtain ⟨c, hc, hs⟩ := hN e' he
    have h2 := z.2.2
    rw [cl2 (by omega), hs] at h2
    have h1 : ¬ n < 0 := fun y => by
      have a1 := Int32.le_iff_toInt_le.mp z.2.1
      have a2 := Int32.lt_iff_toInt_lt.mp y
      simp only [tI] at a1 a2
      omega
    obtain ⟨n', hn, rfl⟩ := nI_of h1
    rw [nI_leI hn (by omega)] at h2
    have h3 : 1 ≤ n' := by
      have a1 := Int32.le_iff_toInt_le.mp z.2.1
      rw [nI_toInt hn] at a1
      simp only [tI] at a1
      omega
    exact ⟨e', n', c, he, h3, h2, hc, hs, rfl, rfl, by rw [show (320 : Int32) = nI 320 from rfl, pk_mul, nI_add]⟩
  · rw [if_neg z] at q
    exact absurd q (by decide)
theorem neg_of {x : Int32} (h : ¬ 0 ≤ x) : x < 0 := Int32.not_le.mp h
def mAsk (S : MS) (k : Nat) (e n : Int32) : Int32 := if 0 ≤ mKnown S e n then S k (mKnown S e n).toNatClampNeg else 0
set_option maxRecDepth 100000 in
set_option maxHeartbeats 4000000 in
/-- sender -/
theorem s162 {G : ix_G} {h : ix_H} {o : Nat} {S : MS} (M : md_ok h o) (hS : ms h o = S) (hN : mNum S) (e n : Int32) : ix_E G 162 0 (lv_args 0 [.ref o, .int e, .int n]) [] h (fun rv h' => rv = some (.int (mAsk S 13 e n)) ∧ mR o h h' (m0 S)) := by
  have r : mR o h h S := mR.rf hS
  refine ie_aload_n d162_0 rfl ?_
  refine ie_iconst (nI 0) d162_1 (by decide) ?_
  refine mx_puti r M d162_2 fl17_144 rfl rfl rfl (fun hh r => ?_)
  refine ie_aload_n d162_5 rfl ?_
  refine ie_iload_n d162_6 rfl ?_
  refine ie_iload_n d162_7 rfl ?_
  refine mx_ask r M [_, _] d162_8 ok127 rm162_127 cl17_174 rfl rfl (Nat.le_of_ble_eq_true rfl) (Nat.le_of_ble_eq_true rfl) (s127 (r.ok M) _ _) ?_
  rw [r.2.2, mKnown_m0]
  generalize hx : mKnown S e n = x
  refine ie_istore_n d162_11 (by decide) ?_
  refine ie_iload_n d162_12 rfl ?_
  refine ie_if_ge 20 d162_13 (by decide) (fun c13 => ?_) (fun c13 => ?_)
  · skip
    have c14 : 0 ≤ mKnown S e n := by rw [hx]; exact c13
    obtain ⟨e', n', c, he, h1, h2, h3, -, -, -, ht⟩ := mKnown_t hN c14
    rw [hx] at ht
    subst ht
    have K : S 13 (320 * e' + n') = mAsk S 13 e n := by
      unfold mAsk
      rw [hx, if_pos c13, cl2 (by omega)]
    refine ie_aload_n d162_20 rfl ?_
    refine mx_getr r M d162_21 fl17_38 rfl ?_
    refine ie_iload_n d162_24 rfl ?_
    refine mx_iald (k := 13) (n := (320 * e' + n')) r M d162_25 rfl rfl rfl (by show 320 * e' + n' < 640; omega) ?_
    rw [mset_k (by decide)]
    exact ie_iret d162_26 rfl (by first | rfl | decide | exact (ix_bz (bI_01 _)).1 | exact (ix_bz (by assumption)).1) ⟨by rw [K], r⟩
  · skip
    have K : nI 0 = mAsk S 13 e n := by
      unfold mAsk
      rw [hx, if_neg c13]
      rfl
    refine ie_iconst (nI 0) d162_16 (by decide) ?_
    refine ie_goto 26 d162_17 (by decide) ?_
    exact ie_iret d162_26 rfl (by first | rfl | decide | exact (ix_bz (bI_01 _)).1 | exact (ix_bz (by assumption)).1) ⟨by rw [K], r⟩
set_option maxRecDepth 100000 in
set_option maxHeartbeats 4000000 in
/-- receiver -/
theorem s163 {G : ix_G} {h : ix_H} {o : Nat} {S : MS} (M : md_ok h o) (hS : ms h o = S) (hN : mNum S) (e n : Int32) : ix_E G 163 0 (lv_args 0 [.ref o, .int e, .int n]) [] h (fun rv h' => rv = some (.int (mAsk S 23 e n)) ∧ mR o h h' (m0 S)) := by
  have r : mR o h h S := mR.rf hS
  refine ie_aload_n d163_0 rfl ?_
  refine ie_iconst (nI 0) d163_1 (by decide) ?_
  refine mx_puti r M d163_2 fl17_144 rfl rfl rfl (fun hh r => ?_)
  refine ie_aload_n d163_5 rfl ?_
  refine ie_iload_n d163_6 rfl ?_
  refine ie_iload_n d163_7 rfl ?_
  refine mx_ask r M [_, _] d163_8 ok127 rm163_127 cl17_174 rfl rfl (Nat.le_of_ble_eq_true rfl) (Nat.le_of_ble_eq_true rfl) (s127 (r.ok M) _ _) ?_
  rw [r.2.2, mKnown_m0]
  generalize hx : mKnown S e n = x
  refine ie_istore_n d163_11 (by decide) ?_
  refine ie_iload_n d163_12 rfl ?_
  refine ie_if_ge 20 d163_13 (by decide) (fun c13 => ?_) (fun c13 => ?_)
  · skip
    have c14 : 0 ≤ mKnown S e n := by rw [hx]; exact c13
    obtain ⟨e', n', c, he, h1, h2, h3, -, -, -, ht⟩ := mKnown_t hN c14
    rw [hx] at ht
    subst ht
    have K : S 23 (320 * e' + n') = mAsk S 23 e n := by
      unfold mAsk
      rw [hx, if_pos c13, cl2 (by omega)]
    refine ie_aload_n d163_20 rfl ?_
    refine mx_getr r M d163_21 fl17_68 rfl ?_
    refine ie_iload_n d163_24 rfl ?_
    refine mx_iald (k := 23) (n := (320 * e' + n')) r M d163_25 rfl rfl rfl (by show 320 * e' + n' < 640; omega) ?_
    rw [mset_k (by decide)]
    exact ie_iret d163_26 rfl (by first | rfl | decide | exact (ix_bz (bI_01 _)).1 | exact (ix_bz (by assumption)).1) ⟨by rw [K], r⟩
  · skip
    have K : nI 0 = mAsk S 23 e n := by
      unfold mAsk
      rw [hx, if_neg c13]
      rfl
    refine ie_iconst (nI 0) d163_16 (by decide) ?_
    refine ie_goto 26 d163_17 (by decide) ?_
    exact ie_iret d163_26 rfl (by first | rfl | decide | exact (ix_bz (bI_01 _)).1 | exact (ix_bz (by assumption)).1) ⟨by rw [K], r⟩
set_option maxRecDepth 100000 in
set_option maxHeartbeats 4000000 in
/-- request -/
theorem s164 {G : ix_G} {h : ix_H} {o : Nat} {S : MS} (M : md_ok h o) (hS : ms h o = S) (hN : mNum S) (e n : Int32) : ix_E G 164 0 (lv_args 0 [.ref o, .int e, .int n]) [] h (fun rv h' => rv = some (.int (mAsk S 24 e n)) ∧ mR o h h' (m0 S)) := by
  have r : mR o h h S := mR.rf hS
  refine ie_aload_n d164_0 rfl ?_
  refine ie_iconst (nI 0) d164_1 (by decide) ?_
  refine mx_puti r M d164_2 fl17_144 rfl rfl rfl (fun hh r => ?_)
  refine ie_aload_n d164_5 rfl ?_
  refine ie_iload_n d164_6 rfl ?_
  refine ie_iload_n d164_7 rfl ?_
  refine mx_ask r M [_, _] d164_8 ok127 rm164_127 cl17_174 rfl rfl (Nat.le_of_ble_eq_true rfl) (Nat.le_of_ble_eq_true rfl) (s127 (r.ok M) _ _) ?_
  rw [r.2.2, mKnown_m0]
  generalize hx : mKnown S e n = x
  refine ie_istore_n d164_11 (by decide) ?_
  refine ie_iload_n d164_12 rfl ?_
  refine ie_if_ge 20 d164_13 (by decide) (fun c13 => ?_) (fun c13 => ?_)
  · skip
    have c14 : 0 ≤ mKnown S e n := by rw [hx]; exact c13
    obtain ⟨e', n', c, he, h1, h2, h3, -, -, -, ht⟩ := mKnown_t hN c14
    rw [hx] at ht
    subst ht
    have K : S 24 (320 * e' + n') = mAsk S 24 e n := by
      unfold mAsk
      rw [hx, if_pos c13, cl2 (by omega)]
    refine ie_aload_n d164_20 rfl ?_
    refine mx_getr r M d164_21 fl17_71 rfl ?_
    refine ie_iload_n d164_24 rfl ?_
    refine mx_iald (k := 24) (n := (320 * e' + n')) r M d164_25 rfl rfl rfl (by show 320 * e' + n' < 640; omega) ?_
    rw [mset_k (by decide)]
    exact ie_iret d164_26 rfl (by first | rfl | decide | exact (ix_bz (bI_01 _)).1 | exact (ix_bz (by assumption)).1) ⟨by rw [K], r⟩
  · skip
    have K : nI 0 = mAsk S 24 e n := by
      unfold mAsk
      rw [hx, if_neg c13]
      rfl
    refine ie_iconst (nI 0) d164_16 (by decide) ?_
    refine ie_goto 26 d164_17 (by decide) ?_
    exact ie_iret d164_26 rfl (by first | rfl | decide | exact (ix_bz (bI_01 _)).1 | exact (ix_bz (by assumption)).1) ⟨by rw [K], r⟩
def mCan (S : MS) (e n : Int32) : Prop := 0 ≤ mKnown S e n ∧ S 13 (mKnown S e n).toNatClampNeg = 5 ∧ S 21 (mKnown S e n).toNatClampNeg = 0
def mDrop (S : MS) (t : Nat) : MS := mset (mset (mset (mset S 21 t 1) 15 t 0) 20 t 0) 19 t 0
noncomputable def mCancel (S : MS) (e n : Int32) : MS := @ite _ (mCan S e n) (Classical.propDecidable _) (mDrop (m0 S) (mKnown S e n).toNatClampNeg) (m0 S)
set_option maxRecDepth 100000 in
set_option maxHeartbeats 4000000 in
/-- cancel -/
theorem s126 {G : ix_G} {h : ix_H} {o : Nat} {S : MS} (M : md_ok h o) (hS : ms h o = S) (hN : mNum S) (hb : ∀ t, t < 640 → S 21 t = 0 ∨ S 21 t = 1) (e n : Int32) : ix_E G 126 0 (lv_args 0 [.ref o, .int e, .int n]) [] h (fun rv h' => rv = some (.int (bP (mCan S e n))) ∧ mR o h h' (mCancel S e n)) := by
  have r : mR o h h S := mR.rf hS
  refine ie_aload_n d126_0 rfl ?_
  refine ie_iconst (nI 0) d126_1 (by decide) ?_
  refine mx_puti r M d126_2 fl17_144 rfl rfl rfl (fun hh r => ?_)
  refine ie_aload_n d126_5 rfl ?_
  refine ie_iload_n d126_6 rfl ?_
  refine ie_iload_n d126_7 rfl ?_
  refine mx_ask r M [_, _] d126_8 ok127 rm126_127 cl17_174 rfl rfl (Nat.le_of_ble_eq_true rfl) (Nat.le_of_ble_eq_true rfl) (s127 (r.ok M) _ _) ?_
  rw [r.2.2, mKnown_m0]
  generalize hx : mKnown S e n = x
  refine ie_istore_n d126_11 (by decide) ?_
  refine ie_iload_n d126_12 rfl ?_
  refine ie_if_lt 35 d126_13 (by decide) (fun c13 => ?_) (fun c13 => ?_)
  · skip
    have K : ¬ mCan S e n := by
      unfold mCan
      rw [hx]
      exact fun z => absurd c13 (Int32.not_lt.mpr z.1)
    refine ie_iconst (nI 0) d126_35 (by decide) ?_
    exact ie_iret d126_36 rfl (by first | rfl | decide | exact (ix_bz (bI_01 _)).1 | exact (ix_bz (by assumption)).1) (by rw [bP_f K]; refine ⟨rfl, ?_⟩; unfold mCancel; rw [@if_neg _ (Classical.propDecidable _) K]; exact r)
  · skip
    have c14 : 0 ≤ mKnown S e n := by rw [hx]; exact Int32.not_lt.mp c13
    obtain ⟨e', n', c, he, h1, h2, h3, -, -, -, ht⟩ := mKnown_t hN c14
    rw [hx] at ht
    subst ht
    refine ie_aload_n d126_16 rfl ?_
    refine mx_getr r M d126_17 fl17_38 rfl ?_
    refine ie_iload_n d126_20 rfl ?_
    refine mx_iald (k := 13) (n := (320 * e' + n')) r M d126_21 rfl rfl rfl (by show 320 * e' + n' < 640; omega) ?_
    rw [mset_k (by decide)]
    refine ie_iconst (nI 5) d126_22 (by decide) ?_
    refine ie_icmp_ne 35 d126_23 (by decide) (fun c23 => ?_) (fun c23 => ?_)
    · skip
      have K : ¬ mCan S e n := by
        unfold mCan
        rw [hx, cl2 (by omega)]
        exact fun z => c23 z.2.1
      refine ie_iconst (nI 0) d126_35 (by decide) ?_
      exact ie_iret d126_36 rfl (by first | rfl | decide | exact (ix_bz (bI_01 _)).1 | exact (ix_bz (by assumption)).1) (by rw [bP_f K]; refine ⟨rfl, ?_⟩; unfold mCancel; rw [@if_neg _ (Classical.propDecidable _) K]; exact r)
    · skip
      refine ie_aload_n d126_26 rfl ?_
      refine mx_getr r M d126_27 fl17_62 rfl ?_
      refine ie_iload_n d126_30 rfl ?_
      refine mx_zald (k := 21) (n := (320 * e' + n')) r M d126_31 rfl rfl rfl (by show 320 * e' + n' < 640; omega) ?_
      rw [mset_k (by decide)]
      refine ie_if_eq 37 d126_32 (by decide) (fun c32 => ?_) (fun c32 => ?_)
      · skip
        have K : mCan S e n := by
          unfold mCan
          rw [hx, cl2 (by omega)]
          exact ⟨nI_pos' (by omega), c23, c32⟩
        refine ie_aload_n d126_37 rfl ?_
        refine mx_getr r M d126_38 fl17_62 rfl ?_
        refine ie_iload_n d126_41 rfl ?_
        refine ie_iconst (nI 1) d126_42 (by decide) ?_
        refine mx_zast (k := 21) (n := (320 * e' + n')) r M d126_43 rfl rfl (by first | exact Or.inl rfl | exact Or.inr rfl | assumption | exact bI_01 _) rfl (by show 320 * e' + n' < 640; omega) (fun hh r => ?_)
        refine ie_aload_n d126_44 rfl ?_
        refine mx_getr r M d126_45 fl17_44 rfl ?_
        refine ie_iload_n d126_48 rfl ?_
        refine ie_iconst (nI 0) d126_49 (by decide) ?_
        refine mx_iast (k := 15) (n := (320 * e' + n')) r M d126_50 rfl rfl rfl (by show 320 * e' + n' < 640; omega) (fun hh r => ?_)
        refine ie_aload_n d126_51 rfl ?_
        refine mx_getr r M d126_52 fl17_59 rfl ?_
        refine ie_iload_n d126_55 rfl ?_
        refine ie_iconst (nI 0) d126_56 (by decide) ?_
        refine mx_zast (k := 20) (n := (320 * e' + n')) r M d126_57 rfl rfl (by first | exact Or.inl rfl | exact Or.inr rfl | assumption | exact bI_01 _) rfl (by show 320 * e' + n' < 640; omega) (fun hh r => ?_)
        refine ie_aload_n d126_58 rfl ?_
        refine mx_getr r M d126_59 fl17_56 rfl ?_
        refine ie_iload_n d126_62 rfl ?_
        refine ie_iconst (nI 0) d126_63 (by decide) ?_
        refine mx_iast (k := 19) (n := (320 * e' + n')) r M d126_64 rfl rfl rfl (by show 320 * e' + n' < 640; omega) (fun hh r => ?_)
        refine ie_iconst (nI 1) d126_65 (by decide) ?_
        exact ie_iret d126_66 rfl (by decide) (by rw [bP_t K]; refine ⟨rfl, ?_⟩; unfold mCancel; rw [@if_pos _ (Classical.propDecidable _) K, hx, cl2 (by omega)]; exact r)
      · skip
        have K : ¬ mCan S e n := by
          unfold mCan
          rw [hx, cl2 (by omega)]
          exact fun z => c32 z.2.2
        refine ie_iconst (nI 0) d126_35 (by decide) ?_
        exact ie_iret d126_36 rfl (by first | rfl | decide | exact (ix_bz (bI_01 _)).1 | exact (ix_bz (by assumption)).1) (by rw [bP_f K]; refine ⟨rfl, ?_⟩; unfold mCancel; rw [@if_neg _ (Classical.propDecidable _) K]; exact r)
end
section
/-- a row of open ones, of fields A (who) and B (how many): the one at k0 goes out; q: how far the rest has moved -/
def mRm (A B : Nat) (S : MS) (e k0 c q : Nat) : MS := fun kk j => if kk = A ∧ 3 * e + k0 ≤ j ∧ j < 3 * e + q then S A (j + 1) else if kk = B ∧ j = e then nI (c - 1) else S kk j
theorem mRm_0 {A B : Nat} {S : MS} {e k0 c : Nat} (hB : mIs B = true) : mRm A B S e k0 c k0 = mset S B e (nI (c - 1)) := by
  funext kk j
  unfold mRm mset
  rw [if_neg (by omega)]
  by_cases z : kk = B ∧ j = e
  · rw [if_pos z, if_pos ⟨z.1, Or.inl z.2⟩]
  · rw [if_neg z, if_neg (fun y => z ⟨y.1, y.2.elim id (fun w => by rw [hB] at w; cases w)⟩)]
theorem mRm_r {A B : Nat} {S : MS} {e k0 c q j : Nat} (hAB : A ≠ B) (h : 3 * e + q ≤ j) : mRm A B S e k0 c q A j = S A j := by
  unfold mRm
  rw [if_neg (by omega), if_neg (fun z => hAB z.1)]
theorem mRm_B {A B : Nat} {S : MS} {e k0 c q : Nat} (hAB : A ≠ B) : mRm A B S e k0 c q B e = nI (c - 1) := by
  unfold mRm
  rw [if_neg (fun z => hAB z.1.symm), if_pos ⟨rfl, rfl⟩]
theorem mRm_s {A B : Nat} {S : MS} {e k0 c q : Nat} (hA : mIs A = true) (hAB : A ≠ B) (h : k0 ≤ q) : mset (mRm A B S e k0 c q) A (3 * e + q) (S A (3 * e + q + 1)) = mRm A B S e k0 c (q + 1) := by
  funext kk j
  by_cases e2 : kk = A
  · subst e2
    rw [mset_if hA]
    unfold mRm
    by_cases ej : j = 3 * e + q
    · subst ej
      rw [if_pos rfl, if_pos ⟨rfl, by omega, by omega⟩]
    · rw [if_neg ej]
      by_cases z : kk = kk ∧ 3 * e + k0 ≤ j ∧ j < 3 * e + q
      · rw [if_pos z, if_pos ⟨rfl, z.2.1, by omega⟩]
      · rw [if_neg z, if_neg (show ¬ (kk = kk ∧ 3 * e + k0 ≤ j ∧ j < 3 * e + (q + 1)) from fun y => z ⟨rfl, y.2.1, by omega⟩)]
  · rw [mset_k e2]
    unfold mRm
    rw [if_neg (show ¬ (kk = A ∧ 3 * e + k0 ≤ j ∧ j < 3 * e + q) from fun z => e2 z.1), if_neg (show ¬ (kk = A ∧ 3 * e + k0 ≤ j ∧ j < 3 * e + (q + 1)) from fun z => e2 z.1)]
/-- it stands there, first at k0 -/
def mHas (A B : Nat) (S : MS) (e k0 c t : Nat) : Prop := k0 < c ∧ c ≤ 3 ∧ S B e = nI c ∧ S A (3 * e + k0) = nI t ∧ ∀ k, k < k0 → ¬ S A (3 * e + k) = nI t
set_option maxRecDepth 100000 in
set_option maxHeartbeats 4000000 in
/-- close: the others move up -/
theorem s137_mv {G : ix_G} {h0 : ix_H} {o : Nat} {S : MS} (M : md_ok h0 o) {e k0 c : Nat} (he : e < 2) (hk : k0 < c) (hc : c ≤ 3) :
    ∀ (z q : Nat), k0 ≤ q → q ≤ c - 1 → c - 1 - q < z → ∀ h, mR o h0 h (mRm 40 42 S e k0 c q) → ∀ (lv : List (Nat × Value)), lv.lookup 0 = some (.ref o) → lv.lookup 3 = some (.int (nI e)) → lv.lookup 5 = some (.int (nI q)) → ix_E G 137 51 lv [] h (fun rv h' => rv = none ∧ mR o h0 h' (mRm 40 42 S e k0 c (c - 1))) := by
  intro z
  induction z with
  | zero => intro q h1 h2 h3; omega
  | succ z ih =>
    intro q hq1 hq2 hz h r lv l0 l3 l5
    refine ie_iload d137_51 l5 ?_
    refine ie_aload_n d137_53 l0 ?_
    refine mx_getr r M d137_54 fl17_125 rfl ?_
    refine ie_iload_n d137_57 l3 ?_
    refine mx_iald (k := 42) (n := e) r M d137_58 rfl rfl rfl (by show e < 2; exact he) ?_
    rw [mRm_B (by decide)]
    refine ie_icmp_ge 92 d137_59 (by decide) (fun c59 => ?_) (fun c59 => ?_)
    · rw [nI_leI (by omega) (by omega)] at c59
      have hi2 : q = c - 1 := by omega
      subst hi2
      exact ie_vret d137_92 rfl ⟨rfl, r⟩
    · rw [nI_leI (by omega) (by omega)] at c59
      refine ie_aload_n d137_62 l0 ?_
      refine mx_getr r M d137_63 fl17_119 rfl ?_
      refine ie_iconst (nI 3) d137_66 (by decide) ?_
      refine ie_iload_n d137_67 l3 ?_
      refine ie_imul d137_68 ?_
      rw [pk_mul]
      refine ie_iload d137_69 l5 ?_
      refine ie_iadd d137_71 ?_
      rw [nI_add]
      refine ie_aload_n d137_72 l0 ?_
      refine mx_getr r M d137_73 fl17_119 rfl ?_
      refine ie_iconst (nI 3) d137_76 (by decide) ?_
      refine ie_iload_n d137_77 l3 ?_
      refine ie_imul d137_78 ?_
      rw [pk_mul]
      refine ie_iload d137_79 l5 ?_
      refine ie_iadd d137_81 ?_
      rw [nI_add]
      refine ie_iconst (nI 1) d137_82 (by decide) ?_
      refine ie_iadd d137_83 ?_
      rw [nI_add]
      refine mx_iald (k := 40) (n := (3 * e + q + 1)) r M d137_84 rfl rfl rfl (by show 3 * e + q + 1 < 6; omega) ?_
      rw [mRm_r (by decide) (by omega)]
      refine mx_iast (k := 40) (n := (3 * e + q)) r M d137_85 rfl rfl rfl (by show 3 * e + q < 6; omega) (fun hh r => ?_)
      refine ie_iinc (nI (q + 1)) d137_86 l5 (nI_1 _) (by decide) ?_
      refine ie_goto 51 d137_89 (by decide) ?_
      exact ih (q + 1) (by omega) (by omega) (by omega) hh (by rw [← mRm_s rfl (by decide) (by omega)]; exact r) _ (ix_lk3 (by decide) l0 rfl) (ix_lk3 (by decide) l3 rfl) ix_lk1
set_option maxRecDepth 100000 in
set_option maxHeartbeats 4000000 in
/-- close: where it stands -/
theorem s137_at {G : ix_G} {h0 h : ix_H} {o : Nat} {S : MS} (M : md_ok h0 o) (r : mR o h0 h S) {e k0 c t : Nat} (he : e < 2) (hH : mHas 40 42 S e k0 c t) :
    ∀ (z k : Nat), k ≤ k0 → k0 - k < z → ∀ (lv : List (Nat × Value)), lv.lookup 0 = some (.ref o) → lv.lookup 1 = some (.int (nI t)) → lv.lookup 3 = some (.int (nI e)) → lv.lookup 4 = some (.int (nI k)) → ix_E G 137 16 lv [] h (fun rv h' => rv = none ∧ mR o h0 h' (mRm 40 42 S e k0 c (c - 1))) := by
  obtain ⟨hk, hc3, hB, hat, hno⟩ := hH
  intro z
  induction z with
  | zero => intro k h1 h2; omega
  | succ z ih =>
    intro k hk1 hz lv l0 l1 l3 l4
    refine ie_aload_n d137_16 l0 ?_
    refine mx_getr r M d137_17 fl17_119 rfl ?_
    refine ie_iconst (nI 3) d137_20 (by decide) ?_
    refine ie_iload_n d137_21 l3 ?_
    refine ie_imul d137_22 ?_
    rw [pk_mul]
    refine ie_iload d137_23 l4 ?_
    refine ie_iadd d137_25 ?_
    rw [nI_add]
    refine mx_iald (k := 40) (n := (3 * e + k)) r M d137_26 rfl rfl rfl (by show 3 * e + k < 6; omega) ?_
    refine ie_iload_n d137_27 l1 ?_
    refine ie_icmp_eq 37 d137_28 (by decide) (fun c28 => ?_) (fun c28 => ?_)
    · skip
      have hk2 : k = k0 := by
        rcases Nat.lt_or_ge k k0 with w | w
        · exact absurd c28 (hno k w)
        · omega
      subst hk2
      refine ie_aload_n d137_37 l0 ?_
      refine mx_getr r M d137_38 fl17_125 rfl ?_
      refine ie_iload_n d137_41 l3 ?_
      refine ie_dup2 d137_42 rfl rfl ?_
      refine mx_iald (k := 42) (n := e) r M d137_43 rfl rfl rfl (by show e < 2; exact he) ?_
      rw [hB]
      refine ie_iconst (nI 1) d137_44 (by decide) ?_
      refine ie_isub d137_45 ?_
      rw [pk_sub (by omega)]
      refine mx_iast (k := 42) (n := e) r M d137_46 rfl rfl rfl (by show e < 2; exact he) (fun hh r => ?_)
      refine ie_iload d137_47 l4 ?_
      refine ie_istore d137_49 (by decide) ?_
      exact s137_mv M he hk hc3 (c - 1 - k + 1) k (by omega) (by omega) (by omega) hh (by rw [mRm_0 rfl]; exact r) _ (ix_lk3 (by decide) l0 rfl) (ix_lk3 (by decide) l3 rfl) ix_lk1
    · skip
      have hk2 : ¬ k = k0 := fun w => c28 (by rw [w]; exact hat)
      refine ie_iinc (nI (k + 1)) d137_31 l4 (nI_1 _) (by decide) ?_
      refine ie_goto 16 d137_34 (by decide) ?_
      exact ih (k + 1) (by omega) (by omega) _ (ix_lk3 (by decide) l0 rfl) (ix_lk3 (by decide) l1 rfl) (ix_lk3 (by decide) l3 rfl) ix_lk1
set_option maxRecDepth 100000 in
set_option maxHeartbeats 4000000 in
/-- close -/
theorem s137 {G : ix_G} {h : ix_H} {o : Nat} {S : MS} (M : md_ok h o) (hS : ms h o = S) {k0 c t : Nat} (ht : t < 640) (hH : mHas 40 42 S (t / 320) k0 c t) (x : Int32) : ix_E G 137 0 (lv_args 0 [.ref o, .int (nI t), .int x]) [] h (fun rv h' => rv = none ∧ mR o h h' (mRm 40 42 (mset S 13 t x) (t / 320) k0 c (c - 1))) := by
  have r : mR o h h S := mR.rf hS
  refine ie_aload_n d137_0 rfl ?_
  refine mx_getr r M d137_1 fl17_38 rfl ?_
  refine ie_iload_n d137_4 rfl ?_
  refine ie_iload_n d137_5 rfl ?_
  refine mx_iast (k := 13) (n := t) r M d137_6 rfl rfl rfl (by show t < 640; exact ht) (fun hh r => ?_)
  refine ie_iload_n d137_7 rfl ?_
  refine ie_sipush (nI 320) d137_8 (by decide) ?_
  refine ie_idiv d137_11 (by decide) ?_
  rw [pk_div (by omega) (by decide) (by decide)]
  refine ie_istore_n d137_12 (by decide) ?_
  refine ie_iconst (nI 0) d137_13 (by decide) ?_
  refine ie_istore d137_14 (by decide) ?_
  exact s137_at M r (by omega) hH (k0 + 1) 0 (by omega) (by omega) _ rfl rfl rfl rfl
def mSus (S : MS) (e n on : Int32) : Prop := 0 ≤ mKnown S e n ∧ S 13 (mKnown S e n).toNatClampNeg = 5 ∧ ¬ S 22 (mKnown S e n).toNatClampNeg = on
noncomputable def mSuspend (S : MS) (e n on : Int32) : MS := @ite _ (mSus S e n on) (Classical.propDecidable _) (mset (m0 S) 22 (mKnown S e n).toNatClampNeg on) (m0 S)
set_option maxRecDepth 100000 in
set_option maxHeartbeats 4000000 in
/-- suspend -/
theorem s128 {G : ix_G} {h : ix_H} {o : Nat} {S : MS} (M : md_ok h o) (hS : ms h o = S) (hN : mNum S) (e n : Int32) {on : Int32} (hon : on = 0 ∨ on = 1) : ix_E G 128 0 (lv_args 0 [.ref o, .int e, .int n, .int on]) [] h (fun rv h' => rv = some (.int (bP (mSus S e n on))) ∧ mR o h h' (mSuspend S e n on)) := by
  have r : mR o h h S := mR.rf hS
  refine ie_aload_n d128_0 rfl ?_
  refine ie_iconst (nI 0) d128_1 (by decide) ?_
  refine mx_puti r M d128_2 fl17_144 rfl rfl rfl (fun hh r => ?_)
  refine ie_aload_n d128_5 rfl ?_
  refine ie_iload_n d128_6 rfl ?_
  refine ie_iload_n d128_7 rfl ?_
  refine mx_ask r M [_, _] d128_8 ok127 rm128_127 cl17_174 rfl rfl (Nat.le_of_ble_eq_true rfl) (Nat.le_of_ble_eq_true rfl) (s127 (r.ok M) _ _) ?_
  rw [r.2.2, mKnown_m0]
  generalize hx : mKnown S e n = x
  refine ie_istore d128_11 (by decide) ?_
  refine ie_iload d128_13 rfl ?_
  refine ie_if_lt 40 d128_15 (by decide) (fun c15 => ?_) (fun c15 => ?_)
  · skip
    have K : ¬ mSus S e n on := by
      unfold mSus
      rw [hx]
      exact fun z => absurd c15 (Int32.not_lt.mpr z.1)
    refine ie_iconst (nI 0) d128_40 (by decide) ?_
    exact ie_iret d128_41 rfl (by first | rfl | decide | exact (ix_bz (bI_01 _)).1 | exact (ix_bz (by assumption)).1) (by rw [bP_f K]; refine ⟨rfl, ?_⟩; unfold mSuspend; rw [@if_neg _ (Classical.propDecidable _) K]; exact r)
  · skip
    have c14 : 0 ≤ mKnown S e n := by rw [hx]; exact Int32.not_lt.mp c15
    obtain ⟨e', n', c, he, h1, h2, h3, -, -, -, ht⟩ := mKnown_t hN c14
    rw [hx] at ht
    subst ht
    refine ie_aload_n d128_18 rfl ?_
    refine mx_getr r M d128_19 fl17_38 rfl ?_
    refine ie_iload d128_22 rfl ?_
    refine mx_iald (k := 13) (n := (320 * e' + n')) r M d128_24 rfl rfl rfl (by show 320 * e' + n' < 640; omega) ?_
    rw [mset_k (by decide)]
    refine ie_iconst (nI 5) d128_25 (by decide) ?_
    refine ie_icmp_ne 40 d128_26 (by decide) (fun c26 => ?_) (fun c26 => ?_)
    · skip
      have K : ¬ mSus S e n on := by
        unfold mSus
        rw [hx, cl2 (by omega)]
        exact fun z => c26 z.2.1
      refine ie_iconst (nI 0) d128_40 (by decide) ?_
      exact ie_iret d128_41 rfl (by first | rfl | decide | exact (ix_bz (bI_01 _)).1 | exact (ix_bz (by assumption)).1) (by rw [bP_f K]; refine ⟨rfl, ?_⟩; unfold mSuspend; rw [@if_neg _ (Classical.propDecidable _) K]; exact r)
    · skip
      refine ie_aload_n d128_29 rfl ?_
      refine mx_getr r M d128_30 fl17_65 rfl ?_
      refine ie_iload d128_33 rfl ?_
      refine mx_zald (k := 22) (n := (320 * e' + n')) r M d128_35 rfl rfl rfl (by show 320 * e' + n' < 640; omega) ?_
      rw [mset_k (by decide)]
      refine ie_iload_n d128_36 rfl ?_
      refine ie_icmp_ne 42 d128_37 (by decide) (fun c37 => ?_) (fun c37 => ?_)
      · skip
        have K : mSus S e n on := by
          unfold mSus
          rw [hx, cl2 (by omega)]
          exact ⟨nI_pos' (by omega), c26, c37⟩
        refine ie_aload_n d128_42 rfl ?_
        refine mx_getr r M d128_43 fl17_65 rfl ?_
        refine ie_iload d128_46 rfl ?_
        refine ie_iload_n d128_48 rfl ?_
        refine mx_zast (k := 22) (n := (320 * e' + n')) r M d128_49 rfl rfl (by first | exact Or.inl rfl | exact Or.inr rfl | assumption | exact bI_01 _) rfl (by show 320 * e' + n' < 640; omega) (fun hh r => ?_)
        refine ie_iconst (nI 1) d128_50 (by decide) ?_
        exact ie_iret d128_51 rfl (by decide) (by rw [bP_t K]; refine ⟨rfl, ?_⟩; unfold mSuspend; rw [@if_pos _ (Classical.propDecidable _) K, hx, cl2 (by omega)]; exact r)
      · skip
        have K : ¬ mSus S e n on := by
          unfold mSus
          rw [hx, cl2 (by omega)]
          exact fun z => z.2.2 c37
        refine ie_iconst (nI 0) d128_40 (by decide) ?_
        exact ie_iret d128_41 rfl (by first | rfl | decide | exact (ix_bz (bI_01 _)).1 | exact (ix_bz (by assumption)).1) (by rw [bP_f K]; refine ⟨rfl, ?_⟩; unfold mSuspend; rw [@if_neg _ (Classical.propDecidable _) K]; exact r)
end
section
set_option maxRecDepth 100000 in
set_option maxHeartbeats 4000000 in
/-- shut: the others move up -/
theorem s142_mv {G : ix_G} {h0 : ix_H} {o : Nat} {S : MS} (M : md_ok h0 o) {e k0 c : Nat} (he : e < 2) (hk : k0 < c) (hc : c ≤ 3) :
    ∀ (z q : Nat), k0 ≤ q → q ≤ c - 1 → c - 1 - q < z → ∀ h, mR o h0 h (mRm 41 43 S e k0 c q) → ∀ (lv : List (Nat × Value)), lv.lookup 0 = some (.ref o) → lv.lookup 3 = some (.int (nI e)) → lv.lookup 5 = some (.int (nI q)) → ix_E G 142 65 lv [] h (fun rv h' => rv = none ∧ mR o h0 h' (mRm 41 43 S e k0 c (c - 1))) := by
  intro z
  induction z with
  | zero => intro q h1 h2 h3; omega
  | succ z ih =>
    intro q hq1 hq2 hz h r lv l0 l3 l5
    refine ie_iload d142_65 l5 ?_
    refine ie_aload_n d142_67 l0 ?_
    refine mx_getr r M d142_68 fl17_128 rfl ?_
    refine ie_iload_n d142_71 l3 ?_
    refine mx_iald (k := 43) (n := e) r M d142_72 rfl rfl rfl (by show e < 2; exact he) ?_
    rw [mRm_B (by decide)]
    refine ie_icmp_ge 106 d142_73 (by decide) (fun c59 => ?_) (fun c59 => ?_)
    · rw [nI_leI (by omega) (by omega)] at c59
      have hi2 : q = c - 1 := by omega
      subst hi2
      exact ie_vret d142_106 rfl ⟨rfl, r⟩
    · rw [nI_leI (by omega) (by omega)] at c59
      refine ie_aload_n d142_76 l0 ?_
      refine mx_getr r M d142_77 fl17_122 rfl ?_
      refine ie_iconst (nI 3) d142_80 (by decide) ?_
      refine ie_iload_n d142_81 l3 ?_
      refine ie_imul d142_82 ?_
      rw [pk_mul]
      refine ie_iload d142_83 l5 ?_
      refine ie_iadd d142_85 ?_
      rw [nI_add]
      refine ie_aload_n d142_86 l0 ?_
      refine mx_getr r M d142_87 fl17_122 rfl ?_
      refine ie_iconst (nI 3) d142_90 (by decide) ?_
      refine ie_iload_n d142_91 l3 ?_
      refine ie_imul d142_92 ?_
      rw [pk_mul]
      refine ie_iload d142_93 l5 ?_
      refine ie_iadd d142_95 ?_
      rw [nI_add]
      refine ie_iconst (nI 1) d142_96 (by decide) ?_
      refine ie_iadd d142_97 ?_
      rw [nI_add]
      refine mx_iald (k := 41) (n := (3 * e + q + 1)) r M d142_98 rfl rfl rfl (by show 3 * e + q + 1 < 6; omega) ?_
      rw [mRm_r (by decide) (by omega)]
      refine mx_iast (k := 41) (n := (3 * e + q)) r M d142_99 rfl rfl rfl (by show 3 * e + q < 6; omega) (fun hh r => ?_)
      refine ie_iinc (nI (q + 1)) d142_100 l5 (nI_1 _) (by decide) ?_
      refine ie_goto 65 d142_103 (by decide) ?_
      exact ih (q + 1) (by omega) (by omega) (by omega) hh (by rw [← mRm_s rfl (by decide) (by omega)]; exact r) _ (ix_lk3 (by decide) l0 rfl) (ix_lk3 (by decide) l3 rfl) ix_lk1
set_option maxRecDepth 100000 in
set_option maxHeartbeats 4000000 in
/-- shut: where it stands -/
theorem s142_at {G : ix_G} {h0 h : ix_H} {o : Nat} {S : MS} (M : md_ok h0 o) (r : mR o h0 h S) {e k0 c t : Nat} (he : e < 2) (hH : mHas 41 43 S e k0 c t) :
    ∀ (z k : Nat), k ≤ k0 → k0 - k < z → ∀ (lv : List (Nat × Value)), lv.lookup 0 = some (.ref o) → lv.lookup 1 = some (.int (nI t)) → lv.lookup 3 = some (.int (nI e)) → lv.lookup 4 = some (.int (nI k)) → ix_E G 142 30 lv [] h (fun rv h' => rv = none ∧ mR o h0 h' (mRm 41 43 S e k0 c (c - 1))) := by
  obtain ⟨hk, hc3, hB, hat, hno⟩ := hH
  intro z
  induction z with
  | zero => intro k h1 h2; omega
  | succ z ih =>
    intro k hk1 hz lv l0 l1 l3 l4
    refine ie_aload_n d142_30 l0 ?_
    refine mx_getr r M d142_31 fl17_122 rfl ?_
    refine ie_iconst (nI 3) d142_34 (by decide) ?_
    refine ie_iload_n d142_35 l3 ?_
    refine ie_imul d142_36 ?_
    rw [pk_mul]
    refine ie_iload d142_37 l4 ?_
    refine ie_iadd d142_39 ?_
    rw [nI_add]
    refine mx_iald (k := 41) (n := (3 * e + k)) r M d142_40 rfl rfl rfl (by show 3 * e + k < 6; omega) ?_
    refine ie_iload_n d142_41 l1 ?_
    refine ie_icmp_eq 51 d142_42 (by decide) (fun c42 => ?_) (fun c42 => ?_)
    · skip
      have hk2 : k = k0 := by
        rcases Nat.lt_or_ge k k0 with w | w
        · exact absurd c42 (hno k w)
        · omega
      subst hk2
      refine ie_aload_n d142_51 l0 ?_
      refine mx_getr r M d142_52 fl17_128 rfl ?_
      refine ie_iload_n d142_55 l3 ?_
      refine ie_dup2 d142_56 rfl rfl ?_
      refine mx_iald (k := 43) (n := e) r M d142_57 rfl rfl rfl (by show e < 2; exact he) ?_
      rw [hB]
      refine ie_iconst (nI 1) d142_58 (by decide) ?_
      refine ie_isub d142_59 ?_
      rw [pk_sub (by omega)]
      refine mx_iast (k := 43) (n := e) r M d142_60 rfl rfl rfl (by show e < 2; exact he) (fun hh r => ?_)
      refine ie_iload d142_61 l4 ?_
      refine ie_istore d142_63 (by decide) ?_
      exact s142_mv M he hk hc3 (c - 1 - k + 1) k (by omega) (by omega) (by omega) hh (by rw [mRm_0 rfl]; exact r) _ (ix_lk3 (by decide) l0 rfl) (ix_lk3 (by decide) l3 rfl) ix_lk1
    · skip
      have hk2 : ¬ k = k0 := fun w => c42 (by rw [w]; exact hat)
      refine ie_iinc (nI (k + 1)) d142_45 l4 (nI_1 _) (by decide) ?_
      refine ie_goto 30 d142_48 (by decide) ?_
      exact ih (k + 1) (by omega) (by omega) _ (ix_lk3 (by decide) l0 rfl) (ix_lk3 (by decide) l1 rfl) (ix_lk3 (by decide) l3 rfl) ix_lk1
def mShut (S : MS) (t : Nat) (x : Int32) (p k0 c : Nat) : MS := mRm 41 43 (mset (mset S 23 t x) 35 p 0) (1 - t / 320) k0 c (c - 1)
set_option maxRecDepth 100000 in
set_option maxHeartbeats 4000000 in
/-- shut -/
theorem s142 {G : ix_G} {h : ix_H} {o : Nat} {S : MS} (M : md_ok h o) (hS : ms h o = S) {k0 c t p : Nat} (ht : t < 640) (hp : S 25 t = nI p) (hp6 : p < 6) (hH : mHas 41 43 S (1 - t / 320) k0 c t) (x : Int32) : ix_E G 142 0 (lv_args 0 [.ref o, .int (nI t), .int x]) [] h (fun rv h' => rv = none ∧ mR o h h' (mShut S t x p k0 c)) := by
  have r : mR o h h S := mR.rf hS
  refine ie_aload_n d142_0 rfl ?_
  refine mx_getr r M d142_1 fl17_68 rfl ?_
  refine ie_iload_n d142_4 rfl ?_
  refine ie_iload_n d142_5 rfl ?_
  refine mx_iast (k := 23) (n := t) r M d142_6 rfl rfl rfl (by show t < 640; exact ht) (fun hh r => ?_)
  refine ie_aload_n d142_7 rfl ?_
  refine mx_getr r M d142_8 fl17_104 rfl ?_
  refine ie_aload_n d142_11 rfl ?_
  refine mx_getr r M d142_12 fl17_74 rfl ?_
  refine ie_iload_n d142_15 rfl ?_
  refine mx_iald (k := 25) (n := t) r M d142_16 rfl rfl rfl (by show t < 640; exact ht) ?_
  rw [mset_k (by decide)]
  rw [hp]
  refine ie_iconst (nI 0) d142_17 (by decide) ?_
  refine mx_zast (k := 35) (n := p) r M d142_18 rfl rfl (by first | exact Or.inl rfl | exact Or.inr rfl | assumption | exact bI_01 _) rfl (by show p < 6; exact hp6) (fun hh r => ?_)
  refine ie_iconst (nI 1) d142_19 (by decide) ?_
  refine ie_iload_n d142_20 rfl ?_
  refine ie_sipush (nI 320) d142_21 (by decide) ?_
  refine ie_idiv d142_24 (by decide) ?_
  rw [pk_div (by omega) (by decide) (by decide)]
  refine ie_isub d142_25 ?_
  rw [pk_sub (by omega)]
  refine ie_istore_n d142_26 (by decide) ?_
  refine ie_iconst (nI 0) d142_27 (by decide) ?_
  refine ie_istore d142_28 (by decide) ?_
  exact s142_at M r (by omega) hH (k0 + 1) 0 (by omega) (by omega) _ rfl rfl rfl rfl
theorem mSend_o {S : MS} {u : Nat} {kind to t a b c : Int32} {k j : Nat} (h45 : k ≠ 45) (h44 : k ≠ 44) : mSend S u kind to t a b c k j = S k j := by
  unfold mSend
  split
  · rfl
  · rw [mset_k h44]
    unfold mRow
    rw [if_neg (fun z => h45 z.1)]
theorem mSend_u {S : MS} {u : Nat} {kind to t a b c : Int32} (hu : S 44 0 = nI u) (hu24 : u ≤ 24) : mSend S u kind to t a b c 44 0 = nI (if u = 24 then 24 else u + 1) := by
  unfold mSend
  split
  · rename_i e
    rw [hu, e]
  · rw [mset_s]
def mTell (S : MS) (u t p : Nat) : MS := mset (mset (mSend S u (nI 4) (nI (t / 320)) (nI t) (S 26 p) (nI 0) (nI 0)) 29 p (S 29 p + nI 1)) 30 p (S 2 0)
set_option maxRecDepth 100000 in
set_option maxHeartbeats 4000000 in
/-- tell -/
theorem s143 {G : ix_G} {h : ix_H} {o : Nat} {S : MS} (M : md_ok h o) (hS : ms h o = S) {t p u : Nat} (ht : t < 640) (hp : S 25 t = nI p) (hp6 : p < 6) (hu : S 44 0 = nI u) (hu24 : u ≤ 24) : ix_E G 143 0 (lv_args 0 [.ref o, .int (nI t)]) [] h (fun rv h' => rv = none ∧ mR o h h' (mTell S u t p)) := by
  have r : mR o h h S := mR.rf hS
  refine ie_aload_n d143_0 rfl ?_
  refine ie_iconst (nI 4) d143_1 (by decide) ?_
  refine ie_iload_n d143_2 rfl ?_
  refine ie_sipush (nI 320) d143_3 (by decide) ?_
  refine ie_idiv d143_6 (by decide) ?_
  rw [pk_div (by omega) (by decide) (by decide)]
  refine ie_iload_n d143_7 rfl ?_
  refine ie_aload_n d143_8 rfl ?_
  refine mx_getr r M d143_9 fl17_77 rfl ?_
  refine ie_aload_n d143_12 rfl ?_
  refine mx_getr r M d143_13 fl17_74 rfl ?_
  refine ie_iload_n d143_16 rfl ?_
  refine mx_iald (k := 25) (n := t) r M d143_17 rfl rfl rfl (by show t < 640; exact ht) ?_
  rw [hp]
  refine mx_iald (k := 26) (n := p) r M d143_18 rfl rfl rfl (by show p < 6; exact hp6) ?_
  refine ie_iconst (nI 0) d143_19 (by decide) ?_
  refine ie_iconst (nI 0) d143_20 (by decide) ?_
  refine mx_call r M [_, _, _, _, _, _] d143_21 ok136 rm143_136 cl17_177 rfl rfl (Nat.le_of_ble_eq_true rfl) (Nat.le_of_ble_eq_true rfl) (s136 (r.ok M) r.2.2 hu hu24 _ _ _ _ _ _) (fun hh r => ?_)
  refine ie_pop d143_24 rfl ?_
  refine ie_aload_n d143_25 rfl ?_
  refine mx_getr r M d143_26 fl17_86 rfl ?_
  refine ie_aload_n d143_29 rfl ?_
  refine mx_getr r M d143_30 fl17_74 rfl ?_
  refine ie_iload_n d143_33 rfl ?_
  refine mx_iald (k := 25) (n := t) r M d143_34 rfl rfl rfl (by show t < 640; exact ht) ?_
  rw [mSend_o (by decide) (by decide)]
  rw [hp]
  refine ie_dup2 d143_35 rfl rfl ?_
  refine mx_iald (k := 29) (n := p) r M d143_36 rfl rfl rfl (by show p < 6; exact hp6) ?_
  rw [mSend_o (by decide) (by decide)]
  refine ie_iconst (nI 1) d143_37 (by decide) ?_
  refine ie_iadd d143_38 ?_
  refine mx_iast (k := 29) (n := p) r M d143_39 rfl rfl rfl (by show p < 6; exact hp6) (fun hh r => ?_)
  refine ie_aload_n d143_40 rfl ?_
  refine mx_getr r M d143_41 fl17_89 rfl ?_
  refine ie_aload_n d143_44 rfl ?_
  refine mx_getr r M d143_45 fl17_74 rfl ?_
  refine ie_iload_n d143_48 rfl ?_
  refine mx_iald (k := 25) (n := t) r M d143_49 rfl rfl rfl (by show t < 640; exact ht) ?_
  rw [mset_k (by decide)]
  rw [mSend_o (by decide) (by decide)]
  rw [hp]
  refine ie_aload_n d143_50 rfl ?_
  refine mx_geti r M d143_51 fl17_234 rfl ?_
  rw [mset_k (by decide)]
  rw [mSend_o (by decide) (by decide)]
  refine mx_iast (k := 30) (n := p) r M d143_54 rfl rfl rfl (by show p < 6; exact hp6) (fun hh r => ?_)
  exact ie_vret d143_55 rfl ⟨rfl, r⟩
def mFin2 (S : MS) (u t p : Nat) (x : Int32) : MS := mTell (mset (mset (mset S 26 p x) 23 t (nI 6)) 29 p (nI 0)) u t p
def mFin (S : MS) (u t p k0 c : Nat) (x y : Int32) : MS := if y = 1 then mShut (mset S 26 p x) t x p k0 c else mFin2 S u t p x
set_option maxRecDepth 100000 in
set_option maxHeartbeats 4000000 in
/-- finish -/
theorem s144 {G : ix_G} {h : ix_H} {o : Nat} {S : MS} (M : md_ok h o) (hS : ms h o = S) {t p u k0 c : Nat} (ht : t < 640) (hp : S 25 t = nI p) (hp6 : p < 6) (hu : S 44 0 = nI u) (hu24 : u ≤ 24) (x y : Int32) (hH : y = 1 → mHas 41 43 S (1 - t / 320) k0 c t) : ix_E G 144 0 (lv_args 0 [.ref o, .int (nI t), .int x, .int y]) [] h (fun rv h' => rv = none ∧ mR o h h' (mFin S u t p k0 c x y)) := by
  have r : mR o h h S := mR.rf hS
  refine ie_aload_n d144_0 rfl ?_
  refine mx_getr r M d144_1 fl17_77 rfl ?_
  refine ie_aload_n d144_4 rfl ?_
  refine mx_getr r M d144_5 fl17_74 rfl ?_
  refine ie_iload_n d144_8 rfl ?_
  refine mx_iald (k := 25) (n := t) r M d144_9 rfl rfl rfl (by show t < 640; exact ht) ?_
  rw [hp]
  refine ie_iload_n d144_10 rfl ?_
  refine mx_iast (k := 26) (n := p) r M d144_11 rfl rfl rfl (by show p < 6; exact hp6) (fun hh r => ?_)
  refine ie_iload_n d144_12 rfl ?_
  refine ie_iconst (nI 1) d144_13 (by decide) ?_
  refine ie_icmp_ne 24 d144_14 (by decide) (fun c14 => ?_) (fun c14 => ?_)
  · skip
    have c15 : ¬ y = 1 := c14
    unfold mFin
    rw [if_neg c15]
    refine ie_aload_n d144_24 rfl ?_
    refine mx_getr r M d144_25 fl17_68 rfl ?_
    refine ie_iload_n d144_28 rfl ?_
    refine ie_bipush (nI 6) d144_29 (by decide) ?_
    refine mx_iast (k := 23) (n := t) r M d144_31 rfl rfl rfl (by show t < 640; exact ht) (fun hh r => ?_)
    refine ie_aload_n d144_32 rfl ?_
    refine mx_getr r M d144_33 fl17_86 rfl ?_
    refine ie_aload_n d144_36 rfl ?_
    refine mx_getr r M d144_37 fl17_74 rfl ?_
    refine ie_iload_n d144_40 rfl ?_
    refine mx_iald (k := 25) (n := t) r M d144_41 rfl rfl rfl (by show t < 640; exact ht) ?_
    rw [mset_k (by decide)]
    rw [mset_k (by decide)]
    rw [hp]
    refine ie_iconst (nI 0) d144_42 (by decide) ?_
    refine mx_iast (k := 29) (n := p) r M d144_43 rfl rfl rfl (by show p < 6; exact hp6) (fun hh r => ?_)
    refine ie_aload_n d144_44 rfl ?_
    refine ie_iload_n d144_45 rfl ?_
    refine mx_call r M [_] d144_46 ok143 rm144_143 cl17_231 rfl rfl (Nat.le_of_ble_eq_true rfl) (Nat.le_of_ble_eq_true rfl) (s143 (p := p) (u := u) (r.ok M) r.2.2 ht (by rw [mset_k (by decide), mset_k (by decide), mset_k (by decide)]; exact hp) hp6 (by rw [mset_k (by decide), mset_k (by decide), mset_k (by decide)]; exact hu) hu24) (fun hh r => ?_)
    exact ie_vret d144_49 rfl ⟨rfl, r⟩
  · skip
    have c15 : y = 1 := c14
    unfold mFin
    rw [if_pos c15]
    refine ie_aload_n d144_17 rfl ?_
    refine ie_iload_n d144_18 rfl ?_
    refine ie_iload_n d144_19 rfl ?_
    refine mx_call r M [_, _] d144_20 ok142 rm144_142 cl17_209 rfl rfl (Nat.le_of_ble_eq_true rfl) (Nat.le_of_ble_eq_true rfl) (s142 (r.ok M) r.2.2 ht (by rw [mset_k (by decide)]; exact hp) hp6 (by obtain ⟨a1, a2, a3, a4, a5⟩ := hH c15; exact ⟨a1, a2, by rw [mset_k (by decide)]; exact a3, by rw [mset_k (by decide)]; exact a4, fun k hk => by rw [mset_k (by decide)]; exact a5 k hk⟩) _) (fun hh r => ?_)
    exact ie_vret d144_23 rfl ⟨rfl, r⟩
end
section
/-- a unit with its class at the seventh place -/
def mSendT (S : MS) (u : Nat) (kind to t a b c ty : Int32) : MS := if u = 24 then S else mset (mSend S u kind to t a b c) 45 (11 * u + 6) ty
theorem mSendT_o {S : MS} {u : Nat} {kind to t a b c ty : Int32} {k j : Nat} (h45 : k ≠ 45) (h44 : k ≠ 44) : mSendT S u kind to t a b c ty k j = S k j := by
  unfold mSendT
  split
  · rfl
  · rw [mset_k h45, mSend_o h45 h44]
theorem mSendT_u {S : MS} {u : Nat} {kind to t a b c ty : Int32} (hu : S 44 0 = nI u) (hu24 : u ≤ 24) : mSendT S u kind to t a b c ty 44 0 = nI (if u = 24 then 24 else u + 1) := by
  unfold mSendT
  split
  · rename_i e
    rw [hu, e]
  · rename_i e
    rw [mset_k (by decide), mSend_u hu hu24, if_neg e]
theorem mSend_24 {S : MS} {kind to t a b c : Int32} {u : Nat} (h : u = 24) : mSend S u kind to t a b c = S := if_pos h
theorem mSendT_24 {S : MS} {kind to t a b c ty : Int32} {u : Nat} (h : u = 24) : mSendT S u kind to t a b c ty = S := if_pos h
theorem mSendT_n {S : MS} {kind to t a b c ty : Int32} {u : Nat} (h : ¬ u = 24) : mSendT S u kind to t a b c ty = mset (mSend S u kind to t a b c) 45 (11 * u + 6) ty := if_neg h
def mMeta (S : MS) (u t : Nat) : MS := mSendT S u (nI 1) (nI (1 - t / 320)) (nI t) (S 10 t) (S 11 t) (S 12 t) (S 8 t)
/-- what a segment of file f (n bytes) holds -/
def mLen (n s : Nat) : Nat := if n - 4 * s < 4 then n - 4 * s else 4
def mData (S : MS) (u t f n s : Nat) : MS := mSendT S u (nI 2) (nI (1 - t / 320)) (nI t) (nI s) (nI (mLen n s)) (mWd S f n s 4) (S 8 t)
set_option maxRecDepth 100000 in
set_option maxHeartbeats 4000000 in
/-- sendMetadata -/
theorem s138 {G : ix_G} {h : ix_H} {o : Nat} {S : MS} (M : md_ok h o) (hS : ms h o = S) {t u : Nat} (ht : t < 640) (hu : S 44 0 = nI u) (hu24 : u ≤ 24) : ix_E G 138 0 (lv_args 0 [.ref o, .int (nI t)]) [] h (fun rv h' => rv = none ∧ mR o h h' (mMeta S u t)) := by
  have r : mR o h h S := mR.rf hS
  refine ie_aload_n d138_0 rfl ?_
  refine ie_iconst (nI 1) d138_1 (by decide) ?_
  refine ie_iconst (nI 1) d138_2 (by decide) ?_
  refine ie_iload_n d138_3 rfl ?_
  refine ie_sipush (nI 320) d138_4 (by decide) ?_
  refine ie_idiv d138_7 (by decide) ?_
  rw [pk_div (by omega) (by decide) (by decide)]
  refine ie_isub d138_8 ?_
  rw [pk_sub (by omega)]
  refine ie_iload_n d138_9 rfl ?_
  refine ie_aload_n d138_10 rfl ?_
  refine mx_getr r M d138_11 fl17_29 rfl ?_
  refine ie_iload_n d138_14 rfl ?_
  refine mx_iald (k := 10) (n := t) r M d138_15 rfl rfl rfl (by show t < 640; exact ht) ?_
  refine ie_aload_n d138_16 rfl ?_
  refine mx_getr r M d138_17 fl17_32 rfl ?_
  refine ie_iload_n d138_20 rfl ?_
  refine mx_iald (k := 11) (n := t) r M d138_21 rfl rfl rfl (by show t < 640; exact ht) ?_
  refine ie_aload_n d138_22 rfl ?_
  refine mx_getr r M d138_23 fl17_35 rfl ?_
  refine ie_iload_n d138_26 rfl ?_
  refine mx_iald (k := 12) (n := t) r M d138_27 rfl rfl rfl (by show t < 640; exact ht) ?_
  refine mx_call r M [_, _, _, _, _, _] d138_28 ok136 rm138_136 cl17_177 rfl rfl (Nat.le_of_ble_eq_true rfl) (Nat.le_of_ble_eq_true rfl) (s136 (r.ok M) r.2.2 hu hu24 _ _ _ _ _ _) (fun hh r => ?_)
  refine ie_if_eq 58 d138_31 (by decide) (fun c31 => ?_) (fun c31 => ?_)
  · skip
    rw [bI_0] at c31
    unfold mMeta
    rw [mSendT_24 (by omega)]
    rw [mSend_24 (by omega)] at r
    exact ie_vret d138_58 rfl ⟨rfl, r⟩
  · skip
    rw [bI_0, Classical.not_not] at c31
    unfold mMeta
    rw [mSendT_n (by omega)]
    refine ie_aload_n d138_34 rfl ?_
    refine mx_getr r M d138_35 fl17_131 rfl ?_
    refine ie_bipush (nI 11) d138_38 (by decide) ?_
    refine ie_aload_n d138_40 rfl ?_
    refine mx_geti r M d138_41 fl17_171 rfl ?_
    rw [mSend_u hu hu24, if_neg (by omega)]
    refine ie_imul d138_44 ?_
    rw [pk_mul]
    refine ie_bipush (nI 11) d138_45 (by decide) ?_
    refine ie_isub d138_47 ?_
    rw [pk_sub (by omega)]
    refine ie_bipush (nI 6) d138_48 (by decide) ?_
    refine ie_iadd d138_50 ?_
    rw [nI_add]
    refine ie_aload_n d138_51 rfl ?_
    refine mx_getr r M d138_52 fl17_23 rfl ?_
    refine ie_iload_n d138_55 rfl ?_
    refine mx_iald (k := 8) (n := t) r M d138_56 rfl rfl rfl (by show t < 640; exact ht) ?_
    rw [mSend_o (by decide) (by decide)]
    refine mx_iast (k := 45) (n := (11 * u + 6)) r M d138_57 rfl rfl (congrArg nI (by omega)) (by show 11 * u + 6 < 264; omega) (fun hh r => ?_)
    exact ie_vret d138_58 rfl ⟨rfl, r⟩
set_option maxRecDepth 100000 in
set_option maxHeartbeats 4000000 in
/-- sendData -/
theorem s139 {G : ix_G} {h : ix_H} {o : Nat} {S : MS} (M : md_ok h o) (hS : ms h o = S) {t u f n s : Nat} (ht : t < 640) (hu : S 44 0 = nI u) (hu24 : u ≤ 24) (hfi : nI (6 * (t / 320)) + S 9 t = nI f) (hf : f < 12) (hl : S 5 f = nI n) (hn64 : n ≤ 64) (hs : 4 * s < n) : ix_E G 139 0 (lv_args 0 [.ref o, .int (nI t), .int (nI s)]) [] h (fun rv h' => rv = none ∧ mR o h h' (mData S u t f n s)) := by
  have r : mR o h h S := mR.rf hS
  refine ie_aload_n d139_0 rfl ?_
  refine ie_iload_n d139_1 rfl ?_
  refine mx_ask r M [_] d139_2 ok131 rm139_131 cl17_181 rfl rfl (Nat.le_of_ble_eq_true rfl) (Nat.le_of_ble_eq_true rfl) (s131 (r.ok M) ht) ?_
  rw [r.2.2, hfi]
  refine ie_istore_n d139_5 (by decide) ?_
  refine ie_aload_n d139_6 rfl ?_
  refine mx_getr r M d139_7 fl17_13 rfl ?_
  refine ie_iload_n d139_10 rfl ?_
  refine mx_iald (k := 5) (n := f) r M d139_11 rfl rfl rfl (by show f < 12; exact hf) ?_
  rw [hl]
  refine ie_iconst (nI 4) d139_12 (by decide) ?_
  refine ie_iload_n d139_13 rfl ?_
  refine ie_imul d139_14 ?_
  rw [pk_mul]
  refine ie_isub d139_15 ?_
  rw [pk_sub (by omega)]
  refine ie_iconst (nI 4) d139_16 (by decide) ?_
  refine ie_icmp_ge 33 d139_17 (by decide) (fun c17 => ?_) (fun c17 => ?_)
  · skip
    rw [nI_leI (by omega) (by omega)] at c17
    have hm : mLen n s = 4 := if_neg (by omega)
    refine ie_iconst (nI 4) d139_33 (by decide) ?_
    refine ie_istore d139_34 (by decide) ?_
    refine ie_aload_n d139_36 rfl ?_
    refine ie_iconst (nI 2) d139_37 (by decide) ?_
    refine ie_iconst (nI 1) d139_38 (by decide) ?_
    refine ie_iload_n d139_39 rfl ?_
    refine ie_sipush (nI 320) d139_40 (by decide) ?_
    refine ie_idiv d139_43 (by decide) ?_
    rw [pk_div (by omega) (by decide) (by decide)]
    refine ie_isub d139_44 ?_
    rw [pk_sub (by omega)]
    refine ie_iload_n d139_45 rfl ?_
    refine ie_iload_n d139_46 rfl ?_
    refine ie_iload d139_47 rfl ?_
    refine ie_aload_n d139_49 rfl ?_
    refine ie_iload_n d139_50 rfl ?_
    refine ie_iload_n d139_51 rfl ?_
    refine mx_ask r M [_, _] d139_52 ok135 rm139_135 cl17_167 rfl rfl (Nat.le_of_ble_eq_true rfl) (Nat.le_of_ble_eq_true rfl) (s135 (r.ok M) r.2.2 hf hn64 (by omega) hl) ?_
    refine mx_call r M [_, _, _, _, _, _] d139_55 ok136 rm139_136 cl17_177 rfl rfl (Nat.le_of_ble_eq_true rfl) (Nat.le_of_ble_eq_true rfl) (s136 (r.ok M) r.2.2 hu hu24 _ _ _ _ _ _) (fun hh r => ?_)
    refine ie_if_eq 85 d139_58 (by decide) (fun c58 => ?_) (fun c58 => ?_)
    · skip
      rw [bI_0] at c58
      unfold mData
      rw [mSendT_24 (by omega)]
      rw [mSend_24 (by omega)] at r
      exact ie_vret d139_85 rfl ⟨rfl, r⟩
    · skip
      rw [bI_0, Classical.not_not] at c58
      unfold mData
      rw [mSendT_n (by omega), hm]
      refine ie_aload_n d139_61 rfl ?_
      refine mx_getr r M d139_62 fl17_131 rfl ?_
      refine ie_bipush (nI 11) d139_65 (by decide) ?_
      refine ie_aload_n d139_67 rfl ?_
      refine mx_geti r M d139_68 fl17_171 rfl ?_
      rw [mSend_u hu hu24, if_neg (by omega)]
      refine ie_imul d139_71 ?_
      rw [pk_mul]
      refine ie_bipush (nI 11) d139_72 (by decide) ?_
      refine ie_isub d139_74 ?_
      rw [pk_sub (by omega)]
      refine ie_bipush (nI 6) d139_75 (by decide) ?_
      refine ie_iadd d139_77 ?_
      rw [nI_add]
      refine ie_aload_n d139_78 rfl ?_
      refine mx_getr r M d139_79 fl17_23 rfl ?_
      refine ie_iload_n d139_82 rfl ?_
      refine mx_iald (k := 8) (n := t) r M d139_83 rfl rfl rfl (by show t < 640; exact ht) ?_
      rw [mSend_o (by decide) (by decide)]
      refine mx_iast (k := 45) (n := (11 * u + 6)) r M d139_84 rfl rfl (congrArg nI (by omega)) (by show 11 * u + 6 < 264; omega) (fun hh r => ?_)
      exact ie_vret d139_85 rfl ⟨rfl, r⟩
  · skip
    rw [nI_leI (by omega) (by omega)] at c17
    have hm : mLen n s = n - 4 * s := if_pos (by omega)
    refine ie_aload_n d139_20 rfl ?_
    refine mx_getr r M d139_21 fl17_13 rfl ?_
    refine ie_iload_n d139_24 rfl ?_
    refine mx_iald (k := 5) (n := f) r M d139_25 rfl rfl rfl (by show f < 12; exact hf) ?_
    rw [hl]
    refine ie_iconst (nI 4) d139_26 (by decide) ?_
    refine ie_iload_n d139_27 rfl ?_
    refine ie_imul d139_28 ?_
    rw [pk_mul]
    refine ie_isub d139_29 ?_
    rw [pk_sub (by omega)]
    refine ie_goto 34 d139_30 (by decide) ?_
    refine ie_istore d139_34 (by decide) ?_
    refine ie_aload_n d139_36 rfl ?_
    refine ie_iconst (nI 2) d139_37 (by decide) ?_
    refine ie_iconst (nI 1) d139_38 (by decide) ?_
    refine ie_iload_n d139_39 rfl ?_
    refine ie_sipush (nI 320) d139_40 (by decide) ?_
    refine ie_idiv d139_43 (by decide) ?_
    rw [pk_div (by omega) (by decide) (by decide)]
    refine ie_isub d139_44 ?_
    rw [pk_sub (by omega)]
    refine ie_iload_n d139_45 rfl ?_
    refine ie_iload_n d139_46 rfl ?_
    refine ie_iload d139_47 rfl ?_
    refine ie_aload_n d139_49 rfl ?_
    refine ie_iload_n d139_50 rfl ?_
    refine ie_iload_n d139_51 rfl ?_
    refine mx_ask r M [_, _] d139_52 ok135 rm139_135 cl17_167 rfl rfl (Nat.le_of_ble_eq_true rfl) (Nat.le_of_ble_eq_true rfl) (s135 (r.ok M) r.2.2 hf hn64 (by omega) hl) ?_
    refine mx_call r M [_, _, _, _, _, _] d139_55 ok136 rm139_136 cl17_177 rfl rfl (Nat.le_of_ble_eq_true rfl) (Nat.le_of_ble_eq_true rfl) (s136 (r.ok M) r.2.2 hu hu24 _ _ _ _ _ _) (fun hh r => ?_)
    refine ie_if_eq 85 d139_58 (by decide) (fun c58 => ?_) (fun c58 => ?_)
    · skip
      rw [bI_0] at c58
      unfold mData
      rw [mSendT_24 (by omega)]
      rw [mSend_24 (by omega)] at r
      exact ie_vret d139_85 rfl ⟨rfl, r⟩
    · skip
      rw [bI_0, Classical.not_not] at c58
      unfold mData
      rw [mSendT_n (by omega), hm]
      refine ie_aload_n d139_61 rfl ?_
      refine mx_getr r M d139_62 fl17_131 rfl ?_
      refine ie_bipush (nI 11) d139_65 (by decide) ?_
      refine ie_aload_n d139_67 rfl ?_
      refine mx_geti r M d139_68 fl17_171 rfl ?_
      rw [mSend_u hu hu24, if_neg (by omega)]
      refine ie_imul d139_71 ?_
      rw [pk_mul]
      refine ie_bipush (nI 11) d139_72 (by decide) ?_
      refine ie_isub d139_74 ?_
      rw [pk_sub (by omega)]
      refine ie_bipush (nI 6) d139_75 (by decide) ?_
      refine ie_iadd d139_77 ?_
      rw [nI_add]
      refine ie_aload_n d139_78 rfl ?_
      refine mx_getr r M d139_79 fl17_23 rfl ?_
      refine ie_iload_n d139_82 rfl ?_
      refine mx_iald (k := 8) (n := t) r M d139_83 rfl rfl rfl (by show t < 640; exact ht) ?_
      rw [mSend_o (by decide) (by decide)]
      refine mx_iast (k := 45) (n := (11 * u + 6)) r M d139_84 rfl rfl (congrArg nI (by omega)) (by show 11 * u + 6 < 264; omega) (fun hh r => ?_)
      exact ie_vret d139_85 rfl ⟨rfl, r⟩
theorem mHas_o {A B : Nat} {S S' : MS} {e k0 c t : Nat} (h : mHas A B S e k0 c t) (hA : ∀ j, S' A j = S A j) (hB : ∀ j, S' B j = S B j) : mHas A B S' e k0 c t := by
  obtain ⟨a1, a2, a3, a4, a5⟩ := h
  exact ⟨a1, a2, by rw [hB]; exact a3, by rw [hA]; exact a4, fun k hk => by rw [hA]; exact a5 k hk⟩
/-- END goes out; with class 1 the sender is closed -/
def mEnd1 (S : MS) (u t f n : Nat) : MS := mset (mset (mSendT S u (nI 3) (nI (1 - t / 320)) (nI t) (if S 21 t = 0 then nI n else -1) (if S 21 t = 0 then mCk S f n ((n + 3) / 4) else nI 0) (nI 0) (S 8 t)) 15 t (S 15 t + nI 1)) 17 t (S 16 t)
def mEnd (S : MS) (u t f n k0 c : Nat) : MS := if S 8 t = 1 then mRm 40 42 (mset (mEnd1 S u t f n) 13 t (if S 21 t = 0 then nI 1 else nI 2)) (t / 320) k0 c (c - 1) else mEnd1 S u t f n
set_option maxRecDepth 100000 in
set_option maxHeartbeats 4000000 in
/-- sendEnd, behind send -/
theorem s133_tail {G : ix_G} {h0 h : ix_H} {o : Nat} {S : MS} (M : md_ok h0 o) {t u f n k0 c : Nat} (ht : t < 640) (hH : S 8 t = 1 → mHas 40 42 S (t / 320) k0 c t) (lv : List (Nat × Value)) (l0 : lv.lookup 0 = some (.ref o)) (l1 : lv.lookup 1 = some (.int (nI t)))
    (r : mR o h0 h (mSendT S u (nI 3) (nI (1 - t / 320)) (nI t) (if S 21 t = 0 then nI n else -1) (if S 21 t = 0 then mCk S f n ((n + 3) / 4) else nI 0) (nI 0) (S 8 t))) : ix_E G 133 84 lv [] h (fun rv h' => rv = none ∧ mR o h0 h' (mEnd S u t f n k0 c)) := by
  refine ie_aload_n d133_84 l0 ?_
  refine mx_getr r M d133_85 fl17_44 rfl ?_
  refine ie_iload_n d133_88 l1 ?_
  refine ie_dup2 d133_89 rfl rfl ?_
  refine mx_iald (k := 15) (n := t) r M d133_90 rfl rfl rfl (by show t < 640; exact ht) ?_
  rw [mSendT_o (by decide) (by decide)]
  refine ie_iconst (nI 1) d133_91 (by decide) ?_
  refine ie_iadd d133_92 ?_
  refine mx_iast (k := 15) (n := t) r M d133_93 rfl rfl rfl (by show t < 640; exact ht) (fun hh r => ?_)
  refine ie_aload_n d133_94 l0 ?_
  refine mx_getr r M d133_95 fl17_50 rfl ?_
  refine ie_iload_n d133_98 l1 ?_
  refine ie_aload_n d133_99 l0 ?_
  refine mx_getr r M d133_100 fl17_47 rfl ?_
  refine ie_iload_n d133_103 l1 ?_
  refine mx_iald (k := 16) (n := t) r M d133_104 rfl rfl rfl (by show t < 640; exact ht) ?_
  rw [mset_k (by decide)]
  rw [mSendT_o (by decide) (by decide)]
  refine mx_iast (k := 17) (n := t) r M d133_105 rfl rfl rfl (by show t < 640; exact ht) (fun hh r => ?_)
  refine ie_aload_n d133_106 l0 ?_
  refine mx_getr r M d133_107 fl17_23 rfl ?_
  refine ie_iload_n d133_110 l1 ?_
  refine mx_iald (k := 8) (n := t) r M d133_111 rfl rfl rfl (by show t < 640; exact ht) ?_
  rw [mset_k (by decide)]
  rw [mset_k (by decide)]
  rw [mSendT_o (by decide) (by decide)]
  refine ie_iconst (nI 1) d133_112 (by decide) ?_
  refine ie_icmp_ne 135 d133_113 (by decide) (fun c113 => ?_) (fun c113 => ?_)
  · skip
    have c114 : ¬ S 8 t = 1 := c113
    unfold mEnd
    rw [if_neg c114]
    exact ie_vret d133_135 rfl ⟨rfl, r⟩
  · skip
    have c114 : S 8 t = 1 := c113
    unfold mEnd
    rw [if_pos c114]
    refine ie_aload_n d133_116 l0 ?_
    refine ie_iload_n d133_117 l1 ?_
    refine ie_aload_n d133_118 l0 ?_
    refine mx_getr r M d133_119 fl17_62 rfl ?_
    refine ie_iload_n d133_122 l1 ?_
    refine mx_zald (k := 21) (n := t) r M d133_123 rfl rfl rfl (by show t < 640; exact ht) ?_
    rw [mset_k (by decide)]
    rw [mset_k (by decide)]
    rw [mSendT_o (by decide) (by decide)]
    refine ie_if_eq 131 d133_124 (by decide) (fun c124 => ?_) (fun c124 => ?_)
    · skip
      rw [if_pos c124]
      refine ie_iconst (nI 1) d133_131 (by decide) ?_
      refine mx_call r M [_, _] d133_132 ok137 rm133_137 cl17_187 rfl rfl (Nat.le_of_ble_eq_true rfl) (Nat.le_of_ble_eq_true rfl) (s137 (r.ok M) r.2.2 ht (mHas_o (hH c114) (fun j => by rw [mset_k (by decide), mset_k (by decide), mSendT_o (by decide) (by decide)]) (fun j => by rw [mset_k (by decide), mset_k (by decide), mSendT_o (by decide) (by decide)])) _) (fun hh r => ?_)
      exact ie_vret d133_135 rfl ⟨rfl, r⟩
    · skip
      rw [if_neg c124]
      refine ie_iconst (nI 2) d133_127 (by decide) ?_
      refine ie_goto 132 d133_128 (by decide) ?_
      refine mx_call r M [_, _] d133_132 ok137 rm133_137 cl17_187 rfl rfl (Nat.le_of_ble_eq_true rfl) (Nat.le_of_ble_eq_true rfl) (s137 (r.ok M) r.2.2 ht (mHas_o (hH c114) (fun j => by rw [mset_k (by decide), mset_k (by decide), mSendT_o (by decide) (by decide)]) (fun j => by rw [mset_k (by decide), mset_k (by decide), mSendT_o (by decide) (by decide)])) _) (fun hh r => ?_)
      exact ie_vret d133_135 rfl ⟨rfl, r⟩
set_option maxRecDepth 100000 in
set_option maxHeartbeats 4000000 in
/-- sendEnd -/
theorem s133 {G : ix_G} {h : ix_H} {o : Nat} {S : MS} (M : md_ok h o) (hS : ms h o = S) {t u f n k0 c : Nat} (ht : t < 640) (hu : S 44 0 = nI u) (hu24 : u ≤ 24) (hfi : nI (6 * (t / 320)) + S 9 t = nI f) (hf : f < 12) (hl : S 5 f = nI n) (hn64 : n ≤ 64) (hH : S 8 t = 1 → mHas 40 42 S (t / 320) k0 c t) : ix_E G 133 0 (lv_args 0 [.ref o, .int (nI t)]) [] h (fun rv h' => rv = none ∧ mR o h h' (mEnd S u t f n k0 c)) := by
  have r : mR o h h S := mR.rf hS
  refine ie_aload_n d133_0 rfl ?_
  refine ie_iload_n d133_1 rfl ?_
  refine mx_ask r M [_] d133_2 ok131 rm133_131 cl17_181 rfl rfl (Nat.le_of_ble_eq_true rfl) (Nat.le_of_ble_eq_true rfl) (s131 (r.ok M) ht) ?_
  rw [r.2.2, hfi]
  refine ie_istore_n d133_5 (by decide) ?_
  refine ie_aload_n d133_6 rfl ?_
  refine ie_iconst (nI 3) d133_7 (by decide) ?_
  refine ie_iconst (nI 1) d133_8 (by decide) ?_
  refine ie_iload_n d133_9 rfl ?_
  refine ie_sipush (nI 320) d133_10 (by decide) ?_
  refine ie_idiv d133_13 (by decide) ?_
  rw [pk_div (by omega) (by decide) (by decide)]
  refine ie_isub d133_14 ?_
  rw [pk_sub (by omega)]
  refine ie_iload_n d133_15 rfl ?_
  refine ie_aload_n d133_16 rfl ?_
  refine mx_getr r M d133_17 fl17_62 rfl ?_
  refine ie_iload_n d133_20 rfl ?_
  refine mx_zald (k := 21) (n := t) r M d133_21 rfl rfl rfl (by show t < 640; exact ht) ?_
  refine ie_if_eq 29 d133_22 (by decide) (fun c22 => ?_) (fun c22 => ?_)
  · skip
    refine ie_aload_n d133_29 rfl ?_
    refine mx_getr r M d133_30 fl17_13 rfl ?_
    refine ie_iload_n d133_33 rfl ?_
    refine mx_iald (k := 5) (n := f) r M d133_34 rfl rfl rfl (by show f < 12; exact hf) ?_
    rw [hl]
    refine ie_aload_n d133_35 rfl ?_
    refine mx_getr r M d133_36 fl17_62 rfl ?_
    refine ie_iload_n d133_39 rfl ?_
    refine mx_zald (k := 21) (n := t) r M d133_40 rfl rfl rfl (by show t < 640; exact ht) ?_
    refine ie_if_eq 48 d133_41 (by decide) (fun c41 => ?_) (fun c41 => ?_)
    · skip
      refine ie_aload_n d133_48 rfl ?_
      refine ie_iload_n d133_49 rfl ?_
      refine mx_ask r M [_] d133_50 ok134 rm133_134 cl17_184 rfl rfl (Nat.le_of_ble_eq_true rfl) (Nat.le_of_ble_eq_true rfl) (s134 (r.ok M) r.2.2 hf hn64 hl) ?_
      refine ie_iconst (nI 0) d133_53 (by decide) ?_
      refine mx_call r M [_, _, _, _, _, _] d133_54 ok136 rm133_136 cl17_177 rfl rfl (Nat.le_of_ble_eq_true rfl) (Nat.le_of_ble_eq_true rfl) (s136 (r.ok M) r.2.2 hu hu24 _ _ _ _ _ _) (fun hh r => ?_)
      refine ie_if_eq 84 d133_57 (by decide) (fun c57 => ?_) (fun c57 => ?_)
      · skip
        rw [bI_0] at c57
        rw [mSend_24 (by omega)] at r
        exact s133_tail M ht hH _ rfl rfl (by first | exact absurd c41 c22 | exact absurd c22 c41 | (simp only [if_pos c22]; rw [mSendT_24 (by omega)]; exact r) | (simp only [if_neg c22]; rw [mSendT_24 (by omega)]; exact r) | (simp only [if_pos c22]; rw [mSendT_n (by omega)]; exact r) | (simp only [if_neg c22]; rw [mSendT_n (by omega)]; exact r))
      · skip
        rw [bI_0, Classical.not_not] at c57
        refine ie_aload_n d133_60 rfl ?_
        refine mx_getr r M d133_61 fl17_131 rfl ?_
        refine ie_bipush (nI 11) d133_64 (by decide) ?_
        refine ie_aload_n d133_66 rfl ?_
        refine mx_geti r M d133_67 fl17_171 rfl ?_
        rw [mSend_u hu hu24, if_neg (by omega)]
        refine ie_imul d133_70 ?_
        rw [pk_mul]
        refine ie_bipush (nI 11) d133_71 (by decide) ?_
        refine ie_isub d133_73 ?_
        rw [pk_sub (by omega)]
        refine ie_bipush (nI 6) d133_74 (by decide) ?_
        refine ie_iadd d133_76 ?_
        rw [nI_add]
        refine ie_aload_n d133_77 rfl ?_
        refine mx_getr r M d133_78 fl17_23 rfl ?_
        refine ie_iload_n d133_81 rfl ?_
        refine mx_iald (k := 8) (n := t) r M d133_82 rfl rfl rfl (by show t < 640; exact ht) ?_
        rw [mSend_o (by decide) (by decide)]
        refine mx_iast (k := 45) (n := (11 * u + 6)) r M d133_83 rfl rfl (congrArg nI (by omega)) (by show 11 * u + 6 < 264; omega) (fun hh r => ?_)
        exact s133_tail M ht hH _ rfl rfl (by first | exact absurd c41 c22 | exact absurd c22 c41 | (simp only [if_pos c22]; rw [mSendT_24 (by omega)]; exact r) | (simp only [if_neg c22]; rw [mSendT_24 (by omega)]; exact r) | (simp only [if_pos c22]; rw [mSendT_n (by omega)]; exact r) | (simp only [if_neg c22]; rw [mSendT_n (by omega)]; exact r))
    · skip
      refine ie_iconst (nI 0) d133_44 (by decide) ?_
      refine ie_goto 53 d133_45 (by decide) ?_
      refine ie_iconst (nI 0) d133_53 (by decide) ?_
      refine mx_call r M [_, _, _, _, _, _] d133_54 ok136 rm133_136 cl17_177 rfl rfl (Nat.le_of_ble_eq_true rfl) (Nat.le_of_ble_eq_true rfl) (s136 (r.ok M) r.2.2 hu hu24 _ _ _ _ _ _) (fun hh r => ?_)
      refine ie_if_eq 84 d133_57 (by decide) (fun c57 => ?_) (fun c57 => ?_)
      · skip
        rw [bI_0] at c57
        rw [mSend_24 (by omega)] at r
        exact s133_tail M ht hH _ rfl rfl (by first | exact absurd c41 c22 | exact absurd c22 c41 | (simp only [if_pos c22]; rw [mSendT_24 (by omega)]; exact r) | (simp only [if_neg c22]; rw [mSendT_24 (by omega)]; exact r) | (simp only [if_pos c22]; rw [mSendT_n (by omega)]; exact r) | (simp only [if_neg c22]; rw [mSendT_n (by omega)]; exact r))
      · skip
        rw [bI_0, Classical.not_not] at c57
        refine ie_aload_n d133_60 rfl ?_
        refine mx_getr r M d133_61 fl17_131 rfl ?_
        refine ie_bipush (nI 11) d133_64 (by decide) ?_
        refine ie_aload_n d133_66 rfl ?_
        refine mx_geti r M d133_67 fl17_171 rfl ?_
        rw [mSend_u hu hu24, if_neg (by omega)]
        refine ie_imul d133_70 ?_
        rw [pk_mul]
        refine ie_bipush (nI 11) d133_71 (by decide) ?_
        refine ie_isub d133_73 ?_
        rw [pk_sub (by omega)]
        refine ie_bipush (nI 6) d133_74 (by decide) ?_
        refine ie_iadd d133_76 ?_
        rw [nI_add]
        refine ie_aload_n d133_77 rfl ?_
        refine mx_getr r M d133_78 fl17_23 rfl ?_
        refine ie_iload_n d133_81 rfl ?_
        refine mx_iald (k := 8) (n := t) r M d133_82 rfl rfl rfl (by show t < 640; exact ht) ?_
        rw [mSend_o (by decide) (by decide)]
        refine mx_iast (k := 45) (n := (11 * u + 6)) r M d133_83 rfl rfl (congrArg nI (by omega)) (by show 11 * u + 6 < 264; omega) (fun hh r => ?_)
        exact s133_tail M ht hH _ rfl rfl (by first | exact absurd c41 c22 | exact absurd c22 c41 | (simp only [if_pos c22]; rw [mSendT_24 (by omega)]; exact r) | (simp only [if_neg c22]; rw [mSendT_24 (by omega)]; exact r) | (simp only [if_pos c22]; rw [mSendT_n (by omega)]; exact r) | (simp only [if_neg c22]; rw [mSendT_n (by omega)]; exact r))
  · skip
    refine ie_iconst (-1) d133_25 (by decide) ?_
    refine ie_goto 35 d133_26 (by decide) ?_
    refine ie_aload_n d133_35 rfl ?_
    refine mx_getr r M d133_36 fl17_62 rfl ?_
    refine ie_iload_n d133_39 rfl ?_
    refine mx_zald (k := 21) (n := t) r M d133_40 rfl rfl rfl (by show t < 640; exact ht) ?_
    refine ie_if_eq 48 d133_41 (by decide) (fun c41 => ?_) (fun c41 => ?_)
    · skip
      refine ie_aload_n d133_48 rfl ?_
      refine ie_iload_n d133_49 rfl ?_
      refine mx_ask r M [_] d133_50 ok134 rm133_134 cl17_184 rfl rfl (Nat.le_of_ble_eq_true rfl) (Nat.le_of_ble_eq_true rfl) (s134 (r.ok M) r.2.2 hf hn64 hl) ?_
      refine ie_iconst (nI 0) d133_53 (by decide) ?_
      refine mx_call r M [_, _, _, _, _, _] d133_54 ok136 rm133_136 cl17_177 rfl rfl (Nat.le_of_ble_eq_true rfl) (Nat.le_of_ble_eq_true rfl) (s136 (r.ok M) r.2.2 hu hu24 _ _ _ _ _ _) (fun hh r => ?_)
      refine ie_if_eq 84 d133_57 (by decide) (fun c57 => ?_) (fun c57 => ?_)
      · skip
        rw [bI_0] at c57
        rw [mSend_24 (by omega)] at r
        exact s133_tail M ht hH _ rfl rfl (by first | exact absurd c41 c22 | exact absurd c22 c41 | (simp only [if_pos c22]; rw [mSendT_24 (by omega)]; exact r) | (simp only [if_neg c22]; rw [mSendT_24 (by omega)]; exact r) | (simp only [if_pos c22]; rw [mSendT_n (by omega)]; exact r) | (simp only [if_neg c22]; rw [mSendT_n (by omega)]; exact r))
      · skip
        rw [bI_0, Classical.not_not] at c57
        refine ie_aload_n d133_60 rfl ?_
        refine mx_getr r M d133_61 fl17_131 rfl ?_
        refine ie_bipush (nI 11) d133_64 (by decide) ?_
        refine ie_aload_n d133_66 rfl ?_
        refine mx_geti r M d133_67 fl17_171 rfl ?_
        rw [mSend_u hu hu24, if_neg (by omega)]
        refine ie_imul d133_70 ?_
        rw [pk_mul]
        refine ie_bipush (nI 11) d133_71 (by decide) ?_
        refine ie_isub d133_73 ?_
        rw [pk_sub (by omega)]
        refine ie_bipush (nI 6) d133_74 (by decide) ?_
        refine ie_iadd d133_76 ?_
        rw [nI_add]
        refine ie_aload_n d133_77 rfl ?_
        refine mx_getr r M d133_78 fl17_23 rfl ?_
        refine ie_iload_n d133_81 rfl ?_
        refine mx_iald (k := 8) (n := t) r M d133_82 rfl rfl rfl (by show t < 640; exact ht) ?_
        rw [mSend_o (by decide) (by decide)]
        refine mx_iast (k := 45) (n := (11 * u + 6)) r M d133_83 rfl rfl (congrArg nI (by omega)) (by show 11 * u + 6 < 264; omega) (fun hh r => ?_)
        exact s133_tail M ht hH _ rfl rfl (by first | exact absurd c41 c22 | exact absurd c22 c41 | (simp only [if_pos c22]; rw [mSendT_24 (by omega)]; exact r) | (simp only [if_neg c22]; rw [mSendT_24 (by omega)]; exact r) | (simp only [if_pos c22]; rw [mSendT_n (by omega)]; exact r) | (simp only [if_neg c22]; rw [mSendT_n (by omega)]; exact r))
    · skip
      refine ie_iconst (nI 0) d133_44 (by decide) ?_
      refine ie_goto 53 d133_45 (by decide) ?_
      refine ie_iconst (nI 0) d133_53 (by decide) ?_
      refine mx_call r M [_, _, _, _, _, _] d133_54 ok136 rm133_136 cl17_177 rfl rfl (Nat.le_of_ble_eq_true rfl) (Nat.le_of_ble_eq_true rfl) (s136 (r.ok M) r.2.2 hu hu24 _ _ _ _ _ _) (fun hh r => ?_)
      refine ie_if_eq 84 d133_57 (by decide) (fun c57 => ?_) (fun c57 => ?_)
      · skip
        rw [bI_0] at c57
        rw [mSend_24 (by omega)] at r
        exact s133_tail M ht hH _ rfl rfl (by first | exact absurd c41 c22 | exact absurd c22 c41 | (simp only [if_pos c22]; rw [mSendT_24 (by omega)]; exact r) | (simp only [if_neg c22]; rw [mSendT_24 (by omega)]; exact r) | (simp only [if_pos c22]; rw [mSendT_n (by omega)]; exact r) | (simp only [if_neg c22]; rw [mSendT_n (by omega)]; exact r))
      · skip
        rw [bI_0, Classical.not_not] at c57
        refine ie_aload_n d133_60 rfl ?_
        refine mx_getr r M d133_61 fl17_131 rfl ?_
        refine ie_bipush (nI 11) d133_64 (by decide) ?_
        refine ie_aload_n d133_66 rfl ?_
        refine mx_geti r M d133_67 fl17_171 rfl ?_
        rw [mSend_u hu hu24, if_neg (by omega)]
        refine ie_imul d133_70 ?_
        rw [pk_mul]
        refine ie_bipush (nI 11) d133_71 (by decide) ?_
        refine ie_isub d133_73 ?_
        rw [pk_sub (by omega)]
        refine ie_bipush (nI 6) d133_74 (by decide) ?_
        refine ie_iadd d133_76 ?_
        rw [nI_add]
        refine ie_aload_n d133_77 rfl ?_
        refine mx_getr r M d133_78 fl17_23 rfl ?_
        refine ie_iload_n d133_81 rfl ?_
        refine mx_iald (k := 8) (n := t) r M d133_82 rfl rfl rfl (by show t < 640; exact ht) ?_
        rw [mSend_o (by decide) (by decide)]
        refine mx_iast (k := 45) (n := (11 * u + 6)) r M d133_83 rfl rfl (congrArg nI (by omega)) (by show 11 * u + 6 < 264; omega) (fun hh r => ?_)
        exact s133_tail M ht hH _ rfl rfl (by first | exact absurd c41 c22 | exact absurd c22 c41 | (simp only [if_pos c22]; rw [mSendT_24 (by omega)]; exact r) | (simp only [if_neg c22]; rw [mSendT_24 (by omega)]; exact r) | (simp only [if_pos c22]; rw [mSendT_n (by omega)]; exact r) | (simp only [if_neg c22]; rw [mSendT_n (by omega)]; exact r))
end
