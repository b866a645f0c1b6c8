/-! ===== field places, callees, calls of this claim (written by wip/whole/gen5.py) ===== -/
theorem ix_uw0 : ∀ w ∈ u_ws (ix_cn 0) (ix_cT 0) (ix_nf 0), w ∈ ix_words := by
  show ∀ w ∈ ([.laysFinal "FileDelivery" "FileDelivery" "timeout" "I", .laysFinal "FileDelivery" "FileDelivery" "sides" "[LFileDelivery$Side;", .laysFinal "FileDelivery" "FileDelivery" "link" "LFileDelivery$Link;", .lays "FileDelivery" "FileDelivery" "time" "I"] : List Cond), w ∈ ix_words
  exact List.forall_mem_cons.mpr ⟨ix_in 181 (by decide +kernel) (by decide +kernel), List.forall_mem_cons.mpr ⟨ix_in 183 (by decide +kernel) (by decide +kernel), List.forall_mem_cons.mpr ⟨ix_in 185 (by decide +kernel) (by decide +kernel), List.forall_mem_cons.mpr ⟨ix_in 187 (by decide +kernel) (by decide +kernel), fun _ h => absurd h List.not_mem_nil⟩⟩⟩⟩
theorem ix_uw1 : ∀ w ∈ u_ws (ix_cn 1) (ix_cT 1) (ix_nf 1), w ∈ ix_words := by
  show ∀ w ∈ ([.laysFinal "FileDelivery$Link" "FileDelivery$Link" "row" "[LFileDelivery$Unit;", .lays "FileDelivery$Link" "FileDelivery$Link" "count" "I"] : List Cond), w ∈ ix_words
  exact List.forall_mem_cons.mpr ⟨ix_in 172 (by decide +kernel) (by decide +kernel), List.forall_mem_cons.mpr ⟨ix_in 174 (by decide +kernel) (by decide +kernel), fun _ h => absurd h List.not_mem_nil⟩⟩
theorem ix_uw2 : ∀ w ∈ u_ws (ix_cn 2) (ix_cT 2) (ix_nf 2), w ∈ ix_words := by
  show ∀ w ∈ ([.laysFinal "FileDelivery$Receiver" "FileDelivery$Receiver" "about" "LFileDelivery$Transaction;", .laysFinal "FileDelivery$Receiver" "FileDelivery$Receiver" "home" "LFileDelivery$Side;", .laysFinal "FileDelivery$Receiver" "FileDelivery$Receiver" "link" "LFileDelivery$Link;", .laysFinal "FileDelivery$Receiver" "FileDelivery$Receiver" "timeout" "I", .laysFinal "FileDelivery$Receiver" "FileDelivery$Receiver" "bytes" "[B", .lays "FileDelivery$Receiver" "FileDelivery$Receiver" "metadataThere" "Z", .lays "FileDelivery$Receiver" "FileDelivery$Receiver" "segmentsThere" "I", .lays "FileDelivery$Receiver" "FileDelivery$Receiver" "endSize" "I", .lays "FileDelivery$Receiver" "FileDelivery$Receiver" "endChecksum" "I", .lays "FileDelivery$Receiver" "FileDelivery$Receiver" "waitsFrom" "I", .lays "FileDelivery$Receiver" "FileDelivery$Receiver" "tries" "I", .lays "FileDelivery$Receiver" "FileDelivery$Receiver" "result" "I", .lays "FileDelivery$Receiver" "FileDelivery$Receiver" "closed" "Z", .lays "FileDelivery$Receiver" "FileDelivery$Receiver" "requestAnswer" "I"] : List Cond), w ∈ ix_words
  exact List.forall_mem_cons.mpr ⟨ix_in 495 (by decide +kernel) (by decide +kernel), List.forall_mem_cons.mpr ⟨ix_in 497 (by decide +kernel) (by decide +kernel), List.forall_mem_cons.mpr ⟨ix_in 499 (by decide +kernel) (by decide +kernel), List.forall_mem_cons.mpr ⟨ix_in 501 (by decide +kernel) (by decide +kernel), List.forall_mem_cons.mpr ⟨ix_in 503 (by decide +kernel) (by decide +kernel), List.forall_mem_cons.mpr ⟨ix_in 505 (by decide +kernel) (by decide +kernel), List.forall_mem_cons.mpr ⟨ix_in 507 (by decide +kernel) (by decide +kernel), List.forall_mem_cons.mpr ⟨ix_in 509 (by decide +kernel) (by decide +kernel), List.forall_mem_cons.mpr ⟨ix_in 511 (by decide +kernel) (by decide +kernel), List.forall_mem_cons.mpr ⟨ix_in 513 (by decide +kernel) (by decide +kernel), List.forall_mem_cons.mpr ⟨ix_in 515 (by decide +kernel) (by decide +kernel), List.forall_mem_cons.mpr ⟨ix_in 517 (by decide +kernel) (by decide +kernel), List.forall_mem_cons.mpr ⟨ix_in 519 (by decide +kernel) (by decide +kernel), List.forall_mem_cons.mpr ⟨ix_in 521 (by decide +kernel) (by decide +kernel), fun _ h => absurd h List.not_mem_nil⟩⟩⟩⟩⟩⟩⟩⟩⟩⟩⟩⟩⟩⟩
theorem ix_uw3 : ∀ w ∈ u_ws (ix_cn 3) (ix_cT 3) (ix_nf 3), w ∈ ix_words := by
  show ∀ w ∈ ([.laysFinal "FileDelivery$Sender" "FileDelivery$Sender" "about" "LFileDelivery$Transaction;", .laysFinal "FileDelivery$Sender" "FileDelivery$Sender" "store" "LFileDelivery$Store;", .laysFinal "FileDelivery$Sender" "FileDelivery$Sender" "link" "LFileDelivery$Link;", .laysFinal "FileDelivery$Sender" "FileDelivery$Sender" "timeout" "I", .laysFinal "FileDelivery$Sender" "FileDelivery$Sender" "segments" "I", .lays "FileDelivery$Sender" "FileDelivery$Sender" "next" "I", .lays "FileDelivery$Sender" "FileDelivery$Sender" "cancelled" "Z", .lays "FileDelivery$Sender" "FileDelivery$Sender" "suspended" "Z", .lays "FileDelivery$Sender" "FileDelivery$Sender" "endAcknowledged" "Z", .lays "FileDelivery$Sender" "FileDelivery$Sender" "metadataWanted" "Z", .lays "FileDelivery$Sender" "FileDelivery$Sender" "repairs" "I", .lays "FileDelivery$Sender" "FileDelivery$Sender" "endsSent" "I", .lays "FileDelivery$Sender" "FileDelivery$Sender" "clock" "I", .lays "FileDelivery$Sender" "FileDelivery$Sender" "endSentAt" "I", .lays "FileDelivery$Sender" "FileDelivery$Sender" "latestUnitAt" "I", .lays "FileDelivery$Sender" "FileDelivery$Sender" "result" "I"] : List Cond), w ∈ ix_words
  exact List.forall_mem_cons.mpr ⟨ix_in 908 (by decide +kernel) (by decide +kernel), List.forall_mem_cons.mpr ⟨ix_in 910 (by decide +kernel) (by decide +kernel), List.forall_mem_cons.mpr ⟨ix_in 912 (by decide +kernel) (by decide +kernel), List.forall_mem_cons.mpr ⟨ix_in 914 (by decide +kernel) (by decide +kernel), List.forall_mem_cons.mpr ⟨ix_in 916 (by decide +kernel) (by decide +kernel), List.forall_mem_cons.mpr ⟨ix_in 918 (by decide +kernel) (by decide +kernel), List.forall_mem_cons.mpr ⟨ix_in 920 (by decide +kernel) (by decide +kernel), List.forall_mem_cons.mpr ⟨ix_in 922 (by decide +kernel) (by decide +kernel), List.forall_mem_cons.mpr ⟨ix_in 924 (by decide +kernel) (by decide +kernel), List.forall_mem_cons.mpr ⟨ix_in 926 (by decide +kernel) (by decide +kernel), List.forall_mem_cons.mpr ⟨ix_in 928 (by decide +kernel) (by decide +kernel), List.forall_mem_cons.mpr ⟨ix_in 930 (by decide +kernel) (by decide +kernel), List.forall_mem_cons.mpr ⟨ix_in 932 (by decide +kernel) (by decide +kernel), List.forall_mem_cons.mpr ⟨ix_in 934 (by decide +kernel) (by decide +kernel), List.forall_mem_cons.mpr ⟨ix_in 936 (by decide +kernel) (by decide +kernel), List.forall_mem_cons.mpr ⟨ix_in 938 (by decide +kernel) (by decide +kernel), fun _ h => absurd h List.not_mem_nil⟩⟩⟩⟩⟩⟩⟩⟩⟩⟩⟩⟩⟩⟩⟩⟩
theorem ix_uw4 : ∀ w ∈ u_ws (ix_cn 4) (ix_cT 4) (ix_nf 4), w ∈ ix_words := by
  show ∀ w ∈ ([.laysFinal "FileDelivery$Side" "FileDelivery$Side" "store" "LFileDelivery$Store;", .laysFinal "FileDelivery$Side" "FileDelivery$Side" "senders" "Ljava/util/ArrayList;", .laysFinal "FileDelivery$Side" "FileDelivery$Side" "openSenders" "Ljava/util/ArrayList;", .laysFinal "FileDelivery$Side" "FileDelivery$Side" "openReceivers" "Ljava/util/ArrayList;"] : List Cond), w ∈ ix_words
  exact List.forall_mem_cons.mpr ⟨ix_in 152 (by decide +kernel) (by decide +kernel), List.forall_mem_cons.mpr ⟨ix_in 154 (by decide +kernel) (by decide +kernel), List.forall_mem_cons.mpr ⟨ix_in 156 (by decide +kernel) (by decide +kernel), List.forall_mem_cons.mpr ⟨ix_in 158 (by decide +kernel) (by decide +kernel), fun _ h => absurd h List.not_mem_nil⟩⟩⟩⟩
theorem ix_uw5 : ∀ w ∈ u_ws (ix_cn 5) (ix_cT 5) (ix_nf 5), w ∈ ix_words := by
  show ∀ w ∈ ([.laysFinal "FileDelivery$Store" "FileDelivery$Store" "bytes" "[[B", .laysFinal "FileDelivery$Store" "FileDelivery$Store" "sizes" "[I"] : List Cond), w ∈ ix_words
  exact List.forall_mem_cons.mpr ⟨ix_in 110 (by decide +kernel) (by decide +kernel), List.forall_mem_cons.mpr ⟨ix_in 112 (by decide +kernel) (by decide +kernel), fun _ h => absurd h List.not_mem_nil⟩⟩
theorem ix_uw6 : ∀ w ∈ u_ws (ix_cn 6) (ix_cT 6) (ix_nf 6), w ∈ ix_words := by
  show ∀ w ∈ ([.laysFinal "FileDelivery$Transaction" "FileDelivery$Transaction" "entity" "I", .laysFinal "FileDelivery$Transaction" "FileDelivery$Transaction" "number" "I", .laysFinal "FileDelivery$Transaction" "FileDelivery$Transaction" "file" "I", .laysFinal "FileDelivery$Transaction" "FileDelivery$Transaction" "dest" "I", .laysFinal "FileDelivery$Transaction" "FileDelivery$Transaction" "kind" "I", .laysFinal "FileDelivery$Transaction" "FileDelivery$Transaction" "wish" "I", .laysFinal "FileDelivery$Transaction" "FileDelivery$Transaction" "other" "I", .lays "FileDelivery$Transaction" "FileDelivery$Transaction" "receiver" "LFileDelivery$Receiver;"] : List Cond), w ∈ ix_words
  exact List.forall_mem_cons.mpr ⟨ix_in 866 (by decide +kernel) (by decide +kernel), List.forall_mem_cons.mpr ⟨ix_in 868 (by decide +kernel) (by decide +kernel), List.forall_mem_cons.mpr ⟨ix_in 870 (by decide +kernel) (by decide +kernel), List.forall_mem_cons.mpr ⟨ix_in 872 (by decide +kernel) (by decide +kernel), List.forall_mem_cons.mpr ⟨ix_in 874 (by decide +kernel) (by decide +kernel), List.forall_mem_cons.mpr ⟨ix_in 876 (by decide +kernel) (by decide +kernel), List.forall_mem_cons.mpr ⟨ix_in 878 (by decide +kernel) (by decide +kernel), List.forall_mem_cons.mpr ⟨ix_in 880 (by decide +kernel) (by decide +kernel), fun _ h => absurd h List.not_mem_nil⟩⟩⟩⟩⟩⟩⟩⟩
theorem ix_uw7 : ∀ w ∈ u_ws (ix_cn 7) (ix_cT 7) (ix_nf 7), w ∈ ix_words := by
  show ∀ w ∈ ([.laysFinal "FileDelivery$Unit" "FileDelivery$Unit" "about" "LFileDelivery$Transaction;", .laysFinal "FileDelivery$Unit" "FileDelivery$Unit" "what" "I", .laysFinal "FileDelivery$Unit" "FileDelivery$Unit" "to" "I", .laysFinal "FileDelivery$Unit" "FileDelivery$Unit" "detail" "I", .laysFinal "FileDelivery$Unit" "FileDelivery$Unit" "length" "I", .lays "FileDelivery$Unit" "FileDelivery$Unit" "content" "I"] : List Cond), w ∈ ix_words
  exact List.forall_mem_cons.mpr ⟨ix_in 323 (by decide +kernel) (by decide +kernel), List.forall_mem_cons.mpr ⟨ix_in 325 (by decide +kernel) (by decide +kernel), List.forall_mem_cons.mpr ⟨ix_in 327 (by decide +kernel) (by decide +kernel), List.forall_mem_cons.mpr ⟨ix_in 329 (by decide +kernel) (by decide +kernel), List.forall_mem_cons.mpr ⟨ix_in 331 (by decide +kernel) (by decide +kernel), List.forall_mem_cons.mpr ⟨ix_in 333 (by decide +kernel) (by decide +kernel), fun _ h => absurd h List.not_mem_nil⟩⟩⟩⟩⟩⟩
theorem ix_uw8 : ∀ w ∈ u_ws (ix_cn 8) (ix_cT 8) (ix_nf 8), w ∈ ix_words := by
  show ∀ w ∈ ([.laysFinal "FileDeliveryModel" "FileDeliveryModel" "span" "I", .lays "FileDeliveryModel" "FileDeliveryModel" "time" "I", .lays "FileDeliveryModel" "FileDeliveryModel" "now" "I", .lays "FileDeliveryModel" "FileDeliveryModel" "fault" "I", .laysFinal "FileDeliveryModel" "FileDeliveryModel" "there" "[Z", .laysFinal "FileDeliveryModel" "FileDeliveryModel" "length" "[I", .laysFinal "FileDeliveryModel" "FileDeliveryModel" "content" "[I", .laysFinal "FileDeliveryModel" "FileDeliveryModel" "numbers" "[I", .laysFinal "FileDeliveryModel" "FileDeliveryModel" "kindOf" "[I", .laysFinal "FileDeliveryModel" "FileDeliveryModel" "fileOf" "[I", .laysFinal "FileDeliveryModel" "FileDeliveryModel" "destOf" "[I", .laysFinal "FileDeliveryModel" "FileDeliveryModel" "wishOf" "[I", .laysFinal "FileDeliveryModel" "FileDeliveryModel" "otherOf" "[I", .laysFinal "FileDeliveryModel" "FileDeliveryModel" "sender" "[I", .laysFinal "FileDeliveryModel" "FileDeliveryModel" "step" "[I", .laysFinal "FileDeliveryModel" "FileDeliveryModel" "ends" "[I", .laysFinal "FileDeliveryModel" "FileDeliveryModel" "clock" "[I", .laysFinal "FileDeliveryModel" "FileDeliveryModel" "endAt" "[I", .laysFinal "FileDeliveryModel" "FileDeliveryModel" "lastAt" "[I", .laysFinal "FileDeliveryModel" "FileDeliveryModel" "repairs" "[I", .laysFinal "FileDeliveryModel" "FileDeliveryModel" "acked" "[Z", .laysFinal "FileDeliveryModel" "FileDeliveryModel" "dropped" "[Z", .laysFinal "FileDeliveryModel" "FileDeliveryModel" "still" "[Z", .laysFinal "FileDeliveryModel" "FileDeliveryModel" "receiver" "[I", .laysFinal "FileDeliveryModel" "FileDeliveryModel" "wish" "[I", .laysFinal "FileDeliveryModel" "FileDeliveryModel" "slot" "[I", .laysFinal "FileDeliveryModel" "FileDeliveryModel" "outcome" "[I", .laysFinal "FileDeliveryModel" "FileDeliveryModel" "size" "[I", .laysFinal "FileDeliveryModel" "FileDeliveryModel" "sum" "[I", .laysFinal "FileDeliveryModel" "FileDeliveryModel" "sends" "[I", .laysFinal "FileDeliveryModel" "FileDeliveryModel" "sentAt" "[I", .laysFinal "FileDeliveryModel" "FileDeliveryModel" "gotAt" "[I", .laysFinal "FileDeliveryModel" "FileDeliveryModel" "toDest" "[I", .laysFinal "FileDeliveryModel" "FileDeliveryModel" "toWish" "[I", .laysFinal "FileDeliveryModel" "FileDeliveryModel" "toOther" "[I", .laysFinal "FileDeliveryModel" "FileDeliveryModel" "used" "[Z", .laysFinal "FileDeliveryModel" "FileDeliveryModel" "knows" "[Z", .laysFinal "FileDeliveryModel" "FileDeliveryModel" "ended" "[Z", .laysFinal "FileDeliveryModel" "FileDeliveryModel" "part" "[I", .laysFinal "FileDeliveryModel" "FileDeliveryModel" "parts" "[I", .laysFinal "FileDeliveryModel" "FileDeliveryModel" "senders" "[I", .laysFinal "FileDeliveryModel" "FileDeliveryModel" "receivers" "[I", .laysFinal "FileDeliveryModel" "FileDeliveryModel" "sending" "[I", .laysFinal "FileDeliveryModel" "FileDeliveryModel" "receiving" "[I", .lays "FileDeliveryModel" "FileDeliveryModel" "units" "I", .laysFinal "FileDeliveryModel" "FileDeliveryModel" "unit" "[I", .laysFinal "FileDeliveryModel" "FileDeliveryModel" "came" "[I", .laysFinal "FileDeliveryModel" "FileDeliveryModel" "gap" "[I"] : List Cond), w ∈ ix_words
  exact List.forall_mem_cons.mpr ⟨ix_in 1000 (by decide +kernel) (by decide +kernel), List.forall_mem_cons.mpr ⟨ix_in 1002 (by decide +kernel) (by decide +kernel), List.forall_mem_cons.mpr ⟨ix_in 1004 (by decide +kernel) (by decide +kernel), List.forall_mem_cons.mpr ⟨ix_in 1006 (by decide +kernel) (by decide +kernel), List.forall_mem_cons.mpr ⟨ix_in 1008 (by decide +kernel) (by decide +kernel), List.forall_mem_cons.mpr ⟨ix_in 1010 (by decide +kernel) (by decide +kernel), List.forall_mem_cons.mpr ⟨ix_in 1012 (by decide +kernel) (by decide +kernel), List.forall_mem_cons.mpr ⟨ix_in 1014 (by decide +kernel) (by decide +kernel), List.forall_mem_cons.mpr ⟨ix_in 1016 (by decide +kernel) (by decide +kernel), List.forall_mem_cons.mpr ⟨ix_in 1018 (by decide +kernel) (by decide +kernel), List.forall_mem_cons.mpr ⟨ix_in 1020 (by decide +kernel) (by decide +kernel), List.forall_mem_cons.mpr ⟨ix_in 1022 (by decide +kernel) (by decide +kernel), List.forall_mem_cons.mpr ⟨ix_in 1024 (by decide +kernel) (by decide +kernel), List.forall_mem_cons.mpr ⟨ix_in 1026 (by decide +kernel) (by decide +kernel), List.forall_mem_cons.mpr ⟨ix_in 1028 (by decide +kernel) (by decide +kernel), List.forall_mem_cons.mpr ⟨ix_in 1030 (by decide +kernel) (by decide +kernel), List.forall_mem_cons.mpr ⟨ix_in 1032 (by decide +kernel) (by decide +kernel), List.forall_mem_cons.mpr ⟨ix_in 1034 (by decide +kernel) (by decide +kernel), List.forall_mem_cons.mpr ⟨ix_in 1036 (by decide +kernel) (by decide +kernel), List.forall_mem_cons.mpr ⟨ix_in 1038 (by decide +kernel) (by decide +kernel), List.forall_mem_cons.mpr ⟨ix_in 1040 (by decide +kernel) (by decide +kernel), List.forall_mem_cons.mpr ⟨ix_in 1042 (by decide +kernel) (by decide +kernel), List.forall_mem_cons.mpr ⟨ix_in 1044 (by decide +kernel) (by decide +kernel), List.forall_mem_cons.mpr ⟨ix_in 1046 (by decide +kernel) (by decide +kernel), List.forall_mem_cons.mpr ⟨ix_in 1048 (by decide +kernel) (by decide +kernel), List.forall_mem_cons.mpr ⟨ix_in 1050 (by decide +kernel) (by decide +kernel), List.forall_mem_cons.mpr ⟨ix_in 1052 (by decide +kernel) (by decide +kernel), List.forall_mem_cons.mpr ⟨ix_in 1054 (by decide +kernel) (by decide +kernel), List.forall_mem_cons.mpr ⟨ix_in 1056 (by decide +kernel) (by decide +kernel), List.forall_mem_cons.mpr ⟨ix_in 1058 (by decide +kernel) (by decide +kernel), List.forall_mem_cons.mpr ⟨ix_in 1060 (by decide +kernel) (by decide +kernel), List.forall_mem_cons.mpr ⟨ix_in 1062 (by decide +kernel) (by decide +kernel), List.forall_mem_cons.mpr ⟨ix_in 1064 (by decide +kernel) (by decide +kernel), List.forall_mem_cons.mpr ⟨ix_in 1066 (by decide +kernel) (by decide +kernel), List.forall_mem_cons.mpr ⟨ix_in 1068 (by decide +kernel) (by decide +kernel), List.forall_mem_cons.mpr ⟨ix_in 1070 (by decide +kernel) (by decide +kernel), List.forall_mem_cons.mpr ⟨ix_in 1072 (by decide +kernel) (by decide +kernel), List.forall_mem_cons.mpr ⟨ix_in 1074 (by decide +kernel) (by decide +kernel), List.forall_mem_cons.mpr ⟨ix_in 1076 (by decide +kernel) (by decide +kernel), List.forall_mem_cons.mpr ⟨ix_in 1078 (by decide +kernel) (by decide +kernel), List.forall_mem_cons.mpr ⟨ix_in 1080 (by decide +kernel) (by decide +kernel), List.forall_mem_cons.mpr ⟨ix_in 1082 (by decide +kernel) (by decide +kernel), List.forall_mem_cons.mpr ⟨ix_in 1084 (by decide +kernel) (by decide +kernel), List.forall_mem_cons.mpr ⟨ix_in 1086 (by decide +kernel) (by decide +kernel), List.forall_mem_cons.mpr ⟨ix_in 1088 (by decide +kernel) (by decide +kernel), List.forall_mem_cons.mpr ⟨ix_in 1090 (by decide +kernel) (by decide +kernel), List.forall_mem_cons.mpr ⟨ix_in 1092 (by decide +kernel) (by decide +kernel), List.forall_mem_cons.mpr ⟨ix_in 1094 (by decide +kernel) (by decide +kernel), fun _ h => absurd h List.not_mem_nil⟩⟩⟩⟩⟩⟩⟩⟩⟩⟩⟩⟩⟩⟩⟩⟩⟩⟩⟩⟩⟩⟩⟩⟩⟩⟩⟩⟩⟩⟩⟩⟩⟩⟩⟩⟩⟩⟩⟩⟩⟩⟩⟩⟩⟩⟩⟩⟩
theorem ix_uw9 : ∀ w ∈ u_ws (ix_cn 9) (ix_cT 9) (ix_nf 9), w ∈ ix_words := by
  show ∀ w ∈ ([.lays "java/util/ArrayList" "java/util/ArrayList" "elementData" "[Ljava/lang/Object;", .lays "java/util/ArrayList" "java/util/ArrayList" "size" "I", .lays "java/util/ArrayList" "java/util/AbstractList" "modCount" "I"] : List Cond), w ∈ ix_words
  exact List.forall_mem_cons.mpr ⟨ix_in 136 (by decide +kernel) (by decide +kernel), List.forall_mem_cons.mpr ⟨ix_in 138 (by decide +kernel) (by decide +kernel), List.forall_mem_cons.mpr ⟨ix_in 140 (by decide +kernel) (by decide +kernel), fun _ h => absurd h List.not_mem_nil⟩⟩⟩
theorem fl1_7 : ix_FL "FileDelivery" 7 0 0 0 := ⟨by decide, by decide, by decide, rfl, ix_uw0, "FileDelivery", Or.inl (ix_in 177 (by decide +kernel) (by decide +kernel)), Or.inl rfl⟩
theorem fl1_16 : ix_FL "FileDelivery" 16 0 1 2 := ⟨by decide, by decide, by decide, rfl, ix_uw0, "FileDelivery", Or.inl (ix_in 178 (by decide +kernel) (by decide +kernel)), Or.inl rfl⟩
theorem fl1_23 : ix_FL "FileDelivery" 23 0 2 2 := ⟨by decide, by decide, by decide, rfl, ix_uw0, "FileDelivery", Or.inl (ix_in 179 (by decide +kernel) (by decide +kernel)), Or.inl rfl⟩
theorem fl1_27 : ix_FL "FileDelivery" 27 0 3 0 := ⟨by decide, by decide, by decide, rfl, ix_uw0, "FileDelivery", Or.inl (ix_in 180 (by decide +kernel) (by decide +kernel)), Or.inl rfl⟩
theorem fl1_34 : ix_FL "FileDelivery" 34 4 0 2 := ⟨by decide, by decide, by decide, rfl, ix_uw4, "FileDelivery$Side", Or.inr ⟨"FileDelivery", ix_in 144 (by decide +kernel) (by decide +kernel)⟩, Or.inl rfl⟩
theorem fl1_100 : ix_FL "FileDelivery" 100 4 2 2 := ⟨by decide, by decide, by decide, rfl, ix_uw4, "FileDelivery$Side", Or.inr ⟨"FileDelivery", ix_in 149 (by decide +kernel) (by decide +kernel)⟩, Or.inl rfl⟩
theorem fl1_110 : ix_FL "FileDelivery" 110 4 1 2 := ⟨by decide, by decide, by decide, rfl, ix_uw4, "FileDelivery$Side", Or.inr ⟨"FileDelivery", ix_in 147 (by decide +kernel) (by decide +kernel)⟩, Or.inl rfl⟩
theorem fl1_148 : ix_FL "FileDelivery" 148 7 2 0 := ⟨by decide, by decide, by decide, rfl, ix_uw7, "FileDelivery$Unit", Or.inr ⟨"FileDelivery", ix_in 312 (by decide +kernel) (by decide +kernel)⟩, Or.inl rfl⟩
theorem fl1_153 : ix_FL "FileDelivery" 153 7 0 2 := ⟨by decide, by decide, by decide, rfl, ix_uw7, "FileDelivery$Unit", Or.inr ⟨"FileDelivery", ix_in 306 (by decide +kernel) (by decide +kernel)⟩, Or.inl rfl⟩
theorem fl1_157 : ix_FL "FileDelivery" 157 6 0 0 := ⟨by decide, by decide, by decide, rfl, ix_uw6, "FileDelivery$Transaction", Or.inr ⟨"FileDelivery", ix_in 850 (by decide +kernel) (by decide +kernel)⟩, Or.inl rfl⟩
theorem fl1_180 : ix_FL "FileDelivery" 180 7 1 0 := ⟨by decide, by decide, by decide, rfl, ix_uw7, "FileDelivery$Unit", Or.inr ⟨"FileDelivery", ix_in 310 (by decide +kernel) (by decide +kernel)⟩, Or.inl rfl⟩
theorem fl1_183 : ix_FL "FileDelivery" 183 7 5 0 := ⟨by decide, by decide, by decide, rfl, ix_uw7, "FileDelivery$Unit", Or.inr ⟨"FileDelivery", ix_in 321 (by decide +kernel) (by decide +kernel)⟩, Or.inl rfl⟩
theorem fl1_186 : ix_FL "FileDelivery" 186 1 1 0 := ⟨by decide, by decide, by decide, rfl, ix_uw1, "FileDelivery$Link", Or.inr ⟨"FileDelivery", ix_in 171 (by decide +kernel) (by decide +kernel)⟩, Or.inl rfl⟩
theorem fl1_189 : ix_FL "FileDelivery" 189 6 1 0 := ⟨by decide, by decide, by decide, rfl, ix_uw6, "FileDelivery$Transaction", Or.inr ⟨"FileDelivery", ix_in 853 (by decide +kernel) (by decide +kernel)⟩, Or.inl rfl⟩
theorem fl1_192 : ix_FL "FileDelivery" 192 7 3 0 := ⟨by decide, by decide, by decide, rfl, ix_uw7, "FileDelivery$Unit", Or.inr ⟨"FileDelivery", ix_in 316 (by decide +kernel) (by decide +kernel)⟩, Or.inl rfl⟩
theorem fl1_198 : ix_FL "FileDelivery" 198 3 15 0 := ⟨by decide, by decide, by decide, rfl, ix_uw3, "FileDelivery$Sender", Or.inr ⟨"FileDelivery", ix_in 907 (by decide +kernel) (by decide +kernel)⟩, Or.inl rfl⟩
theorem fl1_205 : ix_FL "FileDelivery" 205 2 12 0 := ⟨by decide, by decide, by decide, rfl, ix_uw2, "FileDelivery$Receiver", Or.inr ⟨"FileDelivery", ix_in 492 (by decide +kernel) (by decide +kernel)⟩, Or.inl rfl⟩
theorem fl1_211 : ix_FL "FileDelivery" 211 2 11 0 := ⟨by decide, by decide, by decide, rfl, ix_uw2, "FileDelivery$Receiver", Or.inr ⟨"FileDelivery", ix_in 489 (by decide +kernel) (by decide +kernel)⟩, Or.inl rfl⟩
theorem fl1_215 : ix_FL "FileDelivery" 215 2 13 0 := ⟨by decide, by decide, by decide, rfl, ix_uw2, "FileDelivery$Receiver", Or.inr ⟨"FileDelivery", ix_in 494 (by decide +kernel) (by decide +kernel)⟩, Or.inl rfl⟩
theorem fl1_225 : ix_FL "FileDelivery" 225 3 0 2 := ⟨by decide, by decide, by decide, rfl, ix_uw3, "FileDelivery$Sender", Or.inr ⟨"FileDelivery", ix_in 891 (by decide +kernel) (by decide +kernel)⟩, Or.inl rfl⟩
theorem fl1_226 : ix_FL "FileDelivery" 226 6 7 2 := ⟨by decide, by decide, by decide, rfl, ix_uw6, "FileDelivery$Transaction", Or.inr ⟨"FileDelivery", ix_in 865 (by decide +kernel) (by decide +kernel)⟩, Or.inl rfl⟩
theorem fl1_243 : ix_FL "FileDelivery" 243 4 3 2 := ⟨by decide, by decide, by decide, rfl, ix_uw4, "FileDelivery$Side", Or.inr ⟨"FileDelivery", ix_in 151 (by decide +kernel) (by decide +kernel)⟩, Or.inl rfl⟩
theorem fl7_11 : ix_FL "FileDelivery$Link" 11 1 0 2 := ⟨by decide, by decide, by decide, rfl, ix_uw1, "FileDelivery$Link", Or.inl (ix_in 169 (by decide +kernel) (by decide +kernel)), Or.inl rfl⟩
theorem fl7_17 : ix_FL "FileDelivery$Link" 17 1 1 0 := ⟨by decide, by decide, by decide, rfl, ix_uw1, "FileDelivery$Link", Or.inl (ix_in 170 (by decide +kernel) (by decide +kernel)), Or.inl rfl⟩
theorem fl13_9 : ix_FL "FileDelivery$Receiver" 9 2 4 2 := ⟨by decide, by decide, by decide, rfl, ix_uw2, "FileDelivery$Receiver", Or.inl (ix_in 481 (by decide +kernel) (by decide +kernel)), Or.inl rfl⟩
theorem fl13_15 : ix_FL "FileDelivery$Receiver" 15 2 7 0 := ⟨by decide, by decide, by decide, rfl, ix_uw2, "FileDelivery$Receiver", Or.inl (ix_in 484 (by decide +kernel) (by decide +kernel)), Or.inl rfl⟩
theorem fl13_19 : ix_FL "FileDelivery$Receiver" 19 2 0 2 := ⟨by decide, by decide, by decide, rfl, ix_uw2, "FileDelivery$Receiver", Or.inl (ix_in 477 (by decide +kernel) (by decide +kernel)), Or.inl rfl⟩
theorem fl13_23 : ix_FL "FileDelivery$Receiver" 23 2 1 2 := ⟨by decide, by decide, by decide, rfl, ix_uw2, "FileDelivery$Receiver", Or.inl (ix_in 478 (by decide +kernel) (by decide +kernel)), Or.inl rfl⟩
theorem fl13_27 : ix_FL "FileDelivery$Receiver" 27 2 2 2 := ⟨by decide, by decide, by decide, rfl, ix_uw2, "FileDelivery$Receiver", Or.inl (ix_in 479 (by decide +kernel) (by decide +kernel)), Or.inl rfl⟩
theorem fl13_31 : ix_FL "FileDelivery$Receiver" 31 2 3 0 := ⟨by decide, by decide, by decide, rfl, ix_uw2, "FileDelivery$Receiver", Or.inl (ix_in 480 (by decide +kernel) (by decide +kernel)), Or.inl rfl⟩
theorem fl13_34 : ix_FL "FileDelivery$Receiver" 34 2 11 0 := ⟨by decide, by decide, by decide, rfl, ix_uw2, "FileDelivery$Receiver", Or.inl (ix_in 488 (by decide +kernel) (by decide +kernel)), Or.inl rfl⟩
theorem fl13_37 : ix_FL "FileDelivery$Receiver" 37 2 12 0 := ⟨by decide, by decide, by decide, rfl, ix_uw2, "FileDelivery$Receiver", Or.inl (ix_in 490 (by decide +kernel) (by decide +kernel)), Or.inl rfl⟩
theorem fl13_41 : ix_FL "FileDelivery$Receiver" 41 2 9 0 := ⟨by decide, by decide, by decide, rfl, ix_uw2, "FileDelivery$Receiver", Or.inl (ix_in 486 (by decide +kernel) (by decide +kernel)), Or.inl rfl⟩
theorem fl13_57 : ix_FL "FileDelivery$Receiver" 57 2 10 0 := ⟨by decide, by decide, by decide, rfl, ix_uw2, "FileDelivery$Receiver", Or.inl (ix_in 487 (by decide +kernel) (by decide +kernel)), Or.inl rfl⟩
theorem fl13_70 : ix_FL "FileDelivery$Receiver" 70 7 1 0 := ⟨by decide, by decide, by decide, rfl, ix_uw7, "FileDelivery$Unit", Or.inr ⟨"FileDelivery", ix_in 308 (by decide +kernel) (by decide +kernel)⟩, Or.inl rfl⟩
theorem fl13_83 : ix_FL "FileDelivery$Receiver" 83 7 3 0 := ⟨by decide, by decide, by decide, rfl, ix_uw7, "FileDelivery$Unit", Or.inr ⟨"FileDelivery", ix_in 314 (by decide +kernel) (by decide +kernel)⟩, Or.inl rfl⟩
theorem fl13_96 : ix_FL "FileDelivery$Receiver" 96 2 5 0 := ⟨by decide, by decide, by decide, rfl, ix_uw2, "FileDelivery$Receiver", Or.inl (ix_in 482 (by decide +kernel) (by decide +kernel)), Or.inl rfl⟩
theorem fl13_102 : ix_FL "FileDelivery$Receiver" 102 7 5 0 := ⟨by decide, by decide, by decide, rfl, ix_uw7, "FileDelivery$Unit", Or.inr ⟨"FileDelivery", ix_in 320 (by decide +kernel) (by decide +kernel)⟩, Or.inl rfl⟩
theorem fl13_105 : ix_FL "FileDelivery$Receiver" 105 2 8 0 := ⟨by decide, by decide, by decide, rfl, ix_uw2, "FileDelivery$Receiver", Or.inl (ix_in 485 (by decide +kernel) (by decide +kernel)), Or.inl rfl⟩
theorem fl13_108 : ix_FL "FileDelivery$Receiver" 108 2 6 0 := ⟨by decide, by decide, by decide, rfl, ix_uw2, "FileDelivery$Receiver", Or.inl (ix_in 483 (by decide +kernel) (by decide +kernel)), Or.inl rfl⟩
theorem fl13_111 : ix_FL "FileDelivery$Receiver" 111 7 4 0 := ⟨by decide, by decide, by decide, rfl, ix_uw7, "FileDelivery$Unit", Or.inr ⟨"FileDelivery", ix_in 318 (by decide +kernel) (by decide +kernel)⟩, Or.inl rfl⟩
theorem fl13_125 : ix_FL "FileDelivery$Receiver" 125 6 3 0 := ⟨by decide, by decide, by decide, rfl, ix_uw6, "FileDelivery$Transaction", Or.inr ⟨"FileDelivery", ix_in 859 (by decide +kernel) (by decide +kernel)⟩, Or.inl rfl⟩
theorem fl13_134 : ix_FL "FileDelivery$Receiver" 134 4 0 2 := ⟨by decide, by decide, by decide, rfl, ix_uw4, "FileDelivery$Side", Or.inr ⟨"FileDelivery", ix_in 145 (by decide +kernel) (by decide +kernel)⟩, Or.inl rfl⟩
theorem fl13_144 : ix_FL "FileDelivery$Receiver" 144 6 5 0 := ⟨by decide, by decide, by decide, rfl, ix_uw6, "FileDelivery$Transaction", Or.inr ⟨"FileDelivery", ix_in 862 (by decide +kernel) (by decide +kernel)⟩, Or.inl rfl⟩
theorem fl13_150 : ix_FL "FileDelivery$Receiver" 150 2 13 0 := ⟨by decide, by decide, by decide, rfl, ix_uw2, "FileDelivery$Receiver", Or.inl (ix_in 493 (by decide +kernel) (by decide +kernel)), Or.inl rfl⟩
theorem fl13_153 : ix_FL "FileDelivery$Receiver" 153 6 6 0 := ⟨by decide, by decide, by decide, rfl, ix_uw6, "FileDelivery$Transaction", Or.inr ⟨"FileDelivery", ix_in 864 (by decide +kernel) (by decide +kernel)⟩, Or.inl rfl⟩
theorem fl13_165 : ix_FL "FileDelivery$Receiver" 165 6 0 0 := ⟨by decide, by decide, by decide, rfl, ix_uw6, "FileDelivery$Transaction", Or.inr ⟨"FileDelivery", ix_in 851 (by decide +kernel) (by decide +kernel)⟩, Or.inl rfl⟩
theorem fl10_11 : ix_FL "FileDelivery$Sender" 11 3 5 0 := ⟨by decide, by decide, by decide, rfl, ix_uw3, "FileDelivery$Sender", Or.inl (ix_in 896 (by decide +kernel) (by decide +kernel)), Or.inl rfl⟩
theorem fl10_15 : ix_FL "FileDelivery$Sender" 15 3 0 2 := ⟨by decide, by decide, by decide, rfl, ix_uw3, "FileDelivery$Sender", Or.inl (ix_in 889 (by decide +kernel) (by decide +kernel)), Or.inl rfl⟩
theorem fl10_19 : ix_FL "FileDelivery$Sender" 19 3 1 2 := ⟨by decide, by decide, by decide, rfl, ix_uw3, "FileDelivery$Sender", Or.inl (ix_in 892 (by decide +kernel) (by decide +kernel)), Or.inl rfl⟩
theorem fl10_23 : ix_FL "FileDelivery$Sender" 23 3 2 2 := ⟨by decide, by decide, by decide, rfl, ix_uw3, "FileDelivery$Sender", Or.inl (ix_in 893 (by decide +kernel) (by decide +kernel)), Or.inl rfl⟩
theorem fl10_27 : ix_FL "FileDelivery$Sender" 27 3 3 0 := ⟨by decide, by decide, by decide, rfl, ix_uw3, "FileDelivery$Sender", Or.inl (ix_in 894 (by decide +kernel) (by decide +kernel)), Or.inl rfl⟩
theorem fl10_30 : ix_FL "FileDelivery$Sender" 30 6 2 0 := ⟨by decide, by decide, by decide, rfl, ix_uw6, "FileDelivery$Transaction", Or.inr ⟨"FileDelivery", ix_in 855 (by decide +kernel) (by decide +kernel)⟩, Or.inl rfl⟩
theorem fl10_44 : ix_FL "FileDelivery$Sender" 44 3 4 0 := ⟨by decide, by decide, by decide, rfl, ix_uw3, "FileDelivery$Sender", Or.inl (ix_in 895 (by decide +kernel) (by decide +kernel)), Or.inl rfl⟩
theorem fl10_47 : ix_FL "FileDelivery$Sender" 47 3 15 0 := ⟨by decide, by decide, by decide, rfl, ix_uw3, "FileDelivery$Sender", Or.inl (ix_in 906 (by decide +kernel) (by decide +kernel)), Or.inl rfl⟩
theorem fl10_54 : ix_FL "FileDelivery$Sender" 54 3 6 0 := ⟨by decide, by decide, by decide, rfl, ix_uw3, "FileDelivery$Sender", Or.inl (ix_in 897 (by decide +kernel) (by decide +kernel)), Or.inl rfl⟩
theorem fl10_58 : ix_FL "FileDelivery$Sender" 58 3 9 0 := ⟨by decide, by decide, by decide, rfl, ix_uw3, "FileDelivery$Sender", Or.inl (ix_in 900 (by decide +kernel) (by decide +kernel)), Or.inl rfl⟩
theorem fl10_61 : ix_FL "FileDelivery$Sender" 61 3 10 0 := ⟨by decide, by decide, by decide, rfl, ix_uw3, "FileDelivery$Sender", Or.inl (ix_in 901 (by decide +kernel) (by decide +kernel)), Or.inl rfl⟩
theorem fl10_64 : ix_FL "FileDelivery$Sender" 64 3 11 0 := ⟨by decide, by decide, by decide, rfl, ix_uw3, "FileDelivery$Sender", Or.inl (ix_in 902 (by decide +kernel) (by decide +kernel)), Or.inl rfl⟩
theorem fl10_67 : ix_FL "FileDelivery$Sender" 67 3 8 0 := ⟨by decide, by decide, by decide, rfl, ix_uw3, "FileDelivery$Sender", Or.inl (ix_in 899 (by decide +kernel) (by decide +kernel)), Or.inl rfl⟩
theorem fl10_70 : ix_FL "FileDelivery$Sender" 70 3 7 0 := ⟨by decide, by decide, by decide, rfl, ix_uw3, "FileDelivery$Sender", Or.inl (ix_in 898 (by decide +kernel) (by decide +kernel)), Or.inl rfl⟩
theorem fl10_73 : ix_FL "FileDelivery$Sender" 73 3 12 0 := ⟨by decide, by decide, by decide, rfl, ix_uw3, "FileDelivery$Sender", Or.inl (ix_in 903 (by decide +kernel) (by decide +kernel)), Or.inl rfl⟩
theorem fl10_85 : ix_FL "FileDelivery$Sender" 85 3 14 0 := ⟨by decide, by decide, by decide, rfl, ix_uw3, "FileDelivery$Sender", Or.inl (ix_in 905 (by decide +kernel) (by decide +kernel)), Or.inl rfl⟩
theorem fl10_101 : ix_FL "FileDelivery$Sender" 101 3 13 0 := ⟨by decide, by decide, by decide, rfl, ix_uw3, "FileDelivery$Sender", Or.inl (ix_in 904 (by decide +kernel) (by decide +kernel)), Or.inl rfl⟩
theorem fl10_104 : ix_FL "FileDelivery$Sender" 104 6 3 0 := ⟨by decide, by decide, by decide, rfl, ix_uw6, "FileDelivery$Transaction", Or.inr ⟨"FileDelivery", ix_in 858 (by decide +kernel) (by decide +kernel)⟩, Or.inl rfl⟩
theorem fl10_136 : ix_FL "FileDelivery$Sender" 136 7 1 0 := ⟨by decide, by decide, by decide, rfl, ix_uw7, "FileDelivery$Unit", Or.inr ⟨"FileDelivery", ix_in 309 (by decide +kernel) (by decide +kernel)⟩, Or.inl rfl⟩
theorem fl10_139 : ix_FL "FileDelivery$Sender" 139 7 3 0 := ⟨by decide, by decide, by decide, rfl, ix_uw7, "FileDelivery$Unit", Or.inr ⟨"FileDelivery", ix_in 315 (by decide +kernel) (by decide +kernel)⟩, Or.inl rfl⟩
theorem fl10_145 : ix_FL "FileDelivery$Sender" 145 7 5 0 := ⟨by decide, by decide, by decide, rfl, ix_uw7, "FileDelivery$Unit", Or.inr ⟨"FileDelivery", ix_in 322 (by decide +kernel) (by decide +kernel)⟩, Or.inl rfl⟩
theorem fl2_10 : ix_FL "FileDelivery$Side" 10 4 0 2 := ⟨by decide, by decide, by decide, rfl, ix_uw4, "FileDelivery$Side", Or.inl (ix_in 143 (by decide +kernel) (by decide +kernel)), Or.inl rfl⟩
theorem fl2_19 : ix_FL "FileDelivery$Side" 19 4 1 2 := ⟨by decide, by decide, by decide, rfl, ix_uw4, "FileDelivery$Side", Or.inl (ix_in 146 (by decide +kernel) (by decide +kernel)), Or.inl rfl⟩
theorem fl2_23 : ix_FL "FileDelivery$Side" 23 4 2 2 := ⟨by decide, by decide, by decide, rfl, ix_uw4, "FileDelivery$Side", Or.inl (ix_in 148 (by decide +kernel) (by decide +kernel)), Or.inl rfl⟩
theorem fl2_26 : ix_FL "FileDelivery$Side" 26 4 3 2 := ⟨by decide, by decide, by decide, rfl, ix_uw4, "FileDelivery$Side", Or.inl (ix_in 150 (by decide +kernel) (by decide +kernel)), Or.inl rfl⟩
theorem fl2_43 : ix_FL "FileDelivery$Side" 43 3 0 2 := ⟨by decide, by decide, by decide, rfl, ix_uw3, "FileDelivery$Sender", Or.inr ⟨"FileDelivery", ix_in 890 (by decide +kernel) (by decide +kernel)⟩, Or.inl rfl⟩
theorem fl2_47 : ix_FL "FileDelivery$Side" 47 6 2 0 := ⟨by decide, by decide, by decide, rfl, ix_uw6, "FileDelivery$Transaction", Or.inr ⟨"FileDelivery", ix_in 856 (by decide +kernel) (by decide +kernel)⟩, Or.inl rfl⟩
theorem fl2_71 : ix_FL "FileDelivery$Side" 71 2 12 0 := ⟨by decide, by decide, by decide, rfl, ix_uw2, "FileDelivery$Receiver", Or.inr ⟨"FileDelivery", ix_in 491 (by decide +kernel) (by decide +kernel)⟩, Or.inl rfl⟩
theorem fl3_11 : ix_FL "FileDelivery$Store" 11 5 0 2 := ⟨by decide, by decide, by decide, rfl, ix_uw5, "FileDelivery$Store", Or.inl (ix_in 108 (by decide +kernel) (by decide +kernel)), Or.inl rfl⟩
theorem fl3_16 : ix_FL "FileDelivery$Store" 16 5 1 2 := ⟨by decide, by decide, by decide, rfl, ix_uw5, "FileDelivery$Store", Or.inl (ix_in 109 (by decide +kernel) (by decide +kernel)), Or.inl rfl⟩
theorem fl11_9 : ix_FL "FileDelivery$Transaction" 9 6 0 0 := ⟨by decide, by decide, by decide, rfl, ix_uw6, "FileDelivery$Transaction", Or.inl (ix_in 849 (by decide +kernel) (by decide +kernel)), Or.inl rfl⟩
theorem fl11_15 : ix_FL "FileDelivery$Transaction" 15 6 1 0 := ⟨by decide, by decide, by decide, rfl, ix_uw6, "FileDelivery$Transaction", Or.inl (ix_in 852 (by decide +kernel) (by decide +kernel)), Or.inl rfl⟩
theorem fl11_18 : ix_FL "FileDelivery$Transaction" 18 6 2 0 := ⟨by decide, by decide, by decide, rfl, ix_uw6, "FileDelivery$Transaction", Or.inl (ix_in 854 (by decide +kernel) (by decide +kernel)), Or.inl rfl⟩
theorem fl11_21 : ix_FL "FileDelivery$Transaction" 21 6 3 0 := ⟨by decide, by decide, by decide, rfl, ix_uw6, "FileDelivery$Transaction", Or.inl (ix_in 857 (by decide +kernel) (by decide +kernel)), Or.inl rfl⟩
theorem fl11_24 : ix_FL "FileDelivery$Transaction" 24 6 4 0 := ⟨by decide, by decide, by decide, rfl, ix_uw6, "FileDelivery$Transaction", Or.inl (ix_in 860 (by decide +kernel) (by decide +kernel)), Or.inl rfl⟩
theorem fl11_27 : ix_FL "FileDelivery$Transaction" 27 6 5 0 := ⟨by decide, by decide, by decide, rfl, ix_uw6, "FileDelivery$Transaction", Or.inl (ix_in 861 (by decide +kernel) (by decide +kernel)), Or.inl rfl⟩
theorem fl11_30 : ix_FL "FileDelivery$Transaction" 30 6 6 0 := ⟨by decide, by decide, by decide, rfl, ix_uw6, "FileDelivery$Transaction", Or.inl (ix_in 863 (by decide +kernel) (by decide +kernel)), Or.inl rfl⟩
theorem fl12_7 : ix_FL "FileDelivery$Unit" 7 7 0 2 := ⟨by decide, by decide, by decide, rfl, ix_uw7, "FileDelivery$Unit", Or.inl (ix_in 305 (by decide +kernel) (by decide +kernel)), Or.inl rfl⟩
theorem fl12_13 : ix_FL "FileDelivery$Unit" 13 7 1 0 := ⟨by decide, by decide, by decide, rfl, ix_uw7, "FileDelivery$Unit", Or.inl (ix_in 307 (by decide +kernel) (by decide +kernel)), Or.inl rfl⟩
theorem fl12_17 : ix_FL "FileDelivery$Unit" 17 7 2 0 := ⟨by decide, by decide, by decide, rfl, ix_uw7, "FileDelivery$Unit", Or.inl (ix_in 311 (by decide +kernel) (by decide +kernel)), Or.inl rfl⟩
theorem fl12_20 : ix_FL "FileDelivery$Unit" 20 7 3 0 := ⟨by decide, by decide, by decide, rfl, ix_uw7, "FileDelivery$Unit", Or.inl (ix_in 313 (by decide +kernel) (by decide +kernel)), Or.inl rfl⟩
theorem fl12_23 : ix_FL "FileDelivery$Unit" 23 7 4 0 := ⟨by decide, by decide, by decide, rfl, ix_uw7, "FileDelivery$Unit", Or.inl (ix_in 317 (by decide +kernel) (by decide +kernel)), Or.inl rfl⟩
theorem fl12_26 : ix_FL "FileDelivery$Unit" 26 7 5 0 := ⟨by decide, by decide, by decide, rfl, ix_uw7, "FileDelivery$Unit", Or.inl (ix_in 319 (by decide +kernel) (by decide +kernel)), Or.inl rfl⟩
theorem fl17_7 : ix_FL "FileDeliveryModel" 7 8 4 2 := ⟨by decide, by decide, by decide, rfl, ix_uw8, "FileDeliveryModel", Or.inl (ix_in 956 (by decide +kernel) (by decide +kernel)), Or.inl rfl⟩
theorem fl17_13 : ix_FL "FileDeliveryModel" 13 8 5 2 := ⟨by decide, by decide, by decide, rfl, ix_uw8, "FileDeliveryModel", Or.inl (ix_in 957 (by decide +kernel) (by decide +kernel)), Or.inl rfl⟩
theorem fl17_17 : ix_FL "FileDeliveryModel" 17 8 6 2 := ⟨by decide, by decide, by decide, rfl, ix_uw8, "FileDeliveryModel", Or.inl (ix_in 958 (by decide +kernel) (by decide +kernel)), Or.inl rfl⟩
theorem fl17_20 : ix_FL "FileDeliveryModel" 20 8 7 2 := ⟨by decide, by decide, by decide, rfl, ix_uw8, "FileDeliveryModel", Or.inl (ix_in 959 (by decide +kernel) (by decide +kernel)), Or.inl rfl⟩
theorem fl17_23 : ix_FL "FileDeliveryModel" 23 8 8 2 := ⟨by decide, by decide, by decide, rfl, ix_uw8, "FileDeliveryModel", Or.inl (ix_in 960 (by decide +kernel) (by decide +kernel)), Or.inl rfl⟩
theorem fl17_26 : ix_FL "FileDeliveryModel" 26 8 9 2 := ⟨by decide, by decide, by decide, rfl, ix_uw8, "FileDeliveryModel", Or.inl (ix_in 961 (by decide +kernel) (by decide +kernel)), Or.inl rfl⟩
theorem fl17_29 : ix_FL "FileDeliveryModel" 29 8 10 2 := ⟨by decide, by decide, by decide, rfl, ix_uw8, "FileDeliveryModel", Or.inl (ix_in 962 (by decide +kernel) (by decide +kernel)), Or.inl rfl⟩
theorem fl17_32 : ix_FL "FileDeliveryModel" 32 8 11 2 := ⟨by decide, by decide, by decide, rfl, ix_uw8, "FileDeliveryModel", Or.inl (ix_in 963 (by decide +kernel) (by decide +kernel)), Or.inl rfl⟩
theorem fl17_35 : ix_FL "FileDeliveryModel" 35 8 12 2 := ⟨by decide, by decide, by decide, rfl, ix_uw8, "FileDeliveryModel", Or.inl (ix_in 964 (by decide +kernel) (by decide +kernel)), Or.inl rfl⟩
theorem fl17_38 : ix_FL "FileDeliveryModel" 38 8 13 2 := ⟨by decide, by decide, by decide, rfl, ix_uw8, "FileDeliveryModel", Or.inl (ix_in 965 (by decide +kernel) (by decide +kernel)), Or.inl rfl⟩
theorem fl17_41 : ix_FL "FileDeliveryModel" 41 8 14 2 := ⟨by decide, by decide, by decide, rfl, ix_uw8, "FileDeliveryModel", Or.inl (ix_in 966 (by decide +kernel) (by decide +kernel)), Or.inl rfl⟩
theorem fl17_44 : ix_FL "FileDeliveryModel" 44 8 15 2 := ⟨by decide, by decide, by decide, rfl, ix_uw8, "FileDeliveryModel", Or.inl (ix_in 967 (by decide +kernel) (by decide +kernel)), Or.inl rfl⟩
theorem fl17_47 : ix_FL "FileDeliveryModel" 47 8 16 2 := ⟨by decide, by decide, by decide, rfl, ix_uw8, "FileDeliveryModel", Or.inl (ix_in 968 (by decide +kernel) (by decide +kernel)), Or.inl rfl⟩
theorem fl17_50 : ix_FL "FileDeliveryModel" 50 8 17 2 := ⟨by decide, by decide, by decide, rfl, ix_uw8, "FileDeliveryModel", Or.inl (ix_in 969 (by decide +kernel) (by decide +kernel)), Or.inl rfl⟩
theorem fl17_53 : ix_FL "FileDeliveryModel" 53 8 18 2 := ⟨by decide, by decide, by decide, rfl, ix_uw8, "FileDeliveryModel", Or.inl (ix_in 970 (by decide +kernel) (by decide +kernel)), Or.inl rfl⟩
theorem fl17_56 : ix_FL "FileDeliveryModel" 56 8 19 2 := ⟨by decide, by decide, by decide, rfl, ix_uw8, "FileDeliveryModel", Or.inl (ix_in 971 (by decide +kernel) (by decide +kernel)), Or.inl rfl⟩
theorem fl17_59 : ix_FL "FileDeliveryModel" 59 8 20 2 := ⟨by decide, by decide, by decide, rfl, ix_uw8, "FileDeliveryModel", Or.inl (ix_in 972 (by decide +kernel) (by decide +kernel)), Or.inl rfl⟩
theorem fl17_62 : ix_FL "FileDeliveryModel" 62 8 21 2 := ⟨by decide, by decide, by decide, rfl, ix_uw8, "FileDeliveryModel", Or.inl (ix_in 973 (by decide +kernel) (by decide +kernel)), Or.inl rfl⟩
theorem fl17_65 : ix_FL "FileDeliveryModel" 65 8 22 2 := ⟨by decide, by decide, by decide, rfl, ix_uw8, "FileDeliveryModel", Or.inl (ix_in 974 (by decide +kernel) (by decide +kernel)), Or.inl rfl⟩
theorem fl17_68 : ix_FL "FileDeliveryModel" 68 8 23 2 := ⟨by decide, by decide, by decide, rfl, ix_uw8, "FileDeliveryModel", Or.inl (ix_in 975 (by decide +kernel) (by decide +kernel)), Or.inl rfl⟩
theorem fl17_71 : ix_FL "FileDeliveryModel" 71 8 24 2 := ⟨by decide, by decide, by decide, rfl, ix_uw8, "FileDeliveryModel", Or.inl (ix_in 976 (by decide +kernel) (by decide +kernel)), Or.inl rfl⟩
theorem fl17_74 : ix_FL "FileDeliveryModel" 74 8 25 2 := ⟨by decide, by decide, by decide, rfl, ix_uw8, "FileDeliveryModel", Or.inl (ix_in 977 (by decide +kernel) (by decide +kernel)), Or.inl rfl⟩
theorem fl17_77 : ix_FL "FileDeliveryModel" 77 8 26 2 := ⟨by decide, by decide, by decide, rfl, ix_uw8, "FileDeliveryModel", Or.inl (ix_in 978 (by decide +kernel) (by decide +kernel)), Or.inl rfl⟩
theorem fl17_80 : ix_FL "FileDeliveryModel" 80 8 27 2 := ⟨by decide, by decide, by decide, rfl, ix_uw8, "FileDeliveryModel", Or.inl (ix_in 979 (by decide +kernel) (by decide +kernel)), Or.inl rfl⟩
theorem fl17_83 : ix_FL "FileDeliveryModel" 83 8 28 2 := ⟨by decide, by decide, by decide, rfl, ix_uw8, "FileDeliveryModel", Or.inl (ix_in 980 (by decide +kernel) (by decide +kernel)), Or.inl rfl⟩
theorem fl17_86 : ix_FL "FileDeliveryModel" 86 8 29 2 := ⟨by decide, by decide, by decide, rfl, ix_uw8, "FileDeliveryModel", Or.inl (ix_in 981 (by decide +kernel) (by decide +kernel)), Or.inl rfl⟩
theorem fl17_89 : ix_FL "FileDeliveryModel" 89 8 30 2 := ⟨by decide, by decide, by decide, rfl, ix_uw8, "FileDeliveryModel", Or.inl (ix_in 982 (by decide +kernel) (by decide +kernel)), Or.inl rfl⟩
theorem fl17_92 : ix_FL "FileDeliveryModel" 92 8 31 2 := ⟨by decide, by decide, by decide, rfl, ix_uw8, "FileDeliveryModel", Or.inl (ix_in 983 (by decide +kernel) (by decide +kernel)), Or.inl rfl⟩
theorem fl17_95 : ix_FL "FileDeliveryModel" 95 8 32 2 := ⟨by decide, by decide, by decide, rfl, ix_uw8, "FileDeliveryModel", Or.inl (ix_in 984 (by decide +kernel) (by decide +kernel)), Or.inl rfl⟩
theorem fl17_98 : ix_FL "FileDeliveryModel" 98 8 33 2 := ⟨by decide, by decide, by decide, rfl, ix_uw8, "FileDeliveryModel", Or.inl (ix_in 985 (by decide +kernel) (by decide +kernel)), Or.inl rfl⟩
theorem fl17_101 : ix_FL "FileDeliveryModel" 101 8 34 2 := ⟨by decide, by decide, by decide, rfl, ix_uw8, "FileDeliveryModel", Or.inl (ix_in 986 (by decide +kernel) (by decide +kernel)), Or.inl rfl⟩
theorem fl17_104 : ix_FL "FileDeliveryModel" 104 8 35 2 := ⟨by decide, by decide, by decide, rfl, ix_uw8, "FileDeliveryModel", Or.inl (ix_in 987 (by decide +kernel) (by decide +kernel)), Or.inl rfl⟩
theorem fl17_107 : ix_FL "FileDeliveryModel" 107 8 36 2 := ⟨by decide, by decide, by decide, rfl, ix_uw8, "FileDeliveryModel", Or.inl (ix_in 988 (by decide +kernel) (by decide +kernel)), Or.inl rfl⟩
theorem fl17_110 : ix_FL "FileDeliveryModel" 110 8 37 2 := ⟨by decide, by decide, by decide, rfl, ix_uw8, "FileDeliveryModel", Or.inl (ix_in 989 (by decide +kernel) (by decide +kernel)), Or.inl rfl⟩
theorem fl17_113 : ix_FL "FileDeliveryModel" 113 8 38 2 := ⟨by decide, by decide, by decide, rfl, ix_uw8, "FileDeliveryModel", Or.inl (ix_in 990 (by decide +kernel) (by decide +kernel)), Or.inl rfl⟩
theorem fl17_116 : ix_FL "FileDeliveryModel" 116 8 39 2 := ⟨by decide, by decide, by decide, rfl, ix_uw8, "FileDeliveryModel", Or.inl (ix_in 991 (by decide +kernel) (by decide +kernel)), Or.inl rfl⟩
theorem fl17_119 : ix_FL "FileDeliveryModel" 119 8 40 2 := ⟨by decide, by decide, by decide, rfl, ix_uw8, "FileDeliveryModel", Or.inl (ix_in 992 (by decide +kernel) (by decide +kernel)), Or.inl rfl⟩
theorem fl17_122 : ix_FL "FileDeliveryModel" 122 8 41 2 := ⟨by decide, by decide, by decide, rfl, ix_uw8, "FileDeliveryModel", Or.inl (ix_in 993 (by decide +kernel) (by decide +kernel)), Or.inl rfl⟩
theorem fl17_125 : ix_FL "FileDeliveryModel" 125 8 42 2 := ⟨by decide, by decide, by decide, rfl, ix_uw8, "FileDeliveryModel", Or.inl (ix_in 994 (by decide +kernel) (by decide +kernel)), Or.inl rfl⟩
theorem fl17_128 : ix_FL "FileDeliveryModel" 128 8 43 2 := ⟨by decide, by decide, by decide, rfl, ix_uw8, "FileDeliveryModel", Or.inl (ix_in 995 (by decide +kernel) (by decide +kernel)), Or.inl rfl⟩
theorem fl17_131 : ix_FL "FileDeliveryModel" 131 8 45 2 := ⟨by decide, by decide, by decide, rfl, ix_uw8, "FileDeliveryModel", Or.inl (ix_in 997 (by decide +kernel) (by decide +kernel)), Or.inl rfl⟩
theorem fl17_134 : ix_FL "FileDeliveryModel" 134 8 46 2 := ⟨by decide, by decide, by decide, rfl, ix_uw8, "FileDeliveryModel", Or.inl (ix_in 998 (by decide +kernel) (by decide +kernel)), Or.inl rfl⟩
theorem fl17_137 : ix_FL "FileDeliveryModel" 137 8 47 2 := ⟨by decide, by decide, by decide, rfl, ix_uw8, "FileDeliveryModel", Or.inl (ix_in 999 (by decide +kernel) (by decide +kernel)), Or.inl rfl⟩
theorem fl17_140 : ix_FL "FileDeliveryModel" 140 8 0 0 := ⟨by decide, by decide, by decide, rfl, ix_uw8, "FileDeliveryModel", Or.inl (ix_in 952 (by decide +kernel) (by decide +kernel)), Or.inl rfl⟩
theorem fl17_144 : ix_FL "FileDeliveryModel" 144 8 3 0 := ⟨by decide, by decide, by decide, rfl, ix_uw8, "FileDeliveryModel", Or.inl (ix_in 955 (by decide +kernel) (by decide +kernel)), Or.inl rfl⟩
theorem fl17_171 : ix_FL "FileDeliveryModel" 171 8 44 0 := ⟨by decide, by decide, by decide, rfl, ix_uw8, "FileDeliveryModel", Or.inl (ix_in 996 (by decide +kernel) (by decide +kernel)), Or.inl rfl⟩
theorem fl17_215 : ix_FL "FileDeliveryModel" 215 8 1 0 := ⟨by decide, by decide, by decide, rfl, ix_uw8, "FileDeliveryModel", Or.inl (ix_in 953 (by decide +kernel) (by decide +kernel)), Or.inl rfl⟩
theorem fl17_234 : ix_FL "FileDeliveryModel" 234 8 2 0 := ⟨by decide, by decide, by decide, rfl, ix_uw8, "FileDeliveryModel", Or.inl (ix_in 954 (by decide +kernel) (by decide +kernel)), Or.inl rfl⟩
theorem fl4_9 : ix_FL "java/util/ArrayList" 9 9 0 2 := ⟨by decide, by decide, by decide, rfl, ix_uw9, "java/util/ArrayList", Or.inl (ix_in 131 (by decide +kernel) (by decide +kernel)), Or.inl rfl⟩
theorem fl4_48 : ix_FL "java/util/ArrayList" 48 9 1 0 := ⟨by decide, by decide, by decide, rfl, ix_uw9, "java/util/ArrayList", Or.inl (ix_in 132 (by decide +kernel) (by decide +kernel)), Or.inl rfl⟩
theorem fl4_63 : ix_FL "java/util/ArrayList" 63 9 2 0 := ⟨by decide, by decide, by decide, rfl, ix_uw9, "java/util/ArrayList", Or.inl (ix_in 134 (by decide +kernel) (by decide +kernel)), Or.inr (ix_in 135 (by decide +kernel) (by decide +kernel))⟩
set_option maxRecDepth 100000 in
theorem ok1 : ix_ok 1 1 := ⟨by decide +kernel, ⟨by decide +kernel, by decide +kernel, by decide +kernel⟩, ix_in 89 (by decide +kernel) (by decide +kernel), ix_in 60 (by decide +kernel) (by decide +kernel)⟩
set_option maxRecDepth 100000 in
theorem ok2 : ix_ok 2 0 := ⟨by decide +kernel, ⟨by decide +kernel, by decide +kernel, by decide +kernel⟩, ix_in 98 (by decide +kernel) (by decide +kernel), ix_in 61 (by decide +kernel) (by decide +kernel)⟩
set_option maxRecDepth 100000 in
theorem ok3 : ix_ok 3 0 := ⟨by decide +kernel, ⟨by decide +kernel, by decide +kernel, by decide +kernel⟩, ix_in 104 (by decide +kernel) (by decide +kernel), ix_in 62 (by decide +kernel) (by decide +kernel)⟩
set_option maxRecDepth 100000 in
theorem ok4 : ix_ok 4 0 := ⟨by decide +kernel, ⟨by decide +kernel, by decide +kernel, by decide +kernel⟩, ix_in 121 (by decide +kernel) (by decide +kernel), ix_in 65 (by decide +kernel) (by decide +kernel)⟩
set_option maxRecDepth 100000 in
theorem ok5 : ix_ok 5 0 := ⟨by decide +kernel, ⟨by decide +kernel, by decide +kernel, by decide +kernel⟩, ix_in 124 (by decide +kernel) (by decide +kernel), ix_in 64 (by decide +kernel) (by decide +kernel)⟩
set_option maxRecDepth 100000 in
theorem ok6 : ix_ok 6 0 := ⟨by decide +kernel, ⟨by decide +kernel, by decide +kernel, by decide +kernel⟩, ix_in 127 (by decide +kernel) (by decide +kernel), ix_in 63 (by decide +kernel) (by decide +kernel)⟩
set_option maxRecDepth 100000 in
theorem ok7 : ix_ok 7 0 := ⟨by decide +kernel, ⟨by decide +kernel, by decide +kernel, by decide +kernel⟩, ix_in 165 (by decide +kernel) (by decide +kernel), ix_in 66 (by decide +kernel) (by decide +kernel)⟩
set_option maxRecDepth 100000 in
theorem ok8 : ix_ok 8 2 := ⟨by decide +kernel, ⟨by decide +kernel, by decide +kernel, by decide +kernel⟩, ix_in 193 (by decide +kernel) (by decide +kernel), ix_in 60 (by decide +kernel) (by decide +kernel)⟩
set_option maxRecDepth 100000 in
theorem ok9 : ix_ok 9 2 := ⟨by decide +kernel, ⟨by decide +kernel, by decide +kernel, by decide +kernel⟩, ix_in 196 (by decide +kernel) (by decide +kernel), ix_in 60 (by decide +kernel) (by decide +kernel)⟩
set_option maxRecDepth 100000 in
theorem ok10 : ix_ok 10 1 := ⟨by decide +kernel, ⟨by decide +kernel, by decide +kernel, by decide +kernel⟩, ix_in 199 (by decide +kernel) (by decide +kernel), ix_in 60 (by decide +kernel) (by decide +kernel)⟩
set_option maxRecDepth 100000 in
theorem ok11 : ix_ok 11 1 := ⟨by decide +kernel, ⟨by decide +kernel, by decide +kernel, by decide +kernel⟩, ix_in 202 (by decide +kernel) (by decide +kernel), ix_in 60 (by decide +kernel) (by decide +kernel)⟩
set_option maxRecDepth 100000 in
theorem ok12 : ix_ok 12 1 := ⟨by decide +kernel, ⟨by decide +kernel, by decide +kernel, by decide +kernel⟩, ix_in 206 (by decide +kernel) (by decide +kernel), ix_in 62 (by decide +kernel) (by decide +kernel)⟩
set_option maxRecDepth 100000 in
theorem ok13 : ix_ok 13 1 := ⟨by decide +kernel, ⟨by decide +kernel, by decide +kernel, by decide +kernel⟩, ix_in 210 (by decide +kernel) (by decide +kernel), ix_in 62 (by decide +kernel) (by decide +kernel)⟩
set_option maxRecDepth 100000 in
theorem ok14 : ix_ok 14 2 := ⟨by decide +kernel, ⟨by decide +kernel, by decide +kernel, by decide +kernel⟩, ix_in 214 (by decide +kernel) (by decide +kernel), ix_in 60 (by decide +kernel) (by decide +kernel)⟩
set_option maxRecDepth 100000 in
theorem ok15 : ix_ok 15 2 := ⟨by decide +kernel, ⟨by decide +kernel, by decide +kernel, by decide +kernel⟩, ix_in 218 (by decide +kernel) (by decide +kernel), ix_in 60 (by decide +kernel) (by decide +kernel)⟩
set_option maxRecDepth 100000 in
theorem ok16 : ix_ok 16 1 := ⟨by decide +kernel, ⟨by decide +kernel, by decide +kernel, by decide +kernel⟩, ix_in 222 (by decide +kernel) (by decide +kernel), ix_in 62 (by decide +kernel) (by decide +kernel)⟩
set_option maxRecDepth 100000 in
theorem ok17 : ix_ok 17 2 := ⟨by decide +kernel, ⟨by decide +kernel, by decide +kernel, by decide +kernel⟩, ix_in 226 (by decide +kernel) (by decide +kernel), ix_in 60 (by decide +kernel) (by decide +kernel)⟩
set_option maxRecDepth 100000 in
theorem ok18 : ix_ok 18 2 := ⟨by decide +kernel, ⟨by decide +kernel, by decide +kernel, by decide +kernel⟩, ix_in 230 (by decide +kernel) (by decide +kernel), ix_in 60 (by decide +kernel) (by decide +kernel)⟩
set_option maxRecDepth 100000 in
theorem ok19 : ix_ok 19 1 := ⟨by decide +kernel, ⟨by decide +kernel, by decide +kernel, by decide +kernel⟩, ix_in 234 (by decide +kernel) (by decide +kernel), ix_in 61 (by decide +kernel) (by decide +kernel)⟩
set_option maxRecDepth 100000 in
theorem ok20 : ix_ok 20 0 := ⟨by decide +kernel, ⟨by decide +kernel, by decide +kernel, by decide +kernel⟩, ix_in 238 (by decide +kernel) (by decide +kernel), ix_in 65 (by decide +kernel) (by decide +kernel)⟩
set_option maxRecDepth 100000 in
theorem ok21 : ix_ok 21 1 := ⟨by decide +kernel, ⟨by decide +kernel, by decide +kernel, by decide +kernel⟩, ix_in 242 (by decide +kernel) (by decide +kernel), ix_in 65 (by decide +kernel) (by decide +kernel)⟩
set_option maxRecDepth 100000 in
theorem ok22 : ix_ok 22 2 := ⟨by decide +kernel, ⟨by decide +kernel, by decide +kernel, by decide +kernel⟩, ix_in 245 (by decide +kernel) (by decide +kernel), ix_in 73 (by decide +kernel) (by decide +kernel)⟩
set_option maxRecDepth 100000 in
theorem ok23 : ix_ok 23 3 := ⟨by decide +kernel, ⟨by decide +kernel, by decide +kernel, by decide +kernel⟩, ix_in 248 (by decide +kernel) (by decide +kernel), ix_in 74 (by decide +kernel) (by decide +kernel)⟩
set_option maxRecDepth 100000 in
theorem ok24 : ix_ok 24 1 := ⟨by decide +kernel, ⟨by decide +kernel, by decide +kernel, by decide +kernel⟩, ix_in 252 (by decide +kernel) (by decide +kernel), ix_in 65 (by decide +kernel) (by decide +kernel)⟩
set_option maxRecDepth 100000 in
theorem ok25 : ix_ok 25 0 := ⟨by decide +kernel, ⟨by decide +kernel, by decide +kernel, by decide +kernel⟩, ix_in 257 (by decide +kernel) (by decide +kernel), ix_in 78 (by decide +kernel) (by decide +kernel)⟩
set_option maxRecDepth 100000 in
theorem ok26 : ix_ok 26 0 := ⟨by decide +kernel, ⟨by decide +kernel, by decide +kernel, by decide +kernel⟩, ix_in 261 (by decide +kernel) (by decide +kernel), ix_in 78 (by decide +kernel) (by decide +kernel)⟩
set_option maxRecDepth 100000 in
theorem ok27 : ix_ok 27 3 := ⟨by decide +kernel, ⟨by decide +kernel, by decide +kernel, by decide +kernel⟩, ix_in 265 (by decide +kernel) (by decide +kernel), ix_in 60 (by decide +kernel) (by decide +kernel)⟩
set_option maxRecDepth 100000 in
theorem ok28 : ix_ok 28 1 := ⟨by decide +kernel, ⟨by decide +kernel, by decide +kernel, by decide +kernel⟩, ix_in 269 (by decide +kernel) (by decide +kernel), ix_in 78 (by decide +kernel) (by decide +kernel)⟩
set_option maxRecDepth 100000 in
theorem ok29 : ix_ok 29 0 := ⟨by decide +kernel, ⟨by decide +kernel, by decide +kernel, by decide +kernel⟩, ix_in 273 (by decide +kernel) (by decide +kernel), ix_in 60 (by decide +kernel) (by decide +kernel)⟩
set_option maxRecDepth 100000 in
theorem ok30 : ix_ok 30 1 := ⟨by decide +kernel, ⟨by decide +kernel, by decide +kernel, by decide +kernel⟩, ix_in 277 (by decide +kernel) (by decide +kernel), ix_in 61 (by decide +kernel) (by decide +kernel)⟩
set_option maxRecDepth 100000 in
theorem ok31 : ix_ok 31 0 := ⟨by decide +kernel, ⟨by decide +kernel, by decide +kernel, by decide +kernel⟩, ix_in 281 (by decide +kernel) (by decide +kernel), ix_in 78 (by decide +kernel) (by decide +kernel)⟩
set_option maxRecDepth 100000 in
theorem ok32 : ix_ok 32 0 := ⟨by decide +kernel, ⟨by decide +kernel, by decide +kernel, by decide +kernel⟩, ix_in 286 (by decide +kernel) (by decide +kernel), ix_in 78 (by decide +kernel) (by decide +kernel)⟩
set_option maxRecDepth 100000 in
theorem ok33 : ix_ok 33 0 := ⟨by decide +kernel, ⟨by decide +kernel, by decide +kernel, by decide +kernel⟩, ix_in 290 (by decide +kernel) (by decide +kernel), ix_in 78 (by decide +kernel) (by decide +kernel)⟩
set_option maxRecDepth 100000 in
theorem ok34 : ix_ok 34 4 := ⟨by decide +kernel, ⟨by decide +kernel, by decide +kernel, by decide +kernel⟩, ix_in 294 (by decide +kernel) (by decide +kernel), ix_in 78 (by decide +kernel) (by decide +kernel)⟩
set_option maxRecDepth 100000 in
theorem ok35 : ix_ok 35 0 := ⟨by decide +kernel, ⟨by decide +kernel, by decide +kernel, by decide +kernel⟩, ix_in 300 (by decide +kernel) (by decide +kernel), ix_in 77 (by decide +kernel) (by decide +kernel)⟩
set_option maxRecDepth 100000 in
theorem ok36 : ix_ok 36 6 := ⟨by decide +kernel, ⟨by decide +kernel, by decide +kernel, by decide +kernel⟩, ix_in 303 (by decide +kernel) (by decide +kernel), ix_in 83 (by decide +kernel) (by decide +kernel)⟩
set_option maxRecDepth 100000 in
theorem ok37 : ix_ok 37 1 := ⟨by decide +kernel, ⟨by decide +kernel, by decide +kernel, by decide +kernel⟩, ix_in 339 (by decide +kernel) (by decide +kernel), ix_in 66 (by decide +kernel) (by decide +kernel)⟩
set_option maxRecDepth 100000 in
theorem ok38 : ix_ok 38 1 := ⟨by decide +kernel, ⟨by decide +kernel, by decide +kernel, by decide +kernel⟩, ix_in 343 (by decide +kernel) (by decide +kernel), ix_in 78 (by decide +kernel) (by decide +kernel)⟩
set_option maxRecDepth 100000 in
theorem ok39 : ix_ok 39 2 := ⟨by decide +kernel, ⟨by decide +kernel, by decide +kernel, by decide +kernel⟩, ix_in 347 (by decide +kernel) (by decide +kernel), ix_in 62 (by decide +kernel) (by decide +kernel)⟩
set_option maxRecDepth 100000 in
theorem ok40 : ix_ok 40 2 := ⟨by decide +kernel, ⟨by decide +kernel, by decide +kernel, by decide +kernel⟩, ix_in 351 (by decide +kernel) (by decide +kernel), ix_in 62 (by decide +kernel) (by decide +kernel)⟩
set_option maxRecDepth 100000 in
theorem ok41 : ix_ok 41 2 := ⟨by decide +kernel, ⟨by decide +kernel, by decide +kernel, by decide +kernel⟩, ix_in 356 (by decide +kernel) (by decide +kernel), ix_in 62 (by decide +kernel) (by decide +kernel)⟩
set_option maxRecDepth 100000 in
theorem ok42 : ix_ok 42 0 := ⟨by decide +kernel, ⟨by decide +kernel, by decide +kernel, by decide +kernel⟩, ix_in 360 (by decide +kernel) (by decide +kernel), ix_in 78 (by decide +kernel) (by decide +kernel)⟩
set_option maxRecDepth 100000 in
theorem ok43 : ix_ok 43 1 := ⟨by decide +kernel, ⟨by decide +kernel, by decide +kernel, by decide +kernel⟩, ix_in 365 (by decide +kernel) (by decide +kernel), ix_in 62 (by decide +kernel) (by decide +kernel)⟩
set_option maxRecDepth 100000 in
theorem ok44 : ix_ok 44 2 := ⟨by decide +kernel, ⟨by decide +kernel, by decide +kernel, by decide +kernel⟩, ix_in 368 (by decide +kernel) (by decide +kernel), ix_in 60 (by decide +kernel) (by decide +kernel)⟩
set_option maxRecDepth 100000 in
theorem ok45 : ix_ok 45 0 := ⟨by decide +kernel, ⟨by decide +kernel, by decide +kernel, by decide +kernel⟩, ix_in 372 (by decide +kernel) (by decide +kernel), ix_in 77 (by decide +kernel) (by decide +kernel)⟩
set_option maxRecDepth 100000 in
theorem ok46 : ix_ok 46 0 := ⟨by decide +kernel, ⟨by decide +kernel, by decide +kernel, by decide +kernel⟩, ix_in 376 (by decide +kernel) (by decide +kernel), ix_in 78 (by decide +kernel) (by decide +kernel)⟩
set_option maxRecDepth 100000 in
theorem ok47 : ix_ok 47 0 := ⟨by decide +kernel, ⟨by decide +kernel, by decide +kernel, by decide +kernel⟩, ix_in 380 (by decide +kernel) (by decide +kernel), ix_in 78 (by decide +kernel) (by decide +kernel)⟩
set_option maxRecDepth 100000 in
theorem ok48 : ix_ok 48 1 := ⟨by decide +kernel, ⟨by decide +kernel, by decide +kernel, by decide +kernel⟩, ix_in 385 (by decide +kernel) (by decide +kernel), ix_in 84 (by decide +kernel) (by decide +kernel)⟩
set_option maxRecDepth 100000 in
theorem ok49 : ix_ok 49 0 := ⟨by decide +kernel, ⟨by decide +kernel, by decide +kernel, by decide +kernel⟩, ix_in 389 (by decide +kernel) (by decide +kernel), ix_in 84 (by decide +kernel) (by decide +kernel)⟩
set_option maxRecDepth 100000 in
theorem ok50 : ix_ok 50 2 := ⟨by decide +kernel, ⟨by decide +kernel, by decide +kernel, by decide +kernel⟩, ix_in 394 (by decide +kernel) (by decide +kernel), ix_in 84 (by decide +kernel) (by decide +kernel)⟩
set_option maxRecDepth 100000 in
theorem ok51 : ix_ok 51 1 := ⟨by decide +kernel, ⟨by decide +kernel, by decide +kernel, by decide +kernel⟩, ix_in 398 (by decide +kernel) (by decide +kernel), ix_in 84 (by decide +kernel) (by decide +kernel)⟩
set_option maxRecDepth 100000 in
theorem ok52 : ix_ok 52 3 := ⟨by decide +kernel, ⟨by decide +kernel, by decide +kernel, by decide +kernel⟩, ix_in 402 (by decide +kernel) (by decide +kernel), ix_in 84 (by decide +kernel) (by decide +kernel)⟩
set_option maxRecDepth 100000 in
theorem ok53 : ix_ok 53 1 := ⟨by decide +kernel, ⟨by decide +kernel, by decide +kernel, by decide +kernel⟩, ix_in 410 (by decide +kernel) (by decide +kernel), ix_in 84 (by decide +kernel) (by decide +kernel)⟩
set_option maxRecDepth 100000 in
theorem ok54 : ix_ok 54 0 := ⟨by decide +kernel, ⟨by decide +kernel, by decide +kernel, by decide +kernel⟩, ix_in 414 (by decide +kernel) (by decide +kernel), ix_in 84 (by decide +kernel) (by decide +kernel)⟩
set_option maxRecDepth 100000 in
theorem ok55 : ix_ok 55 1 := ⟨by decide +kernel, ⟨by decide +kernel, by decide +kernel, by decide +kernel⟩, ix_in 417 (by decide +kernel) (by decide +kernel), ix_in 60 (by decide +kernel) (by decide +kernel)⟩
set_option maxRecDepth 100000 in
theorem ok56 : ix_ok 56 2 := ⟨by decide +kernel, ⟨by decide +kernel, by decide +kernel, by decide +kernel⟩, ix_in 421 (by decide +kernel) (by decide +kernel), ix_in 84 (by decide +kernel) (by decide +kernel)⟩
set_option maxRecDepth 100000 in
theorem ok57 : ix_ok 57 0 := ⟨by decide +kernel, ⟨by decide +kernel, by decide +kernel, by decide +kernel⟩, ix_in 425 (by decide +kernel) (by decide +kernel), ix_in 61 (by decide +kernel) (by decide +kernel)⟩
set_option maxRecDepth 100000 in
theorem ok58 : ix_ok 58 1 := ⟨by decide +kernel, ⟨by decide +kernel, by decide +kernel, by decide +kernel⟩, ix_in 430 (by decide +kernel) (by decide +kernel), ix_in 65 (by decide +kernel) (by decide +kernel)⟩
set_option maxRecDepth 100000 in
theorem ok59 : ix_ok 59 2 := ⟨by decide +kernel, ⟨by decide +kernel, by decide +kernel, by decide +kernel⟩, ix_in 434 (by decide +kernel) (by decide +kernel), ix_in 65 (by decide +kernel) (by decide +kernel)⟩
set_option maxRecDepth 100000 in
theorem ok60 : ix_ok 60 1 := ⟨by decide +kernel, ⟨by decide +kernel, by decide +kernel, by decide +kernel⟩, ix_in 441 (by decide +kernel) (by decide +kernel), ix_in 60 (by decide +kernel) (by decide +kernel)⟩
set_option maxRecDepth 100000 in
theorem ok61 : ix_ok 61 1 := ⟨by decide +kernel, ⟨by decide +kernel, by decide +kernel, by decide +kernel⟩, ix_in 445 (by decide +kernel) (by decide +kernel), ix_in 66 (by decide +kernel) (by decide +kernel)⟩
set_option maxRecDepth 100000 in
theorem ok62 : ix_ok 62 1 := ⟨by decide +kernel, ⟨by decide +kernel, by decide +kernel, by decide +kernel⟩, ix_in 449 (by decide +kernel) (by decide +kernel), ix_in 66 (by decide +kernel) (by decide +kernel)⟩
set_option maxRecDepth 100000 in
theorem ok63 : ix_ok 63 1 := ⟨by decide +kernel, ⟨by decide +kernel, by decide +kernel, by decide +kernel⟩, ix_in 453 (by decide +kernel) (by decide +kernel), ix_in 60 (by decide +kernel) (by decide +kernel)⟩
set_option maxRecDepth 100000 in
theorem ok64 : ix_ok 64 1 := ⟨by decide +kernel, ⟨by decide +kernel, by decide +kernel, by decide +kernel⟩, ix_in 457 (by decide +kernel) (by decide +kernel), ix_in 78 (by decide +kernel) (by decide +kernel)⟩
set_option maxRecDepth 100000 in
theorem ok65 : ix_ok 65 1 := ⟨by decide +kernel, ⟨by decide +kernel, by decide +kernel, by decide +kernel⟩, ix_in 461 (by decide +kernel) (by decide +kernel), ix_in 78 (by decide +kernel) (by decide +kernel)⟩
set_option maxRecDepth 100000 in
theorem ok66 : ix_ok 66 1 := ⟨by decide +kernel, ⟨by decide +kernel, by decide +kernel, by decide +kernel⟩, ix_in 466 (by decide +kernel) (by decide +kernel), ix_in 60 (by decide +kernel) (by decide +kernel)⟩
set_option maxRecDepth 100000 in
theorem ok67 : ix_ok 67 2 := ⟨by decide +kernel, ⟨by decide +kernel, by decide +kernel, by decide +kernel⟩, ix_in 470 (by decide +kernel) (by decide +kernel), ix_in 60 (by decide +kernel) (by decide +kernel)⟩
set_option maxRecDepth 100000 in
theorem ok68 : ix_ok 68 4 := ⟨by decide +kernel, ⟨by decide +kernel, by decide +kernel, by decide +kernel⟩, ix_in 475 (by decide +kernel) (by decide +kernel), ix_in 84 (by decide +kernel) (by decide +kernel)⟩
set_option maxRecDepth 100000 in
theorem ok69 : ix_ok 69 1 := ⟨by decide +kernel, ⟨by decide +kernel, by decide +kernel, by decide +kernel⟩, ix_in 527 (by decide +kernel) (by decide +kernel), ix_in 65 (by decide +kernel) (by decide +kernel)⟩
set_option maxRecDepth 100000 in
theorem ok70 : ix_ok 70 3 := ⟨by decide +kernel, ⟨by decide +kernel, by decide +kernel, by decide +kernel⟩, ix_in 531 (by decide +kernel) (by decide +kernel), ix_in 65 (by decide +kernel) (by decide +kernel)⟩
set_option maxRecDepth 100000 in
theorem ok71 : ix_ok 71 0 := ⟨by decide +kernel, ⟨by decide +kernel, by decide +kernel, by decide +kernel⟩, ix_in 535 (by decide +kernel) (by decide +kernel), ix_in 65 (by decide +kernel) (by decide +kernel)⟩
set_option maxRecDepth 100000 in
theorem ok72 : ix_ok 72 1 := ⟨by decide +kernel, ⟨by decide +kernel, by decide +kernel, by decide +kernel⟩, ix_in 539 (by decide +kernel) (by decide +kernel), ix_in 65 (by decide +kernel) (by decide +kernel)⟩
set_option maxRecDepth 100000 in
theorem ok73 : ix_ok 73 3 := ⟨by decide +kernel, ⟨by decide +kernel, by decide +kernel, by decide +kernel⟩, ix_in 542 (by decide +kernel) (by decide +kernel), ix_in 79 (by decide +kernel) (by decide +kernel)⟩
set_option maxRecDepth 100000 in
theorem ok74 : ix_ok 74 2 := ⟨by decide +kernel, ⟨by decide +kernel, by decide +kernel, by decide +kernel⟩, ix_in 545 (by decide +kernel) (by decide +kernel), ix_in 80 (by decide +kernel) (by decide +kernel)⟩
set_option maxRecDepth 100000 in
theorem ok75 : ix_ok 75 2 := ⟨by decide +kernel, ⟨by decide +kernel, by decide +kernel, by decide +kernel⟩, ix_in 549 (by decide +kernel) (by decide +kernel), ix_in 79 (by decide +kernel) (by decide +kernel)⟩
set_option maxRecDepth 100000 in
theorem ok76 : ix_ok 76 2 := ⟨by decide +kernel, ⟨by decide +kernel, by decide +kernel, by decide +kernel⟩, ix_in 552 (by decide +kernel) (by decide +kernel), ix_in 81 (by decide +kernel) (by decide +kernel)⟩
set_option maxRecDepth 100000 in
theorem ok77 : ix_ok 77 3 := ⟨by decide +kernel, ⟨by decide +kernel, by decide +kernel, by decide +kernel⟩, ix_in 573 (by decide +kernel) (by decide +kernel), ix_in 81 (by decide +kernel) (by decide +kernel)⟩
set_option maxRecDepth 100000 in
theorem ok78 : ix_ok 78 2 := ⟨by decide +kernel, ⟨by decide +kernel, by decide +kernel, by decide +kernel⟩, ix_in 579 (by decide +kernel) (by decide +kernel), ix_in 80 (by decide +kernel) (by decide +kernel)⟩
set_option maxRecDepth 100000 in
theorem ok79 : ix_ok 79 2 := ⟨by decide +kernel, ⟨by decide +kernel, by decide +kernel, by decide +kernel⟩, ix_in 586 (by decide +kernel) (by decide +kernel), ix_in 84 (by decide +kernel) (by decide +kernel)⟩
set_option maxRecDepth 100000 in
theorem ok80 : ix_ok 80 1 := ⟨by decide +kernel, ⟨by decide +kernel, by decide +kernel, by decide +kernel⟩, ix_in 590 (by decide +kernel) (by decide +kernel), ix_in 84 (by decide +kernel) (by decide +kernel)⟩
set_option maxRecDepth 100000 in
theorem ok81 : ix_ok 81 1 := ⟨by decide +kernel, ⟨by decide +kernel, by decide +kernel, by decide +kernel⟩, ix_in 594 (by decide +kernel) (by decide +kernel), ix_in 84 (by decide +kernel) (by decide +kernel)⟩
set_option maxRecDepth 100000 in
theorem ok82 : ix_ok 82 0 := ⟨by decide +kernel, ⟨by decide +kernel, by decide +kernel, by decide +kernel⟩, ix_in 598 (by decide +kernel) (by decide +kernel), ix_in 84 (by decide +kernel) (by decide +kernel)⟩
set_option maxRecDepth 100000 in
theorem ok83 : ix_ok 83 0 := ⟨by decide +kernel, ⟨by decide +kernel, by decide +kernel, by decide +kernel⟩, ix_in 602 (by decide +kernel) (by decide +kernel), ix_in 84 (by decide +kernel) (by decide +kernel)⟩
set_option maxRecDepth 100000 in
theorem ok84 : ix_ok 84 1 := ⟨by decide +kernel, ⟨by decide +kernel, by decide +kernel, by decide +kernel⟩, ix_in 607 (by decide +kernel) (by decide +kernel), ix_in 61 (by decide +kernel) (by decide +kernel)⟩
set_option maxRecDepth 100000 in
theorem ok85 : ix_ok 85 3 := ⟨by decide +kernel, ⟨by decide +kernel, by decide +kernel, by decide +kernel⟩, ix_in 611 (by decide +kernel) (by decide +kernel), ix_in 62 (by decide +kernel) (by decide +kernel)⟩
set_option maxRecDepth 100000 in
theorem ok86 : ix_ok 86 0 := ⟨by decide +kernel, ⟨by decide +kernel, by decide +kernel, by decide +kernel⟩, ix_in 616 (by decide +kernel) (by decide +kernel), ix_in 84 (by decide +kernel) (by decide +kernel)⟩
set_option maxRecDepth 100000 in
theorem ok87 : ix_ok 87 2 := ⟨by decide +kernel, ⟨by decide +kernel, by decide +kernel, by decide +kernel⟩, ix_in 620 (by decide +kernel) (by decide +kernel), ix_in 62 (by decide +kernel) (by decide +kernel)⟩
set_option maxRecDepth 100000 in
theorem ok88 : ix_ok 88 1 := ⟨by decide +kernel, ⟨by decide +kernel, by decide +kernel, by decide +kernel⟩, ix_in 626 (by decide +kernel) (by decide +kernel), ix_in 62 (by decide +kernel) (by decide +kernel)⟩
set_option maxRecDepth 100000 in
theorem ok89 : ix_ok 89 1 := ⟨by decide +kernel, ⟨by decide +kernel, by decide +kernel, by decide +kernel⟩, ix_in 630 (by decide +kernel) (by decide +kernel), ix_in 84 (by decide +kernel) (by decide +kernel)⟩
set_option maxRecDepth 100000 in
theorem ok90 : ix_ok 90 1 := ⟨by decide +kernel, ⟨by decide +kernel, by decide +kernel, by decide +kernel⟩, ix_in 634 (by decide +kernel) (by decide +kernel), ix_in 60 (by decide +kernel) (by decide +kernel)⟩
set_option maxRecDepth 100000 in
theorem ok91 : ix_ok 91 1 := ⟨by decide +kernel, ⟨by decide +kernel, by decide +kernel, by decide +kernel⟩, ix_in 638 (by decide +kernel) (by decide +kernel), ix_in 60 (by decide +kernel) (by decide +kernel)⟩
set_option maxRecDepth 100000 in
theorem ok92 : ix_ok 92 0 := ⟨by decide +kernel, ⟨by decide +kernel, by decide +kernel, by decide +kernel⟩, ix_in 643 (by decide +kernel) (by decide +kernel), ix_in 66 (by decide +kernel) (by decide +kernel)⟩
set_option maxRecDepth 100000 in
theorem ok93 : ix_ok 93 0 := ⟨by decide +kernel, ⟨by decide +kernel, by decide +kernel, by decide +kernel⟩, ix_in 647 (by decide +kernel) (by decide +kernel), ix_in 83 (by decide +kernel) (by decide +kernel)⟩
set_option maxRecDepth 100000 in
theorem ok94 : ix_ok 94 2 := ⟨by decide +kernel, ⟨by decide +kernel, by decide +kernel, by decide +kernel⟩, ix_in 654 (by decide +kernel) (by decide +kernel), ix_in 60 (by decide +kernel) (by decide +kernel)⟩
set_option maxRecDepth 100000 in
theorem ok95 : ix_ok 95 0 := ⟨by decide +kernel, ⟨by decide +kernel, by decide +kernel, by decide +kernel⟩, ix_in 658 (by decide +kernel) (by decide +kernel), ix_in 60 (by decide +kernel) (by decide +kernel)⟩
set_option maxRecDepth 100000 in
theorem ok96 : ix_ok 96 2 := ⟨by decide +kernel, ⟨by decide +kernel, by decide +kernel, by decide +kernel⟩, ix_in 662 (by decide +kernel) (by decide +kernel), ix_in 60 (by decide +kernel) (by decide +kernel)⟩
set_option maxRecDepth 100000 in
theorem ok97 : ix_ok 97 2 := ⟨by decide +kernel, ⟨by decide +kernel, by decide +kernel, by decide +kernel⟩, ix_in 666 (by decide +kernel) (by decide +kernel), ix_in 60 (by decide +kernel) (by decide +kernel)⟩
set_option maxRecDepth 100000 in
theorem ok98 : ix_ok 98 2 := ⟨by decide +kernel, ⟨by decide +kernel, by decide +kernel, by decide +kernel⟩, ix_in 671 (by decide +kernel) (by decide +kernel), ix_in 60 (by decide +kernel) (by decide +kernel)⟩
set_option maxRecDepth 100000 in
theorem ok99 : ix_ok 99 2 := ⟨by decide +kernel, ⟨by decide +kernel, by decide +kernel, by decide +kernel⟩, ix_in 675 (by decide +kernel) (by decide +kernel), ix_in 60 (by decide +kernel) (by decide +kernel)⟩
set_option maxRecDepth 100000 in
theorem ok100 : ix_ok 100 2 := ⟨by decide +kernel, ⟨by decide +kernel, by decide +kernel, by decide +kernel⟩, ix_in 680 (by decide +kernel) (by decide +kernel), ix_in 60 (by decide +kernel) (by decide +kernel)⟩
set_option maxRecDepth 100000 in
theorem ok101 : ix_ok 101 2 := ⟨by decide +kernel, ⟨by decide +kernel, by decide +kernel, by decide +kernel⟩, ix_in 683 (by decide +kernel) (by decide +kernel), ix_in 59 (by decide +kernel) (by decide +kernel)⟩
set_option maxRecDepth 100000 in
theorem ok103 : ix_ok 103 4 := ⟨by decide +kernel, ⟨by decide +kernel, by decide +kernel, by decide +kernel⟩, ix_in 693 (by decide +kernel) (by decide +kernel), ix_in 60 (by decide +kernel) (by decide +kernel)⟩
set_option maxRecDepth 100000 in
theorem ok104 : ix_ok 104 3 := ⟨by decide +kernel, ⟨by decide +kernel, by decide +kernel, by decide +kernel⟩, ix_in 798 (by decide +kernel) (by decide +kernel), ix_in 62 (by decide +kernel) (by decide +kernel)⟩
set_option maxRecDepth 100000 in
theorem ok106 : ix_ok 106 2 := ⟨by decide +kernel, ⟨by decide +kernel, by decide +kernel, by decide +kernel⟩, ix_in 805 (by decide +kernel) (by decide +kernel), ix_in 60 (by decide +kernel) (by decide +kernel)⟩
set_option maxRecDepth 100000 in
theorem ok108 : ix_ok 108 3 := ⟨by decide +kernel, ⟨by decide +kernel, by decide +kernel, by decide +kernel⟩, ix_in 815 (by decide +kernel) (by decide +kernel), ix_in 60 (by decide +kernel) (by decide +kernel)⟩
set_option maxRecDepth 100000 in
theorem ok110 : ix_ok 110 6 := ⟨by decide +kernel, ⟨by decide +kernel, by decide +kernel, by decide +kernel⟩, ix_in 839 (by decide +kernel) (by decide +kernel), ix_in 60 (by decide +kernel) (by decide +kernel)⟩
set_option maxRecDepth 100000 in
theorem ok111 : ix_ok 111 7 := ⟨by decide +kernel, ⟨by decide +kernel, by decide +kernel, by decide +kernel⟩, ix_in 847 (by decide +kernel) (by decide +kernel), ix_in 77 (by decide +kernel) (by decide +kernel)⟩
set_option maxRecDepth 100000 in
theorem ok112 : ix_ok 112 4 := ⟨by decide +kernel, ⟨by decide +kernel, by decide +kernel, by decide +kernel⟩, ix_in 886 (by decide +kernel) (by decide +kernel), ix_in 78 (by decide +kernel) (by decide +kernel)⟩
set_option maxRecDepth 100000 in
theorem ok113 : ix_ok 113 1 := ⟨by decide +kernel, ⟨by decide +kernel, by decide +kernel, by decide +kernel⟩, ix_in 944 (by decide +kernel) (by decide +kernel), ix_in 61 (by decide +kernel) (by decide +kernel)⟩
set_option maxRecDepth 100000 in
theorem ok114 : ix_ok 114 1 := ⟨by decide +kernel, ⟨by decide +kernel, by decide +kernel, by decide +kernel⟩, ix_in 950 (by decide +kernel) (by decide +kernel), ix_in 67 (by decide +kernel) (by decide +kernel)⟩
set_option maxRecDepth 100000 in
theorem ok115 : ix_ok 115 0 := ⟨by decide +kernel, ⟨by decide +kernel, by decide +kernel, by decide +kernel⟩, ix_in 1101 (by decide +kernel) (by decide +kernel), ix_in 67 (by decide +kernel) (by decide +kernel)⟩
set_option maxRecDepth 100000 in
theorem ok116 : ix_ok 116 2 := ⟨by decide +kernel, ⟨by decide +kernel, by decide +kernel, by decide +kernel⟩, ix_in 1105 (by decide +kernel) (by decide +kernel), ix_in 67 (by decide +kernel) (by decide +kernel)⟩
set_option maxRecDepth 100000 in
theorem ok117 : ix_ok 117 2 := ⟨by decide +kernel, ⟨by decide +kernel, by decide +kernel, by decide +kernel⟩, ix_in 1108 (by decide +kernel) (by decide +kernel), ix_in 67 (by decide +kernel) (by decide +kernel)⟩
set_option maxRecDepth 100000 in
theorem ok118 : ix_ok 118 3 := ⟨by decide +kernel, ⟨by decide +kernel, by decide +kernel, by decide +kernel⟩, ix_in 1111 (by decide +kernel) (by decide +kernel), ix_in 67 (by decide +kernel) (by decide +kernel)⟩
set_option maxRecDepth 100000 in
theorem ok119 : ix_ok 119 4 := ⟨by decide +kernel, ⟨by decide +kernel, by decide +kernel, by decide +kernel⟩, ix_in 1115 (by decide +kernel) (by decide +kernel), ix_in 67 (by decide +kernel) (by decide +kernel)⟩
set_option maxRecDepth 100000 in
theorem ok120 : ix_ok 120 1 := ⟨by decide +kernel, ⟨by decide +kernel, by decide +kernel, by decide +kernel⟩, ix_in 1119 (by decide +kernel) (by decide +kernel), ix_in 67 (by decide +kernel) (by decide +kernel)⟩
set_option maxRecDepth 100000 in
theorem ok121 : ix_ok 121 2 := ⟨by decide +kernel, ⟨by decide +kernel, by decide +kernel, by decide +kernel⟩, ix_in 1123 (by decide +kernel) (by decide +kernel), ix_in 67 (by decide +kernel) (by decide +kernel)⟩
set_option maxRecDepth 100000 in
theorem ok122 : ix_ok 122 2 := ⟨by decide +kernel, ⟨by decide +kernel, by decide +kernel, by decide +kernel⟩, ix_in 1128 (by decide +kernel) (by decide +kernel), ix_in 67 (by decide +kernel) (by decide +kernel)⟩
set_option maxRecDepth 100000 in
theorem ok123 : ix_ok 123 2 := ⟨by decide +kernel, ⟨by decide +kernel, by decide +kernel, by decide +kernel⟩, ix_in 1132 (by decide +kernel) (by decide +kernel), ix_in 67 (by decide +kernel) (by decide +kernel)⟩
set_option maxRecDepth 100000 in
theorem ok124 : ix_ok 124 3 := ⟨by decide +kernel, ⟨by decide +kernel, by decide +kernel, by decide +kernel⟩, ix_in 1136 (by decide +kernel) (by decide +kernel), ix_in 67 (by decide +kernel) (by decide +kernel)⟩
set_option maxRecDepth 100000 in
theorem ok125 : ix_ok 125 6 := ⟨by decide +kernel, ⟨by decide +kernel, by decide +kernel, by decide +kernel⟩, ix_in 1140 (by decide +kernel) (by decide +kernel), ix_in 67 (by decide +kernel) (by decide +kernel)⟩
set_option maxRecDepth 100000 in
theorem ok126 : ix_ok 126 2 := ⟨by decide +kernel, ⟨by decide +kernel, by decide +kernel, by decide +kernel⟩, ix_in 1144 (by decide +kernel) (by decide +kernel), ix_in 67 (by decide +kernel) (by decide +kernel)⟩
set_option maxRecDepth 100000 in
theorem ok127 : ix_ok 127 2 := ⟨by decide +kernel, ⟨by decide +kernel, by decide +kernel, by decide +kernel⟩, ix_in 1148 (by decide +kernel) (by decide +kernel), ix_in 67 (by decide +kernel) (by decide +kernel)⟩
set_option maxRecDepth 100000 in
theorem ok128 : ix_ok 128 3 := ⟨by decide +kernel, ⟨by decide +kernel, by decide +kernel, by decide +kernel⟩, ix_in 1152 (by decide +kernel) (by decide +kernel), ix_in 67 (by decide +kernel) (by decide +kernel)⟩
set_option maxRecDepth 100000 in
theorem ok129 : ix_ok 129 0 := ⟨by decide +kernel, ⟨by decide +kernel, by decide +kernel, by decide +kernel⟩, ix_in 1156 (by decide +kernel) (by decide +kernel), ix_in 67 (by decide +kernel) (by decide +kernel)⟩
set_option maxRecDepth 100000 in
theorem ok130 : ix_ok 130 1 := ⟨by decide +kernel, ⟨by decide +kernel, by decide +kernel, by decide +kernel⟩, ix_in 1160 (by decide +kernel) (by decide +kernel), ix_in 67 (by decide +kernel) (by decide +kernel)⟩
set_option maxRecDepth 100000 in
theorem ok131 : ix_ok 131 1 := ⟨by decide +kernel, ⟨by decide +kernel, by decide +kernel, by decide +kernel⟩, ix_in 1164 (by decide +kernel) (by decide +kernel), ix_in 67 (by decide +kernel) (by decide +kernel)⟩
set_option maxRecDepth 100000 in
theorem ok132 : ix_ok 132 1 := ⟨by decide +kernel, ⟨by decide +kernel, by decide +kernel, by decide +kernel⟩, ix_in 1167 (by decide +kernel) (by decide +kernel), ix_in 67 (by decide +kernel) (by decide +kernel)⟩
set_option maxRecDepth 100000 in
theorem ok133 : ix_ok 133 1 := ⟨by decide +kernel, ⟨by decide +kernel, by decide +kernel, by decide +kernel⟩, ix_in 1171 (by decide +kernel) (by decide +kernel), ix_in 67 (by decide +kernel) (by decide +kernel)⟩
set_option maxRecDepth 100000 in
theorem ok134 : ix_ok 134 1 := ⟨by decide +kernel, ⟨by decide +kernel, by decide +kernel, by decide +kernel⟩, ix_in 1175 (by decide +kernel) (by decide +kernel), ix_in 67 (by decide +kernel) (by decide +kernel)⟩
set_option maxRecDepth 100000 in
theorem ok135 : ix_ok 135 2 := ⟨by decide +kernel, ⟨by decide +kernel, by decide +kernel, by decide +kernel⟩, ix_in 1179 (by decide +kernel) (by decide +kernel), ix_in 67 (by decide +kernel) (by decide +kernel)⟩
set_option maxRecDepth 100000 in
theorem ok136 : ix_ok 136 6 := ⟨by decide +kernel, ⟨by decide +kernel, by decide +kernel, by decide +kernel⟩, ix_in 1183 (by decide +kernel) (by decide +kernel), ix_in 67 (by decide +kernel) (by decide +kernel)⟩
set_option maxRecDepth 100000 in
theorem ok137 : ix_ok 137 2 := ⟨by decide +kernel, ⟨by decide +kernel, by decide +kernel, by decide +kernel⟩, ix_in 1187 (by decide +kernel) (by decide +kernel), ix_in 67 (by decide +kernel) (by decide +kernel)⟩
set_option maxRecDepth 100000 in
theorem ok138 : ix_ok 138 1 := ⟨by decide +kernel, ⟨by decide +kernel, by decide +kernel, by decide +kernel⟩, ix_in 1191 (by decide +kernel) (by decide +kernel), ix_in 67 (by decide +kernel) (by decide +kernel)⟩
set_option maxRecDepth 100000 in
theorem ok139 : ix_ok 139 2 := ⟨by decide +kernel, ⟨by decide +kernel, by decide +kernel, by decide +kernel⟩, ix_in 1195 (by decide +kernel) (by decide +kernel), ix_in 67 (by decide +kernel) (by decide +kernel)⟩
set_option maxRecDepth 100000 in
theorem ok140 : ix_ok 140 1 := ⟨by decide +kernel, ⟨by decide +kernel, by decide +kernel, by decide +kernel⟩, ix_in 1199 (by decide +kernel) (by decide +kernel), ix_in 67 (by decide +kernel) (by decide +kernel)⟩
set_option maxRecDepth 100000 in
theorem ok141 : ix_ok 141 1 := ⟨by decide +kernel, ⟨by decide +kernel, by decide +kernel, by decide +kernel⟩, ix_in 1204 (by decide +kernel) (by decide +kernel), ix_in 67 (by decide +kernel) (by decide +kernel)⟩
set_option maxRecDepth 100000 in
theorem ok142 : ix_ok 142 2 := ⟨by decide +kernel, ⟨by decide +kernel, by decide +kernel, by decide +kernel⟩, ix_in 1208 (by decide +kernel) (by decide +kernel), ix_in 67 (by decide +kernel) (by decide +kernel)⟩
set_option maxRecDepth 100000 in
theorem ok143 : ix_ok 143 1 := ⟨by decide +kernel, ⟨by decide +kernel, by decide +kernel, by decide +kernel⟩, ix_in 1212 (by decide +kernel) (by decide +kernel), ix_in 67 (by decide +kernel) (by decide +kernel)⟩
set_option maxRecDepth 100000 in
theorem ok144 : ix_ok 144 3 := ⟨by decide +kernel, ⟨by decide +kernel, by decide +kernel, by decide +kernel⟩, ix_in 1216 (by decide +kernel) (by decide +kernel), ix_in 67 (by decide +kernel) (by decide +kernel)⟩
set_option maxRecDepth 100000 in
theorem ok145 : ix_ok 145 1 := ⟨by decide +kernel, ⟨by decide +kernel, by decide +kernel, by decide +kernel⟩, ix_in 1220 (by decide +kernel) (by decide +kernel), ix_in 67 (by decide +kernel) (by decide +kernel)⟩
set_option maxRecDepth 100000 in
theorem ok146 : ix_ok 146 2 := ⟨by decide +kernel, ⟨by decide +kernel, by decide +kernel, by decide +kernel⟩, ix_in 1224 (by decide +kernel) (by decide +kernel), ix_in 67 (by decide +kernel) (by decide +kernel)⟩
set_option maxRecDepth 100000 in
theorem ok147 : ix_ok 147 1 := ⟨by decide +kernel, ⟨by decide +kernel, by decide +kernel, by decide +kernel⟩, ix_in 1228 (by decide +kernel) (by decide +kernel), ix_in 67 (by decide +kernel) (by decide +kernel)⟩
set_option maxRecDepth 100000 in
theorem ok148 : ix_ok 148 1 := ⟨by decide +kernel, ⟨by decide +kernel, by decide +kernel, by decide +kernel⟩, ix_in 1232 (by decide +kernel) (by decide +kernel), ix_in 67 (by decide +kernel) (by decide +kernel)⟩
set_option maxRecDepth 100000 in
theorem ok149 : ix_ok 149 1 := ⟨by decide +kernel, ⟨by decide +kernel, by decide +kernel, by decide +kernel⟩, ix_in 1236 (by decide +kernel) (by decide +kernel), ix_in 67 (by decide +kernel) (by decide +kernel)⟩
set_option maxRecDepth 100000 in
theorem ok150 : ix_ok 150 1 := ⟨by decide +kernel, ⟨by decide +kernel, by decide +kernel, by decide +kernel⟩, ix_in 1240 (by decide +kernel) (by decide +kernel), ix_in 67 (by decide +kernel) (by decide +kernel)⟩
set_option maxRecDepth 100000 in
theorem ok151 : ix_ok 151 1 := ⟨by decide +kernel, ⟨by decide +kernel, by decide +kernel, by decide +kernel⟩, ix_in 1244 (by decide +kernel) (by decide +kernel), ix_in 67 (by decide +kernel) (by decide +kernel)⟩
set_option maxRecDepth 100000 in
theorem ok152 : ix_ok 152 2 := ⟨by decide +kernel, ⟨by decide +kernel, by decide +kernel, by decide +kernel⟩, ix_in 1249 (by decide +kernel) (by decide +kernel), ix_in 67 (by decide +kernel) (by decide +kernel)⟩
set_option maxRecDepth 100000 in
theorem ok153 : ix_ok 153 2 := ⟨by decide +kernel, ⟨by decide +kernel, by decide +kernel, by decide +kernel⟩, ix_in 1253 (by decide +kernel) (by decide +kernel), ix_in 67 (by decide +kernel) (by decide +kernel)⟩
set_option maxRecDepth 100000 in
theorem ok154 : ix_ok 154 2 := ⟨by decide +kernel, ⟨by decide +kernel, by decide +kernel, by decide +kernel⟩, ix_in 1257 (by decide +kernel) (by decide +kernel), ix_in 67 (by decide +kernel) (by decide +kernel)⟩
set_option maxRecDepth 100000 in
theorem ok155 : ix_ok 155 2 := ⟨by decide +kernel, ⟨by decide +kernel, by decide +kernel, by decide +kernel⟩, ix_in 1261 (by decide +kernel) (by decide +kernel), ix_in 67 (by decide +kernel) (by decide +kernel)⟩
set_option maxRecDepth 100000 in
theorem ok156 : ix_ok 156 3 := ⟨by decide +kernel, ⟨by decide +kernel, by decide +kernel, by decide +kernel⟩, ix_in 1265 (by decide +kernel) (by decide +kernel), ix_in 67 (by decide +kernel) (by decide +kernel)⟩
set_option maxRecDepth 100000 in
theorem ok157 : ix_ok 157 1 := ⟨by decide +kernel, ⟨by decide +kernel, by decide +kernel, by decide +kernel⟩, ix_in 1269 (by decide +kernel) (by decide +kernel), ix_in 67 (by decide +kernel) (by decide +kernel)⟩
set_option maxRecDepth 100000 in
theorem ok158 : ix_ok 158 1 := ⟨by decide +kernel, ⟨by decide +kernel, by decide +kernel, by decide +kernel⟩, ix_in 1273 (by decide +kernel) (by decide +kernel), ix_in 67 (by decide +kernel) (by decide +kernel)⟩
set_option maxRecDepth 100000 in
theorem ok159 : ix_ok 159 2 := ⟨by decide +kernel, ⟨by decide +kernel, by decide +kernel, by decide +kernel⟩, ix_in 1277 (by decide +kernel) (by decide +kernel), ix_in 67 (by decide +kernel) (by decide +kernel)⟩
set_option maxRecDepth 100000 in
theorem ok160 : ix_ok 160 0 := ⟨by decide +kernel, ⟨by decide +kernel, by decide +kernel, by decide +kernel⟩, ix_in 1281 (by decide +kernel) (by decide +kernel), ix_in 67 (by decide +kernel) (by decide +kernel)⟩
set_option maxRecDepth 100000 in
theorem ok161 : ix_ok 161 2 := ⟨by decide +kernel, ⟨by decide +kernel, by decide +kernel, by decide +kernel⟩, ix_in 1285 (by decide +kernel) (by decide +kernel), ix_in 67 (by decide +kernel) (by decide +kernel)⟩
set_option maxRecDepth 100000 in
theorem ok162 : ix_ok 162 2 := ⟨by decide +kernel, ⟨by decide +kernel, by decide +kernel, by decide +kernel⟩, ix_in 1289 (by decide +kernel) (by decide +kernel), ix_in 67 (by decide +kernel) (by decide +kernel)⟩
set_option maxRecDepth 100000 in
theorem ok163 : ix_ok 163 2 := ⟨by decide +kernel, ⟨by decide +kernel, by decide +kernel, by decide +kernel⟩, ix_in 1293 (by decide +kernel) (by decide +kernel), ix_in 67 (by decide +kernel) (by decide +kernel)⟩
set_option maxRecDepth 100000 in
theorem ok164 : ix_ok 164 2 := ⟨by decide +kernel, ⟨by decide +kernel, by decide +kernel, by decide +kernel⟩, ix_in 1297 (by decide +kernel) (by decide +kernel), ix_in 67 (by decide +kernel) (by decide +kernel)⟩
theorem cl1_15 : ix_IL "FileDelivery" 15 2 := ⟨Or.inr ⟨"FileDelivery", ix_in 96 (by decide +kernel) (by decide +kernel)⟩, ix_in 97 (by decide +kernel) (by decide +kernel), rfl, rfl⟩
theorem cl1_22 : ix_IL "FileDelivery" 22 7 := ⟨Or.inr ⟨"FileDelivery", ix_in 163 (by decide +kernel) (by decide +kernel)⟩, ix_in 164 (by decide +kernel) (by decide +kernel), rfl, rfl⟩
theorem cl1_30 : ix_SL "FileDelivery" 30 9 := ⟨Or.inl (ix_in 194 (by decide +kernel) (by decide +kernel)), ix_in 195 (by decide +kernel) (by decide +kernel)⟩
theorem cl1_38 : ix_VL "FileDelivery" 38 12 5 := ⟨ix_in 203 (by decide +kernel) (by decide +kernel), ix_in 204 (by decide +kernel) (by decide +kernel), ix_in 205 (by decide +kernel) (by decide +kernel), by decide, rfl, rfl⟩
theorem cl1_44 : ix_VL "FileDelivery" 44 13 5 := ⟨ix_in 207 (by decide +kernel) (by decide +kernel), ix_in 208 (by decide +kernel) (by decide +kernel), ix_in 209 (by decide +kernel) (by decide +kernel), by decide, rfl, rfl⟩
theorem cl1_60 : ix_VL "FileDelivery" 60 84 4 := ⟨ix_in 778 (by decide +kernel) (by decide +kernel), ix_in 605 (by decide +kernel) (by decide +kernel), ix_in 606 (by decide +kernel) (by decide +kernel), by decide, rfl, rfl⟩
theorem cl1_63 : ix_VL "FileDelivery" 63 16 5 := ⟨ix_in 219 (by decide +kernel) (by decide +kernel), ix_in 220 (by decide +kernel) (by decide +kernel), ix_in 221 (by decide +kernel) (by decide +kernel), by decide, rfl, rfl⟩
theorem cl1_72 : ix_VL "FileDelivery" 72 104 5 := ⟨ix_in 795 (by decide +kernel) (by decide +kernel), ix_in 796 (by decide +kernel) (by decide +kernel), ix_in 797 (by decide +kernel) (by decide +kernel), by decide, rfl, rfl⟩
theorem cl1_76 : ix_VL "FileDelivery" 76 15 0 := ⟨ix_in 215 (by decide +kernel) (by decide +kernel), ix_in 217 (by decide +kernel) (by decide +kernel), ix_in 0 (by decide +kernel) (by decide +kernel), by decide, rfl, rfl⟩
theorem cl1_81 : ix_VL "FileDelivery" 81 88 5 := ⟨ix_in 807 (by decide +kernel) (by decide +kernel), ix_in 624 (by decide +kernel) (by decide +kernel), ix_in 625 (by decide +kernel) (by decide +kernel), by decide, rfl, rfl⟩
theorem cl1_89 : ix_VL "FileDelivery" 89 41 5 := ⟨ix_in 832 (by decide +kernel) (by decide +kernel), ix_in 354 (by decide +kernel) (by decide +kernel), ix_in 355 (by decide +kernel) (by decide +kernel), by decide, rfl, rfl⟩
theorem cl1_93 : ix_SL "FileDelivery" 93 11 := ⟨Or.inl (ix_in 200 (by decide +kernel) (by decide +kernel)), ix_in 201 (by decide +kernel) (by decide +kernel)⟩
theorem cl1_104 : ix_VL "FileDelivery" 104 20 9 := ⟨ix_in 471 (by decide +kernel) (by decide +kernel), ix_in 236 (by decide +kernel) (by decide +kernel), ix_in 237 (by decide +kernel) (by decide +kernel), by decide, rfl, rfl⟩
theorem cl1_117 : ix_IL "FileDelivery" 117 111 := ⟨Or.inl (ix_in 845 (by decide +kernel) (by decide +kernel)), ix_in 846 (by decide +kernel) (by decide +kernel), rfl, rfl⟩
theorem cl1_122 : ix_IL "FileDelivery" 122 112 := ⟨Or.inl (ix_in 884 (by decide +kernel) (by decide +kernel)), ix_in 885 (by decide +kernel) (by decide +kernel), rfl, rfl⟩
theorem cl1_125 : ix_VL "FileDelivery" 125 113 4 := ⟨ix_in 941 (by decide +kernel) (by decide +kernel), ix_in 942 (by decide +kernel) (by decide +kernel), ix_in 943 (by decide +kernel) (by decide +kernel), by decide, rfl, rfl⟩
theorem cl1_129 : ix_VL "FileDelivery" 129 18 0 := ⟨ix_in 227 (by decide +kernel) (by decide +kernel), ix_in 229 (by decide +kernel) (by decide +kernel), ix_in 1 (by decide +kernel) (by decide +kernel), by decide, rfl, rfl⟩
theorem cl1_133 : ix_VL "FileDelivery" 133 25 3 := ⟨ix_in 254 (by decide +kernel) (by decide +kernel), ix_in 255 (by decide +kernel) (by decide +kernel), ix_in 256 (by decide +kernel) (by decide +kernel), by decide, rfl, rfl⟩
theorem cl1_137 : ix_VL "FileDelivery" 137 28 3 := ⟨ix_in 266 (by decide +kernel) (by decide +kernel), ix_in 267 (by decide +kernel) (by decide +kernel), ix_in 268 (by decide +kernel) (by decide +kernel), by decide, rfl, rfl⟩
theorem cl1_141 : ix_VL "FileDelivery" 141 30 4 := ⟨ix_in 274 (by decide +kernel) (by decide +kernel), ix_in 275 (by decide +kernel) (by decide +kernel), ix_in 276 (by decide +kernel) (by decide +kernel), by decide, rfl, rfl⟩
theorem cl1_144 : ix_VL "FileDelivery" 144 61 1 := ⟨ix_in 442 (by decide +kernel) (by decide +kernel), ix_in 443 (by decide +kernel) (by decide +kernel), ix_in 444 (by decide +kernel) (by decide +kernel), by decide, rfl, rfl⟩
theorem cl1_160 : ix_VL "FileDelivery" 160 63 0 := ⟨ix_in 450 (by decide +kernel) (by decide +kernel), ix_in 452 (by decide +kernel) (by decide +kernel), ix_in 16 (by decide +kernel) (by decide +kernel), by decide, rfl, rfl⟩
theorem cl1_164 : ix_VL "FileDelivery" 164 66 0 := ⟨ix_in 463 (by decide +kernel) (by decide +kernel), ix_in 465 (by decide +kernel) (by decide +kernel), ix_in 18 (by decide +kernel) (by decide +kernel), by decide, rfl, rfl⟩
theorem cl1_167 : ix_VL "FileDelivery" 167 62 1 := ⟨ix_in 639 (by decide +kernel) (by decide +kernel), ix_in 447 (by decide +kernel) (by decide +kernel), ix_in 448 (by decide +kernel) (by decide +kernel), by decide, rfl, rfl⟩
theorem cl1_170 : ix_VL "FileDelivery" 170 92 1 := ⟨ix_in 640 (by decide +kernel) (by decide +kernel), ix_in 641 (by decide +kernel) (by decide +kernel), ix_in 642 (by decide +kernel) (by decide +kernel), by decide, rfl, rfl⟩
theorem cl1_173 : ix_VL "FileDelivery" 173 93 7 := ⟨ix_in 644 (by decide +kernel) (by decide +kernel), ix_in 645 (by decide +kernel) (by decide +kernel), ix_in 646 (by decide +kernel) (by decide +kernel), by decide, rfl, rfl⟩
theorem cl1_177 : ix_VL "FileDelivery" 177 37 1 := ⟨ix_in 650 (by decide +kernel) (by decide +kernel), ix_in 337 (by decide +kernel) (by decide +kernel), ix_in 338 (by decide +kernel) (by decide +kernel), by decide, rfl, rfl⟩
theorem cl1_195 : ix_VL "FileDelivery" 195 26 3 := ⟨ix_in 667 (by decide +kernel) (by decide +kernel), ix_in 259 (by decide +kernel) (by decide +kernel), ix_in 260 (by decide +kernel) (by decide +kernel), by decide, rfl, rfl⟩
theorem cl1_201 : ix_VL "FileDelivery" 201 99 0 := ⟨ix_in 672 (by decide +kernel) (by decide +kernel), ix_in 674 (by decide +kernel) (by decide +kernel), ix_in 29 (by decide +kernel) (by decide +kernel), by decide, rfl, rfl⟩
theorem cl1_212 : ix_VL "FileDelivery" 212 49 2 := ⟨ix_in 676 (by decide +kernel) (by decide +kernel), ix_in 387 (by decide +kernel) (by decide +kernel), ix_in 388 (by decide +kernel) (by decide +kernel), by decide, rfl, rfl⟩
theorem cl1_218 : ix_SL "FileDelivery" 218 10 := ⟨Or.inl (ix_in 197 (by decide +kernel) (by decide +kernel)), ix_in 198 (by decide +kernel) (by decide +kernel)⟩
theorem cl1_221 : ix_VL "FileDelivery" 221 19 4 := ⟨ix_in 231 (by decide +kernel) (by decide +kernel), ix_in 232 (by decide +kernel) (by decide +kernel), ix_in 233 (by decide +kernel) (by decide +kernel), by decide, rfl, rfl⟩
theorem cl1_230 : ix_VL "FileDelivery" 230 64 3 := ⟨ix_in 454 (by decide +kernel) (by decide +kernel), ix_in 455 (by decide +kernel) (by decide +kernel), ix_in 456 (by decide +kernel) (by decide +kernel), by decide, rfl, rfl⟩
theorem cl1_233 : ix_VL "FileDelivery" 233 57 4 := ⟨ix_in 462 (by decide +kernel) (by decide +kernel), ix_in 423 (by decide +kernel) (by decide +kernel), ix_in 424 (by decide +kernel) (by decide +kernel), by decide, rfl, rfl⟩
theorem cl1_236 : ix_VL "FileDelivery" 236 67 0 := ⟨ix_in 467 (by decide +kernel) (by decide +kernel), ix_in 469 (by decide +kernel) (by decide +kernel), ix_in 19 (by decide +kernel) (by decide +kernel), by decide, rfl, rfl⟩
theorem cl1_240 : ix_VL "FileDelivery" 240 79 2 := ⟨ix_in 583 (by decide +kernel) (by decide +kernel), ix_in 584 (by decide +kernel) (by decide +kernel), ix_in 585 (by decide +kernel) (by decide +kernel), by decide, rfl, rfl⟩
theorem cl1_246 : ix_IL "FileDelivery" 246 68 := ⟨Or.inl (ix_in 473 (by decide +kernel) (by decide +kernel)), ix_in 474 (by decide +kernel) (by decide +kernel), rfl, rfl⟩
theorem cl1_249 : ix_VL "FileDelivery" 249 69 9 := ⟨ix_in 524 (by decide +kernel) (by decide +kernel), ix_in 525 (by decide +kernel) (by decide +kernel), ix_in 526 (by decide +kernel) (by decide +kernel), by decide, rfl, rfl⟩
theorem cl7_21 : ix_VL "FileDelivery$Link" 21 62 1 := ⟨ix_in 446 (by decide +kernel) (by decide +kernel), ix_in 447 (by decide +kernel) (by decide +kernel), ix_in 448 (by decide +kernel) (by decide +kernel), by decide, rfl, rfl⟩
theorem cl13_44 : ix_VL "FileDelivery$Receiver" 44 49 2 := ⟨ix_in 386 (by decide +kernel) (by decide +kernel), ix_in 387 (by decide +kernel) (by decide +kernel), ix_in 388 (by decide +kernel) (by decide +kernel), by decide, rfl, rfl⟩
theorem cl13_48 : ix_VL "FileDelivery$Receiver" 48 50 2 := ⟨ix_in 390 (by decide +kernel) (by decide +kernel), ix_in 392 (by decide +kernel) (by decide +kernel), ix_in 9 (by decide +kernel) (by decide +kernel), by decide, rfl, rfl⟩
theorem cl13_52 : ix_VL "FileDelivery$Receiver" 52 45 6 := ⟨ix_in 406 (by decide +kernel) (by decide +kernel), ix_in 370 (by decide +kernel) (by decide +kernel), ix_in 371 (by decide +kernel) (by decide +kernel), by decide, rfl, rfl⟩
theorem cl13_60 : ix_VL "FileDelivery$Receiver" 60 53 2 := ⟨ix_in 407 (by decide +kernel) (by decide +kernel), ix_in 409 (by decide +kernel) (by decide +kernel), ix_in 12 (by decide +kernel) (by decide +kernel), by decide, rfl, rfl⟩
theorem cl13_64 : ix_VL "FileDelivery$Receiver" 64 56 2 := ⟨ix_in 418 (by decide +kernel) (by decide +kernel), ix_in 420 (by decide +kernel) (by decide +kernel), ix_in 14 (by decide +kernel) (by decide +kernel), by decide, rfl, rfl⟩
theorem cl13_67 : ix_VL "FileDelivery$Receiver" 67 51 2 := ⟨ix_in 395 (by decide +kernel) (by decide +kernel), ix_in 397 (by decide +kernel) (by decide +kernel), ix_in 10 (by decide +kernel) (by decide +kernel), by decide, rfl, rfl⟩
theorem cl13_75 : ix_VL "FileDelivery$Receiver" 75 52 2 := ⟨ix_in 399 (by decide +kernel) (by decide +kernel), ix_in 401 (by decide +kernel) (by decide +kernel), ix_in 11 (by decide +kernel) (by decide +kernel), by decide, rfl, rfl⟩
theorem cl13_79 : ix_VL "FileDelivery$Receiver" 79 80 2 := ⟨ix_in 587 (by decide +kernel) (by decide +kernel), ix_in 589 (by decide +kernel) (by decide +kernel), ix_in 23 (by decide +kernel) (by decide +kernel), by decide, rfl, rfl⟩
theorem cl13_86 : ix_VL "FileDelivery$Receiver" 86 82 2 := ⟨ix_in 595 (by decide +kernel) (by decide +kernel), ix_in 597 (by decide +kernel) (by decide +kernel), ix_in 25 (by decide +kernel) (by decide +kernel), by decide, rfl, rfl⟩
theorem cl13_89 : ix_VL "FileDelivery$Receiver" 89 83 2 := ⟨ix_in 599 (by decide +kernel) (by decide +kernel), ix_in 601 (by decide +kernel) (by decide +kernel), ix_in 26 (by decide +kernel) (by decide +kernel), by decide, rfl, rfl⟩
theorem cl13_93 : ix_VL "FileDelivery$Receiver" 93 89 2 := ⟨ix_in 627 (by decide +kernel) (by decide +kernel), ix_in 629 (by decide +kernel) (by decide +kernel), ix_in 28 (by decide +kernel) (by decide +kernel), by decide, rfl, rfl⟩
theorem cl13_99 : ix_VL "FileDelivery$Receiver" 99 81 2 := ⟨ix_in 591 (by decide +kernel) (by decide +kernel), ix_in 593 (by decide +kernel) (by decide +kernel), ix_in 24 (by decide +kernel) (by decide +kernel), by decide, rfl, rfl⟩
theorem cl13_114 : ix_SL "FileDelivery$Receiver" 114 55 := ⟨Or.inr ⟨"FileDelivery", ix_in 415 (by decide +kernel) (by decide +kernel)⟩, ix_in 416 (by decide +kernel) (by decide +kernel)⟩
theorem cl13_118 : ix_VL "FileDelivery$Receiver" 118 54 2 := ⟨ix_in 411 (by decide +kernel) (by decide +kernel), ix_in 413 (by decide +kernel) (by decide +kernel), ix_in 13 (by decide +kernel) (by decide +kernel), by decide, rfl, rfl⟩
theorem cl13_121 : ix_SL "FileDelivery$Receiver" 121 44 := ⟨Or.inr ⟨"FileDelivery", ix_in 603 (by decide +kernel) (by decide +kernel)⟩, ix_in 367 (by decide +kernel) (by decide +kernel)⟩
theorem cl13_128 : ix_VL "FileDelivery$Receiver" 128 84 4 := ⟨ix_in 604 (by decide +kernel) (by decide +kernel), ix_in 605 (by decide +kernel) (by decide +kernel), ix_in 606 (by decide +kernel) (by decide +kernel), by decide, rfl, rfl⟩
theorem cl13_138 : ix_VL "FileDelivery$Receiver" 138 85 5 := ⟨ix_in 608 (by decide +kernel) (by decide +kernel), ix_in 609 (by decide +kernel) (by decide +kernel), ix_in 610 (by decide +kernel) (by decide +kernel), by decide, rfl, rfl⟩
theorem cl13_147 : ix_VL "FileDelivery$Receiver" 147 86 2 := ⟨ix_in 613 (by decide +kernel) (by decide +kernel), ix_in 615 (by decide +kernel) (by decide +kernel), ix_in 27 (by decide +kernel) (by decide +kernel), by decide, rfl, rfl⟩
theorem cl13_156 : ix_VL "FileDelivery$Receiver" 156 87 5 := ⟨ix_in 617 (by decide +kernel) (by decide +kernel), ix_in 618 (by decide +kernel) (by decide +kernel), ix_in 619 (by decide +kernel) (by decide +kernel), by decide, rfl, rfl⟩
theorem cl13_159 : ix_VL "FileDelivery$Receiver" 159 12 5 := ⟨ix_in 622 (by decide +kernel) (by decide +kernel), ix_in 204 (by decide +kernel) (by decide +kernel), ix_in 205 (by decide +kernel) (by decide +kernel), by decide, rfl, rfl⟩
theorem cl13_162 : ix_VL "FileDelivery$Receiver" 162 88 5 := ⟨ix_in 623 (by decide +kernel) (by decide +kernel), ix_in 624 (by decide +kernel) (by decide +kernel), ix_in 625 (by decide +kernel) (by decide +kernel), by decide, rfl, rfl⟩
theorem cl13_168 : ix_IL "FileDelivery$Receiver" 168 36 := ⟨Or.inl (ix_in 404 (by decide +kernel) (by decide +kernel)), ix_in 302 (by decide +kernel) (by decide +kernel), rfl, rfl⟩
theorem cl13_171 : ix_VL "FileDelivery$Receiver" 171 37 1 := ⟨ix_in 405 (by decide +kernel) (by decide +kernel), ix_in 337 (by decide +kernel) (by decide +kernel), ix_in 338 (by decide +kernel) (by decide +kernel), by decide, rfl, rfl⟩
theorem cl10_35 : ix_VL "FileDelivery$Sender" 35 16 5 := ⟨ix_in 361 (by decide +kernel) (by decide +kernel), ix_in 220 (by decide +kernel) (by decide +kernel), ix_in 221 (by decide +kernel) (by decide +kernel), by decide, rfl, rfl⟩
theorem cl10_41 : ix_SL "FileDelivery$Sender" 41 55 := ⟨Or.inr ⟨"FileDelivery", ix_in 888 (by decide +kernel) (by decide +kernel)⟩, ix_in 416 (by decide +kernel) (by decide +kernel)⟩
theorem cl10_50 : ix_VL "FileDelivery$Sender" 50 26 3 := ⟨ix_in 258 (by decide +kernel) (by decide +kernel), ix_in 259 (by decide +kernel) (by decide +kernel), ix_in 260 (by decide +kernel) (by decide +kernel), by decide, rfl, rfl⟩
theorem cl10_76 : ix_VL "FileDelivery$Sender" 76 32 3 := ⟨ix_in 282 (by decide +kernel) (by decide +kernel), ix_in 284 (by decide +kernel) (by decide +kernel), ix_in 2 (by decide +kernel) (by decide +kernel), by decide, rfl, rfl⟩
theorem cl10_79 : ix_VL "FileDelivery$Sender" 79 46 3 := ⟨ix_in 373 (by decide +kernel) (by decide +kernel), ix_in 375 (by decide +kernel) (by decide +kernel), ix_in 7 (by decide +kernel) (by decide +kernel), by decide, rfl, rfl⟩
theorem cl10_82 : ix_VL "FileDelivery$Sender" 82 47 3 := ⟨ix_in 377 (by decide +kernel) (by decide +kernel), ix_in 379 (by decide +kernel) (by decide +kernel), ix_in 8 (by decide +kernel) (by decide +kernel), by decide, rfl, rfl⟩
theorem cl10_88 : ix_VL "FileDelivery$Sender" 88 33 3 := ⟨ix_in 287 (by decide +kernel) (by decide +kernel), ix_in 289 (by decide +kernel) (by decide +kernel), ix_in 3 (by decide +kernel) (by decide +kernel), by decide, rfl, rfl⟩
theorem cl10_91 : ix_VL "FileDelivery$Sender" 91 38 3 := ⟨ix_in 340 (by decide +kernel) (by decide +kernel), ix_in 342 (by decide +kernel) (by decide +kernel), ix_in 5 (by decide +kernel) (by decide +kernel), by decide, rfl, rfl⟩
theorem cl10_95 : ix_VL "FileDelivery$Sender" 95 42 3 := ⟨ix_in 357 (by decide +kernel) (by decide +kernel), ix_in 359 (by decide +kernel) (by decide +kernel), ix_in 6 (by decide +kernel) (by decide +kernel), by decide, rfl, rfl⟩
theorem cl10_98 : ix_VL "FileDelivery$Sender" 98 45 6 := ⟨ix_in 369 (by decide +kernel) (by decide +kernel), ix_in 370 (by decide +kernel) (by decide +kernel), ix_in 371 (by decide +kernel) (by decide +kernel), by decide, rfl, rfl⟩
theorem cl10_107 : ix_VL "FileDelivery$Sender" 107 34 3 := ⟨ix_in 291 (by decide +kernel) (by decide +kernel), ix_in 293 (by decide +kernel) (by decide +kernel), ix_in 4 (by decide +kernel) (by decide +kernel), by decide, rfl, rfl⟩
theorem cl10_111 : ix_VL "FileDelivery$Sender" 111 39 5 := ⟨ix_in 344 (by decide +kernel) (by decide +kernel), ix_in 345 (by decide +kernel) (by decide +kernel), ix_in 346 (by decide +kernel) (by decide +kernel), by decide, rfl, rfl⟩
theorem cl10_115 : ix_VL "FileDelivery$Sender" 115 40 5 := ⟨ix_in 348 (by decide +kernel) (by decide +kernel), ix_in 349 (by decide +kernel) (by decide +kernel), ix_in 350 (by decide +kernel) (by decide +kernel), by decide, rfl, rfl⟩
theorem cl10_118 : ix_VL "FileDelivery$Sender" 118 43 5 := ⟨ix_in 362 (by decide +kernel) (by decide +kernel), ix_in 363 (by decide +kernel) (by decide +kernel), ix_in 364 (by decide +kernel) (by decide +kernel), by decide, rfl, rfl⟩
theorem cl10_123 : ix_VL "FileDelivery$Sender" 123 35 6 := ⟨ix_in 297 (by decide +kernel) (by decide +kernel), ix_in 298 (by decide +kernel) (by decide +kernel), ix_in 299 (by decide +kernel) (by decide +kernel), by decide, rfl, rfl⟩
theorem cl10_127 : ix_IL "FileDelivery$Sender" 127 36 := ⟨Or.inl (ix_in 301 (by decide +kernel) (by decide +kernel)), ix_in 302 (by decide +kernel) (by decide +kernel), rfl, rfl⟩
theorem cl10_130 : ix_VL "FileDelivery$Sender" 130 37 1 := ⟨ix_in 336 (by decide +kernel) (by decide +kernel), ix_in 337 (by decide +kernel) (by decide +kernel), ix_in 338 (by decide +kernel) (by decide +kernel), by decide, rfl, rfl⟩
theorem cl10_142 : ix_VL "FileDelivery$Sender" 142 65 3 := ⟨ix_in 458 (by decide +kernel) (by decide +kernel), ix_in 460 (by decide +kernel) (by decide +kernel), ix_in 17 (by decide +kernel) (by decide +kernel), by decide, rfl, rfl⟩
theorem cl2_9 : ix_IL "FileDelivery$Side" 9 3 := ⟨Or.inl (ix_in 102 (by decide +kernel) (by decide +kernel)), ix_in 103 (by decide +kernel) (by decide +kernel), rfl, rfl⟩
theorem cl2_18 : ix_IL "FileDelivery$Side" 18 4 := ⟨Or.inl (ix_in 119 (by decide +kernel) (by decide +kernel)), ix_in 120 (by decide +kernel) (by decide +kernel), rfl, rfl⟩
theorem cl2_29 : ix_VL "FileDelivery$Side" 29 69 9 := ⟨ix_in 945 (by decide +kernel) (by decide +kernel), ix_in 525 (by decide +kernel) (by decide +kernel), ix_in 526 (by decide +kernel) (by decide +kernel), by decide, rfl, rfl⟩
theorem cl2_33 : ix_VL "FileDelivery$Side" 33 20 9 := ⟨ix_in 235 (by decide +kernel) (by decide +kernel), ix_in 236 (by decide +kernel) (by decide +kernel), ix_in 237 (by decide +kernel) (by decide +kernel), by decide, rfl, rfl⟩
theorem cl2_37 : ix_VL "FileDelivery$Side" 37 21 9 := ⟨ix_in 239 (by decide +kernel) (by decide +kernel), ix_in 240 (by decide +kernel) (by decide +kernel), ix_in 241 (by decide +kernel) (by decide +kernel), by decide, rfl, rfl⟩
theorem cl2_53 : ix_VL "FileDelivery$Side" 53 31 3 := ⟨ix_in 278 (by decide +kernel) (by decide +kernel), ix_in 279 (by decide +kernel) (by decide +kernel), ix_in 280 (by decide +kernel) (by decide +kernel), by decide, rfl, rfl⟩
theorem cl2_58 : ix_VL "FileDelivery$Side" 58 48 2 := ⟨ix_in 382 (by decide +kernel) (by decide +kernel), ix_in 383 (by decide +kernel) (by decide +kernel), ix_in 384 (by decide +kernel) (by decide +kernel), by decide, rfl, rfl⟩
theorem cl2_61 : ix_VL "FileDelivery$Side" 61 57 4 := ⟨ix_in 422 (by decide +kernel) (by decide +kernel), ix_in 423 (by decide +kernel) (by decide +kernel), ix_in 424 (by decide +kernel) (by decide +kernel), by decide, rfl, rfl⟩
theorem cl2_64 : ix_VL "FileDelivery$Side" 64 26 3 := ⟨ix_in 426 (by decide +kernel) (by decide +kernel), ix_in 259 (by decide +kernel) (by decide +kernel), ix_in 260 (by decide +kernel) (by decide +kernel), by decide, rfl, rfl⟩
theorem cl2_68 : ix_VL "FileDelivery$Side" 68 58 9 := ⟨ix_in 427 (by decide +kernel) (by decide +kernel), ix_in 428 (by decide +kernel) (by decide +kernel), ix_in 429 (by decide +kernel) (by decide +kernel), by decide, rfl, rfl⟩
theorem cl3_20 : ix_SL "FileDelivery$Store" 20 44 := ⟨Or.inr ⟨"FileDelivery", ix_in 366 (by decide +kernel) (by decide +kernel)⟩, ix_in 367 (by decide +kernel) (by decide +kernel)⟩
theorem cl3_24 : ix_VL "FileDelivery$Store" 24 39 5 := ⟨ix_in 352 (by decide +kernel) (by decide +kernel), ix_in 345 (by decide +kernel) (by decide +kernel), ix_in 346 (by decide +kernel) (by decide +kernel), by decide, rfl, rfl⟩
theorem cl3_28 : ix_VL "FileDelivery$Store" 28 41 5 := ⟨ix_in 353 (by decide +kernel) (by decide +kernel), ix_in 354 (by decide +kernel) (by decide +kernel), ix_in 355 (by decide +kernel) (by decide +kernel), by decide, rfl, rfl⟩
theorem cl3_37 : ix_VL "FileDelivery$Store" 37 85 5 := ⟨ix_in 621 (by decide +kernel) (by decide +kernel), ix_in 609 (by decide +kernel) (by decide +kernel), ix_in 610 (by decide +kernel) (by decide +kernel), by decide, rfl, rfl⟩
theorem cl12_29 : ix_IL "FileDelivery$Unit" 29 36 := ⟨Or.inl (ix_in 649 (by decide +kernel) (by decide +kernel)), ix_in 302 (by decide +kernel) (by decide +kernel), rfl, rfl⟩
theorem cl0_7 : ix_VL "FileDeliveryLaw" 7 103 0 := ⟨ix_in 690 (by decide +kernel) (by decide +kernel), ix_in 691 (by decide +kernel) (by decide +kernel), ix_in 692 (by decide +kernel) (by decide +kernel), by decide, rfl, rfl⟩
theorem cl0_19 : ix_VL "FileDeliveryLaw" 19 106 0 := ⟨ix_in 802 (by decide +kernel) (by decide +kernel), ix_in 803 (by decide +kernel) (by decide +kernel), ix_in 804 (by decide +kernel) (by decide +kernel), by decide, rfl, rfl⟩
theorem cl0_23 : ix_VL "FileDeliveryLaw" 23 108 0 := ⟨ix_in 812 (by decide +kernel) (by decide +kernel), ix_in 813 (by decide +kernel) (by decide +kernel), ix_in 814 (by decide +kernel) (by decide +kernel), by decide, rfl, rfl⟩
theorem cl0_29 : ix_VL "FileDeliveryLaw" 29 110 0 := ⟨ix_in 836 (by decide +kernel) (by decide +kernel), ix_in 837 (by decide +kernel) (by decide +kernel), ix_in 838 (by decide +kernel) (by decide +kernel), by decide, rfl, rfl⟩
theorem cl0_33 : ix_SL "FileDeliveryLaw" 33 101 := ⟨Or.inl (ix_in 681 (by decide +kernel) (by decide +kernel)), ix_in 682 (by decide +kernel) (by decide +kernel)⟩
theorem cl0_39 : ix_IL "FileDeliveryLaw" 39 1 := ⟨Or.inl (ix_in 87 (by decide +kernel) (by decide +kernel)), ix_in 88 (by decide +kernel) (by decide +kernel), rfl, rfl⟩
theorem cl0_44 : ix_IL "FileDeliveryLaw" 44 114 := ⟨Or.inl (ix_in 948 (by decide +kernel) (by decide +kernel)), ix_in 949 (by decide +kernel) (by decide +kernel), rfl, rfl⟩
theorem cl0_45 : ix_VL "FileDeliveryLaw" 45 8 0 := ⟨ix_in 190 (by decide +kernel) (by decide +kernel), ix_in 191 (by decide +kernel) (by decide +kernel), ix_in 192 (by decide +kernel) (by decide +kernel), by decide, rfl, rfl⟩
theorem cl0_48 : ix_VL "FileDeliveryLaw" 48 116 8 := ⟨ix_in 1102 (by decide +kernel) (by decide +kernel), ix_in 1103 (by decide +kernel) (by decide +kernel), ix_in 1104 (by decide +kernel) (by decide +kernel), by decide, rfl, rfl⟩
theorem cl0_54 : ix_VL "FileDeliveryLaw" 54 119 8 := ⟨ix_in 1112 (by decide +kernel) (by decide +kernel), ix_in 1113 (by decide +kernel) (by decide +kernel), ix_in 1114 (by decide +kernel) (by decide +kernel), by decide, rfl, rfl⟩
theorem cl0_55 : ix_VL "FileDeliveryLaw" 55 115 8 := ⟨ix_in 1098 (by decide +kernel) (by decide +kernel), ix_in 1099 (by decide +kernel) (by decide +kernel), ix_in 1100 (by decide +kernel) (by decide +kernel), by decide, rfl, rfl⟩
theorem cl0_62 : ix_VL "FileDeliveryLaw" 62 122 8 := ⟨ix_in 1125 (by decide +kernel) (by decide +kernel), ix_in 1126 (by decide +kernel) (by decide +kernel), ix_in 1127 (by decide +kernel) (by decide +kernel), by decide, rfl, rfl⟩
theorem cl0_63 : ix_VL "FileDeliveryLaw" 63 14 0 := ⟨ix_in 211 (by decide +kernel) (by decide +kernel), ix_in 212 (by decide +kernel) (by decide +kernel), ix_in 213 (by decide +kernel) (by decide +kernel), by decide, rfl, rfl⟩
theorem cl0_67 : ix_VL "FileDeliveryLaw" 67 123 8 := ⟨ix_in 1129 (by decide +kernel) (by decide +kernel), ix_in 1130 (by decide +kernel) (by decide +kernel), ix_in 1131 (by decide +kernel) (by decide +kernel), by decide, rfl, rfl⟩
theorem cl0_71 : ix_VL "FileDeliveryLaw" 71 124 8 := ⟨ix_in 1133 (by decide +kernel) (by decide +kernel), ix_in 1134 (by decide +kernel) (by decide +kernel), ix_in 1135 (by decide +kernel) (by decide +kernel), by decide, rfl, rfl⟩
theorem cl0_75 : ix_VL "FileDeliveryLaw" 75 125 8 := ⟨ix_in 1137 (by decide +kernel) (by decide +kernel), ix_in 1138 (by decide +kernel) (by decide +kernel), ix_in 1139 (by decide +kernel) (by decide +kernel), by decide, rfl, rfl⟩
theorem cl0_76 : ix_VL "FileDeliveryLaw" 76 17 0 := ⟨ix_in 223 (by decide +kernel) (by decide +kernel), ix_in 224 (by decide +kernel) (by decide +kernel), ix_in 225 (by decide +kernel) (by decide +kernel), by decide, rfl, rfl⟩
theorem cl0_79 : ix_VL "FileDeliveryLaw" 79 126 8 := ⟨ix_in 1141 (by decide +kernel) (by decide +kernel), ix_in 1142 (by decide +kernel) (by decide +kernel), ix_in 1143 (by decide +kernel) (by decide +kernel), by decide, rfl, rfl⟩
theorem cl0_80 : ix_VL "FileDeliveryLaw" 80 27 0 := ⟨ix_in 262 (by decide +kernel) (by decide +kernel), ix_in 263 (by decide +kernel) (by decide +kernel), ix_in 264 (by decide +kernel) (by decide +kernel), by decide, rfl, rfl⟩
theorem cl0_84 : ix_VL "FileDeliveryLaw" 84 128 8 := ⟨ix_in 1149 (by decide +kernel) (by decide +kernel), ix_in 1150 (by decide +kernel) (by decide +kernel), ix_in 1151 (by decide +kernel) (by decide +kernel), by decide, rfl, rfl⟩
theorem cl0_85 : ix_VL "FileDeliveryLaw" 85 29 0 := ⟨ix_in 270 (by decide +kernel) (by decide +kernel), ix_in 271 (by decide +kernel) (by decide +kernel), ix_in 272 (by decide +kernel) (by decide +kernel), by decide, rfl, rfl⟩
theorem cl0_88 : ix_VL "FileDeliveryLaw" 88 129 8 := ⟨ix_in 1153 (by decide +kernel) (by decide +kernel), ix_in 1154 (by decide +kernel) (by decide +kernel), ix_in 1155 (by decide +kernel) (by decide +kernel), by decide, rfl, rfl⟩
theorem cl0_89 : ix_VL "FileDeliveryLaw" 89 60 0 := ⟨ix_in 438 (by decide +kernel) (by decide +kernel), ix_in 439 (by decide +kernel) (by decide +kernel), ix_in 440 (by decide +kernel) (by decide +kernel), by decide, rfl, rfl⟩
theorem cl0_93 : ix_VL "FileDeliveryLaw" 93 147 8 := ⟨ix_in 1225 (by decide +kernel) (by decide +kernel), ix_in 1226 (by decide +kernel) (by decide +kernel), ix_in 1227 (by decide +kernel) (by decide +kernel), by decide, rfl, rfl⟩
theorem cl0_94 : ix_VL "FileDeliveryLaw" 94 90 0 := ⟨ix_in 631 (by decide +kernel) (by decide +kernel), ix_in 632 (by decide +kernel) (by decide +kernel), ix_in 633 (by decide +kernel) (by decide +kernel), by decide, rfl, rfl⟩
theorem cl0_97 : ix_VL "FileDeliveryLaw" 97 157 8 := ⟨ix_in 1266 (by decide +kernel) (by decide +kernel), ix_in 1267 (by decide +kernel) (by decide +kernel), ix_in 1268 (by decide +kernel) (by decide +kernel), by decide, rfl, rfl⟩
theorem cl0_98 : ix_VL "FileDeliveryLaw" 98 91 0 := ⟨ix_in 635 (by decide +kernel) (by decide +kernel), ix_in 636 (by decide +kernel) (by decide +kernel), ix_in 637 (by decide +kernel) (by decide +kernel), by decide, rfl, rfl⟩
theorem cl0_101 : ix_VL "FileDeliveryLaw" 101 158 8 := ⟨ix_in 1270 (by decide +kernel) (by decide +kernel), ix_in 1271 (by decide +kernel) (by decide +kernel), ix_in 1272 (by decide +kernel) (by decide +kernel), by decide, rfl, rfl⟩
theorem cl0_102 : ix_VL "FileDeliveryLaw" 102 94 0 := ⟨ix_in 651 (by decide +kernel) (by decide +kernel), ix_in 652 (by decide +kernel) (by decide +kernel), ix_in 653 (by decide +kernel) (by decide +kernel), by decide, rfl, rfl⟩
theorem cl0_105 : ix_VL "FileDeliveryLaw" 105 159 8 := ⟨ix_in 1274 (by decide +kernel) (by decide +kernel), ix_in 1275 (by decide +kernel) (by decide +kernel), ix_in 1276 (by decide +kernel) (by decide +kernel), by decide, rfl, rfl⟩
theorem cl0_106 : ix_VL "FileDeliveryLaw" 106 95 0 := ⟨ix_in 655 (by decide +kernel) (by decide +kernel), ix_in 656 (by decide +kernel) (by decide +kernel), ix_in 657 (by decide +kernel) (by decide +kernel), by decide, rfl, rfl⟩
theorem cl0_109 : ix_VL "FileDeliveryLaw" 109 160 8 := ⟨ix_in 1278 (by decide +kernel) (by decide +kernel), ix_in 1279 (by decide +kernel) (by decide +kernel), ix_in 1280 (by decide +kernel) (by decide +kernel), by decide, rfl, rfl⟩
theorem cl0_110 : ix_VL "FileDeliveryLaw" 110 96 0 := ⟨ix_in 659 (by decide +kernel) (by decide +kernel), ix_in 660 (by decide +kernel) (by decide +kernel), ix_in 661 (by decide +kernel) (by decide +kernel), by decide, rfl, rfl⟩
theorem cl0_113 : ix_VL "FileDeliveryLaw" 113 161 8 := ⟨ix_in 1282 (by decide +kernel) (by decide +kernel), ix_in 1283 (by decide +kernel) (by decide +kernel), ix_in 1284 (by decide +kernel) (by decide +kernel), by decide, rfl, rfl⟩
theorem cl0_114 : ix_VL "FileDeliveryLaw" 114 97 0 := ⟨ix_in 663 (by decide +kernel) (by decide +kernel), ix_in 664 (by decide +kernel) (by decide +kernel), ix_in 665 (by decide +kernel) (by decide +kernel), by decide, rfl, rfl⟩
theorem cl0_117 : ix_VL "FileDeliveryLaw" 117 162 8 := ⟨ix_in 1286 (by decide +kernel) (by decide +kernel), ix_in 1287 (by decide +kernel) (by decide +kernel), ix_in 1288 (by decide +kernel) (by decide +kernel), by decide, rfl, rfl⟩
theorem cl0_118 : ix_VL "FileDeliveryLaw" 118 98 0 := ⟨ix_in 668 (by decide +kernel) (by decide +kernel), ix_in 669 (by decide +kernel) (by decide +kernel), ix_in 670 (by decide +kernel) (by decide +kernel), by decide, rfl, rfl⟩
theorem cl0_121 : ix_VL "FileDeliveryLaw" 121 163 8 := ⟨ix_in 1290 (by decide +kernel) (by decide +kernel), ix_in 1291 (by decide +kernel) (by decide +kernel), ix_in 1292 (by decide +kernel) (by decide +kernel), by decide, rfl, rfl⟩
theorem cl0_122 : ix_VL "FileDeliveryLaw" 122 100 0 := ⟨ix_in 677 (by decide +kernel) (by decide +kernel), ix_in 678 (by decide +kernel) (by decide +kernel), ix_in 679 (by decide +kernel) (by decide +kernel), by decide, rfl, rfl⟩
theorem cl0_125 : ix_VL "FileDeliveryLaw" 125 164 8 := ⟨ix_in 1294 (by decide +kernel) (by decide +kernel), ix_in 1295 (by decide +kernel) (by decide +kernel), ix_in 1296 (by decide +kernel) (by decide +kernel), by decide, rfl, rfl⟩
theorem cl17_147 : ix_SL "FileDeliveryModel" 147 118 := ⟨Or.inl (ix_in 1109 (by decide +kernel) (by decide +kernel)), ix_in 1110 (by decide +kernel) (by decide +kernel)⟩
theorem cl17_151 : ix_SL "FileDeliveryModel" 151 117 := ⟨Or.inl (ix_in 1106 (by decide +kernel) (by decide +kernel)), ix_in 1107 (by decide +kernel) (by decide +kernel)⟩
theorem cl17_155 : ix_VL "FileDeliveryModel" 155 120 8 := ⟨ix_in 1116 (by decide +kernel) (by decide +kernel), ix_in 1118 (by decide +kernel) (by decide +kernel), ix_in 31 (by decide +kernel) (by decide +kernel), by decide, rfl, rfl⟩
theorem cl17_159 : ix_VL "FileDeliveryModel" 159 121 8 := ⟨ix_in 1120 (by decide +kernel) (by decide +kernel), ix_in 1122 (by decide +kernel) (by decide +kernel), ix_in 32 (by decide +kernel) (by decide +kernel), by decide, rfl, rfl⟩
theorem cl17_164 : ix_SL "FileDeliveryModel" 164 132 := ⟨Or.inl (ix_in 1165 (by decide +kernel) (by decide +kernel)), ix_in 1166 (by decide +kernel) (by decide +kernel)⟩
theorem cl17_167 : ix_VL "FileDeliveryModel" 167 135 8 := ⟨ix_in 1176 (by decide +kernel) (by decide +kernel), ix_in 1178 (by decide +kernel) (by decide +kernel), ix_in 38 (by decide +kernel) (by decide +kernel), by decide, rfl, rfl⟩
theorem cl17_174 : ix_VL "FileDeliveryModel" 174 127 8 := ⟨ix_in 1145 (by decide +kernel) (by decide +kernel), ix_in 1147 (by decide +kernel) (by decide +kernel), ix_in 33 (by decide +kernel) (by decide +kernel), by decide, rfl, rfl⟩
theorem cl17_177 : ix_VL "FileDeliveryModel" 177 136 8 := ⟨ix_in 1180 (by decide +kernel) (by decide +kernel), ix_in 1182 (by decide +kernel) (by decide +kernel), ix_in 39 (by decide +kernel) (by decide +kernel), by decide, rfl, rfl⟩
theorem cl17_181 : ix_VL "FileDeliveryModel" 181 131 8 := ⟨ix_in 1161 (by decide +kernel) (by decide +kernel), ix_in 1163 (by decide +kernel) (by decide +kernel), ix_in 35 (by decide +kernel) (by decide +kernel), by decide, rfl, rfl⟩
theorem cl17_184 : ix_VL "FileDeliveryModel" 184 134 8 := ⟨ix_in 1172 (by decide +kernel) (by decide +kernel), ix_in 1174 (by decide +kernel) (by decide +kernel), ix_in 37 (by decide +kernel) (by decide +kernel), by decide, rfl, rfl⟩
theorem cl17_187 : ix_VL "FileDeliveryModel" 187 137 8 := ⟨ix_in 1184 (by decide +kernel) (by decide +kernel), ix_in 1186 (by decide +kernel) (by decide +kernel), ix_in 40 (by decide +kernel) (by decide +kernel), by decide, rfl, rfl⟩
theorem cl17_191 : ix_VL "FileDeliveryModel" 191 133 8 := ⟨ix_in 1168 (by decide +kernel) (by decide +kernel), ix_in 1170 (by decide +kernel) (by decide +kernel), ix_in 36 (by decide +kernel) (by decide +kernel), by decide, rfl, rfl⟩
theorem cl17_195 : ix_VL "FileDeliveryModel" 195 138 8 := ⟨ix_in 1188 (by decide +kernel) (by decide +kernel), ix_in 1190 (by decide +kernel) (by decide +kernel), ix_in 41 (by decide +kernel) (by decide +kernel), by decide, rfl, rfl⟩
theorem cl17_198 : ix_VL "FileDeliveryModel" 198 139 8 := ⟨ix_in 1192 (by decide +kernel) (by decide +kernel), ix_in 1194 (by decide +kernel) (by decide +kernel), ix_in 42 (by decide +kernel) (by decide +kernel), by decide, rfl, rfl⟩
theorem cl17_201 : ix_VL "FileDeliveryModel" 201 140 8 := ⟨ix_in 1196 (by decide +kernel) (by decide +kernel), ix_in 1198 (by decide +kernel) (by decide +kernel), ix_in 43 (by decide +kernel) (by decide +kernel), by decide, rfl, rfl⟩
theorem cl17_205 : ix_VL "FileDeliveryModel" 205 151 8 := ⟨ix_in 1241 (by decide +kernel) (by decide +kernel), ix_in 1243 (by decide +kernel) (by decide +kernel), ix_in 53 (by decide +kernel) (by decide +kernel), by decide, rfl, rfl⟩
theorem cl17_209 : ix_VL "FileDeliveryModel" 209 142 8 := ⟨ix_in 1205 (by decide +kernel) (by decide +kernel), ix_in 1207 (by decide +kernel) (by decide +kernel), ix_in 45 (by decide +kernel) (by decide +kernel), by decide, rfl, rfl⟩
theorem cl17_212 : ix_VL "FileDeliveryModel" 212 153 8 := ⟨ix_in 1250 (by decide +kernel) (by decide +kernel), ix_in 1252 (by decide +kernel) (by decide +kernel), ix_in 55 (by decide +kernel) (by decide +kernel), by decide, rfl, rfl⟩
theorem cl17_218 : ix_VL "FileDeliveryModel" 218 144 8 := ⟨ix_in 1213 (by decide +kernel) (by decide +kernel), ix_in 1215 (by decide +kernel) (by decide +kernel), ix_in 47 (by decide +kernel) (by decide +kernel), by decide, rfl, rfl⟩
theorem cl17_222 : ix_VL "FileDeliveryModel" 222 146 8 := ⟨ix_in 1221 (by decide +kernel) (by decide +kernel), ix_in 1223 (by decide +kernel) (by decide +kernel), ix_in 49 (by decide +kernel) (by decide +kernel), by decide, rfl, rfl⟩
theorem cl17_225 : ix_VL "FileDeliveryModel" 225 154 8 := ⟨ix_in 1254 (by decide +kernel) (by decide +kernel), ix_in 1256 (by decide +kernel) (by decide +kernel), ix_in 56 (by decide +kernel) (by decide +kernel), by decide, rfl, rfl⟩
theorem cl17_228 : ix_VL "FileDeliveryModel" 228 145 8 := ⟨ix_in 1217 (by decide +kernel) (by decide +kernel), ix_in 1219 (by decide +kernel) (by decide +kernel), ix_in 48 (by decide +kernel) (by decide +kernel), by decide, rfl, rfl⟩
theorem cl17_231 : ix_VL "FileDeliveryModel" 231 143 8 := ⟨ix_in 1209 (by decide +kernel) (by decide +kernel), ix_in 1211 (by decide +kernel) (by decide +kernel), ix_in 46 (by decide +kernel) (by decide +kernel), by decide, rfl, rfl⟩
theorem cl17_237 : ix_VL "FileDeliveryModel" 237 155 8 := ⟨ix_in 1258 (by decide +kernel) (by decide +kernel), ix_in 1260 (by decide +kernel) (by decide +kernel), ix_in 57 (by decide +kernel) (by decide +kernel), by decide, rfl, rfl⟩
theorem cl17_240 : ix_VL "FileDeliveryModel" 240 156 8 := ⟨ix_in 1262 (by decide +kernel) (by decide +kernel), ix_in 1264 (by decide +kernel) (by decide +kernel), ix_in 58 (by decide +kernel) (by decide +kernel), by decide, rfl, rfl⟩
theorem cl17_243 : ix_VL "FileDeliveryModel" 243 130 8 := ⟨ix_in 1157 (by decide +kernel) (by decide +kernel), ix_in 1159 (by decide +kernel) (by decide +kernel), ix_in 34 (by decide +kernel) (by decide +kernel), by decide, rfl, rfl⟩
theorem cl17_246 : ix_VL "FileDeliveryModel" 246 141 8 := ⟨ix_in 1201 (by decide +kernel) (by decide +kernel), ix_in 1203 (by decide +kernel) (by decide +kernel), ix_in 44 (by decide +kernel) (by decide +kernel), by decide, rfl, rfl⟩
theorem cl17_249 : ix_VL "FileDeliveryModel" 249 148 8 := ⟨ix_in 1229 (by decide +kernel) (by decide +kernel), ix_in 1231 (by decide +kernel) (by decide +kernel), ix_in 50 (by decide +kernel) (by decide +kernel), by decide, rfl, rfl⟩
theorem cl17_253 : ix_VL "FileDeliveryModel" 253 149 8 := ⟨ix_in 1233 (by decide +kernel) (by decide +kernel), ix_in 1235 (by decide +kernel) (by decide +kernel), ix_in 51 (by decide +kernel) (by decide +kernel), by decide, rfl, rfl⟩
theorem cl17_256 : ix_VL "FileDeliveryModel" 256 150 8 := ⟨ix_in 1237 (by decide +kernel) (by decide +kernel), ix_in 1239 (by decide +kernel) (by decide +kernel), ix_in 52 (by decide +kernel) (by decide +kernel), by decide, rfl, rfl⟩
theorem cl17_259 : ix_VL "FileDeliveryModel" 259 152 8 := ⟨ix_in 1246 (by decide +kernel) (by decide +kernel), ix_in 1248 (by decide +kernel) (by decide +kernel), ix_in 54 (by decide +kernel) (by decide +kernel), by decide, rfl, rfl⟩
theorem cl5_1 : ix_IL "java/util/AbstractList" 1 6 := ⟨Or.inl (ix_in 125 (by decide +kernel) (by decide +kernel)), ix_in 126 (by decide +kernel) (by decide +kernel), rfl, rfl⟩
theorem cl4_1 : ix_IL "java/util/ArrayList" 1 5 := ⟨Or.inl (ix_in 122 (by decide +kernel) (by decide +kernel)), ix_in 123 (by decide +kernel) (by decide +kernel), rfl, rfl⟩
theorem cl4_66 : ix_SL "java/util/ArrayList" 66 76 := ⟨Or.inl (ix_in 550 (by decide +kernel) (by decide +kernel)), ix_in 551 (by decide +kernel) (by decide +kernel)⟩
theorem cl4_69 : ix_VL "java/util/ArrayList" 69 72 9 := ⟨ix_in 536 (by decide +kernel) (by decide +kernel), ix_in 538 (by decide +kernel) (by decide +kernel), ix_in 22 (by decide +kernel) (by decide +kernel), by decide, rfl, rfl⟩
theorem cl4_73 : ix_SL "java/util/ArrayList" 73 73 := ⟨Or.inl (ix_in 540 (by decide +kernel) (by decide +kernel)), ix_in 541 (by decide +kernel) (by decide +kernel)⟩
theorem cl4_79 : ix_SL "java/util/ArrayList" 79 74 := ⟨Or.inl (ix_in 581 (by decide +kernel) (by decide +kernel)), ix_in 544 (by decide +kernel) (by decide +kernel)⟩
theorem cl4_118 : ix_SL "java/util/ArrayList" 118 22 := ⟨Or.inl (ix_in 243 (by decide +kernel) (by decide +kernel)), ix_in 244 (by decide +kernel) (by decide +kernel)⟩
theorem cl4_123 : ix_VL "java/util/ArrayList" 123 24 9 := ⟨ix_in 249 (by decide +kernel) (by decide +kernel), ix_in 250 (by decide +kernel) (by decide +kernel), ix_in 251 (by decide +kernel) (by decide +kernel), by decide, rfl, rfl⟩
theorem cl4_129 : ix_VL "java/util/ArrayList" 129 71 9 := ⟨ix_in 532 (by decide +kernel) (by decide +kernel), ix_in 534 (by decide +kernel) (by decide +kernel), ix_in 21 (by decide +kernel) (by decide +kernel), by decide, rfl, rfl⟩
theorem cl4_131 : ix_VL "java/util/ArrayList" 131 70 9 := ⟨ix_in 528 (by decide +kernel) (by decide +kernel), ix_in 530 (by decide +kernel) (by decide +kernel), ix_in 20 (by decide +kernel) (by decide +kernel), by decide, rfl, rfl⟩
theorem cl4_144 : ix_VL "java/util/ArrayList" 144 59 9 := ⟨ix_in 431 (by decide +kernel) (by decide +kernel), ix_in 433 (by decide +kernel) (by decide +kernel), ix_in 15 (by decide +kernel) (by decide +kernel), by decide, rfl, rfl⟩
theorem cl16_300 : ix_SL "java/util/Arrays" 300 77 := ⟨Or.inl (ix_in 571 (by decide +kernel) (by decide +kernel)), ix_in 572 (by decide +kernel) (by decide +kernel)⟩
theorem cl16_304 : ix_SL "java/util/Arrays" 304 78 := ⟨Or.inl (ix_in 577 (by decide +kernel) (by decide +kernel)), ix_in 578 (by decide +kernel) (by decide +kernel)⟩
theorem cl8_105 : ix_SL "java/util/Objects" 105 23 := ⟨Or.inl (ix_in 246 (by decide +kernel) (by decide +kernel)), ix_in 247 (by decide +kernel) (by decide +kernel)⟩
theorem cl14_194 : ix_SL "jdk/internal/util/ArraysSupport" 194 74 := ⟨Or.inl (ix_in 543 (by decide +kernel) (by decide +kernel)), ix_in 544 (by decide +kernel) (by decide +kernel)⟩
theorem cl14_201 : ix_SL "jdk/internal/util/ArraysSupport" 201 75 := ⟨Or.inl (ix_in 547 (by decide +kernel) (by decide +kernel)), ix_in 548 (by decide +kernel) (by decide +kernel)⟩
theorem rm0_1 : ix_room 0 1 := ⟨by decide +kernel, by decide +kernel⟩
theorem rm0_8 : ix_room 0 8 := ⟨by decide +kernel, by decide +kernel⟩
theorem rm0_14 : ix_room 0 14 := ⟨by decide +kernel, by decide +kernel⟩
theorem rm0_17 : ix_room 0 17 := ⟨by decide +kernel, by decide +kernel⟩
theorem rm0_27 : ix_room 0 27 := ⟨by decide +kernel, by decide +kernel⟩
theorem rm0_29 : ix_room 0 29 := ⟨by decide +kernel, by decide +kernel⟩
theorem rm0_60 : ix_room 0 60 := ⟨by decide +kernel, by decide +kernel⟩
theorem rm0_90 : ix_room 0 90 := ⟨by decide +kernel, by decide +kernel⟩
theorem rm0_91 : ix_room 0 91 := ⟨by decide +kernel, by decide +kernel⟩
theorem rm0_94 : ix_room 0 94 := ⟨by decide +kernel, by decide +kernel⟩
theorem rm0_95 : ix_room 0 95 := ⟨by decide +kernel, by decide +kernel⟩
theorem rm0_96 : ix_room 0 96 := ⟨by decide +kernel, by decide +kernel⟩
theorem rm0_97 : ix_room 0 97 := ⟨by decide +kernel, by decide +kernel⟩
theorem rm0_98 : ix_room 0 98 := ⟨by decide +kernel, by decide +kernel⟩
theorem rm0_100 : ix_room 0 100 := ⟨by decide +kernel, by decide +kernel⟩
theorem rm0_101 : ix_room 0 101 := ⟨by decide +kernel, by decide +kernel⟩
theorem rm0_114 : ix_room 0 114 := ⟨by decide +kernel, by decide +kernel⟩
theorem rm0_115 : ix_room 0 115 := ⟨by decide +kernel, by decide +kernel⟩
theorem rm0_116 : ix_room 0 116 := ⟨by decide +kernel, by decide +kernel⟩
theorem rm0_119 : ix_room 0 119 := ⟨by decide +kernel, by decide +kernel⟩
theorem rm0_122 : ix_room 0 122 := ⟨by decide +kernel, by decide +kernel⟩
theorem rm0_123 : ix_room 0 123 := ⟨by decide +kernel, by decide +kernel⟩
theorem rm0_124 : ix_room 0 124 := ⟨by decide +kernel, by decide +kernel⟩
theorem rm0_125 : ix_room 0 125 := ⟨by decide +kernel, by decide +kernel⟩
theorem rm0_126 : ix_room 0 126 := ⟨by decide +kernel, by decide +kernel⟩
theorem rm0_128 : ix_room 0 128 := ⟨by decide +kernel, by decide +kernel⟩
theorem rm0_129 : ix_room 0 129 := ⟨by decide +kernel, by decide +kernel⟩
theorem rm0_147 : ix_room 0 147 := ⟨by decide +kernel, by decide +kernel⟩
theorem rm0_157 : ix_room 0 157 := ⟨by decide +kernel, by decide +kernel⟩
theorem rm0_158 : ix_room 0 158 := ⟨by decide +kernel, by decide +kernel⟩
theorem rm0_159 : ix_room 0 159 := ⟨by decide +kernel, by decide +kernel⟩
theorem rm0_160 : ix_room 0 160 := ⟨by decide +kernel, by decide +kernel⟩
theorem rm0_161 : ix_room 0 161 := ⟨by decide +kernel, by decide +kernel⟩
theorem rm0_162 : ix_room 0 162 := ⟨by decide +kernel, by decide +kernel⟩
theorem rm0_163 : ix_room 0 163 := ⟨by decide +kernel, by decide +kernel⟩
theorem rm0_164 : ix_room 0 164 := ⟨by decide +kernel, by decide +kernel⟩
theorem rm1_2 : ix_room 1 2 := ⟨by decide +kernel, by decide +kernel⟩
theorem rm1_7 : ix_room 1 7 := ⟨by decide +kernel, by decide +kernel⟩
theorem rm2_3 : ix_room 2 3 := ⟨by decide +kernel, by decide +kernel⟩
theorem rm2_4 : ix_room 2 4 := ⟨by decide +kernel, by decide +kernel⟩
theorem rm4_5 : ix_room 4 5 := ⟨by decide +kernel, by decide +kernel⟩
theorem rm5_6 : ix_room 5 6 := ⟨by decide +kernel, by decide +kernel⟩
theorem rm8_9 : ix_room 8 9 := ⟨by decide +kernel, by decide +kernel⟩
theorem rm8_12 : ix_room 8 12 := ⟨by decide +kernel, by decide +kernel⟩
theorem rm8_13 : ix_room 8 13 := ⟨by decide +kernel, by decide +kernel⟩
theorem rm9_10 : ix_room 9 10 := ⟨by decide +kernel, by decide +kernel⟩
theorem rm9_11 : ix_room 9 11 := ⟨by decide +kernel, by decide +kernel⟩
theorem rm14_15 : ix_room 14 15 := ⟨by decide +kernel, by decide +kernel⟩
theorem rm14_16 : ix_room 14 16 := ⟨by decide +kernel, by decide +kernel⟩
theorem rm15_9 : ix_room 15 9 := ⟨by decide +kernel, by decide +kernel⟩
theorem rm15_12 : ix_room 15 12 := ⟨by decide +kernel, by decide +kernel⟩
theorem rm17_18 : ix_room 17 18 := ⟨by decide +kernel, by decide +kernel⟩
theorem rm17_25 : ix_room 17 25 := ⟨by decide +kernel, by decide +kernel⟩
theorem rm18_10 : ix_room 18 10 := ⟨by decide +kernel, by decide +kernel⟩
theorem rm18_19 : ix_room 18 19 := ⟨by decide +kernel, by decide +kernel⟩
theorem rm19_20 : ix_room 19 20 := ⟨by decide +kernel, by decide +kernel⟩
theorem rm19_21 : ix_room 19 21 := ⟨by decide +kernel, by decide +kernel⟩
theorem rm21_22 : ix_room 21 22 := ⟨by decide +kernel, by decide +kernel⟩
theorem rm21_24 : ix_room 21 24 := ⟨by decide +kernel, by decide +kernel⟩
theorem rm22_23 : ix_room 22 23 := ⟨by decide +kernel, by decide +kernel⟩
theorem rm25_26 : ix_room 25 26 := ⟨by decide +kernel, by decide +kernel⟩
theorem rm27_18 : ix_room 27 18 := ⟨by decide +kernel, by decide +kernel⟩
theorem rm27_28 : ix_room 27 28 := ⟨by decide +kernel, by decide +kernel⟩
theorem rm28_26 : ix_room 28 26 := ⟨by decide +kernel, by decide +kernel⟩
theorem rm29_30 : ix_room 29 30 := ⟨by decide +kernel, by decide +kernel⟩
theorem rm30_20 : ix_room 30 20 := ⟨by decide +kernel, by decide +kernel⟩
theorem rm30_21 : ix_room 30 21 := ⟨by decide +kernel, by decide +kernel⟩
theorem rm30_31 : ix_room 30 31 := ⟨by decide +kernel, by decide +kernel⟩
theorem rm30_48 : ix_room 30 48 := ⟨by decide +kernel, by decide +kernel⟩
theorem rm30_57 : ix_room 30 57 := ⟨by decide +kernel, by decide +kernel⟩
theorem rm31_26 : ix_room 31 26 := ⟨by decide +kernel, by decide +kernel⟩
theorem rm31_32 : ix_room 31 32 := ⟨by decide +kernel, by decide +kernel⟩
theorem rm31_46 : ix_room 31 46 := ⟨by decide +kernel, by decide +kernel⟩
theorem rm31_47 : ix_room 31 47 := ⟨by decide +kernel, by decide +kernel⟩
theorem rm32_33 : ix_room 32 33 := ⟨by decide +kernel, by decide +kernel⟩
theorem rm32_38 : ix_room 32 38 := ⟨by decide +kernel, by decide +kernel⟩
theorem rm32_42 : ix_room 32 42 := ⟨by decide +kernel, by decide +kernel⟩
theorem rm32_45 : ix_room 32 45 := ⟨by decide +kernel, by decide +kernel⟩
theorem rm33_34 : ix_room 33 34 := ⟨by decide +kernel, by decide +kernel⟩
theorem rm34_35 : ix_room 34 35 := ⟨by decide +kernel, by decide +kernel⟩
theorem rm34_36 : ix_room 34 36 := ⟨by decide +kernel, by decide +kernel⟩
theorem rm34_37 : ix_room 34 37 := ⟨by decide +kernel, by decide +kernel⟩
theorem rm38_34 : ix_room 38 34 := ⟨by decide +kernel, by decide +kernel⟩
theorem rm38_39 : ix_room 38 39 := ⟨by decide +kernel, by decide +kernel⟩
theorem rm38_40 : ix_room 38 40 := ⟨by decide +kernel, by decide +kernel⟩
theorem rm40_39 : ix_room 40 39 := ⟨by decide +kernel, by decide +kernel⟩
theorem rm40_41 : ix_room 40 41 := ⟨by decide +kernel, by decide +kernel⟩
theorem rm42_16 : ix_room 42 16 := ⟨by decide +kernel, by decide +kernel⟩
theorem rm42_34 : ix_room 42 34 := ⟨by decide +kernel, by decide +kernel⟩
theorem rm42_43 : ix_room 42 43 := ⟨by decide +kernel, by decide +kernel⟩
theorem rm43_44 : ix_room 43 44 := ⟨by decide +kernel, by decide +kernel⟩
theorem rm46_33 : ix_room 46 33 := ⟨by decide +kernel, by decide +kernel⟩
theorem rm46_38 : ix_room 46 38 := ⟨by decide +kernel, by decide +kernel⟩
theorem rm47_42 : ix_room 47 42 := ⟨by decide +kernel, by decide +kernel⟩
theorem rm48_45 : ix_room 48 45 := ⟨by decide +kernel, by decide +kernel⟩
theorem rm48_49 : ix_room 48 49 := ⟨by decide +kernel, by decide +kernel⟩
theorem rm48_50 : ix_room 48 50 := ⟨by decide +kernel, by decide +kernel⟩
theorem rm48_53 : ix_room 48 53 := ⟨by decide +kernel, by decide +kernel⟩
theorem rm48_56 : ix_room 48 56 := ⟨by decide +kernel, by decide +kernel⟩
theorem rm50_51 : ix_room 50 51 := ⟨by decide +kernel, by decide +kernel⟩
theorem rm51_52 : ix_room 51 52 := ⟨by decide +kernel, by decide +kernel⟩
theorem rm52_36 : ix_room 52 36 := ⟨by decide +kernel, by decide +kernel⟩
theorem rm52_37 : ix_room 52 37 := ⟨by decide +kernel, by decide +kernel⟩
theorem rm53_52 : ix_room 53 52 := ⟨by decide +kernel, by decide +kernel⟩
theorem rm53_54 : ix_room 53 54 := ⟨by decide +kernel, by decide +kernel⟩
theorem rm54_55 : ix_room 54 55 := ⟨by decide +kernel, by decide +kernel⟩
theorem rm56_45 : ix_room 56 45 := ⟨by decide +kernel, by decide +kernel⟩
theorem rm56_51 : ix_room 56 51 := ⟨by decide +kernel, by decide +kernel⟩
theorem rm57_20 : ix_room 57 20 := ⟨by decide +kernel, by decide +kernel⟩
theorem rm57_21 : ix_room 57 21 := ⟨by decide +kernel, by decide +kernel⟩
theorem rm57_26 : ix_room 57 26 := ⟨by decide +kernel, by decide +kernel⟩
theorem rm57_58 : ix_room 57 58 := ⟨by decide +kernel, by decide +kernel⟩
theorem rm58_22 : ix_room 58 22 := ⟨by decide +kernel, by decide +kernel⟩
theorem rm58_59 : ix_room 58 59 := ⟨by decide +kernel, by decide +kernel⟩
theorem rm60_61 : ix_room 60 61 := ⟨by decide +kernel, by decide +kernel⟩
theorem rm60_63 : ix_room 60 63 := ⟨by decide +kernel, by decide +kernel⟩
theorem rm60_66 : ix_room 60 66 := ⟨by decide +kernel, by decide +kernel⟩
theorem rm61_62 : ix_room 61 62 := ⟨by decide +kernel, by decide +kernel⟩
theorem rm63_19 : ix_room 63 19 := ⟨by decide +kernel, by decide +kernel⟩
theorem rm63_57 : ix_room 63 57 := ⟨by decide +kernel, by decide +kernel⟩
theorem rm63_64 : ix_room 63 64 := ⟨by decide +kernel, by decide +kernel⟩
theorem rm64_26 : ix_room 64 26 := ⟨by decide +kernel, by decide +kernel⟩
theorem rm64_34 : ix_room 64 34 := ⟨by decide +kernel, by decide +kernel⟩
theorem rm64_45 : ix_room 64 45 := ⟨by decide +kernel, by decide +kernel⟩
theorem rm64_65 : ix_room 64 65 := ⟨by decide +kernel, by decide +kernel⟩
theorem rm66_57 : ix_room 66 57 := ⟨by decide +kernel, by decide +kernel⟩
theorem rm66_67 : ix_room 66 67 := ⟨by decide +kernel, by decide +kernel⟩
theorem rm66_79 : ix_room 66 79 := ⟨by decide +kernel, by decide +kernel⟩
theorem rm67_20 : ix_room 67 20 := ⟨by decide +kernel, by decide +kernel⟩
theorem rm67_68 : ix_room 67 68 := ⟨by decide +kernel, by decide +kernel⟩
theorem rm67_69 : ix_room 67 69 := ⟨by decide +kernel, by decide +kernel⟩
theorem rm69_70 : ix_room 69 70 := ⟨by decide +kernel, by decide +kernel⟩
theorem rm70_71 : ix_room 70 71 := ⟨by decide +kernel, by decide +kernel⟩
theorem rm71_72 : ix_room 71 72 := ⟨by decide +kernel, by decide +kernel⟩
theorem rm72_73 : ix_room 72 73 := ⟨by decide +kernel, by decide +kernel⟩
theorem rm72_74 : ix_room 72 74 := ⟨by decide +kernel, by decide +kernel⟩
theorem rm72_76 : ix_room 72 76 := ⟨by decide +kernel, by decide +kernel⟩
theorem rm73_74 : ix_room 73 74 := ⟨by decide +kernel, by decide +kernel⟩
theorem rm73_75 : ix_room 73 75 := ⟨by decide +kernel, by decide +kernel⟩
theorem rm76_77 : ix_room 76 77 := ⟨by decide +kernel, by decide +kernel⟩
theorem rm77_78 : ix_room 77 78 := ⟨by decide +kernel, by decide +kernel⟩
theorem rm79_45 : ix_room 79 45 := ⟨by decide +kernel, by decide +kernel⟩
theorem rm79_49 : ix_room 79 49 := ⟨by decide +kernel, by decide +kernel⟩
theorem rm79_52 : ix_room 79 52 := ⟨by decide +kernel, by decide +kernel⟩
theorem rm79_56 : ix_room 79 56 := ⟨by decide +kernel, by decide +kernel⟩
theorem rm79_80 : ix_room 79 80 := ⟨by decide +kernel, by decide +kernel⟩
theorem rm79_82 : ix_room 79 82 := ⟨by decide +kernel, by decide +kernel⟩
theorem rm79_83 : ix_room 79 83 := ⟨by decide +kernel, by decide +kernel⟩
theorem rm79_89 : ix_room 79 89 := ⟨by decide +kernel, by decide +kernel⟩
theorem rm80_81 : ix_room 80 81 := ⟨by decide +kernel, by decide +kernel⟩
theorem rm82_54 : ix_room 82 54 := ⟨by decide +kernel, by decide +kernel⟩
theorem rm83_44 : ix_room 83 44 := ⟨by decide +kernel, by decide +kernel⟩
theorem rm83_84 : ix_room 83 84 := ⟨by decide +kernel, by decide +kernel⟩
theorem rm83_85 : ix_room 83 85 := ⟨by decide +kernel, by decide +kernel⟩
theorem rm83_86 : ix_room 83 86 := ⟨by decide +kernel, by decide +kernel⟩
theorem rm84_20 : ix_room 84 20 := ⟨by decide +kernel, by decide +kernel⟩
theorem rm84_21 : ix_room 84 21 := ⟨by decide +kernel, by decide +kernel⟩
theorem rm86_12 : ix_room 86 12 := ⟨by decide +kernel, by decide +kernel⟩
theorem rm86_84 : ix_room 86 84 := ⟨by decide +kernel, by decide +kernel⟩
theorem rm86_87 : ix_room 86 87 := ⟨by decide +kernel, by decide +kernel⟩
theorem rm86_88 : ix_room 86 88 := ⟨by decide +kernel, by decide +kernel⟩
theorem rm87_85 : ix_room 87 85 := ⟨by decide +kernel, by decide +kernel⟩
theorem rm89_45 : ix_room 89 45 := ⟨by decide +kernel, by decide +kernel⟩
theorem rm89_53 : ix_room 89 53 := ⟨by decide +kernel, by decide +kernel⟩
theorem rm90_61 : ix_room 90 61 := ⟨by decide +kernel, by decide +kernel⟩
theorem rm91_37 : ix_room 91 37 := ⟨by decide +kernel, by decide +kernel⟩
theorem rm91_62 : ix_room 91 62 := ⟨by decide +kernel, by decide +kernel⟩
theorem rm91_92 : ix_room 91 92 := ⟨by decide +kernel, by decide +kernel⟩
theorem rm91_93 : ix_room 91 93 := ⟨by decide +kernel, by decide +kernel⟩
theorem rm93_36 : ix_room 93 36 := ⟨by decide +kernel, by decide +kernel⟩
theorem rm94_62 : ix_room 94 62 := ⟨by decide +kernel, by decide +kernel⟩
theorem rm96_62 : ix_room 96 62 := ⟨by decide +kernel, by decide +kernel⟩
theorem rm97_18 : ix_room 97 18 := ⟨by decide +kernel, by decide +kernel⟩
theorem rm97_26 : ix_room 97 26 := ⟨by decide +kernel, by decide +kernel⟩
theorem rm98_49 : ix_room 98 49 := ⟨by decide +kernel, by decide +kernel⟩
theorem rm98_99 : ix_room 98 99 := ⟨by decide +kernel, by decide +kernel⟩
theorem rm99_18 : ix_room 99 18 := ⟨by decide +kernel, by decide +kernel⟩
theorem rm100_99 : ix_room 100 99 := ⟨by decide +kernel, by decide +kernel⟩
theorem rm102_103 : ix_room 102 103 := ⟨by decide +kernel, by decide +kernel⟩
theorem rm103_9 : ix_room 103 9 := ⟨by decide +kernel, by decide +kernel⟩
theorem rm103_12 : ix_room 103 12 := ⟨by decide +kernel, by decide +kernel⟩
theorem rm103_16 : ix_room 103 16 := ⟨by decide +kernel, by decide +kernel⟩
theorem rm103_84 : ix_room 103 84 := ⟨by decide +kernel, by decide +kernel⟩
theorem rm103_104 : ix_room 103 104 := ⟨by decide +kernel, by decide +kernel⟩
theorem rm105_106 : ix_room 105 106 := ⟨by decide +kernel, by decide +kernel⟩
theorem rm106_15 : ix_room 106 15 := ⟨by decide +kernel, by decide +kernel⟩
theorem rm106_84 : ix_room 106 84 := ⟨by decide +kernel, by decide +kernel⟩
theorem rm106_88 : ix_room 106 88 := ⟨by decide +kernel, by decide +kernel⟩
theorem rm107_108 : ix_room 107 108 := ⟨by decide +kernel, by decide +kernel⟩
theorem rm108_15 : ix_room 108 15 := ⟨by decide +kernel, by decide +kernel⟩
theorem rm108_16 : ix_room 108 16 := ⟨by decide +kernel, by decide +kernel⟩
theorem rm108_41 : ix_room 108 41 := ⟨by decide +kernel, by decide +kernel⟩
theorem rm109_110 : ix_room 109 110 := ⟨by decide +kernel, by decide +kernel⟩
theorem rm110_9 : ix_room 110 9 := ⟨by decide +kernel, by decide +kernel⟩
theorem rm110_11 : ix_room 110 11 := ⟨by decide +kernel, by decide +kernel⟩
theorem rm110_12 : ix_room 110 12 := ⟨by decide +kernel, by decide +kernel⟩
theorem rm110_20 : ix_room 110 20 := ⟨by decide +kernel, by decide +kernel⟩
theorem rm110_111 : ix_room 110 111 := ⟨by decide +kernel, by decide +kernel⟩
theorem rm110_112 : ix_room 110 112 := ⟨by decide +kernel, by decide +kernel⟩
theorem rm110_113 : ix_room 110 113 := ⟨by decide +kernel, by decide +kernel⟩
theorem rm112_16 : ix_room 112 16 := ⟨by decide +kernel, by decide +kernel⟩
theorem rm112_55 : ix_room 112 55 := ⟨by decide +kernel, by decide +kernel⟩
theorem rm113_69 : ix_room 113 69 := ⟨by decide +kernel, by decide +kernel⟩
theorem rm116_117 : ix_room 116 117 := ⟨by decide +kernel, by decide +kernel⟩
theorem rm117_118 : ix_room 117 118 := ⟨by decide +kernel, by decide +kernel⟩
theorem rm119_117 : ix_room 119 117 := ⟨by decide +kernel, by decide +kernel⟩
theorem rm119_118 : ix_room 119 118 := ⟨by decide +kernel, by decide +kernel⟩
theorem rm119_120 : ix_room 119 120 := ⟨by decide +kernel, by decide +kernel⟩
theorem rm119_121 : ix_room 119 121 := ⟨by decide +kernel, by decide +kernel⟩
theorem rm122_117 : ix_room 122 117 := ⟨by decide +kernel, by decide +kernel⟩
theorem rm122_121 : ix_room 122 121 := ⟨by decide +kernel, by decide +kernel⟩
theorem rm123_117 : ix_room 123 117 := ⟨by decide +kernel, by decide +kernel⟩
theorem rm124_117 : ix_room 124 117 := ⟨by decide +kernel, by decide +kernel⟩
theorem rm124_120 : ix_room 124 120 := ⟨by decide +kernel, by decide +kernel⟩
theorem rm125_117 : ix_room 125 117 := ⟨by decide +kernel, by decide +kernel⟩
theorem rm125_118 : ix_room 125 118 := ⟨by decide +kernel, by decide +kernel⟩
theorem rm125_120 : ix_room 125 120 := ⟨by decide +kernel, by decide +kernel⟩
theorem rm126_127 : ix_room 126 127 := ⟨by decide +kernel, by decide +kernel⟩
theorem rm127_118 : ix_room 127 118 := ⟨by decide +kernel, by decide +kernel⟩
theorem rm128_127 : ix_room 128 127 := ⟨by decide +kernel, by decide +kernel⟩
theorem rm129_130 : ix_room 129 130 := ⟨by decide +kernel, by decide +kernel⟩
theorem rm129_141 : ix_room 129 141 := ⟨by decide +kernel, by decide +kernel⟩
theorem rm130_131 : ix_room 130 131 := ⟨by decide +kernel, by decide +kernel⟩
theorem rm130_132 : ix_room 130 132 := ⟨by decide +kernel, by decide +kernel⟩
theorem rm130_133 : ix_room 130 133 := ⟨by decide +kernel, by decide +kernel⟩
theorem rm130_137 : ix_room 130 137 := ⟨by decide +kernel, by decide +kernel⟩
theorem rm130_138 : ix_room 130 138 := ⟨by decide +kernel, by decide +kernel⟩
theorem rm130_139 : ix_room 130 139 := ⟨by decide +kernel, by decide +kernel⟩
theorem rm130_140 : ix_room 130 140 := ⟨by decide +kernel, by decide +kernel⟩
theorem rm133_131 : ix_room 133 131 := ⟨by decide +kernel, by decide +kernel⟩
theorem rm133_134 : ix_room 133 134 := ⟨by decide +kernel, by decide +kernel⟩
theorem rm133_136 : ix_room 133 136 := ⟨by decide +kernel, by decide +kernel⟩
theorem rm133_137 : ix_room 133 137 := ⟨by decide +kernel, by decide +kernel⟩
theorem rm134_132 : ix_room 134 132 := ⟨by decide +kernel, by decide +kernel⟩
theorem rm134_135 : ix_room 134 135 := ⟨by decide +kernel, by decide +kernel⟩
theorem rm138_136 : ix_room 138 136 := ⟨by decide +kernel, by decide +kernel⟩
theorem rm139_131 : ix_room 139 131 := ⟨by decide +kernel, by decide +kernel⟩
theorem rm139_135 : ix_room 139 135 := ⟨by decide +kernel, by decide +kernel⟩
theorem rm139_136 : ix_room 139 136 := ⟨by decide +kernel, by decide +kernel⟩
theorem rm140_138 : ix_room 140 138 := ⟨by decide +kernel, by decide +kernel⟩
theorem rm140_139 : ix_room 140 139 := ⟨by decide +kernel, by decide +kernel⟩
theorem rm141_142 : ix_room 141 142 := ⟨by decide +kernel, by decide +kernel⟩
theorem rm141_143 : ix_room 141 143 := ⟨by decide +kernel, by decide +kernel⟩
theorem rm141_144 : ix_room 141 144 := ⟨by decide +kernel, by decide +kernel⟩
theorem rm141_145 : ix_room 141 145 := ⟨by decide +kernel, by decide +kernel⟩
theorem rm143_136 : ix_room 143 136 := ⟨by decide +kernel, by decide +kernel⟩
theorem rm144_142 : ix_room 144 142 := ⟨by decide +kernel, by decide +kernel⟩
theorem rm144_143 : ix_room 144 143 := ⟨by decide +kernel, by decide +kernel⟩
theorem rm145_132 : ix_room 145 132 := ⟨by decide +kernel, by decide +kernel⟩
theorem rm145_136 : ix_room 145 136 := ⟨by decide +kernel, by decide +kernel⟩
theorem rm145_146 : ix_room 145 146 := ⟨by decide +kernel, by decide +kernel⟩
theorem rm146_132 : ix_room 146 132 := ⟨by decide +kernel, by decide +kernel⟩
theorem rm147_148 : ix_room 147 148 := ⟨by decide +kernel, by decide +kernel⟩
theorem rm147_149 : ix_room 147 149 := ⟨by decide +kernel, by decide +kernel⟩
theorem rm147_150 : ix_room 147 150 := ⟨by decide +kernel, by decide +kernel⟩
theorem rm147_152 : ix_room 147 152 := ⟨by decide +kernel, by decide +kernel⟩
theorem rm150_127 : ix_room 150 127 := ⟨by decide +kernel, by decide +kernel⟩
theorem rm150_136 : ix_room 150 136 := ⟨by decide +kernel, by decide +kernel⟩
theorem rm150_137 : ix_room 150 137 := ⟨by decide +kernel, by decide +kernel⟩
theorem rm150_151 : ix_room 150 151 := ⟨by decide +kernel, by decide +kernel⟩
theorem rm151_131 : ix_room 151 131 := ⟨by decide +kernel, by decide +kernel⟩
theorem rm151_132 : ix_room 151 132 := ⟨by decide +kernel, by decide +kernel⟩
theorem rm152_136 : ix_room 152 136 := ⟨by decide +kernel, by decide +kernel⟩
theorem rm152_142 : ix_room 152 142 := ⟨by decide +kernel, by decide +kernel⟩
theorem rm152_144 : ix_room 152 144 := ⟨by decide +kernel, by decide +kernel⟩
theorem rm152_145 : ix_room 152 145 := ⟨by decide +kernel, by decide +kernel⟩
theorem rm152_146 : ix_room 152 146 := ⟨by decide +kernel, by decide +kernel⟩
theorem rm152_153 : ix_room 152 153 := ⟨by decide +kernel, by decide +kernel⟩
theorem rm152_154 : ix_room 152 154 := ⟨by decide +kernel, by decide +kernel⟩
theorem rm154_121 : ix_room 154 121 := ⟨by decide +kernel, by decide +kernel⟩
theorem rm154_144 : ix_room 154 144 := ⟨by decide +kernel, by decide +kernel⟩
theorem rm154_155 : ix_room 154 155 := ⟨by decide +kernel, by decide +kernel⟩
theorem rm154_156 : ix_room 154 156 := ⟨by decide +kernel, by decide +kernel⟩
theorem rm156_121 : ix_room 156 121 := ⟨by decide +kernel, by decide +kernel⟩
theorem rm157_148 : ix_room 157 148 := ⟨by decide +kernel, by decide +kernel⟩
theorem rm157_149 : ix_room 157 149 := ⟨by decide +kernel, by decide +kernel⟩
theorem rm158_148 : ix_room 158 148 := ⟨by decide +kernel, by decide +kernel⟩
theorem rm159_148 : ix_room 159 148 := ⟨by decide +kernel, by decide +kernel⟩
theorem rm161_118 : ix_room 161 118 := ⟨by decide +kernel, by decide +kernel⟩
theorem rm161_148 : ix_room 161 148 := ⟨by decide +kernel, by decide +kernel⟩
theorem rm162_127 : ix_room 162 127 := ⟨by decide +kernel, by decide +kernel⟩
theorem rm163_127 : ix_room 163 127 := ⟨by decide +kernel, by decide +kernel⟩
theorem rm164_127 : ix_room 164 127 := ⟨by decide +kernel, by decide +kernel⟩
theorem nl0_8 : ix_NL "FileDeliveryLaw" 8 0 := ⟨by decide, rfl, ix_uw0, ix_in 85 (by decide +kernel) (by decide +kernel), ix_in 86 (by decide +kernel) (by decide +kernel), ix_in 60 (by decide +kernel) (by decide +kernel)⟩
theorem nl0_42 : ix_NL "FileDeliveryLaw" 42 8 := ⟨by decide, rfl, ix_uw8, ix_in 946 (by decide +kernel) (by decide +kernel), ix_in 947 (by decide +kernel) (by decide +kernel), ix_in 67 (by decide +kernel) (by decide +kernel)⟩
theorem nl1_13 : ix_NL "FileDelivery" 13 4 := ⟨by decide, rfl, ix_uw4, ix_in 93 (by decide +kernel) (by decide +kernel), ix_in 95 (by decide +kernel) (by decide +kernel), ix_in 61 (by decide +kernel) (by decide +kernel)⟩
theorem nl1_20 : ix_NL "FileDelivery" 20 1 := ⟨by decide, rfl, ix_uw1, ix_in 161 (by decide +kernel) (by decide +kernel), ix_in 162 (by decide +kernel) (by decide +kernel), ix_in 66 (by decide +kernel) (by decide +kernel)⟩
theorem nl2_7 : ix_NL "FileDelivery$Side" 7 5 := ⟨by decide, rfl, ix_uw5, ix_in 100 (by decide +kernel) (by decide +kernel), ix_in 101 (by decide +kernel) (by decide +kernel), ix_in 62 (by decide +kernel) (by decide +kernel)⟩
theorem nl2_16 : ix_NL "FileDelivery$Side" 16 9 := ⟨by decide, rfl, ix_uw9, ix_in 117 (by decide +kernel) (by decide +kernel), ix_in 118 (by decide +kernel) (by decide +kernel), ix_in 65 (by decide +kernel) (by decide +kernel)⟩
theorem nl10_121 : ix_NL "FileDelivery$Sender" 121 7 := ⟨by decide, rfl, ix_uw7, ix_in 295 (by decide +kernel) (by decide +kernel), ix_in 296 (by decide +kernel) (by decide +kernel), ix_in 83 (by decide +kernel) (by decide +kernel)⟩
theorem nl13_71 : ix_NL "FileDelivery$Receiver" 71 7 := ⟨by decide, rfl, ix_uw7, ix_in 403 (by decide +kernel) (by decide +kernel), ix_in 296 (by decide +kernel) (by decide +kernel), ix_in 83 (by decide +kernel) (by decide +kernel)⟩
theorem nl1_206 : ix_NL "FileDelivery" 206 2 := ⟨by decide, rfl, ix_uw2, ix_in 472 (by decide +kernel) (by decide +kernel), ix_in 393 (by decide +kernel) (by decide +kernel), ix_in 84 (by decide +kernel) (by decide +kernel)⟩
theorem nl12_8 : ix_NL "FileDelivery$Unit" 8 7 := ⟨by decide, rfl, ix_uw7, ix_in 648 (by decide +kernel) (by decide +kernel), ix_in 296 (by decide +kernel) (by decide +kernel), ix_in 83 (by decide +kernel) (by decide +kernel)⟩
theorem nl1_115 : ix_NL "FileDelivery" 115 6 := ⟨by decide, rfl, ix_uw6, ix_in 843 (by decide +kernel) (by decide +kernel), ix_in 844 (by decide +kernel) (by decide +kernel), ix_in 77 (by decide +kernel) (by decide +kernel)⟩
theorem nl1_120 : ix_NL "FileDelivery" 120 3 := ⟨by decide, rfl, ix_uw3, ix_in 883 (by decide +kernel) (by decide +kernel), ix_in 285 (by decide +kernel) (by decide +kernel), ix_in 78 (by decide +kernel) (by decide +kernel)⟩
theorem oi_I : Cond.instanceMethod objectInit ∈ ix_words := ix_in 91 (by decide +kernel) (by decide +kernel)
set_option maxRecDepth 100000 in
theorem oi_C : Cond.code objectInit ⟨#[0xb1]⟩ 1 none ∈ ix_words := ix_in 92 rfl rfl
theorem oi1_1 : Cond.methodLink "FileDelivery" 1 objectInit ∈ ix_words := ix_in 90 (by decide +kernel) (by decide +kernel)
theorem oi7_3 : Cond.methodLink "FileDelivery$Link" 3 objectInit ∈ ix_words := ix_in 166 (by decide +kernel) (by decide +kernel)
theorem oi13_3 : Cond.methodLink "FileDelivery$Receiver" 3 objectInit ∈ ix_words := ix_in 476 (by decide +kernel) (by decide +kernel)
theorem oi10_3 : Cond.methodLink "FileDelivery$Sender" 3 objectInit ∈ ix_words := ix_in 887 (by decide +kernel) (by decide +kernel)
theorem oi2_1 : Cond.methodLink "FileDelivery$Side" 1 objectInit ∈ ix_words := ix_in 99 (by decide +kernel) (by decide +kernel)
theorem oi3_3 : Cond.methodLink "FileDelivery$Store" 3 objectInit ∈ ix_words := ix_in 105 (by decide +kernel) (by decide +kernel)
theorem oi11_3 : Cond.methodLink "FileDelivery$Transaction" 3 objectInit ∈ ix_words := ix_in 848 (by decide +kernel) (by decide +kernel)
theorem oi12_1 : Cond.methodLink "FileDelivery$Unit" 1 objectInit ∈ ix_words := ix_in 304 (by decide +kernel) (by decide +kernel)
theorem oi17_1 : Cond.methodLink "FileDeliveryModel" 1 objectInit ∈ ix_words := ix_in 951 (by decide +kernel) (by decide +kernel)
theorem oi6_1 : Cond.methodLink "java/util/AbstractCollection" 1 objectInit ∈ ix_words := ix_in 128 (by decide +kernel) (by decide +kernel)
