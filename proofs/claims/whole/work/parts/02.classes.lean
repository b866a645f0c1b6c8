/-! ===== classes, fields, methods of this claim (written by wip/whole/gen2.py) ===== -/
def ix_T0 : u_T := fun k => match k with
  | 0 => ("FileDelivery", "timeout", "I", true)
  | 1 => ("FileDelivery", "sides", "[LFileDelivery$Side;", true)
  | 2 => ("FileDelivery", "link", "LFileDelivery$Link;", true)
  | _ => ("FileDelivery", "time", "I", false)
def ix_ty0 : Nat → FieldType := fun k => match k with
  | 0 => .int
  | 1 => .array (.object "FileDelivery$Side")
  | 2 => .object "FileDelivery$Link"
  | _ => .int
theorem ix_nm0 : ∀ a, a < 4 → ∀ b, b < 4 → a ≠ b → (ix_T0 a).2.1 ≠ (ix_T0 b).2.1 := by decide +kernel
theorem ix_ty0_ok : ∀ k, k < 4 → parseFieldDescriptor (ix_T0 k).2.2.1 = some (ix_ty0 k) := by decide +kernel
def ix_T1 : u_T := fun k => match k with
  | 0 => ("FileDelivery$Link", "row", "[LFileDelivery$Unit;", true)
  | _ => ("FileDelivery$Link", "count", "I", false)
def ix_ty1 : Nat → FieldType := fun k => match k with
  | 0 => .array (.object "FileDelivery$Unit")
  | _ => .int
theorem ix_nm1 : ∀ a, a < 2 → ∀ b, b < 2 → a ≠ b → (ix_T1 a).2.1 ≠ (ix_T1 b).2.1 := by decide +kernel
theorem ix_ty1_ok : ∀ k, k < 2 → parseFieldDescriptor (ix_T1 k).2.2.1 = some (ix_ty1 k) := by decide +kernel
def ix_T2 : u_T := fun k => match k with
  | 0 => ("FileDelivery$Receiver", "about", "LFileDelivery$Transaction;", true)
  | 1 => ("FileDelivery$Receiver", "home", "LFileDelivery$Side;", true)
  | 2 => ("FileDelivery$Receiver", "link", "LFileDelivery$Link;", true)
  | 3 => ("FileDelivery$Receiver", "timeout", "I", true)
  | 4 => ("FileDelivery$Receiver", "bytes", "[B", true)
  | 5 => ("FileDelivery$Receiver", "metadataThere", "Z", false)
  | 6 => ("FileDelivery$Receiver", "segmentsThere", "I", false)
  | 7 => ("FileDelivery$Receiver", "endSize", "I", false)
  | 8 => ("FileDelivery$Receiver", "endChecksum", "I", false)
  | 9 => ("FileDelivery$Receiver", "waitsFrom", "I", false)
  | 10 => ("FileDelivery$Receiver", "tries", "I", false)
  | 11 => ("FileDelivery$Receiver", "result", "I", false)
  | 12 => ("FileDelivery$Receiver", "closed", "Z", false)
  | _ => ("FileDelivery$Receiver", "requestAnswer", "I", false)
def ix_ty2 : Nat → FieldType := fun k => match k with
  | 0 => .object "FileDelivery$Transaction"
  | 1 => .object "FileDelivery$Side"
  | 2 => .object "FileDelivery$Link"
  | 3 => .int
  | 4 => .array (.byte)
  | 5 => .boolean
  | 6 => .int
  | 7 => .int
  | 8 => .int
  | 9 => .int
  | 10 => .int
  | 11 => .int
  | 12 => .boolean
  | _ => .int
theorem ix_nm2 : ∀ a, a < 14 → ∀ b, b < 14 → a ≠ b → (ix_T2 a).2.1 ≠ (ix_T2 b).2.1 := by decide +kernel
theorem ix_ty2_ok : ∀ k, k < 14 → parseFieldDescriptor (ix_T2 k).2.2.1 = some (ix_ty2 k) := by decide +kernel
def ix_T3 : u_T := fun k => match k with
  | 0 => ("FileDelivery$Sender", "about", "LFileDelivery$Transaction;", true)
  | 1 => ("FileDelivery$Sender", "store", "LFileDelivery$Store;", true)
  | 2 => ("FileDelivery$Sender", "link", "LFileDelivery$Link;", true)
  | 3 => ("FileDelivery$Sender", "timeout", "I", true)
  | 4 => ("FileDelivery$Sender", "segments", "I", true)
  | 5 => ("FileDelivery$Sender", "next", "I", false)
  | 6 => ("FileDelivery$Sender", "cancelled", "Z", false)
  | 7 => ("FileDelivery$Sender", "suspended", "Z", false)
  | 8 => ("FileDelivery$Sender", "endAcknowledged", "Z", false)
  | 9 => ("FileDelivery$Sender", "metadataWanted", "Z", false)
  | 10 => ("FileDelivery$Sender", "repairs", "I", false)
  | 11 => ("FileDelivery$Sender", "endsSent", "I", false)
  | 12 => ("FileDelivery$Sender", "clock", "I", false)
  | 13 => ("FileDelivery$Sender", "endSentAt", "I", false)
  | 14 => ("FileDelivery$Sender", "latestUnitAt", "I", false)
  | _ => ("FileDelivery$Sender", "result", "I", false)
def ix_ty3 : Nat → FieldType := fun k => match k with
  | 0 => .object "FileDelivery$Transaction"
  | 1 => .object "FileDelivery$Store"
  | 2 => .object "FileDelivery$Link"
  | 3 => .int
  | 4 => .int
  | 5 => .int
  | 6 => .boolean
  | 7 => .boolean
  | 8 => .boolean
  | 9 => .boolean
  | 10 => .int
  | 11 => .int
  | 12 => .int
  | 13 => .int
  | 14 => .int
  | _ => .int
theorem ix_nm3 : ∀ a, a < 16 → ∀ b, b < 16 → a ≠ b → (ix_T3 a).2.1 ≠ (ix_T3 b).2.1 := by decide +kernel
theorem ix_ty3_ok : ∀ k, k < 16 → parseFieldDescriptor (ix_T3 k).2.2.1 = some (ix_ty3 k) := by decide +kernel
def ix_T4 : u_T := fun k => match k with
  | 0 => ("FileDelivery$Side", "store", "LFileDelivery$Store;", true)
  | 1 => ("FileDelivery$Side", "senders", "Ljava/util/ArrayList;", true)
  | 2 => ("FileDelivery$Side", "openSenders", "Ljava/util/ArrayList;", true)
  | _ => ("FileDelivery$Side", "openReceivers", "Ljava/util/ArrayList;", true)
def ix_ty4 : Nat → FieldType := fun k => match k with
  | 0 => .object "FileDelivery$Store"
  | 1 => .object "java/util/ArrayList"
  | 2 => .object "java/util/ArrayList"
  | _ => .object "java/util/ArrayList"
theorem ix_nm4 : ∀ a, a < 4 → ∀ b, b < 4 → a ≠ b → (ix_T4 a).2.1 ≠ (ix_T4 b).2.1 := by decide +kernel
theorem ix_ty4_ok : ∀ k, k < 4 → parseFieldDescriptor (ix_T4 k).2.2.1 = some (ix_ty4 k) := by decide +kernel
def ix_T5 : u_T := fun k => match k with
  | 0 => ("FileDelivery$Store", "bytes", "[[B", true)
  | _ => ("FileDelivery$Store", "sizes", "[I", true)
def ix_ty5 : Nat → FieldType := fun k => match k with
  | 0 => .array (.array (.byte))
  | _ => .array (.int)
theorem ix_nm5 : ∀ a, a < 2 → ∀ b, b < 2 → a ≠ b → (ix_T5 a).2.1 ≠ (ix_T5 b).2.1 := by decide +kernel
theorem ix_ty5_ok : ∀ k, k < 2 → parseFieldDescriptor (ix_T5 k).2.2.1 = some (ix_ty5 k) := by decide +kernel
def ix_T6 : u_T := fun k => match k with
  | 0 => ("FileDelivery$Transaction", "entity", "I", true)
  | 1 => ("FileDelivery$Transaction", "number", "I", true)
  | 2 => ("FileDelivery$Transaction", "file", "I", true)
  | 3 => ("FileDelivery$Transaction", "dest", "I", true)
  | 4 => ("FileDelivery$Transaction", "kind", "I", true)
  | 5 => ("FileDelivery$Transaction", "wish", "I", true)
  | 6 => ("FileDelivery$Transaction", "other", "I", true)
  | _ => ("FileDelivery$Transaction", "receiver", "LFileDelivery$Receiver;", false)
def ix_ty6 : Nat → FieldType := fun k => match k with
  | 0 => .int
  | 1 => .int
  | 2 => .int
  | 3 => .int
  | 4 => .int
  | 5 => .int
  | 6 => .int
  | _ => .object "FileDelivery$Receiver"
theorem ix_nm6 : ∀ a, a < 8 → ∀ b, b < 8 → a ≠ b → (ix_T6 a).2.1 ≠ (ix_T6 b).2.1 := by decide +kernel
theorem ix_ty6_ok : ∀ k, k < 8 → parseFieldDescriptor (ix_T6 k).2.2.1 = some (ix_ty6 k) := by decide +kernel
def ix_T7 : u_T := fun k => match k with
  | 0 => ("FileDelivery$Unit", "about", "LFileDelivery$Transaction;", true)
  | 1 => ("FileDelivery$Unit", "what", "I", true)
  | 2 => ("FileDelivery$Unit", "to", "I", true)
  | 3 => ("FileDelivery$Unit", "detail", "I", true)
  | 4 => ("FileDelivery$Unit", "length", "I", true)
  | _ => ("FileDelivery$Unit", "content", "I", false)
def ix_ty7 : Nat → FieldType := fun k => match k with
  | 0 => .object "FileDelivery$Transaction"
  | 1 => .int
  | 2 => .int
  | 3 => .int
  | 4 => .int
  | _ => .int
theorem ix_nm7 : ∀ a, a < 6 → ∀ b, b < 6 → a ≠ b → (ix_T7 a).2.1 ≠ (ix_T7 b).2.1 := by decide +kernel
theorem ix_ty7_ok : ∀ k, k < 6 → parseFieldDescriptor (ix_T7 k).2.2.1 = some (ix_ty7 k) := by decide +kernel
def ix_T8 : u_T := fun k => match k with
  | 0 => ("FileDeliveryModel", "span", "I", true)
  | 1 => ("FileDeliveryModel", "time", "I", false)
  | 2 => ("FileDeliveryModel", "now", "I", false)
  | 3 => ("FileDeliveryModel", "fault", "I", false)
  | 4 => ("FileDeliveryModel", "there", "[Z", true)
  | 5 => ("FileDeliveryModel", "length", "[I", true)
  | 6 => ("FileDeliveryModel", "content", "[I", true)
  | 7 => ("FileDeliveryModel", "numbers", "[I", true)
  | 8 => ("FileDeliveryModel", "kindOf", "[I", true)
  | 9 => ("FileDeliveryModel", "fileOf", "[I", true)
  | 10 => ("FileDeliveryModel", "destOf", "[I", true)
  | 11 => ("FileDeliveryModel", "wishOf", "[I", true)
  | 12 => ("FileDeliveryModel", "otherOf", "[I", true)
  | 13 => ("FileDeliveryModel", "sender", "[I", true)
  | 14 => ("FileDeliveryModel", "step", "[I", true)
  | 15 => ("FileDeliveryModel", "ends", "[I", true)
  | 16 => ("FileDeliveryModel", "clock", "[I", true)
  | 17 => ("FileDeliveryModel", "endAt", "[I", true)
  | 18 => ("FileDeliveryModel", "lastAt", "[I", true)
  | 19 => ("FileDeliveryModel", "repairs", "[I", true)
  | 20 => ("FileDeliveryModel", "acked", "[Z", true)
  | 21 => ("FileDeliveryModel", "dropped", "[Z", true)
  | 22 => ("FileDeliveryModel", "still", "[Z", true)
  | 23 => ("FileDeliveryModel", "receiver", "[I", true)
  | 24 => ("FileDeliveryModel", "wish", "[I", true)
  | 25 => ("FileDeliveryModel", "slot", "[I", true)
  | 26 => ("FileDeliveryModel", "outcome", "[I", true)
  | 27 => ("FileDeliveryModel", "size", "[I", true)
  | 28 => ("FileDeliveryModel", "sum", "[I", true)
  | 29 => ("FileDeliveryModel", "sends", "[I", true)
  | 30 => ("FileDeliveryModel", "sentAt", "[I", true)
  | 31 => ("FileDeliveryModel", "gotAt", "[I", true)
  | 32 => ("FileDeliveryModel", "toDest", "[I", true)
  | 33 => ("FileDeliveryModel", "toWish", "[I", true)
  | 34 => ("FileDeliveryModel", "toOther", "[I", true)
  | 35 => ("FileDeliveryModel", "used", "[Z", true)
  | 36 => ("FileDeliveryModel", "knows", "[Z", true)
  | 37 => ("FileDeliveryModel", "ended", "[Z", true)
  | 38 => ("FileDeliveryModel", "part", "[I", true)
  | 39 => ("FileDeliveryModel", "parts", "[I", true)
  | 40 => ("FileDeliveryModel", "senders", "[I", true)
  | 41 => ("FileDeliveryModel", "receivers", "[I", true)
  | 42 => ("FileDeliveryModel", "sending", "[I", true)
  | 43 => ("FileDeliveryModel", "receiving", "[I", true)
  | 44 => ("FileDeliveryModel", "units", "I", false)
  | 45 => ("FileDeliveryModel", "unit", "[I", true)
  | 46 => ("FileDeliveryModel", "came", "[I", true)
  | _ => ("FileDeliveryModel", "gap", "[I", true)
def ix_ty8 : Nat → FieldType := fun k => match k with
  | 0 => .int
  | 1 => .int
  | 2 => .int
  | 3 => .int
  | 4 => .array (.boolean)
  | 5 => .array (.int)
  | 6 => .array (.int)
  | 7 => .array (.int)
  | 8 => .array (.int)
  | 9 => .array (.int)
  | 10 => .array (.int)
  | 11 => .array (.int)
  | 12 => .array (.int)
  | 13 => .array (.int)
  | 14 => .array (.int)
  | 15 => .array (.int)
  | 16 => .array (.int)
  | 17 => .array (.int)
  | 18 => .array (.int)
  | 19 => .array (.int)
  | 20 => .array (.boolean)
  | 21 => .array (.boolean)
  | 22 => .array (.boolean)
  | 23 => .array (.int)
  | 24 => .array (.int)
  | 25 => .array (.int)
  | 26 => .array (.int)
  | 27 => .array (.int)
  | 28 => .array (.int)
  | 29 => .array (.int)
  | 30 => .array (.int)
  | 31 => .array (.int)
  | 32 => .array (.int)
  | 33 => .array (.int)
  | 34 => .array (.int)
  | 35 => .array (.boolean)
  | 36 => .array (.boolean)
  | 37 => .array (.boolean)
  | 38 => .array (.int)
  | 39 => .array (.int)
  | 40 => .array (.int)
  | 41 => .array (.int)
  | 42 => .array (.int)
  | 43 => .array (.int)
  | 44 => .int
  | 45 => .array (.int)
  | 46 => .array (.int)
  | _ => .array (.int)
theorem ix_nm8 : ∀ a, a < 48 → ∀ b, b < 48 → a ≠ b → (ix_T8 a).2.1 ≠ (ix_T8 b).2.1 := by decide +kernel
theorem ix_ty8_ok : ∀ k, k < 48 → parseFieldDescriptor (ix_T8 k).2.2.1 = some (ix_ty8 k) := by decide +kernel
def ix_T9 : u_T := fun k => match k with
  | 0 => ("java/util/ArrayList", "elementData", "[Ljava/lang/Object;", false)
  | 1 => ("java/util/ArrayList", "size", "I", false)
  | _ => ("java/util/AbstractList", "modCount", "I", false)
def ix_ty9 : Nat → FieldType := fun k => match k with
  | 0 => .array (.object "java/lang/Object")
  | 1 => .int
  | _ => .int
theorem ix_nm9 : ∀ a, a < 3 → ∀ b, b < 3 → a ≠ b → (ix_T9 a).2.1 ≠ (ix_T9 b).2.1 := by decide +kernel
theorem ix_ty9_ok : ∀ k, k < 3 → parseFieldDescriptor (ix_T9 k).2.2.1 = some (ix_ty9 k) := by decide +kernel
def ix_cl : List vw_C := [("FileDelivery", ix_T0, 4), ("FileDelivery$Link", ix_T1, 2), ("FileDelivery$Receiver", ix_T2, 14), ("FileDelivery$Sender", ix_T3, 16), ("FileDelivery$Side", ix_T4, 4), ("FileDelivery$Store", ix_T5, 2), ("FileDelivery$Transaction", ix_T6, 8), ("FileDelivery$Unit", ix_T7, 6), ("FileDeliveryModel", ix_T8, 48), ("java/util/ArrayList", ix_T9, 3)]
def ix_tyl : List (Nat → FieldType) := [ix_ty0, ix_ty1, ix_ty2, ix_ty3, ix_ty4, ix_ty5, ix_ty6, ix_ty7, ix_ty8, ix_ty9]
def ix_ty (k : Nat) : Nat → FieldType := ix_tyl.getD k (fun _ => .int)
def ix_nf (k : Nat) : Nat := ([4, 2, 14, 16, 4, 2, 8, 6, 48, 3] : List Nat).getD k 0
def ix_cT (k : Nat) : u_T := ([ix_T0, ix_T1, ix_T2, ix_T3, ix_T4, ix_T5, ix_T6, ix_T7, ix_T8, ix_T9] : List u_T).getD k (fun _ => ("", "", "", false))
def ix_cn (k : Nat) : String := (["FileDelivery", "FileDelivery$Link", "FileDelivery$Receiver", "FileDelivery$Sender", "FileDelivery$Side", "FileDelivery$Store", "FileDelivery$Transaction", "FileDelivery$Unit", "FileDeliveryModel", "java/util/ArrayList"] : List String).getD k ""
/-- the kinds of arrays, by what they hold -/
def ix_at (t : Nat) : FieldType := ([.int, .boolean, .byte, .long, .array .byte, .object "FileDelivery$Side", .object "FileDelivery$Unit", .object "java/lang/Object"] : List FieldType).getD t .int
/-- the methods: name, bytes, locals, what they answer, frames and words left to them -/
abbrev ix_MR : Type := MethodName × ByteArray × Nat × Option FieldType × Nat × Nat
def ix_M0 : List ix_MR := [
  (⟨"FileDeliveryLaw", "law", "([I)Z"⟩, code, 7, (some (.boolean)), 12, 474),
  (⟨"FileDelivery", "<init>", "(I)V"⟩, prog_1_method_1_code, 2, none, 11, 453),
  (⟨"FileDelivery$Side", "<init>", "()V"⟩, prog_5_method_1_code, 1, none, 10, 433),
  (⟨"FileDelivery$Store", "<init>", "()V"⟩, prog_6_method_1_code, 2, none, 9, 412),
  (⟨"java/util/ArrayList", "<init>", "()V"⟩, prog_25_method_2_code, 1, none, 9, 413),
  (⟨"java/util/AbstractList", "<init>", "()V"⟩, prog_24_method_1_code, 1, none, 8, 393),
  (⟨"java/util/AbstractCollection", "<init>", "()V"⟩, prog_23_method_1_code, 1, none, 7, 373),
  (⟨"FileDelivery$Link", "<init>", "()V"⟩, prog_2_method_1_code, 1, none, 10, 433),
  (⟨"FileDelivery", "create", "(II)Z"⟩, prog_1_method_2_code, 3, (some (.boolean)), 11, 452),
  (⟨"FileDelivery", "isFile", "(II)Z"⟩, prog_1_method_22_code, 2, (some (.boolean)), 8, 383),
  (⟨"FileDelivery", "isEntity", "(I)Z"⟩, prog_1_method_20_code, 1, (some (.boolean)), 7, 363),
  (⟨"FileDelivery", "isFileNumber", "(I)Z"⟩, prog_1_method_21_code, 1, (some (.boolean)), 7, 363),
  (⟨"FileDelivery$Store", "has", "(I)Z"⟩, prog_6_method_2_code, 2, (some (.boolean)), 6, 345),
  (⟨"FileDelivery$Store", "makeEmpty", "(I)V"⟩, prog_6_method_8_code, 2, none, 10, 431),
  (⟨"FileDelivery", "size", "(II)I"⟩, prog_1_method_5_code, 3, (some (.int)), 11, 452),
  (⟨"FileDelivery", "isThere", "(II)Z"⟩, prog_1_method_23_code, 3, (some (.boolean)), 9, 404),
  (⟨"FileDelivery$Store", "length", "(I)I"⟩, prog_6_method_3_code, 2, (some (.int)), 6, 350),
  (⟨"FileDelivery", "cancel", "(II)Z"⟩, prog_1_method_8_code, 4, (some (.boolean)), 11, 451),
  (⟨"FileDelivery", "findSender", "(II)LFileDelivery$Sender;"⟩, prog_1_method_24_code, 3, (some (.object "FileDelivery$Sender")), 9, 406),
  (⟨"FileDelivery$Side", "senderOf", "(I)LFileDelivery$Sender;"⟩, prog_5_method_3_code, 2, (some (.object "FileDelivery$Sender")), 8, 385),
  (⟨"java/util/ArrayList", "size", "()I"⟩, prog_25_method_8_code, 1, (some (.int)), 5, 324),
  (⟨"java/util/ArrayList", "get", "(I)Ljava/lang/Object;"⟩, prog_25_method_20_code, 2, (some (.object "java/lang/Object")), 5, 323),
  (⟨"java/util/Objects", "checkIndex", "(II)I"⟩, prog_30_method_17_code, 2, (some (.int)), 4, 302),
  (⟨"jdk/internal/util/Preconditions", "checkIndex", "(IILjava/util/function/BiFunction;)I"⟩, prog_34_method_11_code, 3, (some (.int)), 3, 280),
  (⟨"java/util/ArrayList", "elementData", "(I)Ljava/lang/Object;"⟩, prog_25_method_18_code, 2, (some (.object "java/lang/Object")), 4, 302),
  (⟨"FileDelivery$Sender", "beCancelled", "()Z"⟩, prog_4_method_3_code, 1, (some (.boolean)), 10, 431),
  (⟨"FileDelivery$Sender", "isOpen", "()Z"⟩, prog_4_method_2_code, 1, (some (.boolean)), 8, 388),
  (⟨"FileDelivery", "suspend", "(IIZ)Z"⟩, prog_1_method_9_code, 5, (some (.boolean)), 11, 450),
  (⟨"FileDelivery$Sender", "beSuspended", "(Z)Z"⟩, prog_4_method_4_code, 2, (some (.boolean)), 10, 429),
  (⟨"FileDelivery", "tick", "()I"⟩, prog_1_method_10_code, 2, (some (.int)), 11, 453),
  (⟨"FileDelivery$Side", "passTick", "(I)V"⟩, prog_5_method_5_code, 3, none, 10, 431),
  (⟨"FileDelivery$Sender", "passTick", "()V"⟩, prog_4_method_5_code, 1, none, 9, 411),
  (⟨"FileDelivery$Sender", "sendNext", "()V"⟩, prog_4_method_6_code, 1, none, 8, 391),
  (⟨"FileDelivery$Sender", "sendMetadata", "()V"⟩, prog_4_method_9_code, 1, none, 7, 369),
  (⟨"FileDelivery$Sender", "launch", "(IIII)V"⟩, prog_4_method_12_code, 5, none, 6, 343),
  (⟨"FileDelivery$Transaction", "otherEntity", "()I"⟩, prog_7_method_3_code, 1, (some (.int)), 5, 323),
  (⟨"FileDelivery$Unit", "<init>", "(LFileDelivery$Transaction;IIIII)V"⟩, prog_8_method_1_code, 7, none, 5, 308),
  (⟨"FileDelivery$Link", "send", "(LFileDelivery$Unit;)V"⟩, prog_2_method_3_code, 2, none, 5, 313),
  (⟨"FileDelivery$Sender", "sendData", "(I)V"⟩, prog_4_method_10_code, 3, none, 7, 367),
  (⟨"FileDelivery$Store", "segmentLength", "(II)I"⟩, prog_6_method_6_code, 4, (some (.int)), 5, 319),
  (⟨"FileDelivery$Store", "segmentBytes", "(II)I"⟩, prog_6_method_7_code, 6, (some (.int)), 6, 342),
  (⟨"FileDelivery$Store", "byteOf", "(II)I"⟩, prog_6_method_4_code, 3, (some (.int)), 5, 320),
  (⟨"FileDelivery$Sender", "sendEnd", "()V"⟩, prog_4_method_11_code, 1, none, 7, 371),
  (⟨"FileDelivery$Store", "checksum", "(I)I"⟩, prog_6_method_5_code, 2, (some (.int)), 6, 350),
  (⟨"FileDelivery", "checksumOf", "([BI)I"⟩, prog_1_method_30_code, 5, (some (.int)), 5, 326),
  (⟨"FileDelivery$Transaction", "isAcknowledged", "()Z"⟩, prog_7_method_2_code, 1, (some (.boolean)), 7, 364),
  (⟨"FileDelivery$Sender", "sendRepair", "()V"⟩, prog_4_method_7_code, 3, none, 8, 389),
  (⟨"FileDelivery$Sender", "awaitAckOfEnd", "()V"⟩, prog_4_method_8_code, 1, none, 8, 391),
  (⟨"FileDelivery$Receiver", "passTick", "(I)V"⟩, prog_3_method_3_code, 3, none, 9, 409),
  (⟨"FileDelivery$Receiver", "hasEnded", "()Z"⟩, prog_3_method_2_code, 1, (some (.boolean)), 8, 386),
  (⟨"FileDelivery$Receiver", "awaitAckOfFinished", "(II)V"⟩, prog_3_method_4_code, 3, none, 8, 387),
  (⟨"FileDelivery$Receiver", "sendFinished", "(I)V"⟩, prog_3_method_14_code, 2, none, 7, 363),
  (⟨"FileDelivery$Receiver", "launch", "(III)V"⟩, prog_3_method_16_code, 4, none, 6, 334),
  (⟨"FileDelivery$Receiver", "sendNak", "(I)V"⟩, prog_3_method_15_code, 9, none, 7, 357),
  (⟨"FileDelivery$Receiver", "missing", "()I"⟩, prog_3_method_8_code, 1, (some (.int)), 6, 337),
  (⟨"FileDelivery", "segmentsOf", "(I)I"⟩, prog_1_method_29_code, 1, (some (.int)), 5, 317),
  (⟨"FileDelivery$Receiver", "end", "(II)V"⟩, prog_3_method_13_code, 3, none, 8, 384),
  (⟨"FileDelivery$Side", "forgetClosed", "()V"⟩, prog_5_method_6_code, 2, none, 9, 408),
  (⟨"java/util/ArrayList", "remove", "(I)Ljava/lang/Object;"⟩, prog_25_method_29_code, 4, (some (.object "java/lang/Object")), 8, 385),
  (⟨"java/util/ArrayList", "fastRemove", "([Ljava/lang/Object;I)V"⟩, prog_25_method_39_code, 4, none, 7, 362)]
def ix_M1 : List ix_MR := [
  (⟨"FileDelivery", "deliver", "(I)Z"⟩, prog_1_method_11_code, 3, (some (.boolean)), 11, 452),
  (⟨"FileDelivery$Link", "take", "(I)LFileDelivery$Unit;"⟩, prog_2_method_5_code, 4, (some (.object "FileDelivery$Unit")), 10, 429),
  (⟨"FileDelivery$Link", "look", "(I)LFileDelivery$Unit;"⟩, prog_2_method_4_code, 2, (some (.object "FileDelivery$Unit")), 9, 408),
  (⟨"FileDelivery", "handToSender", "(LFileDelivery$Unit;)V"⟩, prog_1_method_26_code, 4, none, 10, 429),
  (⟨"FileDelivery$Sender", "hear", "(LFileDelivery$Unit;)V"⟩, prog_4_method_13_code, 2, none, 9, 408),
  (⟨"FileDelivery$Sender", "noteAnswer", "(LFileDelivery$Unit;)V"⟩, prog_4_method_14_code, 2, none, 8, 387),
  (⟨"FileDelivery", "handToReceiver", "(LFileDelivery$Unit;)V"⟩, prog_1_method_27_code, 4, none, 10, 429),
  (⟨"FileDelivery", "openReceiver", "(LFileDelivery$Unit;LFileDelivery$Side;)V"⟩, prog_1_method_28_code, 4, none, 9, 406),
  (⟨"FileDelivery$Receiver", "<init>", "(LFileDelivery$Transaction;LFileDelivery$Side;LFileDelivery$Link;I)V"⟩, prog_3_method_1_code, 5, none, 8, 382),
  (⟨"java/util/ArrayList", "add", "(Ljava/lang/Object;)Z"⟩, prog_25_method_25_code, 2, (some (.boolean)), 8, 375),
  (⟨"java/util/ArrayList", "add", "(Ljava/lang/Object;[Ljava/lang/Object;I)V"⟩, prog_25_method_24_code, 4, none, 7, 352),
  (⟨"java/util/ArrayList", "grow", "()[Ljava/lang/Object;"⟩, prog_25_method_7_code, 1, (some (.array (.object "java/lang/Object"))), 6, 332),
  (⟨"java/util/ArrayList", "grow", "(I)[Ljava/lang/Object;"⟩, prog_25_method_6_code, 4, (some (.array (.object "java/lang/Object"))), 5, 309),
  (⟨"jdk/internal/util/ArraysSupport", "newLength", "(III)I"⟩, prog_33_method_27_code, 4, (some (.int)), 4, 286),
  (⟨"java/lang/Math", "max", "(II)I"⟩, prog_18_method_65_code, 2, (some (.int)), 3, 265),
  (⟨"jdk/internal/util/ArraysSupport", "hugeLength", "(II)I"⟩, prog_33_method_28_code, 3, (some (.int)), 3, 264),
  (⟨"java/util/Arrays", "copyOf", "([Ljava/lang/Object;I)[Ljava/lang/Object;"⟩, prog_26_method_119_code, 2, (some (.array (.object "java/lang/Object"))), 4, 288),
  (⟨"java/util/Arrays", "copyOf", "([Ljava/lang/Object;ILjava/lang/Class;)[Ljava/lang/Object;"⟩, prog_26_method_120_code, 4, (some (.array (.object "java/lang/Object"))), 3, 265),
  (⟨"java/lang/Math", "min", "(II)I"⟩, prog_18_method_69_code, 2, (some (.int)), 2, 244),
  (⟨"FileDelivery$Receiver", "hear", "(LFileDelivery$Unit;I)V"⟩, prog_3_method_5_code, 4, none, 9, 406),
  (⟨"FileDelivery$Receiver", "note", "(LFileDelivery$Unit;)V"⟩, prog_3_method_6_code, 2, none, 8, 385),
  (⟨"FileDelivery$Receiver", "noteSegment", "(LFileDelivery$Unit;)V"⟩, prog_3_method_7_code, 4, none, 7, 362),
  (⟨"FileDelivery$Receiver", "isComplete", "()Z"⟩, prog_3_method_9_code, 1, (some (.boolean)), 8, 386),
  (⟨"FileDelivery$Receiver", "storeFile", "()I"⟩, prog_3_method_11_code, 1, (some (.int)), 8, 386),
  (⟨"FileDelivery$Side", "locks", "(I)Z"⟩, prog_5_method_4_code, 3, (some (.boolean)), 6, 344),
  (⟨"FileDelivery$Store", "replace", "(I[BI)V"⟩, prog_6_method_11_code, 4, none, 5, 321),
  (⟨"FileDelivery$Receiver", "doRequest", "()Z"⟩, prog_3_method_12_code, 1, (some (.boolean)), 7, 366),
  (⟨"FileDelivery$Store", "duplicate", "(II)V"⟩, prog_6_method_12_code, 3, none, 6, 344),
  (⟨"FileDelivery$Store", "remove", "(I)V"⟩, prog_6_method_9_code, 2, none, 6, 345),
  (⟨"FileDelivery$Receiver", "beginWaiting", "(I)V"⟩, prog_3_method_10_code, 2, none, 8, 385),
  (⟨"FileDelivery", "lose", "(I)Z"⟩, prog_1_method_12_code, 2, (some (.boolean)), 11, 453),
  (⟨"FileDelivery", "copy", "(I)Z"⟩, prog_1_method_13_code, 3, (some (.boolean)), 11, 452),
  (⟨"FileDelivery$Link", "isFull", "()Z"⟩, prog_2_method_2_code, 1, (some (.boolean)), 10, 432),
  (⟨"FileDelivery$Unit", "twin", "()LFileDelivery$Unit;"⟩, prog_8_method_2_code, 1, (some (.object "FileDelivery$Unit")), 10, 432),
  (⟨"FileDelivery", "spoil", "(II)Z"⟩, prog_1_method_14_code, 4, (some (.boolean)), 11, 451),
  (⟨"FileDelivery", "units", "()I"⟩, prog_1_method_15_code, 1, (some (.int)), 11, 454),
  (⟨"FileDelivery", "unit", "(II)I"⟩, prog_1_method_16_code, 4, (some (.int)), 11, 451),
  (⟨"FileDelivery", "sender", "(II)I"⟩, prog_1_method_17_code, 4, (some (.int)), 11, 451),
  (⟨"FileDelivery", "receiver", "(II)I"⟩, prog_1_method_18_code, 4, (some (.int)), 11, 451),
  (⟨"FileDelivery", "findReceiver", "(II)LFileDelivery$Receiver;"⟩, prog_1_method_25_code, 4, (some (.object "FileDelivery$Receiver")), 10, 428),
  (⟨"FileDelivery", "request", "(II)I"⟩, prog_1_method_19_code, 4, (some (.int)), 11, 451),
  (⟨"FileDeliveryLaw", "cell", "([II)I"⟩, method_2_code, 2, (some (.int)), 11, 453),
  (⟨"FileDeliveryLaw", "append", "(LFileDelivery;IIIJ[J)I"⟩, method_3_code, 8, (some (.int)), 11, 447),
  (⟨"FileDelivery", "append", "(IIIJ)I"⟩, prog_1_method_3_code, 7, (some (.int)), 10, 421),
  (⟨"FileDelivery$Store", "extend", "(IIJ)V"⟩, prog_6_method_10_code, 6, none, 9, 396),
  (⟨"FileDeliveryLaw", "delete", "(LFileDelivery;II[J)I"⟩, method_4_code, 5, (some (.int)), 11, 450),
  (⟨"FileDelivery", "delete", "(II)Z"⟩, prog_1_method_4_code, 3, (some (.boolean)), 10, 428),
  (⟨"FileDeliveryLaw", "at", "(LFileDelivery;III[J)I"⟩, method_5_code, 6, (some (.int)), 11, 449),
  (⟨"FileDelivery", "at", "(III)I"⟩, prog_1_method_6_code, 4, (some (.int)), 10, 426),
  (⟨"FileDeliveryLaw", "put", "(LFileDelivery;IIIIII[J)I"⟩, method_6_code, 9, (some (.int)), 11, 446),
  (⟨"FileDelivery", "put", "(IIIIII)I"⟩, prog_1_method_7_code, 10, (some (.int)), 10, 417),
  (⟨"FileDelivery$Transaction", "<init>", "(IIIIIII)V"⟩, prog_7_method_1_code, 8, none, 9, 390),
  (⟨"FileDelivery$Sender", "<init>", "(LFileDelivery$Transaction;LFileDelivery$Store;LFileDelivery$Link;I)V"⟩, prog_4_method_1_code, 5, none, 9, 393),
  (⟨"FileDelivery$Side", "addSender", "(LFileDelivery$Sender;)V"⟩, prog_5_method_2_code, 2, none, 9, 396),
  (⟨"FileDeliveryModel", "<init>", "(I)V"⟩, prog_10_method_1_code, 2, none, 11, 453),
  (⟨"FileDeliveryModel", "thrown", "()I"⟩, prog_10_method_2_code, 1, (some (.int)), 11, 454),
  (⟨"FileDeliveryModel", "create", "(II)Z"⟩, prog_10_method_7_code, 3, (some (.boolean)), 11, 452),
  (⟨"FileDeliveryModel", "isFile", "(II)Z"⟩, prog_10_method_4_code, 2, (some (.boolean)), 10, 426),
  (⟨"FileDeliveryModel", "in", "(III)Z"⟩, prog_10_method_3_code, 3, (some (.boolean)), 8, 385),
  (⟨"FileDeliveryModel", "append", "(IIIJ)I"⟩, prog_10_method_8_code, 8, (some (.int)), 11, 447)]
def ix_M2 : List ix_MR := [
  (⟨"FileDeliveryModel", "fails", "(I)I"⟩, prog_10_method_5_code, 2, (some (.int)), 10, 426),
  (⟨"FileDeliveryModel", "isLocked", "(II)Z"⟩, prog_10_method_6_code, 5, (some (.boolean)), 7, 349),
  (⟨"FileDeliveryModel", "delete", "(II)Z"⟩, prog_10_method_9_code, 3, (some (.boolean)), 11, 452),
  (⟨"FileDeliveryModel", "size", "(II)I"⟩, prog_10_method_10_code, 3, (some (.int)), 11, 452),
  (⟨"FileDeliveryModel", "at", "(III)I"⟩, prog_10_method_11_code, 4, (some (.int)), 11, 451),
  (⟨"FileDeliveryModel", "put", "(IIIIII)I"⟩, prog_10_method_18_code, 8, (some (.int)), 11, 447),
  (⟨"FileDeliveryModel", "cancel", "(II)Z"⟩, prog_10_method_21_code, 4, (some (.boolean)), 11, 451),
  (⟨"FileDeliveryModel", "known", "(II)I"⟩, prog_10_method_20_code, 3, (some (.int)), 9, 407),
  (⟨"FileDeliveryModel", "suspend", "(IIZ)Z"⟩, prog_10_method_22_code, 5, (some (.boolean)), 11, 450),
  (⟨"FileDeliveryModel", "tick", "()I"⟩, prog_10_method_42_code, 4, (some (.int)), 11, 451),
  (⟨"FileDeliveryModel", "work", "(I)V"⟩, prog_10_method_27_code, 3, none, 10, 429),
  (⟨"FileDeliveryModel", "fileIndex", "(I)I"⟩, prog_10_method_23_code, 2, (some (.int)), 7, 362),
  (⟨"FileDeliveryModel", "segments", "(I)I"⟩, prog_10_method_12_code, 1, (some (.int)), 7, 359),
  (⟨"FileDeliveryModel", "sendEnd", "(I)V"⟩, prog_10_method_26_code, 3, none, 9, 407),
  (⟨"FileDeliveryModel", "checksum", "(I)I"⟩, prog_10_method_14_code, 4, (some (.int)), 8, 384),
  (⟨"FileDeliveryModel", "word", "(II)I"⟩, prog_10_method_13_code, 5, (some (.int)), 7, 359),
  (⟨"FileDeliveryModel", "send", "(IIIIII)Z"⟩, prog_10_method_15_code, 9, (some (.boolean)), 6, 327),
  (⟨"FileDeliveryModel", "close", "(II)V"⟩, prog_10_method_19_code, 6, none, 8, 382),
  (⟨"FileDeliveryModel", "sendMetadata", "(I)V"⟩, prog_10_method_24_code, 2, none, 8, 386),
  (⟨"FileDeliveryModel", "sendData", "(II)V"⟩, prog_10_method_25_code, 5, none, 8, 383),
  (⟨"FileDeliveryModel", "repair", "(I)V"⟩, prog_10_method_28_code, 3, none, 9, 407),
  (⟨"FileDeliveryModel", "attend", "(I)V"⟩, prog_10_method_41_code, 3, none, 10, 429),
  (⟨"FileDeliveryModel", "shut", "(II)V"⟩, prog_10_method_34_code, 6, none, 7, 351),
  (⟨"FileDeliveryModel", "tell", "(I)V"⟩, prog_10_method_36_code, 2, none, 7, 355),
  (⟨"FileDeliveryModel", "finish", "(III)V"⟩, prog_10_method_35_code, 4, none, 8, 376),
  (⟨"FileDeliveryModel", "nak", "(I)V"⟩, prog_10_method_40_code, 5, none, 9, 402),
  (⟨"FileDeliveryModel", "lost", "(II)I"⟩, prog_10_method_33_code, 4, (some (.int)), 8, 379),
  (⟨"FileDeliveryModel", "deliver", "(I)Z"⟩, prog_10_method_43_code, 4, (some (.boolean)), 11, 451),
  (⟨"FileDeliveryModel", "flies", "(I)Z"⟩, prog_10_method_17_code, 2, (some (.boolean)), 10, 429),
  (⟨"FileDeliveryModel", "out", "(I)V"⟩, prog_10_method_16_code, 3, none, 10, 429),
  (⟨"FileDeliveryModel", "toSender", "(I)V"⟩, prog_10_method_29_code, 3, none, 10, 429),
  (⟨"FileDeliveryModel", "asked", "(I)V"⟩, prog_10_method_30_code, 5, none, 9, 405),
  (⟨"FileDeliveryModel", "toReceiver", "(II)V"⟩, prog_10_method_31_code, 6, none, 10, 426),
  (⟨"FileDeliveryModel", "place", "(II)V"⟩, prog_10_method_32_code, 5, none, 9, 402),
  (⟨"FileDeliveryModel", "complete", "(II)V"⟩, prog_10_method_38_code, 8, none, 9, 399),
  (⟨"FileDeliveryModel", "byteOf", "(II)I"⟩, prog_10_method_37_code, 4, (some (.int)), 8, 376),
  (⟨"FileDeliveryModel", "grant", "(III)V"⟩, prog_10_method_39_code, 7, none, 8, 373),
  (⟨"FileDeliveryModel", "lose", "(I)Z"⟩, prog_10_method_44_code, 2, (some (.boolean)), 11, 453),
  (⟨"FileDeliveryModel", "copy", "(I)Z"⟩, prog_10_method_45_code, 3, (some (.boolean)), 11, 452),
  (⟨"FileDeliveryModel", "spoil", "(II)Z"⟩, prog_10_method_46_code, 5, (some (.boolean)), 11, 450),
  (⟨"FileDeliveryModel", "units", "()I"⟩, prog_10_method_47_code, 1, (some (.int)), 11, 454),
  (⟨"FileDeliveryModel", "unit", "(II)I"⟩, prog_10_method_48_code, 4, (some (.int)), 11, 451),
  (⟨"FileDeliveryModel", "sender", "(II)I"⟩, prog_10_method_49_code, 4, (some (.int)), 11, 451),
  (⟨"FileDeliveryModel", "receiver", "(II)I"⟩, prog_10_method_50_code, 4, (some (.int)), 11, 451),
  (⟨"FileDeliveryModel", "request", "(II)I"⟩, prog_10_method_51_code, 4, (some (.int)), 11, 451)]
def ix_M : List ix_MR := ix_M0 ++ ix_M1 ++ ix_M2
def ix_rec (m : Nat) : ix_MR := ix_M.getD m (⟨"", "", ""⟩, ⟨#[]⟩, 0, none, 0, 0)
def ix_y (m : Nat) : MethodName := (ix_rec m).1
def ix_by (m : Nat) : ByteArray := (ix_rec m).2.1
def ix_mL (m : Nat) : Nat := (ix_rec m).2.2.1
def ix_rt (m : Nat) : Option FieldType := (ix_rec m).2.2.2.1
def ix_fr (m : Nat) : Nat := (ix_rec m).2.2.2.2.1
def ix_lo (m : Nat) : Nat := (ix_rec m).2.2.2.2.2
def ix_own (m : Nat) : String := (ix_y m).cls
