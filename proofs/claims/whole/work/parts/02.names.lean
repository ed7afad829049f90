/-! names: classes, their fields, the good words of the tables; written by wip/gen/names.py -/
def gW : List Cond := lw_tbl.filter goodWord
theorem gW_good : ∀ w ∈ gW, ((w.onTables && w.keeps) = true ∨ ∃ ty, w = .arrayClass ty) := fun w h => good_of_word (List.mem_filter.mp h).2
theorem gW_1 {w : Cond} (i : Nat) (h : tables_1_1[i]? = some w) (hg : goodWord w = true) : w ∈ gW := List.mem_filter.mpr ⟨List.mem_append_right _ (List.mem_append_left _ (List.mem_of_getElem? h)), hg⟩
theorem gW_2 {w : Cond} (i : Nat) (h : tables_1_2[i]? = some w) (hg : goodWord w = true) : w ∈ gW := List.mem_filter.mpr ⟨List.mem_append_right _ (List.mem_append_right _ (List.mem_append_left _ (List.mem_of_getElem? h))), hg⟩
theorem gW_3 {w : Cond} (i : Nat) (h : tables_1_3[i]? = some w) (hg : goodWord w = true) : w ∈ gW := List.mem_filter.mpr ⟨List.mem_append_right _ (List.mem_append_right _ (List.mem_append_right _ (List.mem_append_left _ (List.mem_of_getElem? h)))), hg⟩
theorem gW_4 {w : Cond} (i : Nat) (h : tables_1_4[i]? = some w) (hg : goodWord w = true) : w ∈ gW := List.mem_filter.mpr ⟨List.mem_append_right _ (List.mem_append_right _ (List.mem_append_right _ (List.mem_append_right _ (List.mem_append_left _ (List.mem_of_getElem? h))))), hg⟩
theorem gW_5 {w : Cond} (i : Nat) (h : tables_1_5[i]? = some w) (hg : goodWord w = true) : w ∈ gW := List.mem_filter.mpr ⟨List.mem_append_right _ (List.mem_append_right _ (List.mem_append_right _ (List.mem_append_right _ (List.mem_append_right _ (List.mem_append_left _ (List.mem_of_getElem? h)))))), hg⟩
theorem gW_6 {w : Cond} (i : Nat) (h : tables_1_6[i]? = some w) (hg : goodWord w = true) : w ∈ gW := List.mem_filter.mpr ⟨List.mem_append_right _ (List.mem_append_right _ (List.mem_append_right _ (List.mem_append_right _ (List.mem_append_right _ (List.mem_append_right _ (List.mem_append_left _ (List.mem_of_getElem? h))))))), hg⟩
theorem gW_7 {w : Cond} (i : Nat) (h : tables_1_7[i]? = some w) (hg : goodWord w = true) : w ∈ gW := List.mem_filter.mpr ⟨List.mem_append_right _ (List.mem_append_right _ (List.mem_append_right _ (List.mem_append_right _ (List.mem_append_right _ (List.mem_append_right _ (List.mem_append_right _ (List.mem_append_left _ (List.mem_of_getElem? h)))))))), hg⟩
theorem gW_8 {w : Cond} (i : Nat) (h : tables_1_8[i]? = some w) (hg : goodWord w = true) : w ∈ gW := List.mem_filter.mpr ⟨List.mem_append_right _ (List.mem_append_right _ (List.mem_append_right _ (List.mem_append_right _ (List.mem_append_right _ (List.mem_append_right _ (List.mem_append_right _ (List.mem_append_right _ (List.mem_append_left _ (List.mem_of_getElem? h))))))))), hg⟩
theorem gW_9 {w : Cond} (i : Nat) (h : tables_1_9[i]? = some w) (hg : goodWord w = true) : w ∈ gW := List.mem_filter.mpr ⟨List.mem_append_right _ (List.mem_append_right _ (List.mem_append_right _ (List.mem_append_right _ (List.mem_append_right _ (List.mem_append_right _ (List.mem_append_right _ (List.mem_append_right _ (List.mem_append_right _ (List.mem_append_left _ (List.mem_of_getElem? h)))))))))), hg⟩
theorem gW_10 {w : Cond} (i : Nat) (h : tables_1_10[i]? = some w) (hg : goodWord w = true) : w ∈ gW := List.mem_filter.mpr ⟨List.mem_append_right _ (List.mem_append_right _ (List.mem_append_right _ (List.mem_append_right _ (List.mem_append_right _ (List.mem_append_right _ (List.mem_append_right _ (List.mem_append_right _ (List.mem_append_right _ (List.mem_append_right _ (List.mem_append_left _ (List.mem_of_getElem? h))))))))))), hg⟩
theorem gW_11 {w : Cond} (i : Nat) (h : tables_1_11[i]? = some w) (hg : goodWord w = true) : w ∈ gW := List.mem_filter.mpr ⟨List.mem_append_right _ (List.mem_append_right _ (List.mem_append_right _ (List.mem_append_right _ (List.mem_append_right _ (List.mem_append_right _ (List.mem_append_right _ (List.mem_append_right _ (List.mem_append_right _ (List.mem_append_right _ (List.mem_append_right _ (List.mem_of_getElem? h))))))))))), hg⟩
/-- words that look at more than the tables: two statics of Throwable, casts, String constants -/
def eW : List Cond := [.isRef (.static "java/lang/Throwable" "UNASSIGNED_STACK" "[Ljava/lang/StackTraceElement;"), .isRef (.static "java/lang/Throwable" "SUPPRESSED_SENTINEL" "Ljava/util/List;"), (Jvm.Cond.arrayOver (Jvm.ClassFile.FieldType.object "FlashVault$Batch")), (Jvm.Cond.arrayOver (Jvm.ClassFile.FieldType.object "FlashVault$Run")), (Jvm.Cond.arrayOver (Jvm.ClassFile.FieldType.object "FlashVault$Cursor")), (Jvm.Cond.castable "java/lang/IllegalStateException" "java/lang/IllegalStateException"), (Jvm.Cond.declares ({ cls := "java/lang/RuntimeException", name := "<init>", desc := "()V" } : Jvm.MethodName)), (Jvm.Cond.declares ({ cls := "java/lang/RuntimeException", name := "<init>", desc := "(Ljava/lang/String;)V" } : Jvm.MethodName)), (Jvm.Cond.declares ({ cls := "java/lang/Exception", name := "<init>", desc := "()V" } : Jvm.MethodName)), (Jvm.Cond.declares ({ cls := "java/lang/Exception", name := "<init>", desc := "(Ljava/lang/String;)V" } : Jvm.MethodName)), (Jvm.Cond.declares ({ cls := "java/lang/Throwable", name := "<init>", desc := "()V" } : Jvm.MethodName)), (Jvm.Cond.declares ({ cls := "java/lang/Throwable", name := "<init>", desc := "(Ljava/lang/String;)V" } : Jvm.MethodName)), (Jvm.Cond.laysStatic "java/lang/Throwable" "UNASSIGNED_STACK" "[Ljava/lang/StackTraceElement;"), (Jvm.Cond.laysStatic "java/lang/Throwable" "SUPPRESSED_SENTINEL" "Ljava/util/List;"), (Jvm.Cond.stringRef "FlashVault" (444 : Nat) "the store is down"), (Jvm.Cond.castable "java/lang/IndexOutOfBoundsException" "java/lang/IndexOutOfBoundsException"), (Jvm.Cond.stringRef "FlashVault" (447 : Nat) "the tape is full"), (Jvm.Cond.castable "java/lang/IllegalArgumentException" "java/lang/IllegalArgumentException"), (Jvm.Cond.stringRef "FlashVault" (437 : Nat) "a number or the tape's length is out of range"), (Jvm.Cond.stringRef "FlashVault" (136 : Nat) "all transactions are open"), (Jvm.Cond.castable "java/util/NoSuchElementException" "java/util/NoSuchElementException"), (Jvm.Cond.stringRef "FlashVault" (452 : Nat) "the transaction is not open"), (Jvm.Cond.castable "java/lang/UnsupportedOperationException" "java/lang/UnsupportedOperationException"), (Jvm.Cond.stringRef "FlashVault" (489 : Nat) "too many writes"), (Jvm.Cond.stringRef "FlashVault" (235 : Nat) "a key was changed since"), (Jvm.Cond.stringRef "FlashVault" (463 : Nat) "more would be needed than the limit"), (Jvm.Cond.stringRef "FlashVault$Layout" (103 : Nat) "no block is free"), (Jvm.Cond.laysStatic "java/lang/String" "COMPACT_STRINGS" "Z"), (Jvm.Cond.castable "[B" "java/lang/Cloneable"), (Jvm.Cond.laysStatic "jdk/internal/util/Preconditions" "SIOOBE_FORMATTER" "Ljava/util/function/BiFunction;"), (Jvm.Cond.laysStatic "java/lang/StringUTF16" "$assertionsDisabled" "Z"), (Jvm.Cond.laysStatic "java/lang/StringUTF16" "HI_BYTE_SHIFT" "I"), (Jvm.Cond.laysStatic "java/lang/StringUTF16" "LO_BYTE_SHIFT" "I"), (Jvm.Cond.laysStatic "java/lang/Integer" "DigitOnes" "[B"), (Jvm.Cond.laysStatic "java/lang/Integer" "DigitTens" "[B"), (Jvm.Cond.stringRef "FlashVault$Chip" (56 : Nat) "the power fails"), (Jvm.Cond.stringRef "FlashVault$Layout" (123 : Nat) "too many tables"), (Jvm.Cond.stringRef "FlashVault" (590 : Nat) "the power fails"), (Jvm.Cond.stringRef "FlashVault" (284 : Nat) "no such byte of the result"), (Jvm.Cond.stringRef "FlashVault" (440 : Nat) "a name has a slash"), (Jvm.Cond.stringRef "FlashVault" (454 : Nat) "no directory"), (Jvm.Cond.stringRef "FlashVault" (339 : Nat) "the name is there"), (Jvm.Cond.stringRef "FlashVault" (344 : Nat) "all numbers are used"), (Jvm.Cond.stringRef "FlashVault" (458 : Nat) "no such name"), (Jvm.Cond.stringRef "FlashVault" (362 : Nat) "the directory is not empty"), (Jvm.Cond.stringRef "FlashVault" (378 : Nat) "a directory is in the way"), (Jvm.Cond.stringRef "FlashVault" (456 : Nat) "no file"), (Jvm.Cond.stringRef "FlashVault" (423 : Nat) "there is none of this number"), (Jvm.Cond.castable "java/lang/ArrayIndexOutOfBoundsException" "java/lang/IndexOutOfBoundsException"), (Jvm.Cond.not (Jvm.Cond.castable "java/lang/IllegalArgumentException" "java/lang/IllegalStateException")), (Jvm.Cond.not (Jvm.Cond.castable "java/lang/IllegalArgumentException" "java/lang/IndexOutOfBoundsException")), (Jvm.Cond.not (Jvm.Cond.castable "java/lang/IllegalArgumentException" "java/util/NoSuchElementException")), (Jvm.Cond.not (Jvm.Cond.castable "java/lang/IllegalArgumentException" "java/lang/UnsupportedOperationException")), (Jvm.Cond.not (Jvm.Cond.castable "java/lang/IllegalStateException" "java/lang/IllegalArgumentException")), (Jvm.Cond.not (Jvm.Cond.castable "java/lang/IllegalStateException" "java/lang/IndexOutOfBoundsException")), (Jvm.Cond.not (Jvm.Cond.castable "java/lang/IllegalStateException" "java/util/NoSuchElementException")), (Jvm.Cond.not (Jvm.Cond.castable "java/lang/IllegalStateException" "java/lang/UnsupportedOperationException")), (Jvm.Cond.not (Jvm.Cond.castable "java/lang/IndexOutOfBoundsException" "java/lang/IllegalArgumentException")), (Jvm.Cond.not (Jvm.Cond.castable "java/lang/IndexOutOfBoundsException" "java/lang/IllegalStateException")), (Jvm.Cond.not (Jvm.Cond.castable "java/lang/IndexOutOfBoundsException" "java/util/NoSuchElementException")), (Jvm.Cond.not (Jvm.Cond.castable "java/lang/IndexOutOfBoundsException" "java/lang/UnsupportedOperationException")), (Jvm.Cond.not (Jvm.Cond.castable "java/util/NoSuchElementException" "java/lang/IllegalArgumentException")), (Jvm.Cond.not (Jvm.Cond.castable "java/util/NoSuchElementException" "java/lang/IllegalStateException")), (Jvm.Cond.not (Jvm.Cond.castable "java/util/NoSuchElementException" "java/lang/IndexOutOfBoundsException")), (Jvm.Cond.not (Jvm.Cond.castable "java/util/NoSuchElementException" "java/lang/UnsupportedOperationException")), (Jvm.Cond.not (Jvm.Cond.castable "java/lang/UnsupportedOperationException" "java/lang/IllegalArgumentException")), (Jvm.Cond.not (Jvm.Cond.castable "java/lang/UnsupportedOperationException" "java/lang/IllegalStateException")), (Jvm.Cond.not (Jvm.Cond.castable "java/lang/UnsupportedOperationException" "java/lang/IndexOutOfBoundsException")), (Jvm.Cond.not (Jvm.Cond.castable "java/lang/UnsupportedOperationException" "java/util/NoSuchElementException"))]
def RC0 : String := "FlashVault$Batch"
def FC0 : u_T := fun k => match k with
  | 0 => ("FlashVault$Batch", "data", "[B", true)
  | 1 => ("FlashVault$Batch", "starts", "[I", true)
  | 2 => ("FlashVault$Batch", "keyLengths", "[I", true)
  | 3 => ("FlashVault$Batch", "lengths", "[I", true)
  | 4 => ("FlashVault$Batch", "places", "[I", true)
  | 5 => ("FlashVault$Batch", "size", "I", false)
  | _ => ("FlashVault$Batch", "used", "I", false)
def tC0 : Nat → FieldType := fun k => match k with
  | 0 => .array .byte
  | 1 => .array .int
  | 2 => .array .int
  | 3 => .array .int
  | 4 => .array .int
  | 5 => .int
  | _ => .int
theorem nC0 : ∀ a, a < 7 → ∀ b, b < 7 → a ≠ b → (FC0 a).2.1 ≠ (FC0 b).2.1 := by decide +kernel
theorem kC0 : ∀ k, k < 7 → parseFieldDescriptor (FC0 k).2.2.1 = some (tC0 k) := by decide +kernel
def RC1 : String := "FlashVault$Chip"
def FC1 : u_T := fun k => match k with
  | 0 => ("FlashVault$Chip", "cells", "[B", true)
  | 1 => ("FlashVault$Chip", "tops", "[I", true)
  | 2 => ("FlashVault$Chip", "partsLeft", "I", false)
  | 3 => ("FlashVault$Chip", "bytesLeft", "I", false)
  | _ => ("FlashVault$Chip", "overwritten", "I", false)
def tC1 : Nat → FieldType := fun k => match k with
  | 0 => .array .byte
  | 1 => .array .int
  | 2 => .int
  | 3 => .int
  | _ => .int
theorem nC1 : ∀ a, a < 5 → ∀ b, b < 5 → a ≠ b → (FC1 a).2.1 ≠ (FC1 b).2.1 := by decide +kernel
theorem kC1 : ∀ k, k < 5 → parseFieldDescriptor (FC1 k).2.2.1 = some (tC1 k) := by decide +kernel
def RC2 : String := "FlashVault$Cursor"
def FC2 : u_T := fun k => match k with
  | 0 => ("FlashVault$Cursor", "chip", "LFlashVault$Chip;", true)
  | 1 => ("FlashVault$Cursor", "key", "[B", true)
  | 2 => ("FlashVault$Cursor", "run", "LFlashVault$Run;", false)
  | 3 => ("FlashVault$Cursor", "offset", "I", false)
  | 4 => ("FlashVault$Cursor", "keyLength", "I", false)
  | 5 => ("FlashVault$Cursor", "moment", "I", false)
  | 6 => ("FlashVault$Cursor", "place", "I", false)
  | 7 => ("FlashVault$Cursor", "length", "I", false)
  | _ => ("FlashVault$Cursor", "ended", "Z", false)
def tC2 : Nat → FieldType := fun k => match k with
  | 0 => .object "FlashVault$Chip"
  | 1 => .array .byte
  | 2 => .object "FlashVault$Run"
  | 3 => .int
  | 4 => .int
  | 5 => .int
  | 6 => .int
  | 7 => .int
  | _ => .boolean
theorem nC2 : ∀ a, a < 9 → ∀ b, b < 9 → a ≠ b → (FC2 a).2.1 ≠ (FC2 b).2.1 := by decide +kernel
theorem kC2 : ∀ k, k < 9 → parseFieldDescriptor (FC2 k).2.2.1 = some (tC2 k) := by decide +kernel
def RC3 : String := "FlashVault$Layout"
def FC3 : u_T := fun k => match k with
  | 0 => ("FlashVault$Layout", "chip", "LFlashVault$Chip;", true)
  | 1 => ("FlashVault$Layout", "blocks", "I", true)
  | 2 => ("FlashVault$Layout", "used", "[Z", true)
  | 3 => ("FlashVault$Layout", "logs", "[I", true)
  | 4 => ("FlashVault$Layout", "runs", "[LFlashVault$Run;", true)
  | 5 => ("FlashVault$Layout", "page", "[B", true)
  | 6 => ("FlashVault$Layout", "logCount", "I", false)
  | 7 => ("FlashVault$Layout", "fresh", "I", false)
  | 8 => ("FlashVault$Layout", "freshFrom", "I", false)
  | 9 => ("FlashVault$Layout", "writing", "Z", false)
  | 10 => ("FlashVault$Layout", "top", "I", false)
  | 11 => ("FlashVault$Layout", "runCount", "I", false)
  | 12 => ("FlashVault$Layout", "master", "I", false)
  | 13 => ("FlashVault$Layout", "masterTop", "I", false)
  | 14 => ("FlashVault$Layout", "sequence", "I", false)
  | 15 => ("FlashVault$Layout", "turn", "I", false)
  | 16 => ("FlashVault$Layout", "takenNotFree", "I", false)
  | _ => ("FlashVault$Layout", "noBlock", "I", false)
def tC3 : Nat → FieldType := fun k => match k with
  | 0 => .object "FlashVault$Chip"
  | 1 => .int
  | 2 => .array .boolean
  | 3 => .array .int
  | 4 => .array (.object "FlashVault$Run")
  | 5 => .array .byte
  | 6 => .int
  | 7 => .int
  | 8 => .int
  | 9 => .boolean
  | 10 => .int
  | 11 => .int
  | 12 => .int
  | 13 => .int
  | 14 => .int
  | 15 => .int
  | 16 => .int
  | _ => .int
theorem nC3 : ∀ a, a < 18 → ∀ b, b < 18 → a ≠ b → (FC3 a).2.1 ≠ (FC3 b).2.1 := by decide +kernel
theorem kC3 : ∀ k, k < 18 → parseFieldDescriptor (FC3 k).2.2.1 = some (tC3 k) := by decide +kernel
def RC4 : String := "FlashVault$Log"
def FC4 : u_T := fun k => match k with
  | 0 => ("FlashVault$Log", "chip", "LFlashVault$Chip;", true)
  | 1 => ("FlashVault$Log", "layout", "LFlashVault$Layout;", true)
  | 2 => ("FlashVault$Log", "versions", "LFlashVault$Versions;", true)
  | 3 => ("FlashVault$Log", "tables", "LFlashVault$Tables;", true)
  | 4 => ("FlashVault$Log", "page", "[B", true)
  | 5 => ("FlashVault$Log", "key", "[B", true)
  | 6 => ("FlashVault$Log", "pending", "[I", true)
  | 7 => ("FlashVault$Log", "loads", "[I", true)
  | 8 => ("FlashVault$Log", "misplaced", "I", false)
  | _ => ("FlashVault$Log", "heavyClearings", "I", false)
def tC4 : Nat → FieldType := fun k => match k with
  | 0 => .object "FlashVault$Chip"
  | 1 => .object "FlashVault$Layout"
  | 2 => .object "FlashVault$Versions"
  | 3 => .object "FlashVault$Tables"
  | 4 => .array .byte
  | 5 => .array .byte
  | 6 => .array .int
  | 7 => .array .int
  | 8 => .int
  | _ => .int
theorem nC4 : ∀ a, a < 10 → ∀ b, b < 10 → a ≠ b → (FC4 a).2.1 ≠ (FC4 b).2.1 := by decide +kernel
theorem kC4 : ∀ k, k < 10 → parseFieldDescriptor (FC4 k).2.2.1 = some (tC4 k) := by decide +kernel
def RC5 : String := "FlashVault$Row"
def FC5 : u_T := fun k => match k with
  | 0 => ("FlashVault$Row", "bytes", "[B", true)
  | _ => ("FlashVault$Row", "length", "I", false)
def tC5 : Nat → FieldType := fun k => match k with
  | 0 => .array .byte
  | _ => .int
theorem nC5 : ∀ a, a < 2 → ∀ b, b < 2 → a ≠ b → (FC5 a).2.1 ≠ (FC5 b).2.1 := by decide +kernel
theorem kC5 : ∀ k, k < 2 → parseFieldDescriptor (FC5 k).2.2.1 = some (tC5 k) := by decide +kernel
def RC6 : String := "FlashVault$Run"
def FC6 : u_T := fun k => match k with
  | 0 => ("FlashVault$Run", "ids", "[I", true)
  | 1 => ("FlashVault$Run", "idCount", "I", false)
  | 2 => ("FlashVault$Run", "level", "I", false)
  | 3 => ("FlashVault$Run", "length", "I", false)
  | _ => ("FlashVault$Run", "entries", "I", false)
def tC6 : Nat → FieldType := fun k => match k with
  | 0 => .array .int
  | 1 => .int
  | 2 => .int
  | 3 => .int
  | _ => .int
theorem nC6 : ∀ a, a < 5 → ∀ b, b < 5 → a ≠ b → (FC6 a).2.1 ≠ (FC6 b).2.1 := by decide +kernel
theorem kC6 : ∀ k, k < 5 → parseFieldDescriptor (FC6 k).2.2.1 = some (tC6 k) := by decide +kernel
def RC7 : String := "FlashVault$Sight"
def FC7 : u_T := fun k => match k with
  | 0 => ("FlashVault$Sight", "open", "[Z", true)
  | 1 => ("FlashVault$Sight", "moments", "[I", true)
  | _ => ("FlashVault$Sight", "writes", "[LFlashVault$Batch;", true)
def tC7 : Nat → FieldType := fun k => match k with
  | 0 => .array .boolean
  | 1 => .array .int
  | _ => .array (.object "FlashVault$Batch")
theorem nC7 : ∀ a, a < 3 → ∀ b, b < 3 → a ≠ b → (FC7 a).2.1 ≠ (FC7 b).2.1 := by decide +kernel
theorem kC7 : ∀ k, k < 3 → parseFieldDescriptor (FC7 k).2.2.1 = some (tC7 k) := by decide +kernel
def RC8 : String := "FlashVault$Tables"
def FC8 : u_T := fun k => match k with
  | 0 => ("FlashVault$Tables", "chip", "LFlashVault$Chip;", true)
  | 1 => ("FlashVault$Tables", "layout", "LFlashVault$Layout;", true)
  | 2 => ("FlashVault$Tables", "versions", "LFlashVault$Versions;", true)
  | 3 => ("FlashVault$Tables", "cursors", "[LFlashVault$Cursor;", true)
  | 4 => ("FlashVault$Tables", "last", "LFlashVault$Row;", true)
  | 5 => ("FlashVault$Tables", "lastMoment", "I", false)
  | 6 => ("FlashVault$Tables", "told", "[Z", true)
  | 7 => ("FlashVault$Tables", "page", "[B", true)
  | 8 => ("FlashVault$Tables", "buffered", "I", false)
  | _ => ("FlashVault$Tables", "grownMerges", "I", false)
def tC8 : Nat → FieldType := fun k => match k with
  | 0 => .object "FlashVault$Chip"
  | 1 => .object "FlashVault$Layout"
  | 2 => .object "FlashVault$Versions"
  | 3 => .array (.object "FlashVault$Cursor")
  | 4 => .object "FlashVault$Row"
  | 5 => .int
  | 6 => .array .boolean
  | 7 => .array .byte
  | 8 => .int
  | _ => .int
theorem nC8 : ∀ a, a < 10 → ∀ b, b < 10 → a ≠ b → (FC8 a).2.1 ≠ (FC8 b).2.1 := by decide +kernel
theorem kC8 : ∀ k, k < 10 → parseFieldDescriptor (FC8 k).2.2.1 = some (tC8 k) := by decide +kernel
def RC9 : String := "FlashVault$Tree"
def FC9 : u_T := fun k => match k with
  | 0 => ("FlashVault$Tree", "kinds", "[I", true)
  | 1 => ("FlashVault$Tree", "parents", "[I", true)
  | 2 => ("FlashVault$Tree", "sizes", "[I", true)
  | 3 => ("FlashVault$Tree", "nameLengths", "[I", true)
  | 4 => ("FlashVault$Tree", "names", "[B", true)
  | _ => ("FlashVault$Tree", "nodes", "I", false)
def tC9 : Nat → FieldType := fun k => match k with
  | 0 => .array .int
  | 1 => .array .int
  | 2 => .array .int
  | 3 => .array .int
  | 4 => .array .byte
  | _ => .int
theorem nC9 : ∀ a, a < 6 → ∀ b, b < 6 → a ≠ b → (FC9 a).2.1 ≠ (FC9 b).2.1 := by decide +kernel
theorem kC9 : ∀ k, k < 6 → parseFieldDescriptor (FC9 k).2.2.1 = some (tC9 k) := by decide +kernel
def RC10 : String := "FlashVault$Versions"
def FC10 : u_T := fun k => match k with
  | 0 => ("FlashVault$Versions", "sight", "LFlashVault$Sight;", true)
  | 1 => ("FlashVault$Versions", "keys", "[B", true)
  | 2 => ("FlashVault$Versions", "keyLengths", "[I", true)
  | 3 => ("FlashVault$Versions", "moments", "[I", true)
  | 4 => ("FlashVault$Versions", "places", "[I", true)
  | 5 => ("FlashVault$Versions", "lengths", "[I", true)
  | 6 => ("FlashVault$Versions", "alone", "[Z", true)
  | 7 => ("FlashVault$Versions", "order", "[I", true)
  | 8 => ("FlashVault$Versions", "spare", "[I", true)
  | 9 => ("FlashVault$Versions", "size", "I", false)
  | 10 => ("FlashVault$Versions", "spares", "I", false)
  | _ => ("FlashVault$Versions", "aloneCount", "I", false)
def tC10 : Nat → FieldType := fun k => match k with
  | 0 => .object "FlashVault$Sight"
  | 1 => .array .byte
  | 2 => .array .int
  | 3 => .array .int
  | 4 => .array .int
  | 5 => .array .int
  | 6 => .array .boolean
  | 7 => .array .int
  | 8 => .array .int
  | 9 => .int
  | 10 => .int
  | _ => .int
theorem nC10 : ∀ a, a < 12 → ∀ b, b < 12 → a ≠ b → (FC10 a).2.1 ≠ (FC10 b).2.1 := by decide +kernel
theorem kC10 : ∀ k, k < 12 → parseFieldDescriptor (FC10 k).2.2.1 = some (tC10 k) := by decide +kernel
def RC11 : String := "FlashVault"
def FC11 : u_T := fun k => match k with
  | 0 => ("FlashVault", "blocks", "I", true)
  | 1 => ("FlashVault", "tape", "LFlashVault$Row;", true)
  | 2 => ("FlashVault", "result", "LFlashVault$Row;", true)
  | 3 => ("FlashVault", "probe", "LFlashVault$Row;", true)
  | 4 => ("FlashVault", "sight", "LFlashVault$Sight;", true)
  | 5 => ("FlashVault", "change", "LFlashVault$Batch;", true)
  | 6 => ("FlashVault", "tree", "LFlashVault$Tree;", true)
  | 7 => ("FlashVault", "chip", "LFlashVault$Chip;", true)
  | 8 => ("FlashVault", "versions", "LFlashVault$Versions;", true)
  | 9 => ("FlashVault", "layout", "LFlashVault$Layout;", true)
  | 10 => ("FlashVault", "tables", "LFlashVault$Tables;", true)
  | 11 => ("FlashVault", "log", "LFlashVault$Log;", true)
  | 12 => ("FlashVault", "present", "I", false)
  | 13 => ("FlashVault", "up", "Z", false)
  | 14 => ("FlashVault", "cutWaits", "Z", false)
  | 15 => ("FlashVault", "cutLate", "Z", false)
  | 16 => ("FlashVault", "cutPart", "I", false)
  | _ => ("FlashVault", "cutBytes", "I", false)
def tC11 : Nat → FieldType := fun k => match k with
  | 0 => .int
  | 1 => .object "FlashVault$Row"
  | 2 => .object "FlashVault$Row"
  | 3 => .object "FlashVault$Row"
  | 4 => .object "FlashVault$Sight"
  | 5 => .object "FlashVault$Batch"
  | 6 => .object "FlashVault$Tree"
  | 7 => .object "FlashVault$Chip"
  | 8 => .object "FlashVault$Versions"
  | 9 => .object "FlashVault$Layout"
  | 10 => .object "FlashVault$Tables"
  | 11 => .object "FlashVault$Log"
  | 12 => .int
  | 13 => .boolean
  | 14 => .boolean
  | 15 => .boolean
  | 16 => .int
  | _ => .int
theorem nC11 : ∀ a, a < 18 → ∀ b, b < 18 → a ≠ b → (FC11 a).2.1 ≠ (FC11 b).2.1 := by decide +kernel
theorem kC11 : ∀ k, k < 18 → parseFieldDescriptor (FC11 k).2.2.1 = some (tC11 k) := by decide +kernel
def RC12 : String := "FlashVaultModel"
def FC12 : u_T := fun k => match k with
  | 0 => ("FlashVaultModel", "failed", "I", false)
  | 1 => ("FlashVaultModel", "limit", "I", true)
  | 2 => ("FlashVaultModel", "down", "Z", false)
  | 3 => ("FlashVaultModel", "cutWaits", "Z", false)
  | 4 => ("FlashVaultModel", "cutLate", "Z", false)
  | 5 => ("FlashVaultModel", "tape", "[B", true)
  | 6 => ("FlashVaultModel", "taped", "I", false)
  | 7 => ("FlashVaultModel", "result", "[B", true)
  | 8 => ("FlashVaultModel", "resultSize", "I", false)
  | 9 => ("FlashVaultModel", "present", "I", false)
  | 10 => ("FlashVaultModel", "versions", "I", false)
  | 11 => ("FlashVaultModel", "vKey", "[I", true)
  | 12 => ("FlashVaultModel", "vKeySize", "[I", true)
  | 13 => ("FlashVaultModel", "vValue", "[I", true)
  | 14 => ("FlashVaultModel", "vSize", "[I", true)
  | 15 => ("FlashVaultModel", "vMoment", "[I", true)
  | 16 => ("FlashVaultModel", "bytes", "[B", false)
  | 17 => ("FlashVaultModel", "others", "[B", false)
  | 18 => ("FlashVaultModel", "used", "I", false)
  | 19 => ("FlashVaultModel", "open", "[Z", true)
  | 20 => ("FlashVaultModel", "sees", "[I", true)
  | 21 => ("FlashVaultModel", "rows", "[I", true)
  | 22 => ("FlashVaultModel", "filled", "[I", true)
  | 23 => ("FlashVaultModel", "wKey", "[I", true)
  | 24 => ("FlashVaultModel", "wKeySize", "[I", true)
  | 25 => ("FlashVaultModel", "wSize", "[I", true)
  | 26 => ("FlashVaultModel", "written", "[B", true)
  | 27 => ("FlashVaultModel", "kind", "[I", true)
  | 28 => ("FlashVaultModel", "parent", "[I", true)
  | 29 => ("FlashVaultModel", "nameSize", "[I", true)
  | 30 => ("FlashVaultModel", "names", "[B", true)
  | 31 => ("FlashVaultModel", "fileSize", "[I", true)
  | 32 => ("FlashVaultModel", "pieces", "I", false)
  | 33 => ("FlashVaultModel", "pFile", "[I", true)
  | 34 => ("FlashVaultModel", "pIndex", "[I", true)
  | 35 => ("FlashVaultModel", "pSize", "[I", true)
  | 36 => ("FlashVaultModel", "pAt", "[I", true)
  | 37 => ("FlashVaultModel", "held", "[B", true)
  | 38 => ("FlashVaultModel", "weights", "[I", true)
  | _ => ("FlashVaultModel", "heldUsed", "I", false)
def tC12 : Nat → FieldType := fun k => match k with
  | 0 => .int
  | 1 => .int
  | 2 => .boolean
  | 3 => .boolean
  | 4 => .boolean
  | 5 => .array .byte
  | 6 => .int
  | 7 => .array .byte
  | 8 => .int
  | 9 => .int
  | 10 => .int
  | 11 => .array .int
  | 12 => .array .int
  | 13 => .array .int
  | 14 => .array .int
  | 15 => .array .int
  | 16 => .array .byte
  | 17 => .array .byte
  | 18 => .int
  | 19 => .array .boolean
  | 20 => .array .int
  | 21 => .array .int
  | 22 => .array .int
  | 23 => .array .int
  | 24 => .array .int
  | 25 => .array .int
  | 26 => .array .byte
  | 27 => .array .int
  | 28 => .array .int
  | 29 => .array .int
  | 30 => .array .byte
  | 31 => .array .int
  | 32 => .int
  | 33 => .array .int
  | 34 => .array .int
  | 35 => .array .int
  | 36 => .array .int
  | 37 => .array .byte
  | 38 => .array .int
  | _ => .int
theorem nC12 : ∀ a, a < 40 → ∀ b, b < 40 → a ≠ b → (FC12 a).2.1 ≠ (FC12 b).2.1 := by decide +kernel
theorem kC12 : ∀ k, k < 40 → parseFieldDescriptor (FC12 k).2.2.1 = some (tC12 k) := by decide +kernel
abbrev cls : List vw_C := [(RC0, FC0, 7), (RC1, FC1, 5), (RC2, FC2, 9), (RC3, FC3, 18), (RC4, FC4, 10), (RC5, FC5, 2), (RC6, FC6, 5), (RC7, FC7, 3), (RC8, FC8, 10), (RC9, FC9, 6), (RC10, FC10, 12), (RC11, FC11, 18), (RC12, FC12, 40)]
theorem lC0_0 : u_lay RC0 FC0 0 ∈ gW := gW_1 100 rfl rfl
theorem lC0_1 : u_lay RC0 FC0 1 ∈ gW := gW_1 102 rfl rfl
theorem lC0_2 : u_lay RC0 FC0 2 ∈ gW := gW_1 104 rfl rfl
theorem lC0_3 : u_lay RC0 FC0 3 ∈ gW := gW_1 106 rfl rfl
theorem lC0_4 : u_lay RC0 FC0 4 ∈ gW := gW_1 108 rfl rfl
theorem lC0_5 : u_lay RC0 FC0 5 ∈ gW := gW_1 110 rfl rfl
theorem lC0_6 : u_lay RC0 FC0 6 ∈ gW := gW_1 112 rfl rfl
theorem iC0 : ∀ w ∈ u_ws RC0 FC0 7, w ∈ gW := by
  intro w hw
  obtain ⟨k, hk, rfl⟩ := List.mem_map.mp hw
  have hk := List.mem_range.mp hk
  match k, hk with
  | 0, _ => exact lC0_0
  | 1, _ => exact lC0_1
  | 2, _ => exact lC0_2
  | 3, _ => exact lC0_3
  | 4, _ => exact lC0_4
  | 5, _ => exact lC0_5
  | 6, _ => exact lC0_6
  | k + 7, hk => exact absurd hk (by omega)
theorem lC1_0 : u_lay RC1 FC1 0 ∈ gW := gW_1 174 rfl rfl
theorem lC1_1 : u_lay RC1 FC1 1 ∈ gW := gW_1 176 rfl rfl
theorem lC1_2 : u_lay RC1 FC1 2 ∈ gW := gW_1 178 rfl rfl
theorem lC1_3 : u_lay RC1 FC1 3 ∈ gW := gW_1 180 rfl rfl
theorem lC1_4 : u_lay RC1 FC1 4 ∈ gW := gW_1 182 rfl rfl
theorem iC1 : ∀ w ∈ u_ws RC1 FC1 5, w ∈ gW := by
  intro w hw
  obtain ⟨k, hk, rfl⟩ := List.mem_map.mp hw
  have hk := List.mem_range.mp hk
  match k, hk with
  | 0, _ => exact lC1_0
  | 1, _ => exact lC1_1
  | 2, _ => exact lC1_2
  | 3, _ => exact lC1_3
  | 4, _ => exact lC1_4
  | k + 5, hk => exact absurd hk (by omega)
theorem lC2_0 : u_lay RC2 FC2 0 ∈ gW := gW_2 161 rfl rfl
theorem lC2_1 : u_lay RC2 FC2 1 ∈ gW := gW_2 163 rfl rfl
theorem lC2_2 : u_lay RC2 FC2 2 ∈ gW := gW_2 165 rfl rfl
theorem lC2_3 : u_lay RC2 FC2 3 ∈ gW := gW_2 167 rfl rfl
theorem lC2_4 : u_lay RC2 FC2 4 ∈ gW := gW_2 169 rfl rfl
theorem lC2_5 : u_lay RC2 FC2 5 ∈ gW := gW_2 171 rfl rfl
theorem lC2_6 : u_lay RC2 FC2 6 ∈ gW := gW_2 173 rfl rfl
theorem lC2_7 : u_lay RC2 FC2 7 ∈ gW := gW_2 175 rfl rfl
theorem lC2_8 : u_lay RC2 FC2 8 ∈ gW := gW_2 177 rfl rfl
theorem iC2 : ∀ w ∈ u_ws RC2 FC2 9, w ∈ gW := by
  intro w hw
  obtain ⟨k, hk, rfl⟩ := List.mem_map.mp hw
  have hk := List.mem_range.mp hk
  match k, hk with
  | 0, _ => exact lC2_0
  | 1, _ => exact lC2_1
  | 2, _ => exact lC2_2
  | 3, _ => exact lC2_3
  | 4, _ => exact lC2_4
  | 5, _ => exact lC2_5
  | 6, _ => exact lC2_6
  | 7, _ => exact lC2_7
  | 8, _ => exact lC2_8
  | k + 9, hk => exact absurd hk (by omega)
theorem lC3_0 : u_lay RC3 FC3 0 ∈ gW := gW_2 93 rfl rfl
theorem lC3_1 : u_lay RC3 FC3 1 ∈ gW := gW_2 95 rfl rfl
theorem lC3_2 : u_lay RC3 FC3 2 ∈ gW := gW_2 97 rfl rfl
theorem lC3_3 : u_lay RC3 FC3 3 ∈ gW := gW_2 99 rfl rfl
theorem lC3_4 : u_lay RC3 FC3 4 ∈ gW := gW_2 101 rfl rfl
theorem lC3_5 : u_lay RC3 FC3 5 ∈ gW := gW_2 103 rfl rfl
theorem lC3_6 : u_lay RC3 FC3 6 ∈ gW := gW_2 105 rfl rfl
theorem lC3_7 : u_lay RC3 FC3 7 ∈ gW := gW_2 107 rfl rfl
theorem lC3_8 : u_lay RC3 FC3 8 ∈ gW := gW_2 109 rfl rfl
theorem lC3_9 : u_lay RC3 FC3 9 ∈ gW := gW_2 111 rfl rfl
theorem lC3_10 : u_lay RC3 FC3 10 ∈ gW := gW_2 113 rfl rfl
theorem lC3_11 : u_lay RC3 FC3 11 ∈ gW := gW_2 115 rfl rfl
theorem lC3_12 : u_lay RC3 FC3 12 ∈ gW := gW_2 117 rfl rfl
theorem lC3_13 : u_lay RC3 FC3 13 ∈ gW := gW_2 119 rfl rfl
theorem lC3_14 : u_lay RC3 FC3 14 ∈ gW := gW_2 121 rfl rfl
theorem lC3_15 : u_lay RC3 FC3 15 ∈ gW := gW_2 123 rfl rfl
theorem lC3_16 : u_lay RC3 FC3 16 ∈ gW := gW_2 125 rfl rfl
theorem lC3_17 : u_lay RC3 FC3 17 ∈ gW := gW_2 127 rfl rfl
theorem iC3 : ∀ w ∈ u_ws RC3 FC3 18, w ∈ gW := by
  intro w hw
  obtain ⟨k, hk, rfl⟩ := List.mem_map.mp hw
  have hk := List.mem_range.mp hk
  match k, hk with
  | 0, _ => exact lC3_0
  | 1, _ => exact lC3_1
  | 2, _ => exact lC3_2
  | 3, _ => exact lC3_3
  | 4, _ => exact lC3_4
  | 5, _ => exact lC3_5
  | 6, _ => exact lC3_6
  | 7, _ => exact lC3_7
  | 8, _ => exact lC3_8
  | 9, _ => exact lC3_9
  | 10, _ => exact lC3_10
  | 11, _ => exact lC3_11
  | 12, _ => exact lC3_12
  | 13, _ => exact lC3_13
  | 14, _ => exact lC3_14
  | 15, _ => exact lC3_15
  | 16, _ => exact lC3_16
  | 17, _ => exact lC3_17
  | k + 18, hk => exact absurd hk (by omega)
theorem lC4_0 : u_lay RC4 FC4 0 ∈ gW := gW_2 230 rfl rfl
theorem lC4_1 : u_lay RC4 FC4 1 ∈ gW := gW_2 232 rfl rfl
theorem lC4_2 : u_lay RC4 FC4 2 ∈ gW := gW_2 234 rfl rfl
theorem lC4_3 : u_lay RC4 FC4 3 ∈ gW := gW_2 236 rfl rfl
theorem lC4_4 : u_lay RC4 FC4 4 ∈ gW := gW_2 238 rfl rfl
theorem lC4_5 : u_lay RC4 FC4 5 ∈ gW := gW_3 0 rfl rfl
theorem lC4_6 : u_lay RC4 FC4 6 ∈ gW := gW_3 2 rfl rfl
theorem lC4_7 : u_lay RC4 FC4 7 ∈ gW := gW_3 4 rfl rfl
theorem lC4_8 : u_lay RC4 FC4 8 ∈ gW := gW_3 6 rfl rfl
theorem lC4_9 : u_lay RC4 FC4 9 ∈ gW := gW_3 8 rfl rfl
theorem iC4 : ∀ w ∈ u_ws RC4 FC4 10, w ∈ gW := by
  intro w hw
  obtain ⟨k, hk, rfl⟩ := List.mem_map.mp hw
  have hk := List.mem_range.mp hk
  match k, hk with
  | 0, _ => exact lC4_0
  | 1, _ => exact lC4_1
  | 2, _ => exact lC4_2
  | 3, _ => exact lC4_3
  | 4, _ => exact lC4_4
  | 5, _ => exact lC4_5
  | 6, _ => exact lC4_6
  | 7, _ => exact lC4_7
  | 8, _ => exact lC4_8
  | 9, _ => exact lC4_9
  | k + 10, hk => exact absurd hk (by omega)
theorem lC5_0 : u_lay RC5 FC5 0 ∈ gW := gW_1 57 rfl rfl
theorem lC5_1 : u_lay RC5 FC5 1 ∈ gW := gW_1 59 rfl rfl
theorem iC5 : ∀ w ∈ u_ws RC5 FC5 2, w ∈ gW := by
  intro w hw
  obtain ⟨k, hk, rfl⟩ := List.mem_map.mp hw
  have hk := List.mem_range.mp hk
  match k, hk with
  | 0, _ => exact lC5_0
  | 1, _ => exact lC5_1
  | k + 2, hk => exact absurd hk (by omega)
theorem lC6_0 : u_lay RC6 FC6 0 ∈ gW := gW_2 45 rfl rfl
theorem lC6_1 : u_lay RC6 FC6 1 ∈ gW := gW_2 47 rfl rfl
theorem lC6_2 : u_lay RC6 FC6 2 ∈ gW := gW_2 49 rfl rfl
theorem lC6_3 : u_lay RC6 FC6 3 ∈ gW := gW_2 51 rfl rfl
theorem lC6_4 : u_lay RC6 FC6 4 ∈ gW := gW_2 53 rfl rfl
theorem iC6 : ∀ w ∈ u_ws RC6 FC6 5, w ∈ gW := by
  intro w hw
  obtain ⟨k, hk, rfl⟩ := List.mem_map.mp hw
  have hk := List.mem_range.mp hk
  match k, hk with
  | 0, _ => exact lC6_0
  | 1, _ => exact lC6_1
  | 2, _ => exact lC6_2
  | 3, _ => exact lC6_3
  | 4, _ => exact lC6_4
  | k + 5, hk => exact absurd hk (by omega)
theorem lC7_0 : u_lay RC7 FC7 0 ∈ gW := gW_1 120 rfl rfl
theorem lC7_1 : u_lay RC7 FC7 1 ∈ gW := gW_1 122 rfl rfl
theorem lC7_2 : u_lay RC7 FC7 2 ∈ gW := gW_1 124 rfl rfl
theorem iC7 : ∀ w ∈ u_ws RC7 FC7 3, w ∈ gW := by
  intro w hw
  obtain ⟨k, hk, rfl⟩ := List.mem_map.mp hw
  have hk := List.mem_range.mp hk
  match k, hk with
  | 0, _ => exact lC7_0
  | 1, _ => exact lC7_1
  | 2, _ => exact lC7_2
  | k + 3, hk => exact absurd hk (by omega)
theorem lC8_0 : u_lay RC8 FC8 0 ∈ gW := gW_2 191 rfl rfl
theorem lC8_1 : u_lay RC8 FC8 1 ∈ gW := gW_2 193 rfl rfl
theorem lC8_2 : u_lay RC8 FC8 2 ∈ gW := gW_2 195 rfl rfl
theorem lC8_3 : u_lay RC8 FC8 3 ∈ gW := gW_2 197 rfl rfl
theorem lC8_4 : u_lay RC8 FC8 4 ∈ gW := gW_2 199 rfl rfl
theorem lC8_5 : u_lay RC8 FC8 5 ∈ gW := gW_2 201 rfl rfl
theorem lC8_6 : u_lay RC8 FC8 6 ∈ gW := gW_2 203 rfl rfl
theorem lC8_7 : u_lay RC8 FC8 7 ∈ gW := gW_2 205 rfl rfl
theorem lC8_8 : u_lay RC8 FC8 8 ∈ gW := gW_2 207 rfl rfl
theorem lC8_9 : u_lay RC8 FC8 9 ∈ gW := gW_2 209 rfl rfl
theorem iC8 : ∀ w ∈ u_ws RC8 FC8 10, w ∈ gW := by
  intro w hw
  obtain ⟨k, hk, rfl⟩ := List.mem_map.mp hw
  have hk := List.mem_range.mp hk
  match k, hk with
  | 0, _ => exact lC8_0
  | 1, _ => exact lC8_1
  | 2, _ => exact lC8_2
  | 3, _ => exact lC8_3
  | 4, _ => exact lC8_4
  | 5, _ => exact lC8_5
  | 6, _ => exact lC8_6
  | 7, _ => exact lC8_7
  | 8, _ => exact lC8_8
  | 9, _ => exact lC8_9
  | k + 10, hk => exact absurd hk (by omega)
theorem lC9_0 : u_lay RC9 FC9 0 ∈ gW := gW_1 143 rfl rfl
theorem lC9_1 : u_lay RC9 FC9 1 ∈ gW := gW_1 145 rfl rfl
theorem lC9_2 : u_lay RC9 FC9 2 ∈ gW := gW_1 147 rfl rfl
theorem lC9_3 : u_lay RC9 FC9 3 ∈ gW := gW_1 149 rfl rfl
theorem lC9_4 : u_lay RC9 FC9 4 ∈ gW := gW_1 151 rfl rfl
theorem lC9_5 : u_lay RC9 FC9 5 ∈ gW := gW_1 153 rfl rfl
theorem iC9 : ∀ w ∈ u_ws RC9 FC9 6, w ∈ gW := by
  intro w hw
  obtain ⟨k, hk, rfl⟩ := List.mem_map.mp hw
  have hk := List.mem_range.mp hk
  match k, hk with
  | 0, _ => exact lC9_0
  | 1, _ => exact lC9_1
  | 2, _ => exact lC9_2
  | 3, _ => exact lC9_3
  | 4, _ => exact lC9_4
  | 5, _ => exact lC9_5
  | k + 6, hk => exact absurd hk (by omega)
theorem lC10_0 : u_lay RC10 FC10 0 ∈ gW := gW_1 232 rfl rfl
theorem lC10_1 : u_lay RC10 FC10 1 ∈ gW := gW_1 234 rfl rfl
theorem lC10_2 : u_lay RC10 FC10 2 ∈ gW := gW_1 236 rfl rfl
theorem lC10_3 : u_lay RC10 FC10 3 ∈ gW := gW_1 238 rfl rfl
theorem lC10_4 : u_lay RC10 FC10 4 ∈ gW := gW_2 0 rfl rfl
theorem lC10_5 : u_lay RC10 FC10 5 ∈ gW := gW_2 2 rfl rfl
theorem lC10_6 : u_lay RC10 FC10 6 ∈ gW := gW_2 4 rfl rfl
theorem lC10_7 : u_lay RC10 FC10 7 ∈ gW := gW_2 6 rfl rfl
theorem lC10_8 : u_lay RC10 FC10 8 ∈ gW := gW_2 8 rfl rfl
theorem lC10_9 : u_lay RC10 FC10 9 ∈ gW := gW_2 10 rfl rfl
theorem lC10_10 : u_lay RC10 FC10 10 ∈ gW := gW_2 12 rfl rfl
theorem lC10_11 : u_lay RC10 FC10 11 ∈ gW := gW_2 14 rfl rfl
theorem iC10 : ∀ w ∈ u_ws RC10 FC10 12, w ∈ gW := by
  intro w hw
  obtain ⟨k, hk, rfl⟩ := List.mem_map.mp hw
  have hk := List.mem_range.mp hk
  match k, hk with
  | 0, _ => exact lC10_0
  | 1, _ => exact lC10_1
  | 2, _ => exact lC10_2
  | 3, _ => exact lC10_3
  | 4, _ => exact lC10_4
  | 5, _ => exact lC10_5
  | 6, _ => exact lC10_6
  | 7, _ => exact lC10_7
  | 8, _ => exact lC10_8
  | 9, _ => exact lC10_9
  | 10, _ => exact lC10_10
  | 11, _ => exact lC10_11
  | k + 12, hk => exact absurd hk (by omega)
theorem lC11_0 : u_lay RC11 FC11 0 ∈ gW := gW_3 29 rfl rfl
theorem lC11_1 : u_lay RC11 FC11 1 ∈ gW := gW_3 31 rfl rfl
theorem lC11_2 : u_lay RC11 FC11 2 ∈ gW := gW_3 33 rfl rfl
theorem lC11_3 : u_lay RC11 FC11 3 ∈ gW := gW_3 35 rfl rfl
theorem lC11_4 : u_lay RC11 FC11 4 ∈ gW := gW_3 37 rfl rfl
theorem lC11_5 : u_lay RC11 FC11 5 ∈ gW := gW_3 39 rfl rfl
theorem lC11_6 : u_lay RC11 FC11 6 ∈ gW := gW_3 41 rfl rfl
theorem lC11_7 : u_lay RC11 FC11 7 ∈ gW := gW_3 43 rfl rfl
theorem lC11_8 : u_lay RC11 FC11 8 ∈ gW := gW_3 45 rfl rfl
theorem lC11_9 : u_lay RC11 FC11 9 ∈ gW := gW_3 47 rfl rfl
theorem lC11_10 : u_lay RC11 FC11 10 ∈ gW := gW_3 49 rfl rfl
theorem lC11_11 : u_lay RC11 FC11 11 ∈ gW := gW_3 51 rfl rfl
theorem lC11_12 : u_lay RC11 FC11 12 ∈ gW := gW_3 53 rfl rfl
theorem lC11_13 : u_lay RC11 FC11 13 ∈ gW := gW_3 55 rfl rfl
theorem lC11_14 : u_lay RC11 FC11 14 ∈ gW := gW_3 57 rfl rfl
theorem lC11_15 : u_lay RC11 FC11 15 ∈ gW := gW_3 59 rfl rfl
theorem lC11_16 : u_lay RC11 FC11 16 ∈ gW := gW_3 61 rfl rfl
theorem lC11_17 : u_lay RC11 FC11 17 ∈ gW := gW_3 63 rfl rfl
theorem iC11 : ∀ w ∈ u_ws RC11 FC11 18, w ∈ gW := by
  intro w hw
  obtain ⟨k, hk, rfl⟩ := List.mem_map.mp hw
  have hk := List.mem_range.mp hk
  match k, hk with
  | 0, _ => exact lC11_0
  | 1, _ => exact lC11_1
  | 2, _ => exact lC11_2
  | 3, _ => exact lC11_3
  | 4, _ => exact lC11_4
  | 5, _ => exact lC11_5
  | 6, _ => exact lC11_6
  | 7, _ => exact lC11_7
  | 8, _ => exact lC11_8
  | 9, _ => exact lC11_9
  | 10, _ => exact lC11_10
  | 11, _ => exact lC11_11
  | 12, _ => exact lC11_12
  | 13, _ => exact lC11_13
  | 14, _ => exact lC11_14
  | 15, _ => exact lC11_15
  | 16, _ => exact lC11_16
  | 17, _ => exact lC11_17
  | k + 18, hk => exact absurd hk (by omega)
theorem lC12_0 : u_lay RC12 FC12 0 ∈ gW := gW_9 118 rfl rfl
theorem lC12_1 : u_lay RC12 FC12 1 ∈ gW := gW_9 120 rfl rfl
theorem lC12_2 : u_lay RC12 FC12 2 ∈ gW := gW_9 122 rfl rfl
theorem lC12_3 : u_lay RC12 FC12 3 ∈ gW := gW_9 124 rfl rfl
theorem lC12_4 : u_lay RC12 FC12 4 ∈ gW := gW_9 126 rfl rfl
theorem lC12_5 : u_lay RC12 FC12 5 ∈ gW := gW_9 128 rfl rfl
theorem lC12_6 : u_lay RC12 FC12 6 ∈ gW := gW_9 130 rfl rfl
theorem lC12_7 : u_lay RC12 FC12 7 ∈ gW := gW_9 132 rfl rfl
theorem lC12_8 : u_lay RC12 FC12 8 ∈ gW := gW_9 134 rfl rfl
theorem lC12_9 : u_lay RC12 FC12 9 ∈ gW := gW_9 136 rfl rfl
theorem lC12_10 : u_lay RC12 FC12 10 ∈ gW := gW_9 138 rfl rfl
theorem lC12_11 : u_lay RC12 FC12 11 ∈ gW := gW_9 140 rfl rfl
theorem lC12_12 : u_lay RC12 FC12 12 ∈ gW := gW_9 142 rfl rfl
theorem lC12_13 : u_lay RC12 FC12 13 ∈ gW := gW_9 144 rfl rfl
theorem lC12_14 : u_lay RC12 FC12 14 ∈ gW := gW_9 146 rfl rfl
theorem lC12_15 : u_lay RC12 FC12 15 ∈ gW := gW_9 148 rfl rfl
theorem lC12_16 : u_lay RC12 FC12 16 ∈ gW := gW_9 150 rfl rfl
theorem lC12_17 : u_lay RC12 FC12 17 ∈ gW := gW_9 152 rfl rfl
theorem lC12_18 : u_lay RC12 FC12 18 ∈ gW := gW_9 154 rfl rfl
theorem lC12_19 : u_lay RC12 FC12 19 ∈ gW := gW_9 156 rfl rfl
theorem lC12_20 : u_lay RC12 FC12 20 ∈ gW := gW_9 158 rfl rfl
theorem lC12_21 : u_lay RC12 FC12 21 ∈ gW := gW_9 160 rfl rfl
theorem lC12_22 : u_lay RC12 FC12 22 ∈ gW := gW_9 162 rfl rfl
theorem lC12_23 : u_lay RC12 FC12 23 ∈ gW := gW_9 164 rfl rfl
theorem lC12_24 : u_lay RC12 FC12 24 ∈ gW := gW_9 166 rfl rfl
theorem lC12_25 : u_lay RC12 FC12 25 ∈ gW := gW_9 168 rfl rfl
theorem lC12_26 : u_lay RC12 FC12 26 ∈ gW := gW_9 170 rfl rfl
theorem lC12_27 : u_lay RC12 FC12 27 ∈ gW := gW_9 172 rfl rfl
theorem lC12_28 : u_lay RC12 FC12 28 ∈ gW := gW_9 174 rfl rfl
theorem lC12_29 : u_lay RC12 FC12 29 ∈ gW := gW_9 176 rfl rfl
theorem lC12_30 : u_lay RC12 FC12 30 ∈ gW := gW_9 178 rfl rfl
theorem lC12_31 : u_lay RC12 FC12 31 ∈ gW := gW_9 180 rfl rfl
theorem lC12_32 : u_lay RC12 FC12 32 ∈ gW := gW_9 182 rfl rfl
theorem lC12_33 : u_lay RC12 FC12 33 ∈ gW := gW_9 184 rfl rfl
theorem lC12_34 : u_lay RC12 FC12 34 ∈ gW := gW_9 186 rfl rfl
theorem lC12_35 : u_lay RC12 FC12 35 ∈ gW := gW_9 188 rfl rfl
theorem lC12_36 : u_lay RC12 FC12 36 ∈ gW := gW_9 190 rfl rfl
theorem lC12_37 : u_lay RC12 FC12 37 ∈ gW := gW_9 192 rfl rfl
theorem lC12_38 : u_lay RC12 FC12 38 ∈ gW := gW_9 194 rfl rfl
theorem lC12_39 : u_lay RC12 FC12 39 ∈ gW := gW_9 196 rfl rfl
theorem iC12 : ∀ w ∈ u_ws RC12 FC12 40, w ∈ gW := by
  intro w hw
  obtain ⟨k, hk, rfl⟩ := List.mem_map.mp hw
  have hk := List.mem_range.mp hk
  match k, hk with
  | 0, _ => exact lC12_0
  | 1, _ => exact lC12_1
  | 2, _ => exact lC12_2
  | 3, _ => exact lC12_3
  | 4, _ => exact lC12_4
  | 5, _ => exact lC12_5
  | 6, _ => exact lC12_6
  | 7, _ => exact lC12_7
  | 8, _ => exact lC12_8
  | 9, _ => exact lC12_9
  | 10, _ => exact lC12_10
  | 11, _ => exact lC12_11
  | 12, _ => exact lC12_12
  | 13, _ => exact lC12_13
  | 14, _ => exact lC12_14
  | 15, _ => exact lC12_15
  | 16, _ => exact lC12_16
  | 17, _ => exact lC12_17
  | 18, _ => exact lC12_18
  | 19, _ => exact lC12_19
  | 20, _ => exact lC12_20
  | 21, _ => exact lC12_21
  | 22, _ => exact lC12_22
  | 23, _ => exact lC12_23
  | 24, _ => exact lC12_24
  | 25, _ => exact lC12_25
  | 26, _ => exact lC12_26
  | 27, _ => exact lC12_27
  | 28, _ => exact lC12_28
  | 29, _ => exact lC12_29
  | 30, _ => exact lC12_30
  | 31, _ => exact lC12_31
  | 32, _ => exact lC12_32
  | 33, _ => exact lC12_33
  | 34, _ => exact lC12_34
  | 35, _ => exact lC12_35
  | 36, _ => exact lC12_36
  | 37, _ => exact lC12_37
  | 38, _ => exact lC12_38
  | 39, _ => exact lC12_39
  | k + 40, hk => exact absurd hk (by omega)
