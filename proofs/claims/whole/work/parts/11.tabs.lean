/-! ===== tables of the owners: fields, constants, classes, methods by number; written by wip/gen/tabs.py ===== -/
def allP {α : Type} (P : α → Prop) : List α → Prop
  | [] => True
  | a :: l => P a ∧ allP P l
theorem allP_mem {α : Type} {P : α → Prop} : ∀ {l : List α}, allP P l → ∀ x ∈ l, P x
  | _ :: _, h, _, .head _ => h.1
  | _ :: _, h, x, .tail _ hx => allP_mem h.2 x hx
def lk2 {α : Type} (a b : Nat) : List (Nat × Nat × α) → Option α
  | [] => none
  | (x, y, v) :: l => bif (x == a) && (y == b) then some v else lk2 a b l
theorem lk2_mem {α : Type} {a b : Nat} {v : α} : ∀ {l : List (Nat × Nat × α)}, lk2 a b l = some v → (a, b, v) ∈ l
  | (x, y, w) :: l, h => by
    unfold lk2 at h
    cases hc : ((x == a) && (y == b)) with
    | true =>
      rw [hc] at h
      simp only [Bool.and_eq_true, beq_iff_eq] at hc
      obtain ⟨rfl, rfl⟩ := hc
      cases h
      exact List.mem_cons_self
    | false =>
      rw [hc] at h
      exact List.mem_cons_of_mem _ (lk2_mem h)
def ownT : List String := ["FlashVault$Batch", "FlashVault$Chip", "FlashVault$Cursor", "FlashVault$Layout", "FlashVault$Log", "FlashVault$Row", "FlashVault$Run", "FlashVault$Sight", "FlashVault$Tables", "FlashVault$Tree", "FlashVault$Versions", "FlashVault", "FlashVaultModel", "FlashVaultLaw", "java/util/Arrays", "java/lang/Math"]
def ownS (i : Nat) : String := ownT.getD i ""
def nmT : List MethodName := [⟨"FlashVault", "<init>", "(I)V"⟩, ⟨"FlashVault$Row", "<init>", "(I)V"⟩, ⟨"FlashVault$Sight", "<init>", "()V"⟩, ⟨"FlashVault$Batch", "<init>", "()V"⟩, ⟨"FlashVault$Tree", "<init>", "()V"⟩, ⟨"FlashVault$Chip", "<init>", "(I)V"⟩, ⟨"java/util/Arrays", "fill", "([BB)V"⟩, ⟨"FlashVault$Versions", "<init>", "(ILFlashVault$Sight;)V"⟩, ⟨"FlashVault$Layout", "<init>", "(LFlashVault$Chip;I)V"⟩, ⟨"FlashVault$Run", "<init>", "()V"⟩, ⟨"FlashVault$Layout", "noteUse", "()V"⟩, ⟨"FlashVault$Layout", "setUsed", "(I)V"⟩, ⟨"FlashVault$Tables", "<init>", "(LFlashVault$Chip;LFlashVault$Layout;LFlashVault$Versions;)V"⟩, ⟨"FlashVault$Cursor", "<init>", "(LFlashVault$Chip;)V"⟩, ⟨"FlashVault$Log", "<init>", "(LFlashVault$Chip;LFlashVault$Layout;LFlashVault$Versions;LFlashVault$Tables;)V"⟩, ⟨"FlashVaultLaw", "cell", "([II)I"⟩, ⟨"FlashVaultLaw", "feed", "(LFlashVault;IIIII[J)I"⟩, ⟨"FlashVault", "feed", "(IIIII)I"⟩, ⟨"FlashVault", "requireUp", "()V"⟩, ⟨"FlashVault", "requireTapeRoom", "(I)V"⟩, ⟨"FlashVault$Row", "addInt", "(I)V"⟩, ⟨"FlashVault$Row", "add", "(I)V"⟩, ⟨"FlashVaultLaw", "fill", "(LFlashVault;II[J)I"⟩, ⟨"FlashVault", "fill", "(II)I"⟩, ⟨"FlashVault", "requireRange", "(III)V"⟩, ⟨"FlashVaultLaw", "end", "(LFlashVault;I[J)I"⟩, ⟨"FlashVault", "end", "(I)I"⟩, ⟨"FlashVaultLaw", "begin", "(LFlashVault;[J)I"⟩, ⟨"FlashVault", "begin", "()I"⟩, ⟨"FlashVault$Sight", "leastClosed", "()I"⟩, ⟨"FlashVault$Sight", "start", "(II)V"⟩, ⟨"FlashVault$Batch", "clear", "()V"⟩, ⟨"FlashVaultLaw", "put", "(LFlashVault;II[J)I"⟩, ⟨"FlashVault", "put", "(II)I"⟩, ⟨"FlashVault", "requireTransaction", "(I)V"⟩, ⟨"FlashVault", "takeTape", "()I"⟩, ⟨"FlashVault", "requireOpen", "(I)V"⟩, ⟨"FlashVault$Sight", "isOpen", "(I)Z"⟩, ⟨"FlashVault$Sight", "writesOf", "(I)LFlashVault$Batch;"⟩, ⟨"FlashVault", "intend", "(LFlashVault$Batch;II)I"⟩, ⟨"FlashVault", "probeUser", "(I)V"⟩, ⟨"FlashVault$Row", "copy", "([BI[BII)V"⟩, ⟨"FlashVault$Batch", "indexOf", "([BI)I"⟩, ⟨"FlashVault$Batch", "indexOfKey", "([BII)I"⟩, ⟨"FlashVault$Batch", "compareWith", "(I[BII)I"⟩, ⟨"FlashVault$Row", "compare", "([BII[BII)I"⟩, ⟨"FlashVault$Batch", "userBytes", "()I"⟩, ⟨"FlashVault$Batch", "userBytesOf", "(I)I"⟩, ⟨"FlashVault$Batch", "drop", "(I)V"⟩, ⟨"FlashVault$Batch", "add", "([BII)I"⟩, ⟨"FlashVaultLaw", "delete", "(LFlashVault;I[J)I"⟩, ⟨"FlashVault", "delete", "(I)I"⟩, ⟨"FlashVaultLaw", "get", "(LFlashVault;I[J)I"⟩, ⟨"FlashVault", "get", "(I)I"⟩, ⟨"FlashVault", "answerWritten", "(LFlashVault$Batch;I)I"⟩, ⟨"FlashVault", "answer", "([BII)I"⟩, ⟨"FlashVault$Sight", "momentOf", "(I)I"⟩, ⟨"FlashVault$Versions", "seenAt", "([BII)I"⟩, ⟨"FlashVault$Versions", "from", "([BIII)I"⟩, ⟨"FlashVault$Versions", "hasKey", "(I[BII)Z"⟩, ⟨"FlashVault", "answerStored", "(I)I"⟩, ⟨"FlashVault$Log", "watch", "(I)V"⟩, ⟨"FlashVault$Log", "isAt", "(I)Z"⟩, ⟨"FlashVault$Chip", "at", "(I)I"⟩, ⟨"FlashVault$Layout", "logOf", "(I)I"⟩, ⟨"FlashVault$Chip", "number", "(II)I"⟩, ⟨"FlashVault$Versions", "valueAddress", "(I)I"⟩, ⟨"FlashVault$Chip", "copyOut", "(I[BII)V"⟩, ⟨"FlashVaultLaw", "seek", "(LFlashVault;IZ[J)I"⟩, ⟨"FlashVault", "seek", "(IZ)I"⟩, ⟨"FlashVault", "firstStored", "(LFlashVault$Batch;IZ)I"⟩, ⟨"FlashVault$Versions", "isUser", "(I)Z"⟩, ⟨"FlashVault$Versions", "isSeen", "(II)Z"⟩, ⟨"FlashVault$Versions", "isNewest", "(I)Z"⟩, ⟨"FlashVault$Versions", "sameKey", "(II)Z"⟩, ⟨"FlashVault$Batch", "firstValue", "([BIZ)I"⟩, ⟨"FlashVaultLaw", "commit", "(LFlashVault;I[J)I"⟩, ⟨"FlashVault", "commit", "(I)I"⟩, ⟨"FlashVault", "closeTransaction", "(I)V"⟩, ⟨"FlashVault$Sight", "close", "(I)V"⟩, ⟨"FlashVault$Versions", "purge", "()V"⟩, ⟨"FlashVault$Versions", "isNeeded", "(IZII)Z"⟩, ⟨"FlashVault$Sight", "anyBefore", "(II)Z"⟩, ⟨"FlashVault$Sight", "anyWithin", "(III)Z"⟩, ⟨"FlashVault$Versions", "release", "(I)V"⟩, ⟨"FlashVault$Versions", "setAlone", "(IZ)V"⟩, ⟨"FlashVault", "collides", "(LFlashVault$Batch;I)Z"⟩, ⟨"FlashVault$Versions", "newestOf", "([BII)I"⟩, ⟨"FlashVault", "requireRoom", "(LFlashVault$Batch;I)V"⟩, ⟨"FlashVault$Versions", "neededWith", "(LFlashVault$Batch;II)I"⟩, ⟨"FlashVault$Versions", "needed", "(I)I"⟩, ⟨"FlashVault$Versions", "weightOf", "(I)I"⟩, ⟨"FlashVault$Versions", "weight", "(III)I"⟩, ⟨"FlashVault", "limit", "()I"⟩, ⟨"FlashVault", "armCut", "(I)V"⟩, ⟨"FlashVault$Chip", "arm", "(II)V"⟩, ⟨"FlashVault", "roomMade", "()Z"⟩, ⟨"FlashVault$Tables", "spill", "(ZI)V"⟩, ⟨"FlashVault$Layout", "draft", "(I)LFlashVault$Run;"⟩, ⟨"FlashVault$Run", "clear", "(I)V"⟩, ⟨"FlashVault$Tables", "emit", "([BIIIII)V"⟩, ⟨"FlashVault$Row", "number", "([BIII)V"⟩, ⟨"FlashVault$Tables", "pageOut", "(LFlashVault$Run;)V"⟩, ⟨"FlashVault$Layout", "take", "()I"⟩, ⟨"java/lang/Math", "floorMod", "(II)I"⟩, ⟨"FlashVault$Layout", "uses", "(I)I"⟩, ⟨"FlashVault$Chip", "erase", "(I)V"⟩, ⟨"FlashVault$Chip", "granted", "(I)I"⟩, ⟨"java/util/Arrays", "fill", "([BIIB)V"⟩, ⟨"java/util/Arrays", "rangeCheck", "(III)V"⟩, ⟨"FlashVault$Chip", "program", "(I[BII)V"⟩, ⟨"FlashVault$Run", "add", "(II)V"⟩, ⟨"FlashVault$Layout", "putDraft", "(II)V"⟩, ⟨"FlashVault$Layout", "moveRun", "(II)V"⟩, ⟨"FlashVault$Layout", "passLog", "()V"⟩, ⟨"FlashVault$Layout", "save", "(I)V"⟩, ⟨"FlashVault$Layout", "describe", "(I)I"⟩, ⟨"FlashVault$Versions", "allInTables", "()V"⟩, ⟨"FlashVault", "keepTables", "()V"⟩, ⟨"FlashVault$Layout", "firstRun", "(I)I"⟩, ⟨"FlashVault$Tables", "merge", "(IIII)V"⟩, ⟨"FlashVault$Cursor", "open", "(LFlashVault$Run;)V"⟩, ⟨"FlashVault$Cursor", "advance", "()V"⟩, ⟨"FlashVault$Cursor", "next", "(I)I"⟩, ⟨"FlashVault$Run", "addressOf", "(I)I"⟩, ⟨"FlashVault$Tables", "leastCursor", "(II)I"⟩, ⟨"FlashVault$Tables", "isBefore", "(LFlashVault$Cursor;LFlashVault$Cursor;)Z"⟩, ⟨"FlashVault$Tables", "isAgain", "(LFlashVault$Cursor;)Z"⟩, ⟨"FlashVault$Tables", "tells", "(LFlashVault$Cursor;)Z"⟩, ⟨"FlashVault$Tables", "hides", "(LFlashVault$Cursor;)Z"⟩, ⟨"FlashVault$Tables", "remember", "(LFlashVault$Cursor;)V"⟩, ⟨"FlashVault$Layout", "tableBlocks", "()I"⟩, ⟨"FlashVault$Layout", "tableEntries", "()I"⟩, ⟨"FlashVault$Layout", "freeBlocks", "()I"⟩, ⟨"FlashVault$Log", "sweep", "()V"⟩, ⟨"FlashVault$Log", "weighLogs", "()V"⟩, ⟨"java/util/Arrays", "fill", "([II)V"⟩, ⟨"FlashVault$Layout", "isWriting", "(I)Z"⟩, ⟨"FlashVault$Log", "loadOf", "(I)I"⟩, ⟨"FlashVault$Layout", "dropLog", "(I)V"⟩, ⟨"FlashVault$Log", "clearOne", "(I)V"⟩, ⟨"FlashVault$Log", "lightestLog", "()I"⟩, ⟨"FlashVault$Layout", "seal", "()V"⟩, ⟨"FlashVault$Layout", "fits", "(I)Z"⟩, ⟨"FlashVault$Log", "openBlock", "()V"⟩, ⟨"FlashVault$Layout", "addLog", "(I)V"⟩, ⟨"FlashVault$Log", "moveOut", "(II)V"⟩, ⟨"FlashVault$Layout", "point", "()I"⟩, ⟨"FlashVault$Log", "append", "(I)V"⟩, ⟨"FlashVault$Versions", "relocate", "(II)V"⟩, ⟨"FlashVault", "stored", "(LFlashVault$Batch;)Z"⟩, ⟨"FlashVault$Log", "store", "(LFlashVault$Batch;I)V"⟩, ⟨"FlashVault$Log", "head", "(IIII)V"⟩, ⟨"FlashVault", "settle", "(Z)V"⟩, ⟨"FlashVault$Chip", "disarm", "()V"⟩, ⟨"FlashVault", "goDown", "()V"⟩, ⟨"FlashVault$Sight", "closeAll", "()V"⟩, ⟨"FlashVault$Versions", "clear", "()V"⟩, ⟨"FlashVault$Tree", "clear", "()V"⟩, ⟨"FlashVault$Layout", "clear", "()V"⟩, ⟨"FlashVault", "include", "(LFlashVault$Batch;)V"⟩, ⟨"FlashVault$Versions", "include", "(LFlashVault$Batch;I)V"⟩, ⟨"FlashVault$Versions", "insert", "(I[BII)I"⟩, ⟨"FlashVaultLaw", "abort", "(LFlashVault;I[J)I"⟩, ⟨"FlashVault", "abort", "(I)I"⟩, ⟨"FlashVaultLaw", "flush", "(LFlashVault;[J)I"⟩, ⟨"FlashVault", "flush", "()I"⟩, ⟨"FlashVault", "flushed", "()Z"⟩, ⟨"FlashVaultLaw", "compact", "(LFlashVault;Z[J)I"⟩, ⟨"FlashVault", "compact", "(Z)I"⟩, ⟨"FlashVault", "merged", "(Z)Z"⟩, ⟨"FlashVault$Tables", "mergeStep", "(I)V"⟩, ⟨"FlashVaultLaw", "collect", "(LFlashVault;[J)I"⟩, ⟨"FlashVault", "collect", "()I"⟩, ⟨"FlashVault", "cleared", "()Z"⟩, ⟨"FlashVaultLaw", "cut", "(LFlashVault;ZII[J)I"⟩, ⟨"FlashVault", "cut", "(ZII)I"⟩, ⟨"FlashVaultLaw", "mount", "(LFlashVault;[J)I"⟩, ⟨"FlashVault", "mount", "()I"⟩, ⟨"FlashVault", "mended", "()Z"⟩, ⟨"FlashVault$Layout", "load", "()I"⟩, ⟨"FlashVault$Layout", "lastState", "(I)I"⟩, ⟨"FlashVault$Layout", "adopt", "(I)I"⟩, ⟨"FlashVault$Tables", "loadAll", "()V"⟩, ⟨"FlashVault$Versions", "meet", "([BIIIIZ)V"⟩, ⟨"FlashVault$Log", "replay", "(I)I"⟩, ⟨"FlashVault$Log", "isWholeAt", "(I)Z"⟩, ⟨"FlashVault$Log", "sizeAt", "(I)I"⟩, ⟨"FlashVault$Log", "meetPending", "(I)V"⟩, ⟨"FlashVault$Log", "watchAll", "()V"⟩, ⟨"FlashVault$Tree", "load", "(LFlashVault$Versions;LFlashVault$Chip;)V"⟩, ⟨"FlashVault$Tree", "set", "(IIII[BII)V"⟩, ⟨"FlashVaultLaw", "word", "(LFlashVault;I[J)I"⟩, ⟨"FlashVault", "word", "(I)J"⟩, ⟨"FlashVault$Row", "at", "(I)I"⟩, ⟨"FlashVaultLaw", "count", "(LFlashVault;I[J)I"⟩, ⟨"FlashVault", "count", "(I)I"⟩, ⟨"FlashVault$Sight", "openCount", "()I"⟩, ⟨"FlashVault$Versions", "userKeys", "()I"⟩, ⟨"FlashVaultLaw", "faults", "(LFlashVault;I[J)I"⟩, ⟨"FlashVault", "faults", "(I)I"⟩, ⟨"FlashVaultLaw", "check", "(LFlashVault;[J)I"⟩, ⟨"FlashVault", "check", "()I"⟩, ⟨"FlashVault$Layout", "isSound", "()Z"⟩, ⟨"FlashVault$Tables", "isSound", "()Z"⟩, ⟨"FlashVault$Tables", "isInOrder", "(LFlashVault$Run;)Z"⟩, ⟨"FlashVault$Log", "isSound", "()Z"⟩, ⟨"FlashVault$Layout", "isFresh", "(I)Z"⟩, ⟨"FlashVault$Tree", "isSound", "(LFlashVault$Versions;)Z"⟩, ⟨"FlashVault$Tree", "isDirectory", "(I)Z"⟩, ⟨"FlashVault$Tree", "kindOf", "(I)I"⟩, ⟨"FlashVault$Tree", "isNumber", "(I)Z"⟩, ⟨"FlashVault$Tree", "isWithin", "(II)Z"⟩, ⟨"FlashVault$Tree", "parentOf", "(I)I"⟩, ⟨"FlashVaultLaw", "make", "(LFlashVault;IZ[J)I"⟩, ⟨"FlashVault", "make", "(IZ)I"⟩, ⟨"FlashVault", "requireNumber", "(I)V"⟩, ⟨"FlashVault", "requireName", "(II)V"⟩, ⟨"FlashVault", "requireDirectory", "(I)V"⟩, ⟨"FlashVault$Tree", "childNamed", "(I[BII)I"⟩, ⟨"FlashVault$Tree", "isIn", "(II)Z"⟩, ⟨"FlashVault$Tree", "leastUnused", "()I"⟩, ⟨"FlashVault", "changeNode", "(IIII[BII)V"⟩, ⟨"FlashVault", "probeNode", "(I)V"⟩, ⟨"FlashVaultLaw", "remove", "(LFlashVault;I[J)I"⟩, ⟨"FlashVault", "remove", "(I)I"⟩, ⟨"FlashVault", "requireThere", "(I)V"⟩, ⟨"FlashVault$Tree", "childCount", "(I)I"⟩, ⟨"FlashVault", "changeToGone", "(I)V"⟩, ⟨"FlashVault", "pieceSlot", "(II)I"⟩, ⟨"FlashVault", "probePiece", "(II)V"⟩, ⟨"FlashVault$Tree", "unset", "(I)V"⟩, ⟨"FlashVaultLaw", "rename", "(LFlashVault;III[J)I"⟩, ⟨"FlashVault", "rename", "(III)I"⟩, ⟨"FlashVault$Tree", "sizeOf", "(I)I"⟩, ⟨"FlashVaultLaw", "find", "(LFlashVault;[J)I"⟩, ⟨"FlashVault", "find", "()I"⟩, ⟨"FlashVaultLaw", "write", "(LFlashVault;II[J)I"⟩, ⟨"FlashVault", "write", "(II)I"⟩, ⟨"FlashVault", "requireFile", "(I)V"⟩, ⟨"FlashVault$Tree", "isFile", "(I)Z"⟩, ⟨"FlashVault", "changePiece", "(IIII)V"⟩, ⟨"FlashVault$Row", "blank", "([BII)V"⟩, ⟨"FlashVault", "changeSize", "(II)V"⟩, ⟨"FlashVault$Tree", "nameLengthOf", "(I)I"⟩, ⟨"FlashVault$Tree", "setSize", "(II)V"⟩, ⟨"FlashVaultLaw", "read", "(LFlashVault;III[J)I"⟩, ⟨"FlashVault", "read", "(III)I"⟩, ⟨"FlashVault", "readPiece", "(IIII)V"⟩, ⟨"FlashVaultLaw", "resize", "(LFlashVault;II[J)I"⟩, ⟨"FlashVault", "resize", "(II)I"⟩, ⟨"FlashVault", "shortenPiece", "(III)V"⟩, ⟨"FlashVaultLaw", "list", "(LFlashVault;II[J)I"⟩, ⟨"FlashVault", "list", "(II)I"⟩, ⟨"FlashVault$Tree", "childRanked", "(II)I"⟩, ⟨"FlashVault$Tree", "rankOf", "(II)I"⟩, ⟨"FlashVaultLaw", "about", "(LFlashVault;II[J)I"⟩, ⟨"FlashVault", "about", "(II)I"⟩, ⟨"FlashVault", "keptPieces", "(I)I"⟩, ⟨"FlashVaultModel", "<init>", "(I)V"⟩, ⟨"FlashVaultModel", "thrown", "()I"⟩, ⟨"FlashVaultModel", "feed", "(IIIII)I"⟩, ⟨"FlashVaultModel", "fail", "(I)I"⟩, ⟨"FlashVaultModel", "fill", "(II)I"⟩, ⟨"FlashVaultModel", "out", "(II)Z"⟩, ⟨"FlashVaultModel", "end", "(I)I"⟩, ⟨"FlashVaultModel", "word", "(I)J"⟩, ⟨"FlashVaultModel", "cut", "(ZII)I"⟩, ⟨"FlashVaultModel", "mount", "()I"⟩, ⟨"FlashVaultModel", "fall", "()V"⟩, ⟨"FlashVaultModel", "prune", "()V"⟩, ⟨"FlashVaultModel", "weight", "(II)I"⟩, ⟨"FlashVaultModel", "standsAt", "(II)Z"⟩, ⟨"FlashVaultModel", "compare", "([BII[BII)I"⟩, ⟨"FlashVaultModel", "cutNow", "(I)Z"⟩, ⟨"FlashVaultModel", "flush", "()I"⟩, ⟨"FlashVaultModel", "maintained", "()I"⟩, ⟨"FlashVaultModel", "needed", "(I)I"⟩, ⟨"FlashVaultModel", "filesTake", "()I"⟩, ⟨"FlashVaultModel", "compact", "(Z)I"⟩, ⟨"FlashVaultModel", "collect", "()I"⟩, ⟨"FlashVaultModel", "faults", "(I)I"⟩, ⟨"FlashVaultModel", "begin", "()I"⟩, ⟨"FlashVaultModel", "put", "(II)I"⟩, ⟨"FlashVaultModel", "enter", "(III)I"⟩, ⟨"FlashVaultModel", "rowOf", "(I[BII)I"⟩, ⟨"FlashVaultModel", "rowBytes", "(I)I"⟩, ⟨"FlashVaultModel", "takeOut", "(II)V"⟩, ⟨"FlashVaultModel", "delete", "(I)I"⟩, ⟨"FlashVaultModel", "get", "(I)I"⟩, ⟨"FlashVaultModel", "tell", "(I[BIIZ)I"⟩, ⟨"FlashVaultModel", "versionAt", "([BIII)I"⟩, ⟨"FlashVaultModel", "seek", "(IZ)I"⟩, ⟨"FlashVaultModel", "better", "([BIIIZ)Z"⟩, ⟨"FlashVaultModel", "take", "([BII)V"⟩, ⟨"FlashVaultModel", "commit", "(I)I"⟩, ⟨"FlashVaultModel", "collides", "(I)Z"⟩, ⟨"FlashVaultModel", "apply", "(I)V"⟩, ⟨"FlashVaultModel", "takeBack", "(II)V"⟩, ⟨"FlashVaultModel", "abort", "(I)I"⟩, ⟨"FlashVaultModel", "count", "(I)I"⟩, ⟨"FlashVaultModel", "keys", "()I"⟩, ⟨"FlashVaultModel", "numbers", "()I"⟩, ⟨"FlashVaultModel", "check", "()I"⟩, ⟨"FlashVaultModel", "make", "(IZ)I"⟩, ⟨"FlashVaultModel", "named", "(II)Z"⟩, ⟨"FlashVaultModel", "directory", "(I)Z"⟩, ⟨"FlashVaultModel", "child", "(III)I"⟩, ⟨"FlashVaultModel", "lost", "(I)Z"⟩, ⟨"FlashVaultModel", "name", "(IIII)V"⟩, ⟨"FlashVaultModel", "changed", "(II)I"⟩, ⟨"FlashVaultModel", "remove", "(I)I"⟩, ⟨"FlashVaultModel", "childCount", "(I)I"⟩, ⟨"FlashVaultModel", "forget", "(I)V"⟩, ⟨"FlashVaultModel", "cutOff", "(II)V"⟩, ⟨"FlashVaultModel", "dropPiece", "(I)V"⟩, ⟨"FlashVaultModel", "keep", "(II)V"⟩, ⟨"FlashVaultModel", "rename", "(III)I"⟩, ⟨"FlashVaultModel", "least", "(II)I"⟩, ⟨"FlashVaultModel", "inside", "(II)Z"⟩, ⟨"FlashVaultModel", "weightOf", "(I)I"⟩, ⟨"FlashVaultModel", "find", "()I"⟩, ⟨"FlashVaultModel", "write", "(II)I"⟩, ⟨"FlashVaultModel", "growth", "(III)I"⟩, ⟨"FlashVaultModel", "piece", "(II)I"⟩, ⟨"FlashVaultModel", "lay", "(III)V"⟩, ⟨"FlashVaultModel", "read", "(III)I"⟩, ⟨"FlashVaultModel", "byteOf", "(II)I"⟩, ⟨"FlashVaultModel", "resize", "(II)I"⟩, ⟨"FlashVaultModel", "list", "(II)I"⟩, ⟨"FlashVaultModel", "about", "(II)I"⟩, ⟨"FlashVault", "lacksReserve", "()Z"⟩, ⟨"FlashVault$Tables", "aloneBlocks", "()I"⟩, ⟨"FlashVault$Log", "renew", "(I)V"⟩]
def flP (e : Nat × Nat × Nat × Nat × Bool × Nat) : Prop := ∃ (C : String) (T : u_T) (N : Nat) (ty : Nat → FieldType), tF (ownS e.1) e.2.1 e.2.2.1 e.2.2.2.1 C T N ty ∧ (T e.2.2.2.1).2.2.2 = e.2.2.2.2.1 ∧ (e.2.2.2.2.1 = true → C = ownS e.1) ∧ ((e.2.2.2.2.2 = 0 ∧ ty e.2.2.2.1 = .int) ∨ (e.2.2.2.2.2 = 1 ∧ ty e.2.2.2.1 = .boolean) ∨ (e.2.2.2.2.2 = 2 ∧ ((∃ n, ty e.2.2.2.1 = .object n) ∨ ∃ t, ty e.2.2.2.1 = .array t)))
def ctP (e : Nat × Nat × Int) : Prop := Cond.constant (ownS e.1) e.2.1 (Int32.ofInt e.2.2) ∈ gW
def cjP (e : Nat × Nat × Nat) : Prop := Cond.constantLong (ownS e.1) e.2.1 (Int64.ofNat e.2.2) ∈ gW
def cnP (e : Nat × Nat × Nat) : Prop := ∃ (C : String) (T : u_T) (N : Nat) (ty : Nat → FieldType), cls[e.2.2]? = some (C, T, N) ∧ (∀ w ∈ u_ws C T N, w ∈ gW) ∧ (∀ k, k < N → parseFieldDescriptor (T k).2.2.1 = some (ty k)) ∧ Cond.classLink (ownS e.1) e.2.1 C ∈ gW ∧ Cond.instantiable C N ∈ gW ∧ Cond.initialized C ∈ gW ∧ (∀ j, j < N → defaultValue (ty j) = vp_V (aDef e.2.2) j) ∧ (aDef e.2.2).length = N
def cqP (e : Nat × Nat × Nat) : Prop := ∃ C : String, Cond.classLink (ownS e.1) e.2.1 C ∈ gW ∧ Cond.arrayOver (.object C) ∈ eW ∧ ∀ kd : Nat → ClassId, (tyl kd)[e.2.2]? = some (kd e.2.2, .object C)
def mlP (e : Nat × Nat × Nat × Nat) : Prop := match e.2.2.2 with
  | 3 => Cond.methodLink (ownS e.1) e.2.1 Lib.Math.max.name ∈ gW
  | 4 => Cond.methodLink (ownS e.1) e.2.1 Lib.Math.min.name ∈ gW
  | 5 => Cond.methodLink (ownS e.1) e.2.1 Lib.objectInit ∈ gW
  | 6 => Cond.methodLink (ownS e.1) e.2.1 arraycopyName ∈ gW
  | _ => ∃ y, nmT[e.2.2.1]? = some y ∧ Cond.methodLink (ownS e.1) e.2.1 y ∈ gW
def frP (e : Nat × Nat × Nat × Nat) : Prop := ∃ (C : String) (T : u_T) (N : Nat) (ty : Nat → FieldType), tF (ownS e.1) e.2.1 e.2.2.1 e.2.2.2 C T N ty
theorem w_3_12 : (Cond.fieldLink "FlashVault" (14 : Nat) "FlashVault" "tape" "LFlashVault$Row;") ∈ gW := gW_3 12 rfl rfl
theorem F_FV_14 : tF "FlashVault" 14 11 1 RC11 FC11 18 tC11 := ⟨rfl, by decide, rfl, iC11, kC11, nC11, w_3_12⟩
theorem w_3_13 : (Cond.fieldLink "FlashVault" (18 : Nat) "FlashVault" "result" "LFlashVault$Row;") ∈ gW := gW_3 13 rfl rfl
theorem F_FV_18 : tF "FlashVault" 18 11 2 RC11 FC11 18 tC11 := ⟨rfl, by decide, rfl, iC11, kC11, nC11, w_3_13⟩
theorem w_3_14 : (Cond.fieldLink "FlashVault" (21 : Nat) "FlashVault" "probe" "LFlashVault$Row;") ∈ gW := gW_3 14 rfl rfl
theorem F_FV_21 : tF "FlashVault" 21 11 3 RC11 FC11 18 tC11 := ⟨rfl, by decide, rfl, iC11, kC11, nC11, w_3_14⟩
theorem w_3_15 : (Cond.fieldLink "FlashVault" (27 : Nat) "FlashVault" "sight" "LFlashVault$Sight;") ∈ gW := gW_3 15 rfl rfl
theorem F_FV_27 : tF "FlashVault" 27 11 4 RC11 FC11 18 tC11 := ⟨rfl, by decide, rfl, iC11, kC11, nC11, w_3_15⟩
theorem w_3_16 : (Cond.fieldLink "FlashVault" (34 : Nat) "FlashVault" "change" "LFlashVault$Batch;") ∈ gW := gW_3 16 rfl rfl
theorem F_FV_34 : tF "FlashVault" 34 11 5 RC11 FC11 18 tC11 := ⟨rfl, by decide, rfl, iC11, kC11, nC11, w_3_16⟩
theorem w_3_17 : (Cond.fieldLink "FlashVault" (41 : Nat) "FlashVault" "tree" "LFlashVault$Tree;") ∈ gW := gW_3 17 rfl rfl
theorem F_FV_41 : tF "FlashVault" 41 11 6 RC11 FC11 18 tC11 := ⟨rfl, by decide, rfl, iC11, kC11, nC11, w_3_17⟩
theorem w_3_23 : (Cond.fieldLink "FlashVault" (45 : Nat) "FlashVault" "present" "I") ∈ gW := gW_3 23 rfl rfl
theorem F_FV_45 : tF "FlashVault" 45 11 12 RC11 FC11 18 tC11 := ⟨rfl, by decide, rfl, iC11, kC11, nC11, w_3_23⟩
theorem w_3_24 : (Cond.fieldLink "FlashVault" (49 : Nat) "FlashVault" "up" "Z") ∈ gW := gW_3 24 rfl rfl
theorem F_FV_49 : tF "FlashVault" 49 11 13 RC11 FC11 18 tC11 := ⟨rfl, by decide, rfl, iC11, kC11, nC11, w_3_24⟩
theorem w_3_25 : (Cond.fieldLink "FlashVault" (53 : Nat) "FlashVault" "cutWaits" "Z") ∈ gW := gW_3 25 rfl rfl
theorem F_FV_53 : tF "FlashVault" 53 11 14 RC11 FC11 18 tC11 := ⟨rfl, by decide, rfl, iC11, kC11, nC11, w_3_25⟩
theorem w_3_26 : (Cond.fieldLink "FlashVault" (56 : Nat) "FlashVault" "cutLate" "Z") ∈ gW := gW_3 26 rfl rfl
theorem F_FV_56 : tF "FlashVault" 56 11 15 RC11 FC11 18 tC11 := ⟨rfl, by decide, rfl, iC11, kC11, nC11, w_3_26⟩
theorem w_3_27 : (Cond.fieldLink "FlashVault" (59 : Nat) "FlashVault" "cutPart" "I") ∈ gW := gW_3 27 rfl rfl
theorem F_FV_59 : tF "FlashVault" 59 11 16 RC11 FC11 18 tC11 := ⟨rfl, by decide, rfl, iC11, kC11, nC11, w_3_27⟩
theorem w_3_28 : (Cond.fieldLink "FlashVault" (62 : Nat) "FlashVault" "cutBytes" "I") ∈ gW := gW_3 28 rfl rfl
theorem F_FV_62 : tF "FlashVault" 62 11 17 RC11 FC11 18 tC11 := ⟨rfl, by decide, rfl, iC11, kC11, nC11, w_3_28⟩
theorem w_3_11 : (Cond.fieldLink "FlashVault" (65 : Nat) "FlashVault" "blocks" "I") ∈ gW := gW_3 11 rfl rfl
theorem F_FV_65 : tF "FlashVault" 65 11 0 RC11 FC11 18 tC11 := ⟨rfl, by decide, rfl, iC11, kC11, nC11, w_3_11⟩
theorem w_3_18 : (Cond.fieldLink "FlashVault" (71 : Nat) "FlashVault" "chip" "LFlashVault$Chip;") ∈ gW := gW_3 18 rfl rfl
theorem F_FV_71 : tF "FlashVault" 71 11 7 RC11 FC11 18 tC11 := ⟨rfl, by decide, rfl, iC11, kC11, nC11, w_3_18⟩
theorem w_3_19 : (Cond.fieldLink "FlashVault" (80 : Nat) "FlashVault" "versions" "LFlashVault$Versions;") ∈ gW := gW_3 19 rfl rfl
theorem F_FV_80 : tF "FlashVault" 80 11 8 RC11 FC11 18 tC11 := ⟨rfl, by decide, rfl, iC11, kC11, nC11, w_3_19⟩
theorem w_3_20 : (Cond.fieldLink "FlashVault" (89 : Nat) "FlashVault" "layout" "LFlashVault$Layout;") ∈ gW := gW_3 20 rfl rfl
theorem F_FV_89 : tF "FlashVault" 89 11 9 RC11 FC11 18 tC11 := ⟨rfl, by decide, rfl, iC11, kC11, nC11, w_3_20⟩
theorem w_3_21 : (Cond.fieldLink "FlashVault" (98 : Nat) "FlashVault" "tables" "LFlashVault$Tables;") ∈ gW := gW_3 21 rfl rfl
theorem F_FV_98 : tF "FlashVault" 98 11 10 RC11 FC11 18 tC11 := ⟨rfl, by decide, rfl, iC11, kC11, nC11, w_3_21⟩
theorem w_3_22 : (Cond.fieldLink "FlashVault" (107 : Nat) "FlashVault" "log" "LFlashVault$Log;") ∈ gW := gW_3 22 rfl rfl
theorem F_FV_107 : tF "FlashVault" 107 11 11 RC11 FC11 18 tC11 := ⟨rfl, by decide, rfl, iC11, kC11, nC11, w_3_22⟩
theorem w_1_55 : (Cond.fieldLink "FlashVault" (120 : Nat) "FlashVault$Row" "length" "I") ∈ gW := gW_1 55 rfl rfl
theorem F_FV_120 : tF "FlashVault" 120 5 1 RC5 FC5 2 tC5 := ⟨rfl, by decide, rfl, iC5, kC5, nC5, w_1_55⟩
theorem w_1_52 : (Cond.fieldLink "FlashVault" (171 : Nat) "FlashVault$Row" "bytes" "[B") ∈ gW := gW_1 52 rfl rfl
theorem F_FV_171 : tF "FlashVault" 171 5 0 RC5 FC5 2 tC5 := ⟨rfl, by decide, rfl, iC5, kC5, nC5, w_1_52⟩
theorem w_1_196 : (Cond.fieldLink "FlashVault" (202 : Nat) "FlashVault$Versions" "keys" "[B") ∈ gW := gW_1 196 rfl rfl
theorem F_FV_202 : tF "FlashVault" 202 10 1 RC10 FC10 12 tC10 := ⟨rfl, by decide, rfl, iC10, kC10, nC10, w_1_196⟩
theorem w_1_201 : (Cond.fieldLink "FlashVault" (205 : Nat) "FlashVault$Versions" "keyLengths" "[I") ∈ gW := gW_1 201 rfl rfl
theorem F_FV_205 : tF "FlashVault" 205 10 2 RC10 FC10 12 tC10 := ⟨rfl, by decide, rfl, iC10, kC10, nC10, w_1_201⟩
theorem w_1_78 : (Cond.fieldLink "FlashVault" (213 : Nat) "FlashVault$Batch" "data" "[B") ∈ gW := gW_1 78 rfl rfl
theorem F_FV_213 : tF "FlashVault" 213 0 0 RC0 FC0 7 tC0 := ⟨rfl, by decide, rfl, iC0, kC0, nC0, w_1_78⟩
theorem w_1_82 : (Cond.fieldLink "FlashVault" (216 : Nat) "FlashVault$Batch" "starts" "[I") ∈ gW := gW_1 82 rfl rfl
theorem F_FV_216 : tF "FlashVault" 216 0 1 RC0 FC0 7 tC0 := ⟨rfl, by decide, rfl, iC0, kC0, nC0, w_1_82⟩
theorem w_1_86 : (Cond.fieldLink "FlashVault" (219 : Nat) "FlashVault$Batch" "keyLengths" "[I") ∈ gW := gW_1 86 rfl rfl
theorem F_FV_219 : tF "FlashVault" 219 0 2 RC0 FC0 7 tC0 := ⟨rfl, by decide, rfl, iC0, kC0, nC0, w_1_86⟩
theorem w_1_97 : (Cond.fieldLink "FlashVault" (223 : Nat) "FlashVault$Batch" "size" "I") ∈ gW := gW_1 97 rfl rfl
theorem F_FV_223 : tF "FlashVault" 223 0 5 RC0 FC0 7 tC0 := ⟨rfl, by decide, rfl, iC0, kC0, nC0, w_1_97⟩
theorem w_1_142 : (Cond.fieldLink "FlashVault" (298 : Nat) "FlashVault$Tree" "nodes" "I") ∈ gW := gW_1 142 rfl rfl
theorem F_FV_298 : tF "FlashVault" 298 9 5 RC9 FC9 6 tC9 := ⟨rfl, by decide, rfl, iC9, kC9, nC9, w_1_142⟩
theorem w_1_173 : (Cond.fieldLink "FlashVault" (301 : Nat) "FlashVault$Chip" "overwritten" "I") ∈ gW := gW_1 173 rfl rfl
theorem F_FV_301 : tF "FlashVault" 301 1 4 RC1 FC1 5 tC1 := ⟨rfl, by decide, rfl, iC1, kC1, nC1, w_1_173⟩
theorem w_2_227 : (Cond.fieldLink "FlashVault" (304 : Nat) "FlashVault$Log" "misplaced" "I") ∈ gW := gW_2 227 rfl rfl
theorem F_FV_304 : tF "FlashVault" 304 4 8 RC4 FC4 10 tC4 := ⟨rfl, by decide, rfl, iC4, kC4, nC4, w_2_227⟩
theorem w_2_229 : (Cond.fieldLink "FlashVault" (307 : Nat) "FlashVault$Log" "heavyClearings" "I") ∈ gW := gW_2 229 rfl rfl
theorem F_FV_307 : tF "FlashVault" 307 4 9 RC4 FC4 10 tC4 := ⟨rfl, by decide, rfl, iC4, kC4, nC4, w_2_229⟩
theorem w_2_190 : (Cond.fieldLink "FlashVault" (310 : Nat) "FlashVault$Tables" "grownMerges" "I") ∈ gW := gW_2 190 rfl rfl
theorem F_FV_310 : tF "FlashVault" 310 8 9 RC8 FC8 10 tC8 := ⟨rfl, by decide, rfl, iC8, kC8, nC8, w_2_190⟩
theorem w_2_90 : (Cond.fieldLink "FlashVault" (313 : Nat) "FlashVault$Layout" "takenNotFree" "I") ∈ gW := gW_2 90 rfl rfl
theorem F_FV_313 : tF "FlashVault" 313 3 16 RC3 FC3 18 tC3 := ⟨rfl, by decide, rfl, iC3, kC3, nC3, w_2_90⟩
theorem w_2_92 : (Cond.fieldLink "FlashVault" (316 : Nat) "FlashVault$Layout" "noBlock" "I") ∈ gW := gW_2 92 rfl rfl
theorem F_FV_316 : tF "FlashVault" 316 3 17 RC3 FC3 18 tC3 := ⟨rfl, by decide, rfl, iC3, kC3, nC3, w_2_92⟩
theorem w_1_140 : (Cond.fieldLink "FlashVault" (415 : Nat) "FlashVault$Tree" "names" "[B") ∈ gW := gW_1 140 rfl rfl
theorem F_FV_415 : tF "FlashVault" 415 9 4 RC9 FC9 6 tC9 := ⟨rfl, by decide, rfl, iC9, kC9, nC9, w_1_140⟩
theorem w_1_91 : (Cond.fieldLink "FlashVault" (469 : Nat) "FlashVault$Batch" "lengths" "[I") ∈ gW := gW_1 91 rfl rfl
theorem F_FV_469 : tF "FlashVault" 469 0 3 RC0 FC0 7 tC0 := ⟨rfl, by decide, rfl, iC0, kC0, nC0, w_1_91⟩
theorem w_1_213 : (Cond.fieldLink "FlashVault" (475 : Nat) "FlashVault$Versions" "lengths" "[I") ∈ gW := gW_1 213 rfl rfl
theorem F_FV_475 : tF "FlashVault" 475 10 5 RC10 FC10 12 tC10 := ⟨rfl, by decide, rfl, iC10, kC10, nC10, w_1_213⟩
theorem w_1_205 : (Cond.fieldLink "FlashVault" (499 : Nat) "FlashVault$Versions" "moments" "[I") ∈ gW := gW_1 205 rfl rfl
theorem F_FV_499 : tF "FlashVault" 499 10 3 RC10 FC10 12 tC10 := ⟨rfl, by decide, rfl, iC10, kC10, nC10, w_1_205⟩
theorem w_1_227 : (Cond.fieldLink "FlashVault" (509 : Nat) "FlashVault$Versions" "size" "I") ∈ gW := gW_1 227 rfl rfl
theorem F_FV_509 : tF "FlashVault" 509 10 9 RC10 FC10 12 tC10 := ⟨rfl, by decide, rfl, iC10, kC10, nC10, w_1_227⟩
theorem w_1_221 : (Cond.fieldLink "FlashVault" (510 : Nat) "FlashVault$Versions" "order" "[I") ∈ gW := gW_1 221 rfl rfl
theorem F_FV_510 : tF "FlashVault" 510 10 7 RC10 FC10 12 tC10 := ⟨rfl, by decide, rfl, iC10, kC10, nC10, w_1_221⟩
theorem w_1_231 : (Cond.fieldLink "FlashVault" (544 : Nat) "FlashVault$Versions" "aloneCount" "I") ∈ gW := gW_1 231 rfl rfl
theorem F_FV_544 : tF "FlashVault" 544 10 11 RC10 FC10 12 tC10 := ⟨rfl, by decide, rfl, iC10, kC10, nC10, w_1_231⟩
theorem w_2_84 : (Cond.fieldLink "FlashVault" (557 : Nat) "FlashVault$Layout" "runCount" "I") ∈ gW := gW_2 84 rfl rfl
theorem F_FV_557 : tF "FlashVault" 557 3 11 RC3 FC3 18 tC3 := ⟨rfl, by decide, rfl, iC3, kC3, nC3, w_2_84⟩
theorem w_1_76 : (Cond.fieldLink "FlashVault$Batch" (9 : Nat) "FlashVault$Batch" "data" "[B") ∈ gW := gW_1 76 rfl rfl
theorem F_Batch_9 : tF "FlashVault$Batch" 9 0 0 RC0 FC0 7 tC0 := ⟨rfl, by decide, rfl, iC0, kC0, nC0, w_1_76⟩
theorem w_1_80 : (Cond.fieldLink "FlashVault$Batch" (15 : Nat) "FlashVault$Batch" "starts" "[I") ∈ gW := gW_1 80 rfl rfl
theorem F_Batch_15 : tF "FlashVault$Batch" 15 0 1 RC0 FC0 7 tC0 := ⟨rfl, by decide, rfl, iC0, kC0, nC0, w_1_80⟩
theorem w_1_84 : (Cond.fieldLink "FlashVault$Batch" (19 : Nat) "FlashVault$Batch" "keyLengths" "[I") ∈ gW := gW_1 84 rfl rfl
theorem F_Batch_19 : tF "FlashVault$Batch" 19 0 2 RC0 FC0 7 tC0 := ⟨rfl, by decide, rfl, iC0, kC0, nC0, w_1_84⟩
theorem w_1_88 : (Cond.fieldLink "FlashVault$Batch" (22 : Nat) "FlashVault$Batch" "lengths" "[I") ∈ gW := gW_1 88 rfl rfl
theorem F_Batch_22 : tF "FlashVault$Batch" 22 0 3 RC0 FC0 7 tC0 := ⟨rfl, by decide, rfl, iC0, kC0, nC0, w_1_88⟩
theorem w_1_92 : (Cond.fieldLink "FlashVault$Batch" (25 : Nat) "FlashVault$Batch" "places" "[I") ∈ gW := gW_1 92 rfl rfl
theorem F_Batch_25 : tF "FlashVault$Batch" 25 0 4 RC0 FC0 7 tC0 := ⟨rfl, by decide, rfl, iC0, kC0, nC0, w_1_92⟩
theorem w_1_95 : (Cond.fieldLink "FlashVault$Batch" (28 : Nat) "FlashVault$Batch" "size" "I") ∈ gW := gW_1 95 rfl rfl
theorem F_Batch_28 : tF "FlashVault$Batch" 28 0 5 RC0 FC0 7 tC0 := ⟨rfl, by decide, rfl, iC0, kC0, nC0, w_1_95⟩
theorem w_1_99 : (Cond.fieldLink "FlashVault$Batch" (32 : Nat) "FlashVault$Batch" "used" "I") ∈ gW := gW_1 99 rfl rfl
theorem F_Batch_32 : tF "FlashVault$Batch" 32 0 6 RC0 FC0 7 tC0 := ⟨rfl, by decide, rfl, iC0, kC0, nC0, w_1_99⟩
theorem w_1_170 : (Cond.fieldLink "FlashVault$Chip" (9 : Nat) "FlashVault$Chip" "partsLeft" "I") ∈ gW := gW_1 170 rfl rfl
theorem F_Chip_9 : tF "FlashVault$Chip" 9 1 2 RC1 FC1 5 tC1 := ⟨rfl, by decide, rfl, iC1, kC1, nC1, w_1_170⟩
theorem w_1_171 : (Cond.fieldLink "FlashVault$Chip" (15 : Nat) "FlashVault$Chip" "bytesLeft" "I") ∈ gW := gW_1 171 rfl rfl
theorem F_Chip_15 : tF "FlashVault$Chip" 15 1 3 RC1 FC1 5 tC1 := ⟨rfl, by decide, rfl, iC1, kC1, nC1, w_1_171⟩
theorem w_1_172 : (Cond.fieldLink "FlashVault$Chip" (18 : Nat) "FlashVault$Chip" "overwritten" "I") ∈ gW := gW_1 172 rfl rfl
theorem F_Chip_18 : tF "FlashVault$Chip" 18 1 4 RC1 FC1 5 tC1 := ⟨rfl, by decide, rfl, iC1, kC1, nC1, w_1_172⟩
theorem w_1_166 : (Cond.fieldLink "FlashVault$Chip" (27 : Nat) "FlashVault$Chip" "cells" "[B") ∈ gW := gW_1 166 rfl rfl
theorem F_Chip_27 : tF "FlashVault$Chip" 27 1 0 RC1 FC1 5 tC1 := ⟨rfl, by decide, rfl, iC1, kC1, nC1, w_1_166⟩
theorem w_1_169 : (Cond.fieldLink "FlashVault$Chip" (31 : Nat) "FlashVault$Chip" "tops" "[I") ∈ gW := gW_1 169 rfl rfl
theorem F_Chip_31 : tF "FlashVault$Chip" 31 1 1 RC1 FC1 5 tC1 := ⟨rfl, by decide, rfl, iC1, kC1, nC1, w_1_169⟩
theorem w_2_146 : (Cond.fieldLink "FlashVault$Cursor" (9 : Nat) "FlashVault$Cursor" "key" "[B") ∈ gW := gW_2 146 rfl rfl
theorem F_Cursor_9 : tF "FlashVault$Cursor" 9 2 1 RC2 FC2 9 tC2 := ⟨rfl, by decide, rfl, iC2, kC2, nC2, w_2_146⟩
theorem w_2_148 : (Cond.fieldLink "FlashVault$Cursor" (15 : Nat) "FlashVault$Cursor" "run" "LFlashVault$Run;") ∈ gW := gW_2 148 rfl rfl
theorem F_Cursor_15 : tF "FlashVault$Cursor" 15 2 2 RC2 FC2 9 tC2 := ⟨rfl, by decide, rfl, iC2, kC2, nC2, w_2_148⟩
theorem w_2_149 : (Cond.fieldLink "FlashVault$Cursor" (19 : Nat) "FlashVault$Cursor" "offset" "I") ∈ gW := gW_2 149 rfl rfl
theorem F_Cursor_19 : tF "FlashVault$Cursor" 19 2 3 RC2 FC2 9 tC2 := ⟨rfl, by decide, rfl, iC2, kC2, nC2, w_2_149⟩
theorem w_2_151 : (Cond.fieldLink "FlashVault$Cursor" (23 : Nat) "FlashVault$Cursor" "keyLength" "I") ∈ gW := gW_2 151 rfl rfl
theorem F_Cursor_23 : tF "FlashVault$Cursor" 23 2 4 RC2 FC2 9 tC2 := ⟨rfl, by decide, rfl, iC2, kC2, nC2, w_2_151⟩
theorem w_2_153 : (Cond.fieldLink "FlashVault$Cursor" (26 : Nat) "FlashVault$Cursor" "moment" "I") ∈ gW := gW_2 153 rfl rfl
theorem F_Cursor_26 : tF "FlashVault$Cursor" 26 2 5 RC2 FC2 9 tC2 := ⟨rfl, by decide, rfl, iC2, kC2, nC2, w_2_153⟩
theorem w_2_155 : (Cond.fieldLink "FlashVault$Cursor" (29 : Nat) "FlashVault$Cursor" "place" "I") ∈ gW := gW_2 155 rfl rfl
theorem F_Cursor_29 : tF "FlashVault$Cursor" 29 2 6 RC2 FC2 9 tC2 := ⟨rfl, by decide, rfl, iC2, kC2, nC2, w_2_155⟩
theorem w_2_157 : (Cond.fieldLink "FlashVault$Cursor" (32 : Nat) "FlashVault$Cursor" "length" "I") ∈ gW := gW_2 157 rfl rfl
theorem F_Cursor_32 : tF "FlashVault$Cursor" 32 2 7 RC2 FC2 9 tC2 := ⟨rfl, by decide, rfl, iC2, kC2, nC2, w_2_157⟩
theorem w_2_159 : (Cond.fieldLink "FlashVault$Cursor" (35 : Nat) "FlashVault$Cursor" "ended" "Z") ∈ gW := gW_2 159 rfl rfl
theorem F_Cursor_35 : tF "FlashVault$Cursor" 35 2 8 RC2 FC2 9 tC2 := ⟨rfl, by decide, rfl, iC2, kC2, nC2, w_2_159⟩
theorem w_2_145 : (Cond.fieldLink "FlashVault$Cursor" (39 : Nat) "FlashVault$Cursor" "chip" "LFlashVault$Chip;") ∈ gW := gW_2 145 rfl rfl
theorem F_Cursor_39 : tF "FlashVault$Cursor" 39 2 0 RC2 FC2 9 tC2 := ⟨rfl, by decide, rfl, iC2, kC2, nC2, w_2_145⟩
theorem w_2_39 : (Cond.fieldLink "FlashVault$Cursor" (43 : Nat) "FlashVault$Run" "length" "I") ∈ gW := gW_2 39 rfl rfl
theorem F_Cursor_43 : tF "FlashVault$Cursor" 43 6 3 RC6 FC6 5 tC6 := ⟨rfl, by decide, rfl, iC6, kC6, nC6, w_2_39⟩
theorem w_2_70 : (Cond.fieldLink "FlashVault$Layout" (11 : Nat) "FlashVault$Layout" "runs" "[LFlashVault$Run;") ∈ gW := gW_2 70 rfl rfl
theorem F_Layout_11 : tF "FlashVault$Layout" 11 3 4 RC3 FC3 18 tC3 := ⟨rfl, by decide, rfl, iC3, kC3, nC3, w_2_70⟩
theorem w_2_72 : (Cond.fieldLink "FlashVault$Layout" (17 : Nat) "FlashVault$Layout" "page" "[B") ∈ gW := gW_2 72 rfl rfl
theorem F_Layout_17 : tF "FlashVault$Layout" 17 3 5 RC3 FC3 18 tC3 := ⟨rfl, by decide, rfl, iC3, kC3, nC3, w_2_72⟩
theorem w_2_73 : (Cond.fieldLink "FlashVault$Layout" (21 : Nat) "FlashVault$Layout" "logCount" "I") ∈ gW := gW_2 73 rfl rfl
theorem F_Layout_21 : tF "FlashVault$Layout" 21 3 6 RC3 FC3 18 tC3 := ⟨rfl, by decide, rfl, iC3, kC3, nC3, w_2_73⟩
theorem w_2_75 : (Cond.fieldLink "FlashVault$Layout" (25 : Nat) "FlashVault$Layout" "fresh" "I") ∈ gW := gW_2 75 rfl rfl
theorem F_Layout_25 : tF "FlashVault$Layout" 25 3 7 RC3 FC3 18 tC3 := ⟨rfl, by decide, rfl, iC3, kC3, nC3, w_2_75⟩
theorem w_2_77 : (Cond.fieldLink "FlashVault$Layout" (28 : Nat) "FlashVault$Layout" "freshFrom" "I") ∈ gW := gW_2 77 rfl rfl
theorem F_Layout_28 : tF "FlashVault$Layout" 28 3 8 RC3 FC3 18 tC3 := ⟨rfl, by decide, rfl, iC3, kC3, nC3, w_2_77⟩
theorem w_2_79 : (Cond.fieldLink "FlashVault$Layout" (31 : Nat) "FlashVault$Layout" "writing" "Z") ∈ gW := gW_2 79 rfl rfl
theorem F_Layout_31 : tF "FlashVault$Layout" 31 3 9 RC3 FC3 18 tC3 := ⟨rfl, by decide, rfl, iC3, kC3, nC3, w_2_79⟩
theorem w_2_80 : (Cond.fieldLink "FlashVault$Layout" (35 : Nat) "FlashVault$Layout" "top" "I") ∈ gW := gW_2 80 rfl rfl
theorem F_Layout_35 : tF "FlashVault$Layout" 35 3 10 RC3 FC3 18 tC3 := ⟨rfl, by decide, rfl, iC3, kC3, nC3, w_2_80⟩
theorem w_2_82 : (Cond.fieldLink "FlashVault$Layout" (38 : Nat) "FlashVault$Layout" "runCount" "I") ∈ gW := gW_2 82 rfl rfl
theorem F_Layout_38 : tF "FlashVault$Layout" 38 3 11 RC3 FC3 18 tC3 := ⟨rfl, by decide, rfl, iC3, kC3, nC3, w_2_82⟩
theorem w_2_85 : (Cond.fieldLink "FlashVault$Layout" (41 : Nat) "FlashVault$Layout" "master" "I") ∈ gW := gW_2 85 rfl rfl
theorem F_Layout_41 : tF "FlashVault$Layout" 41 3 12 RC3 FC3 18 tC3 := ⟨rfl, by decide, rfl, iC3, kC3, nC3, w_2_85⟩
theorem w_2_86 : (Cond.fieldLink "FlashVault$Layout" (44 : Nat) "FlashVault$Layout" "masterTop" "I") ∈ gW := gW_2 86 rfl rfl
theorem F_Layout_44 : tF "FlashVault$Layout" 44 3 13 RC3 FC3 18 tC3 := ⟨rfl, by decide, rfl, iC3, kC3, nC3, w_2_86⟩
theorem w_2_87 : (Cond.fieldLink "FlashVault$Layout" (47 : Nat) "FlashVault$Layout" "sequence" "I") ∈ gW := gW_2 87 rfl rfl
theorem F_Layout_47 : tF "FlashVault$Layout" 47 3 14 RC3 FC3 18 tC3 := ⟨rfl, by decide, rfl, iC3, kC3, nC3, w_2_87⟩
theorem w_2_88 : (Cond.fieldLink "FlashVault$Layout" (50 : Nat) "FlashVault$Layout" "turn" "I") ∈ gW := gW_2 88 rfl rfl
theorem F_Layout_50 : tF "FlashVault$Layout" 50 3 15 RC3 FC3 18 tC3 := ⟨rfl, by decide, rfl, iC3, kC3, nC3, w_2_88⟩
theorem w_2_89 : (Cond.fieldLink "FlashVault$Layout" (53 : Nat) "FlashVault$Layout" "takenNotFree" "I") ∈ gW := gW_2 89 rfl rfl
theorem F_Layout_53 : tF "FlashVault$Layout" 53 3 16 RC3 FC3 18 tC3 := ⟨rfl, by decide, rfl, iC3, kC3, nC3, w_2_89⟩
theorem w_2_91 : (Cond.fieldLink "FlashVault$Layout" (56 : Nat) "FlashVault$Layout" "noBlock" "I") ∈ gW := gW_2 91 rfl rfl
theorem F_Layout_56 : tF "FlashVault$Layout" 56 3 17 RC3 FC3 18 tC3 := ⟨rfl, by decide, rfl, iC3, kC3, nC3, w_2_91⟩
theorem w_2_64 : (Cond.fieldLink "FlashVault$Layout" (65 : Nat) "FlashVault$Layout" "chip" "LFlashVault$Chip;") ∈ gW := gW_2 64 rfl rfl
theorem F_Layout_65 : tF "FlashVault$Layout" 65 3 0 RC3 FC3 18 tC3 := ⟨rfl, by decide, rfl, iC3, kC3, nC3, w_2_64⟩
theorem w_2_66 : (Cond.fieldLink "FlashVault$Layout" (69 : Nat) "FlashVault$Layout" "blocks" "I") ∈ gW := gW_2 66 rfl rfl
theorem F_Layout_69 : tF "FlashVault$Layout" 69 3 1 RC3 FC3 18 tC3 := ⟨rfl, by decide, rfl, iC3, kC3, nC3, w_2_66⟩
theorem w_2_67 : (Cond.fieldLink "FlashVault$Layout" (72 : Nat) "FlashVault$Layout" "used" "[Z") ∈ gW := gW_2 67 rfl rfl
theorem F_Layout_72 : tF "FlashVault$Layout" 72 3 2 RC3 FC3 18 tC3 := ⟨rfl, by decide, rfl, iC3, kC3, nC3, w_2_67⟩
theorem w_2_68 : (Cond.fieldLink "FlashVault$Layout" (76 : Nat) "FlashVault$Layout" "logs" "[I") ∈ gW := gW_2 68 rfl rfl
theorem F_Layout_76 : tF "FlashVault$Layout" 76 3 3 RC3 FC3 18 tC3 := ⟨rfl, by decide, rfl, iC3, kC3, nC3, w_2_68⟩
theorem w_2_34 : (Cond.fieldLink "FlashVault$Layout" (88 : Nat) "FlashVault$Run" "idCount" "I") ∈ gW := gW_2 34 rfl rfl
theorem F_Layout_88 : tF "FlashVault$Layout" 88 6 1 RC6 FC6 5 tC6 := ⟨rfl, by decide, rfl, iC6, kC6, nC6, w_2_34⟩
theorem w_2_32 : (Cond.fieldLink "FlashVault$Layout" (91 : Nat) "FlashVault$Run" "ids" "[I") ∈ gW := gW_2 32 rfl rfl
theorem F_Layout_91 : tF "FlashVault$Layout" 91 6 0 RC6 FC6 5 tC6 := ⟨rfl, by decide, rfl, iC6, kC6, nC6, w_2_32⟩
theorem w_2_37 : (Cond.fieldLink "FlashVault$Layout" (117 : Nat) "FlashVault$Run" "level" "I") ∈ gW := gW_2 37 rfl rfl
theorem F_Layout_117 : tF "FlashVault$Layout" 117 6 2 RC6 FC6 5 tC6 := ⟨rfl, by decide, rfl, iC6, kC6, nC6, w_2_37⟩
theorem w_2_44 : (Cond.fieldLink "FlashVault$Layout" (120 : Nat) "FlashVault$Run" "entries" "I") ∈ gW := gW_2 44 rfl rfl
theorem F_Layout_120 : tF "FlashVault$Layout" 120 6 4 RC6 FC6 5 tC6 := ⟨rfl, by decide, rfl, iC6, kC6, nC6, w_2_44⟩
theorem w_2_41 : (Cond.fieldLink "FlashVault$Layout" (128 : Nat) "FlashVault$Run" "length" "I") ∈ gW := gW_2 41 rfl rfl
theorem F_Layout_128 : tF "FlashVault$Layout" 128 6 3 RC6 FC6 5 tC6 := ⟨rfl, by decide, rfl, iC6, kC6, nC6, w_2_41⟩
theorem w_2_222 : (Cond.fieldLink "FlashVault$Log" (9 : Nat) "FlashVault$Log" "page" "[B") ∈ gW := gW_2 222 rfl rfl
theorem F_Log_9 : tF "FlashVault$Log" 9 4 4 RC4 FC4 10 tC4 := ⟨rfl, by decide, rfl, iC4, kC4, nC4, w_2_222⟩
theorem w_2_223 : (Cond.fieldLink "FlashVault$Log" (15 : Nat) "FlashVault$Log" "key" "[B") ∈ gW := gW_2 223 rfl rfl
theorem F_Log_15 : tF "FlashVault$Log" 15 4 5 RC4 FC4 10 tC4 := ⟨rfl, by decide, rfl, iC4, kC4, nC4, w_2_223⟩
theorem w_2_224 : (Cond.fieldLink "FlashVault$Log" (18 : Nat) "FlashVault$Log" "pending" "[I") ∈ gW := gW_2 224 rfl rfl
theorem F_Log_18 : tF "FlashVault$Log" 18 4 6 RC4 FC4 10 tC4 := ⟨rfl, by decide, rfl, iC4, kC4, nC4, w_2_224⟩
theorem w_2_226 : (Cond.fieldLink "FlashVault$Log" (22 : Nat) "FlashVault$Log" "misplaced" "I") ∈ gW := gW_2 226 rfl rfl
theorem F_Log_22 : tF "FlashVault$Log" 22 4 8 RC4 FC4 10 tC4 := ⟨rfl, by decide, rfl, iC4, kC4, nC4, w_2_226⟩
theorem w_2_228 : (Cond.fieldLink "FlashVault$Log" (26 : Nat) "FlashVault$Log" "heavyClearings" "I") ∈ gW := gW_2 228 rfl rfl
theorem F_Log_26 : tF "FlashVault$Log" 26 4 9 RC4 FC4 10 tC4 := ⟨rfl, by decide, rfl, iC4, kC4, nC4, w_2_228⟩
theorem w_2_218 : (Cond.fieldLink "FlashVault$Log" (29 : Nat) "FlashVault$Log" "chip" "LFlashVault$Chip;") ∈ gW := gW_2 218 rfl rfl
theorem F_Log_29 : tF "FlashVault$Log" 29 4 0 RC4 FC4 10 tC4 := ⟨rfl, by decide, rfl, iC4, kC4, nC4, w_2_218⟩
theorem w_2_219 : (Cond.fieldLink "FlashVault$Log" (33 : Nat) "FlashVault$Log" "layout" "LFlashVault$Layout;") ∈ gW := gW_2 219 rfl rfl
theorem F_Log_33 : tF "FlashVault$Log" 33 4 1 RC4 FC4 10 tC4 := ⟨rfl, by decide, rfl, iC4, kC4, nC4, w_2_219⟩
theorem w_2_220 : (Cond.fieldLink "FlashVault$Log" (37 : Nat) "FlashVault$Log" "versions" "LFlashVault$Versions;") ∈ gW := gW_2 220 rfl rfl
theorem F_Log_37 : tF "FlashVault$Log" 37 4 2 RC4 FC4 10 tC4 := ⟨rfl, by decide, rfl, iC4, kC4, nC4, w_2_220⟩
theorem w_2_221 : (Cond.fieldLink "FlashVault$Log" (41 : Nat) "FlashVault$Log" "tables" "LFlashVault$Tables;") ∈ gW := gW_2 221 rfl rfl
theorem F_Log_41 : tF "FlashVault$Log" 41 4 3 RC4 FC4 10 tC4 := ⟨rfl, by decide, rfl, iC4, kC4, nC4, w_2_221⟩
theorem w_2_65 : (Cond.fieldLink "FlashVault$Log" (45 : Nat) "FlashVault$Layout" "blocks" "I") ∈ gW := gW_2 65 rfl rfl
theorem F_Log_45 : tF "FlashVault$Log" 45 3 1 RC3 FC3 18 tC3 := ⟨rfl, by decide, rfl, iC3, kC3, nC3, w_2_65⟩
theorem w_2_225 : (Cond.fieldLink "FlashVault$Log" (50 : Nat) "FlashVault$Log" "loads" "[I") ∈ gW := gW_2 225 rfl rfl
theorem F_Log_50 : tF "FlashVault$Log" 50 4 7 RC4 FC4 10 tC4 := ⟨rfl, by decide, rfl, iC4, kC4, nC4, w_2_225⟩
theorem w_1_96 : (Cond.fieldLink "FlashVault$Log" (53 : Nat) "FlashVault$Batch" "size" "I") ∈ gW := gW_1 96 rfl rfl
theorem F_Log_53 : tF "FlashVault$Log" 53 0 5 RC0 FC0 7 tC0 := ⟨rfl, by decide, rfl, iC0, kC0, nC0, w_1_96⟩
theorem w_1_85 : (Cond.fieldLink "FlashVault$Log" (58 : Nat) "FlashVault$Batch" "keyLengths" "[I") ∈ gW := gW_1 85 rfl rfl
theorem F_Log_58 : tF "FlashVault$Log" 58 0 2 RC0 FC0 7 tC0 := ⟨rfl, by decide, rfl, iC0, kC0, nC0, w_1_85⟩
theorem w_1_89 : (Cond.fieldLink "FlashVault$Log" (61 : Nat) "FlashVault$Batch" "lengths" "[I") ∈ gW := gW_1 89 rfl rfl
theorem F_Log_61 : tF "FlashVault$Log" 61 0 3 RC0 FC0 7 tC0 := ⟨rfl, by decide, rfl, iC0, kC0, nC0, w_1_89⟩
theorem w_1_77 : (Cond.fieldLink "FlashVault$Log" (85 : Nat) "FlashVault$Batch" "data" "[B") ∈ gW := gW_1 77 rfl rfl
theorem F_Log_85 : tF "FlashVault$Log" 85 0 0 RC0 FC0 7 tC0 := ⟨rfl, by decide, rfl, iC0, kC0, nC0, w_1_77⟩
theorem w_1_81 : (Cond.fieldLink "FlashVault$Log" (88 : Nat) "FlashVault$Batch" "starts" "[I") ∈ gW := gW_1 81 rfl rfl
theorem F_Log_88 : tF "FlashVault$Log" 88 0 1 RC0 FC0 7 tC0 := ⟨rfl, by decide, rfl, iC0, kC0, nC0, w_1_81⟩
theorem w_1_93 : (Cond.fieldLink "FlashVault$Log" (97 : Nat) "FlashVault$Batch" "places" "[I") ∈ gW := gW_1 93 rfl rfl
theorem F_Log_97 : tF "FlashVault$Log" 97 0 4 RC0 FC0 7 tC0 := ⟨rfl, by decide, rfl, iC0, kC0, nC0, w_1_93⟩
theorem w_2_81 : (Cond.fieldLink "FlashVault$Log" (126 : Nat) "FlashVault$Layout" "top" "I") ∈ gW := gW_2 81 rfl rfl
theorem F_Log_126 : tF "FlashVault$Log" 126 3 10 RC3 FC3 18 tC3 := ⟨rfl, by decide, rfl, iC3, kC3, nC3, w_2_81⟩
theorem w_1_208 : (Cond.fieldLink "FlashVault$Log" (138 : Nat) "FlashVault$Versions" "places" "[I") ∈ gW := gW_1 208 rfl rfl
theorem F_Log_138 : tF "FlashVault$Log" 138 10 4 RC10 FC10 12 tC10 := ⟨rfl, by decide, rfl, iC10, kC10, nC10, w_1_208⟩
theorem w_1_200 : (Cond.fieldLink "FlashVault$Log" (141 : Nat) "FlashVault$Versions" "keyLengths" "[I") ∈ gW := gW_1 200 rfl rfl
theorem F_Log_141 : tF "FlashVault$Log" 141 10 2 RC10 FC10 12 tC10 := ⟨rfl, by decide, rfl, iC10, kC10, nC10, w_1_200⟩
theorem w_1_211 : (Cond.fieldLink "FlashVault$Log" (142 : Nat) "FlashVault$Versions" "lengths" "[I") ∈ gW := gW_1 211 rfl rfl
theorem F_Log_142 : tF "FlashVault$Log" 142 10 5 RC10 FC10 12 tC10 := ⟨rfl, by decide, rfl, iC10, kC10, nC10, w_1_211⟩
theorem w_1_204 : (Cond.fieldLink "FlashVault$Log" (146 : Nat) "FlashVault$Versions" "moments" "[I") ∈ gW := gW_1 204 rfl rfl
theorem F_Log_146 : tF "FlashVault$Log" 146 10 3 RC10 FC10 12 tC10 := ⟨rfl, by decide, rfl, iC10, kC10, nC10, w_1_204⟩
theorem w_1_167 : (Cond.fieldLink "FlashVault$Log" (149 : Nat) "FlashVault$Chip" "cells" "[B") ∈ gW := gW_1 167 rfl rfl
theorem F_Log_149 : tF "FlashVault$Log" 149 1 0 RC1 FC1 5 tC1 := ⟨rfl, by decide, rfl, iC1, kC1, nC1, w_1_167⟩
theorem w_1_195 : (Cond.fieldLink "FlashVault$Log" (152 : Nat) "FlashVault$Versions" "keys" "[B") ∈ gW := gW_1 195 rfl rfl
theorem F_Log_152 : tF "FlashVault$Log" 152 10 1 RC10 FC10 12 tC10 := ⟨rfl, by decide, rfl, iC10, kC10, nC10, w_1_195⟩
theorem w_1_225 : (Cond.fieldLink "FlashVault$Log" (162 : Nat) "FlashVault$Versions" "size" "I") ∈ gW := gW_1 225 rfl rfl
theorem F_Log_162 : tF "FlashVault$Log" 162 10 9 RC10 FC10 12 tC10 := ⟨rfl, by decide, rfl, iC10, kC10, nC10, w_1_225⟩
theorem w_1_219 : (Cond.fieldLink "FlashVault$Log" (163 : Nat) "FlashVault$Versions" "order" "[I") ∈ gW := gW_1 219 rfl rfl
theorem F_Log_163 : tF "FlashVault$Log" 163 10 7 RC10 FC10 12 tC10 := ⟨rfl, by decide, rfl, iC10, kC10, nC10, w_1_219⟩
theorem w_1_216 : (Cond.fieldLink "FlashVault$Log" (169 : Nat) "FlashVault$Versions" "alone" "[Z") ∈ gW := gW_1 216 rfl rfl
theorem F_Log_169 : tF "FlashVault$Log" 169 10 6 RC10 FC10 12 tC10 := ⟨rfl, by decide, rfl, iC10, kC10, nC10, w_1_216⟩
theorem w_2_74 : (Cond.fieldLink "FlashVault$Log" (185 : Nat) "FlashVault$Layout" "logCount" "I") ∈ gW := gW_2 74 rfl rfl
theorem F_Log_185 : tF "FlashVault$Log" 185 3 6 RC3 FC3 18 tC3 := ⟨rfl, by decide, rfl, iC3, kC3, nC3, w_2_74⟩
theorem w_2_69 : (Cond.fieldLink "FlashVault$Log" (188 : Nat) "FlashVault$Layout" "logs" "[I") ∈ gW := gW_2 69 rfl rfl
theorem F_Log_188 : tF "FlashVault$Log" 188 3 3 RC3 FC3 18 tC3 := ⟨rfl, by decide, rfl, iC3, kC3, nC3, w_2_69⟩
theorem w_1_230 : (Cond.fieldLink "FlashVault$Log" (194 : Nat) "FlashVault$Versions" "aloneCount" "I") ∈ gW := gW_1 230 rfl rfl
theorem F_Log_194 : tF "FlashVault$Log" 194 10 11 RC10 FC10 12 tC10 := ⟨rfl, by decide, rfl, iC10, kC10, nC10, w_1_230⟩
theorem w_2_78 : (Cond.fieldLink "FlashVault$Log" (237 : Nat) "FlashVault$Layout" "freshFrom" "I") ∈ gW := gW_2 78 rfl rfl
theorem F_Log_237 : tF "FlashVault$Log" 237 3 8 RC3 FC3 18 tC3 := ⟨rfl, by decide, rfl, iC3, kC3, nC3, w_2_78⟩
theorem w_2_76 : (Cond.fieldLink "FlashVault$Log" (240 : Nat) "FlashVault$Layout" "fresh" "I") ∈ gW := gW_2 76 rfl rfl
theorem F_Log_240 : tF "FlashVault$Log" 240 3 7 RC3 FC3 18 tC3 := ⟨rfl, by decide, rfl, iC3, kC3, nC3, w_2_76⟩
theorem w_1_54 : (Cond.fieldLink "FlashVault$Row" (7 : Nat) "FlashVault$Row" "length" "I") ∈ gW := gW_1 54 rfl rfl
theorem F_Row_7 : tF "FlashVault$Row" 7 5 1 RC5 FC5 2 tC5 := ⟨rfl, by decide, rfl, iC5, kC5, nC5, w_1_54⟩
theorem w_1_51 : (Cond.fieldLink "FlashVault$Row" (19 : Nat) "FlashVault$Row" "bytes" "[B") ∈ gW := gW_1 51 rfl rfl
theorem F_Row_19 : tF "FlashVault$Row" 19 5 0 RC5 FC5 2 tC5 := ⟨rfl, by decide, rfl, iC5, kC5, nC5, w_1_51⟩
theorem w_2_31 : (Cond.fieldLink "FlashVault$Run" (9 : Nat) "FlashVault$Run" "ids" "[I") ∈ gW := gW_2 31 rfl rfl
theorem F_Run_9 : tF "FlashVault$Run" 9 6 0 RC6 FC6 5 tC6 := ⟨rfl, by decide, rfl, iC6, kC6, nC6, w_2_31⟩
theorem w_2_33 : (Cond.fieldLink "FlashVault$Run" (15 : Nat) "FlashVault$Run" "idCount" "I") ∈ gW := gW_2 33 rfl rfl
theorem F_Run_15 : tF "FlashVault$Run" 15 6 1 RC6 FC6 5 tC6 := ⟨rfl, by decide, rfl, iC6, kC6, nC6, w_2_33⟩
theorem w_2_35 : (Cond.fieldLink "FlashVault$Run" (19 : Nat) "FlashVault$Run" "level" "I") ∈ gW := gW_2 35 rfl rfl
theorem F_Run_19 : tF "FlashVault$Run" 19 6 2 RC6 FC6 5 tC6 := ⟨rfl, by decide, rfl, iC6, kC6, nC6, w_2_35⟩
theorem w_2_38 : (Cond.fieldLink "FlashVault$Run" (22 : Nat) "FlashVault$Run" "length" "I") ∈ gW := gW_2 38 rfl rfl
theorem F_Run_22 : tF "FlashVault$Run" 22 6 3 RC6 FC6 5 tC6 := ⟨rfl, by decide, rfl, iC6, kC6, nC6, w_2_38⟩
theorem w_2_42 : (Cond.fieldLink "FlashVault$Run" (25 : Nat) "FlashVault$Run" "entries" "I") ∈ gW := gW_2 42 rfl rfl
theorem F_Run_25 : tF "FlashVault$Run" 25 6 4 RC6 FC6 5 tC6 := ⟨rfl, by decide, rfl, iC6, kC6, nC6, w_2_42⟩
theorem w_1_117 : (Cond.fieldLink "FlashVault$Sight" (9 : Nat) "FlashVault$Sight" "open" "[Z") ∈ gW := gW_1 117 rfl rfl
theorem F_Sight_9 : tF "FlashVault$Sight" 9 7 0 RC7 FC7 3 tC7 := ⟨rfl, by decide, rfl, iC7, kC7, nC7, w_1_117⟩
theorem w_1_118 : (Cond.fieldLink "FlashVault$Sight" (15 : Nat) "FlashVault$Sight" "moments" "[I") ∈ gW := gW_1 118 rfl rfl
theorem F_Sight_15 : tF "FlashVault$Sight" 15 7 1 RC7 FC7 3 tC7 := ⟨rfl, by decide, rfl, iC7, kC7, nC7, w_1_118⟩
theorem w_1_119 : (Cond.fieldLink "FlashVault$Sight" (21 : Nat) "FlashVault$Sight" "writes" "[LFlashVault$Batch;") ∈ gW := gW_1 119 rfl rfl
theorem F_Sight_21 : tF "FlashVault$Sight" 21 7 2 RC7 FC7 3 tC7 := ⟨rfl, by decide, rfl, iC7, kC7, nC7, w_1_119⟩
theorem w_2_183 : (Cond.fieldLink "FlashVault$Tables" (11 : Nat) "FlashVault$Tables" "cursors" "[LFlashVault$Cursor;") ∈ gW := gW_2 183 rfl rfl
theorem F_Tables_11 : tF "FlashVault$Tables" 11 8 3 RC8 FC8 10 tC8 := ⟨rfl, by decide, rfl, iC8, kC8, nC8, w_2_183⟩
theorem w_2_184 : (Cond.fieldLink "FlashVault$Tables" (22 : Nat) "FlashVault$Tables" "last" "LFlashVault$Row;") ∈ gW := gW_2 184 rfl rfl
theorem F_Tables_22 : tF "FlashVault$Tables" 22 8 4 RC8 FC8 10 tC8 := ⟨rfl, by decide, rfl, iC8, kC8, nC8, w_2_184⟩
theorem w_2_185 : (Cond.fieldLink "FlashVault$Tables" (26 : Nat) "FlashVault$Tables" "lastMoment" "I") ∈ gW := gW_2 185 rfl rfl
theorem F_Tables_26 : tF "FlashVault$Tables" 26 8 5 RC8 FC8 10 tC8 := ⟨rfl, by decide, rfl, iC8, kC8, nC8, w_2_185⟩
theorem w_2_187 : (Cond.fieldLink "FlashVault$Tables" (30 : Nat) "FlashVault$Tables" "page" "[B") ∈ gW := gW_2 187 rfl rfl
theorem F_Tables_30 : tF "FlashVault$Tables" 30 8 7 RC8 FC8 10 tC8 := ⟨rfl, by decide, rfl, iC8, kC8, nC8, w_2_187⟩
theorem w_2_188 : (Cond.fieldLink "FlashVault$Tables" (34 : Nat) "FlashVault$Tables" "buffered" "I") ∈ gW := gW_2 188 rfl rfl
theorem F_Tables_34 : tF "FlashVault$Tables" 34 8 8 RC8 FC8 10 tC8 := ⟨rfl, by decide, rfl, iC8, kC8, nC8, w_2_188⟩
theorem w_2_189 : (Cond.fieldLink "FlashVault$Tables" (37 : Nat) "FlashVault$Tables" "grownMerges" "I") ∈ gW := gW_2 189 rfl rfl
theorem F_Tables_37 : tF "FlashVault$Tables" 37 8 9 RC8 FC8 10 tC8 := ⟨rfl, by decide, rfl, iC8, kC8, nC8, w_2_189⟩
theorem w_2_180 : (Cond.fieldLink "FlashVault$Tables" (40 : Nat) "FlashVault$Tables" "chip" "LFlashVault$Chip;") ∈ gW := gW_2 180 rfl rfl
theorem F_Tables_40 : tF "FlashVault$Tables" 40 8 0 RC8 FC8 10 tC8 := ⟨rfl, by decide, rfl, iC8, kC8, nC8, w_2_180⟩
theorem w_2_181 : (Cond.fieldLink "FlashVault$Tables" (44 : Nat) "FlashVault$Tables" "layout" "LFlashVault$Layout;") ∈ gW := gW_2 181 rfl rfl
theorem F_Tables_44 : tF "FlashVault$Tables" 44 8 1 RC8 FC8 10 tC8 := ⟨rfl, by decide, rfl, iC8, kC8, nC8, w_2_181⟩
theorem w_2_182 : (Cond.fieldLink "FlashVault$Tables" (48 : Nat) "FlashVault$Tables" "versions" "LFlashVault$Versions;") ∈ gW := gW_2 182 rfl rfl
theorem F_Tables_48 : tF "FlashVault$Tables" 48 8 2 RC8 FC8 10 tC8 := ⟨rfl, by decide, rfl, iC8, kC8, nC8, w_2_182⟩
theorem w_1_217 : (Cond.fieldLink "FlashVault$Tables" (52 : Nat) "FlashVault$Versions" "order" "[I") ∈ gW := gW_1 217 rfl rfl
theorem F_Tables_52 : tF "FlashVault$Tables" 52 10 7 RC10 FC10 12 tC10 := ⟨rfl, by decide, rfl, iC10, kC10, nC10, w_1_217⟩
theorem w_2_186 : (Cond.fieldLink "FlashVault$Tables" (58 : Nat) "FlashVault$Tables" "told" "[Z") ∈ gW := gW_2 186 rfl rfl
theorem F_Tables_58 : tF "FlashVault$Tables" 58 8 6 RC8 FC8 10 tC8 := ⟨rfl, by decide, rfl, iC8, kC8, nC8, w_2_186⟩
theorem w_1_224 : (Cond.fieldLink "FlashVault$Tables" (101 : Nat) "FlashVault$Versions" "size" "I") ∈ gW := gW_1 224 rfl rfl
theorem F_Tables_101 : tF "FlashVault$Tables" 101 10 9 RC10 FC10 12 tC10 := ⟨rfl, by decide, rfl, iC10, kC10, nC10, w_1_224⟩
theorem w_1_215 : (Cond.fieldLink "FlashVault$Tables" (104 : Nat) "FlashVault$Versions" "alone" "[Z") ∈ gW := gW_1 215 rfl rfl
theorem F_Tables_104 : tF "FlashVault$Tables" 104 10 6 RC10 FC10 12 tC10 := ⟨rfl, by decide, rfl, iC10, kC10, nC10, w_1_215⟩
theorem w_1_199 : (Cond.fieldLink "FlashVault$Tables" (107 : Nat) "FlashVault$Versions" "keyLengths" "[I") ∈ gW := gW_1 199 rfl rfl
theorem F_Tables_107 : tF "FlashVault$Tables" 107 10 2 RC10 FC10 12 tC10 := ⟨rfl, by decide, rfl, iC10, kC10, nC10, w_1_199⟩
theorem w_1_194 : (Cond.fieldLink "FlashVault$Tables" (114 : Nat) "FlashVault$Versions" "keys" "[B") ∈ gW := gW_1 194 rfl rfl
theorem F_Tables_114 : tF "FlashVault$Tables" 114 10 1 RC10 FC10 12 tC10 := ⟨rfl, by decide, rfl, iC10, kC10, nC10, w_1_194⟩
theorem w_1_203 : (Cond.fieldLink "FlashVault$Tables" (117 : Nat) "FlashVault$Versions" "moments" "[I") ∈ gW := gW_1 203 rfl rfl
theorem F_Tables_117 : tF "FlashVault$Tables" 117 10 3 RC10 FC10 12 tC10 := ⟨rfl, by decide, rfl, iC10, kC10, nC10, w_1_203⟩
theorem w_1_207 : (Cond.fieldLink "FlashVault$Tables" (120 : Nat) "FlashVault$Versions" "places" "[I") ∈ gW := gW_1 207 rfl rfl
theorem F_Tables_120 : tF "FlashVault$Tables" 120 10 4 RC10 FC10 12 tC10 := ⟨rfl, by decide, rfl, iC10, kC10, nC10, w_1_207⟩
theorem w_1_210 : (Cond.fieldLink "FlashVault$Tables" (123 : Nat) "FlashVault$Versions" "lengths" "[I") ∈ gW := gW_1 210 rfl rfl
theorem F_Tables_123 : tF "FlashVault$Tables" 123 10 5 RC10 FC10 12 tC10 := ⟨rfl, by decide, rfl, iC10, kC10, nC10, w_1_210⟩
theorem w_2_43 : (Cond.fieldLink "FlashVault$Tables" (130 : Nat) "FlashVault$Run" "entries" "I") ∈ gW := gW_2 43 rfl rfl
theorem F_Tables_130 : tF "FlashVault$Tables" 130 6 4 RC6 FC6 5 tC6 := ⟨rfl, by decide, rfl, iC6, kC6, nC6, w_2_43⟩
theorem w_2_83 : (Cond.fieldLink "FlashVault$Tables" (137 : Nat) "FlashVault$Layout" "runCount" "I") ∈ gW := gW_2 83 rfl rfl
theorem F_Tables_137 : tF "FlashVault$Tables" 137 3 11 RC3 FC3 18 tC3 := ⟨rfl, by decide, rfl, iC3, kC3, nC3, w_2_83⟩
theorem w_2_71 : (Cond.fieldLink "FlashVault$Tables" (163 : Nat) "FlashVault$Layout" "runs" "[LFlashVault$Run;") ∈ gW := gW_2 71 rfl rfl
theorem F_Tables_163 : tF "FlashVault$Tables" 163 3 4 RC3 FC3 18 tC3 := ⟨rfl, by decide, rfl, iC3, kC3, nC3, w_2_71⟩
theorem w_2_36 : (Cond.fieldLink "FlashVault$Tables" (167 : Nat) "FlashVault$Run" "level" "I") ∈ gW := gW_2 36 rfl rfl
theorem F_Tables_167 : tF "FlashVault$Tables" 167 6 2 RC6 FC6 5 tC6 := ⟨rfl, by decide, rfl, iC6, kC6, nC6, w_2_36⟩
theorem w_2_40 : (Cond.fieldLink "FlashVault$Tables" (176 : Nat) "FlashVault$Run" "length" "I") ∈ gW := gW_2 40 rfl rfl
theorem F_Tables_176 : tF "FlashVault$Tables" 176 6 3 RC6 FC6 5 tC6 := ⟨rfl, by decide, rfl, iC6, kC6, nC6, w_2_40⟩
theorem w_1_56 : (Cond.fieldLink "FlashVault$Tables" (179 : Nat) "FlashVault$Row" "length" "I") ∈ gW := gW_1 56 rfl rfl
theorem F_Tables_179 : tF "FlashVault$Tables" 179 5 1 RC5 FC5 2 tC5 := ⟨rfl, by decide, rfl, iC5, kC5, nC5, w_1_56⟩
theorem w_2_154 : (Cond.fieldLink "FlashVault$Tables" (190 : Nat) "FlashVault$Cursor" "moment" "I") ∈ gW := gW_2 154 rfl rfl
theorem F_Tables_190 : tF "FlashVault$Tables" 190 2 5 RC2 FC2 9 tC2 := ⟨rfl, by decide, rfl, iC2, kC2, nC2, w_2_154⟩
theorem w_2_147 : (Cond.fieldLink "FlashVault$Tables" (196 : Nat) "FlashVault$Cursor" "key" "[B") ∈ gW := gW_2 147 rfl rfl
theorem F_Tables_196 : tF "FlashVault$Tables" 196 2 1 RC2 FC2 9 tC2 := ⟨rfl, by decide, rfl, iC2, kC2, nC2, w_2_147⟩
theorem w_2_152 : (Cond.fieldLink "FlashVault$Tables" (199 : Nat) "FlashVault$Cursor" "keyLength" "I") ∈ gW := gW_2 152 rfl rfl
theorem F_Tables_199 : tF "FlashVault$Tables" 199 2 4 RC2 FC2 9 tC2 := ⟨rfl, by decide, rfl, iC2, kC2, nC2, w_2_152⟩
theorem w_2_156 : (Cond.fieldLink "FlashVault$Tables" (202 : Nat) "FlashVault$Cursor" "place" "I") ∈ gW := gW_2 156 rfl rfl
theorem F_Tables_202 : tF "FlashVault$Tables" 202 2 6 RC2 FC2 9 tC2 := ⟨rfl, by decide, rfl, iC2, kC2, nC2, w_2_156⟩
theorem w_2_158 : (Cond.fieldLink "FlashVault$Tables" (205 : Nat) "FlashVault$Cursor" "length" "I") ∈ gW := gW_2 158 rfl rfl
theorem F_Tables_205 : tF "FlashVault$Tables" 205 2 7 RC2 FC2 9 tC2 := ⟨rfl, by decide, rfl, iC2, kC2, nC2, w_2_158⟩
theorem w_2_160 : (Cond.fieldLink "FlashVault$Tables" (210 : Nat) "FlashVault$Cursor" "ended" "Z") ∈ gW := gW_2 160 rfl rfl
theorem F_Tables_210 : tF "FlashVault$Tables" 210 2 8 RC2 FC2 9 tC2 := ⟨rfl, by decide, rfl, iC2, kC2, nC2, w_2_160⟩
theorem w_1_53 : (Cond.fieldLink "FlashVault$Tables" (222 : Nat) "FlashVault$Row" "bytes" "[B") ∈ gW := gW_1 53 rfl rfl
theorem F_Tables_222 : tF "FlashVault$Tables" 222 5 0 RC5 FC5 2 tC5 := ⟨rfl, by decide, rfl, iC5, kC5, nC5, w_1_53⟩
theorem w_2_150 : (Cond.fieldLink "FlashVault$Tables" (242 : Nat) "FlashVault$Cursor" "offset" "I") ∈ gW := gW_2 150 rfl rfl
theorem F_Tables_242 : tF "FlashVault$Tables" 242 2 3 RC2 FC2 9 tC2 := ⟨rfl, by decide, rfl, iC2, kC2, nC2, w_2_150⟩
theorem w_1_135 : (Cond.fieldLink "FlashVault$Tree" (9 : Nat) "FlashVault$Tree" "kinds" "[I") ∈ gW := gW_1 135 rfl rfl
theorem F_Tree_9 : tF "FlashVault$Tree" 9 9 0 RC9 FC9 6 tC9 := ⟨rfl, by decide, rfl, iC9, kC9, nC9, w_1_135⟩
theorem w_1_136 : (Cond.fieldLink "FlashVault$Tree" (15 : Nat) "FlashVault$Tree" "parents" "[I") ∈ gW := gW_1 136 rfl rfl
theorem F_Tree_15 : tF "FlashVault$Tree" 15 9 1 RC9 FC9 6 tC9 := ⟨rfl, by decide, rfl, iC9, kC9, nC9, w_1_136⟩
theorem w_1_137 : (Cond.fieldLink "FlashVault$Tree" (18 : Nat) "FlashVault$Tree" "sizes" "[I") ∈ gW := gW_1 137 rfl rfl
theorem F_Tree_18 : tF "FlashVault$Tree" 18 9 2 RC9 FC9 6 tC9 := ⟨rfl, by decide, rfl, iC9, kC9, nC9, w_1_137⟩
theorem w_1_138 : (Cond.fieldLink "FlashVault$Tree" (21 : Nat) "FlashVault$Tree" "nameLengths" "[I") ∈ gW := gW_1 138 rfl rfl
theorem F_Tree_21 : tF "FlashVault$Tree" 21 9 3 RC9 FC9 6 tC9 := ⟨rfl, by decide, rfl, iC9, kC9, nC9, w_1_138⟩
theorem w_1_139 : (Cond.fieldLink "FlashVault$Tree" (24 : Nat) "FlashVault$Tree" "names" "[B") ∈ gW := gW_1 139 rfl rfl
theorem F_Tree_24 : tF "FlashVault$Tree" 24 9 4 RC9 FC9 6 tC9 := ⟨rfl, by decide, rfl, iC9, kC9, nC9, w_1_139⟩
theorem w_1_141 : (Cond.fieldLink "FlashVault$Tree" (28 : Nat) "FlashVault$Tree" "nodes" "I") ∈ gW := gW_1 141 rfl rfl
theorem F_Tree_28 : tF "FlashVault$Tree" 28 9 5 RC9 FC9 6 tC9 := ⟨rfl, by decide, rfl, iC9, kC9, nC9, w_1_141⟩
theorem w_1_168 : (Cond.fieldLink "FlashVault$Tree" (75 : Nat) "FlashVault$Chip" "cells" "[B") ∈ gW := gW_1 168 rfl rfl
theorem F_Tree_75 : tF "FlashVault$Tree" 75 1 0 RC1 FC1 5 tC1 := ⟨rfl, by decide, rfl, iC1, kC1, nC1, w_1_168⟩
theorem w_1_226 : (Cond.fieldLink "FlashVault$Tree" (80 : Nat) "FlashVault$Versions" "size" "I") ∈ gW := gW_1 226 rfl rfl
theorem F_Tree_80 : tF "FlashVault$Tree" 80 10 9 RC10 FC10 12 tC10 := ⟨rfl, by decide, rfl, iC10, kC10, nC10, w_1_226⟩
theorem w_1_220 : (Cond.fieldLink "FlashVault$Tree" (85 : Nat) "FlashVault$Versions" "order" "[I") ∈ gW := gW_1 220 rfl rfl
theorem F_Tree_85 : tF "FlashVault$Tree" 85 10 7 RC10 FC10 12 tC10 := ⟨rfl, by decide, rfl, iC10, kC10, nC10, w_1_220⟩
theorem w_1_197 : (Cond.fieldLink "FlashVault$Tree" (88 : Nat) "FlashVault$Versions" "keys" "[B") ∈ gW := gW_1 197 rfl rfl
theorem F_Tree_88 : tF "FlashVault$Tree" 88 10 1 RC10 FC10 12 tC10 := ⟨rfl, by decide, rfl, iC10, kC10, nC10, w_1_197⟩
theorem w_1_212 : (Cond.fieldLink "FlashVault$Tree" (91 : Nat) "FlashVault$Versions" "lengths" "[I") ∈ gW := gW_1 212 rfl rfl
theorem F_Tree_91 : tF "FlashVault$Tree" 91 10 5 RC10 FC10 12 tC10 := ⟨rfl, by decide, rfl, iC10, kC10, nC10, w_1_212⟩
theorem w_1_223 : (Cond.fieldLink "FlashVault$Versions" (9 : Nat) "FlashVault$Versions" "size" "I") ∈ gW := gW_1 223 rfl rfl
theorem F_Versions_9 : tF "FlashVault$Versions" 9 10 9 RC10 FC10 12 tC10 := ⟨rfl, by decide, rfl, iC10, kC10, nC10, w_1_223⟩
theorem w_1_228 : (Cond.fieldLink "FlashVault$Versions" (15 : Nat) "FlashVault$Versions" "spares" "I") ∈ gW := gW_1 228 rfl rfl
theorem F_Versions_15 : tF "FlashVault$Versions" 15 10 10 RC10 FC10 12 tC10 := ⟨rfl, by decide, rfl, iC10, kC10, nC10, w_1_228⟩
theorem w_1_229 : (Cond.fieldLink "FlashVault$Versions" (18 : Nat) "FlashVault$Versions" "aloneCount" "I") ∈ gW := gW_1 229 rfl rfl
theorem F_Versions_18 : tF "FlashVault$Versions" 18 10 11 RC10 FC10 12 tC10 := ⟨rfl, by decide, rfl, iC10, kC10, nC10, w_1_229⟩
theorem w_1_192 : (Cond.fieldLink "FlashVault$Versions" (27 : Nat) "FlashVault$Versions" "sight" "LFlashVault$Sight;") ∈ gW := gW_1 192 rfl rfl
theorem F_Versions_27 : tF "FlashVault$Versions" 27 10 0 RC10 FC10 12 tC10 := ⟨rfl, by decide, rfl, iC10, kC10, nC10, w_1_192⟩
theorem w_1_193 : (Cond.fieldLink "FlashVault$Versions" (31 : Nat) "FlashVault$Versions" "keys" "[B") ∈ gW := gW_1 193 rfl rfl
theorem F_Versions_31 : tF "FlashVault$Versions" 31 10 1 RC10 FC10 12 tC10 := ⟨rfl, by decide, rfl, iC10, kC10, nC10, w_1_193⟩
theorem w_1_198 : (Cond.fieldLink "FlashVault$Versions" (35 : Nat) "FlashVault$Versions" "keyLengths" "[I") ∈ gW := gW_1 198 rfl rfl
theorem F_Versions_35 : tF "FlashVault$Versions" 35 10 2 RC10 FC10 12 tC10 := ⟨rfl, by decide, rfl, iC10, kC10, nC10, w_1_198⟩
theorem w_1_202 : (Cond.fieldLink "FlashVault$Versions" (39 : Nat) "FlashVault$Versions" "moments" "[I") ∈ gW := gW_1 202 rfl rfl
theorem F_Versions_39 : tF "FlashVault$Versions" 39 10 3 RC10 FC10 12 tC10 := ⟨rfl, by decide, rfl, iC10, kC10, nC10, w_1_202⟩
theorem w_1_206 : (Cond.fieldLink "FlashVault$Versions" (42 : Nat) "FlashVault$Versions" "places" "[I") ∈ gW := gW_1 206 rfl rfl
theorem F_Versions_42 : tF "FlashVault$Versions" 42 10 4 RC10 FC10 12 tC10 := ⟨rfl, by decide, rfl, iC10, kC10, nC10, w_1_206⟩
theorem w_1_209 : (Cond.fieldLink "FlashVault$Versions" (45 : Nat) "FlashVault$Versions" "lengths" "[I") ∈ gW := gW_1 209 rfl rfl
theorem F_Versions_45 : tF "FlashVault$Versions" 45 10 5 RC10 FC10 12 tC10 := ⟨rfl, by decide, rfl, iC10, kC10, nC10, w_1_209⟩
theorem w_1_214 : (Cond.fieldLink "FlashVault$Versions" (48 : Nat) "FlashVault$Versions" "alone" "[Z") ∈ gW := gW_1 214 rfl rfl
theorem F_Versions_48 : tF "FlashVault$Versions" 48 10 6 RC10 FC10 12 tC10 := ⟨rfl, by decide, rfl, iC10, kC10, nC10, w_1_214⟩
theorem w_1_218 : (Cond.fieldLink "FlashVault$Versions" (52 : Nat) "FlashVault$Versions" "order" "[I") ∈ gW := gW_1 218 rfl rfl
theorem F_Versions_52 : tF "FlashVault$Versions" 52 10 7 RC10 FC10 12 tC10 := ⟨rfl, by decide, rfl, iC10, kC10, nC10, w_1_218⟩
theorem w_1_222 : (Cond.fieldLink "FlashVault$Versions" (55 : Nat) "FlashVault$Versions" "spare" "[I") ∈ gW := gW_1 222 rfl rfl
theorem F_Versions_55 : tF "FlashVault$Versions" 55 10 8 RC10 FC10 12 tC10 := ⟨rfl, by decide, rfl, iC10, kC10, nC10, w_1_222⟩
theorem w_1_98 : (Cond.fieldLink "FlashVault$Versions" (99 : Nat) "FlashVault$Batch" "size" "I") ∈ gW := gW_1 98 rfl rfl
theorem F_Versions_99 : tF "FlashVault$Versions" 99 0 5 RC0 FC0 7 tC0 := ⟨rfl, by decide, rfl, iC0, kC0, nC0, w_1_98⟩
theorem w_1_79 : (Cond.fieldLink "FlashVault$Versions" (102 : Nat) "FlashVault$Batch" "data" "[B") ∈ gW := gW_1 79 rfl rfl
theorem F_Versions_102 : tF "FlashVault$Versions" 102 0 0 RC0 FC0 7 tC0 := ⟨rfl, by decide, rfl, iC0, kC0, nC0, w_1_79⟩
theorem w_1_83 : (Cond.fieldLink "FlashVault$Versions" (105 : Nat) "FlashVault$Batch" "starts" "[I") ∈ gW := gW_1 83 rfl rfl
theorem F_Versions_105 : tF "FlashVault$Versions" 105 0 1 RC0 FC0 7 tC0 := ⟨rfl, by decide, rfl, iC0, kC0, nC0, w_1_83⟩
theorem w_1_87 : (Cond.fieldLink "FlashVault$Versions" (108 : Nat) "FlashVault$Batch" "keyLengths" "[I") ∈ gW := gW_1 87 rfl rfl
theorem F_Versions_108 : tF "FlashVault$Versions" 108 0 2 RC0 FC0 7 tC0 := ⟨rfl, by decide, rfl, iC0, kC0, nC0, w_1_87⟩
theorem w_1_94 : (Cond.fieldLink "FlashVault$Versions" (113 : Nat) "FlashVault$Batch" "places" "[I") ∈ gW := gW_1 94 rfl rfl
theorem F_Versions_113 : tF "FlashVault$Versions" 113 0 4 RC0 FC0 7 tC0 := ⟨rfl, by decide, rfl, iC0, kC0, nC0, w_1_94⟩
theorem w_1_90 : (Cond.fieldLink "FlashVault$Versions" (114 : Nat) "FlashVault$Batch" "lengths" "[I") ∈ gW := gW_1 90 rfl rfl
theorem F_Versions_114 : tF "FlashVault$Versions" 114 0 3 RC0 FC0 7 tC0 := ⟨rfl, by decide, rfl, iC0, kC0, nC0, w_1_90⟩
theorem w_9_83 : (Cond.fieldLink "FlashVaultModel" (7 : Nat) "FlashVaultModel" "tape" "[B") ∈ gW := gW_9 83 rfl rfl
theorem F_MD_7 : tF "FlashVaultModel" 7 12 5 RC12 FC12 40 tC12 := ⟨rfl, by decide, rfl, iC12, kC12, nC12, w_9_83⟩
theorem w_9_85 : (Cond.fieldLink "FlashVaultModel" (13 : Nat) "FlashVaultModel" "result" "[B") ∈ gW := gW_9 85 rfl rfl
theorem F_MD_13 : tF "FlashVaultModel" 13 12 7 RC12 FC12 40 tC12 := ⟨rfl, by decide, rfl, iC12, kC12, nC12, w_9_85⟩
theorem w_9_89 : (Cond.fieldLink "FlashVaultModel" (16 : Nat) "FlashVaultModel" "vKey" "[I") ∈ gW := gW_9 89 rfl rfl
theorem F_MD_16 : tF "FlashVaultModel" 16 12 11 RC12 FC12 40 tC12 := ⟨rfl, by decide, rfl, iC12, kC12, nC12, w_9_89⟩
theorem w_9_90 : (Cond.fieldLink "FlashVaultModel" (20 : Nat) "FlashVaultModel" "vKeySize" "[I") ∈ gW := gW_9 90 rfl rfl
theorem F_MD_20 : tF "FlashVaultModel" 20 12 12 RC12 FC12 40 tC12 := ⟨rfl, by decide, rfl, iC12, kC12, nC12, w_9_90⟩
theorem w_9_91 : (Cond.fieldLink "FlashVaultModel" (23 : Nat) "FlashVaultModel" "vValue" "[I") ∈ gW := gW_9 91 rfl rfl
theorem F_MD_23 : tF "FlashVaultModel" 23 12 13 RC12 FC12 40 tC12 := ⟨rfl, by decide, rfl, iC12, kC12, nC12, w_9_91⟩
theorem w_9_92 : (Cond.fieldLink "FlashVaultModel" (26 : Nat) "FlashVaultModel" "vSize" "[I") ∈ gW := gW_9 92 rfl rfl
theorem F_MD_26 : tF "FlashVaultModel" 26 12 14 RC12 FC12 40 tC12 := ⟨rfl, by decide, rfl, iC12, kC12, nC12, w_9_92⟩
theorem w_9_93 : (Cond.fieldLink "FlashVaultModel" (29 : Nat) "FlashVaultModel" "vMoment" "[I") ∈ gW := gW_9 93 rfl rfl
theorem F_MD_29 : tF "FlashVaultModel" 29 12 15 RC12 FC12 40 tC12 := ⟨rfl, by decide, rfl, iC12, kC12, nC12, w_9_93⟩
theorem w_9_94 : (Cond.fieldLink "FlashVaultModel" (33 : Nat) "FlashVaultModel" "bytes" "[B") ∈ gW := gW_9 94 rfl rfl
theorem F_MD_33 : tF "FlashVaultModel" 33 12 16 RC12 FC12 40 tC12 := ⟨rfl, by decide, rfl, iC12, kC12, nC12, w_9_94⟩
theorem w_9_95 : (Cond.fieldLink "FlashVaultModel" (36 : Nat) "FlashVaultModel" "others" "[B") ∈ gW := gW_9 95 rfl rfl
theorem F_MD_36 : tF "FlashVaultModel" 36 12 17 RC12 FC12 40 tC12 := ⟨rfl, by decide, rfl, iC12, kC12, nC12, w_9_95⟩
theorem w_9_97 : (Cond.fieldLink "FlashVaultModel" (39 : Nat) "FlashVaultModel" "open" "[Z") ∈ gW := gW_9 97 rfl rfl
theorem F_MD_39 : tF "FlashVaultModel" 39 12 19 RC12 FC12 40 tC12 := ⟨rfl, by decide, rfl, iC12, kC12, nC12, w_9_97⟩
theorem w_9_98 : (Cond.fieldLink "FlashVaultModel" (43 : Nat) "FlashVaultModel" "sees" "[I") ∈ gW := gW_9 98 rfl rfl
theorem F_MD_43 : tF "FlashVaultModel" 43 12 20 RC12 FC12 40 tC12 := ⟨rfl, by decide, rfl, iC12, kC12, nC12, w_9_98⟩
theorem w_9_99 : (Cond.fieldLink "FlashVaultModel" (46 : Nat) "FlashVaultModel" "rows" "[I") ∈ gW := gW_9 99 rfl rfl
theorem F_MD_46 : tF "FlashVaultModel" 46 12 21 RC12 FC12 40 tC12 := ⟨rfl, by decide, rfl, iC12, kC12, nC12, w_9_99⟩
theorem w_9_100 : (Cond.fieldLink "FlashVaultModel" (49 : Nat) "FlashVaultModel" "filled" "[I") ∈ gW := gW_9 100 rfl rfl
theorem F_MD_49 : tF "FlashVaultModel" 49 12 22 RC12 FC12 40 tC12 := ⟨rfl, by decide, rfl, iC12, kC12, nC12, w_9_100⟩
theorem w_9_101 : (Cond.fieldLink "FlashVaultModel" (52 : Nat) "FlashVaultModel" "wKey" "[I") ∈ gW := gW_9 101 rfl rfl
theorem F_MD_52 : tF "FlashVaultModel" 52 12 23 RC12 FC12 40 tC12 := ⟨rfl, by decide, rfl, iC12, kC12, nC12, w_9_101⟩
theorem w_9_102 : (Cond.fieldLink "FlashVaultModel" (55 : Nat) "FlashVaultModel" "wKeySize" "[I") ∈ gW := gW_9 102 rfl rfl
theorem F_MD_55 : tF "FlashVaultModel" 55 12 24 RC12 FC12 40 tC12 := ⟨rfl, by decide, rfl, iC12, kC12, nC12, w_9_102⟩
theorem w_9_103 : (Cond.fieldLink "FlashVaultModel" (58 : Nat) "FlashVaultModel" "wSize" "[I") ∈ gW := gW_9 103 rfl rfl
theorem F_MD_58 : tF "FlashVaultModel" 58 12 25 RC12 FC12 40 tC12 := ⟨rfl, by decide, rfl, iC12, kC12, nC12, w_9_103⟩
theorem w_9_104 : (Cond.fieldLink "FlashVaultModel" (61 : Nat) "FlashVaultModel" "written" "[B") ∈ gW := gW_9 104 rfl rfl
theorem F_MD_61 : tF "FlashVaultModel" 61 12 26 RC12 FC12 40 tC12 := ⟨rfl, by decide, rfl, iC12, kC12, nC12, w_9_104⟩
theorem w_9_105 : (Cond.fieldLink "FlashVaultModel" (64 : Nat) "FlashVaultModel" "kind" "[I") ∈ gW := gW_9 105 rfl rfl
theorem F_MD_64 : tF "FlashVaultModel" 64 12 27 RC12 FC12 40 tC12 := ⟨rfl, by decide, rfl, iC12, kC12, nC12, w_9_105⟩
theorem w_9_106 : (Cond.fieldLink "FlashVaultModel" (67 : Nat) "FlashVaultModel" "parent" "[I") ∈ gW := gW_9 106 rfl rfl
theorem F_MD_67 : tF "FlashVaultModel" 67 12 28 RC12 FC12 40 tC12 := ⟨rfl, by decide, rfl, iC12, kC12, nC12, w_9_106⟩
theorem w_9_107 : (Cond.fieldLink "FlashVaultModel" (70 : Nat) "FlashVaultModel" "nameSize" "[I") ∈ gW := gW_9 107 rfl rfl
theorem F_MD_70 : tF "FlashVaultModel" 70 12 29 RC12 FC12 40 tC12 := ⟨rfl, by decide, rfl, iC12, kC12, nC12, w_9_107⟩
theorem w_9_108 : (Cond.fieldLink "FlashVaultModel" (73 : Nat) "FlashVaultModel" "names" "[B") ∈ gW := gW_9 108 rfl rfl
theorem F_MD_73 : tF "FlashVaultModel" 73 12 30 RC12 FC12 40 tC12 := ⟨rfl, by decide, rfl, iC12, kC12, nC12, w_9_108⟩
theorem w_9_109 : (Cond.fieldLink "FlashVaultModel" (76 : Nat) "FlashVaultModel" "fileSize" "[I") ∈ gW := gW_9 109 rfl rfl
theorem F_MD_76 : tF "FlashVaultModel" 76 12 31 RC12 FC12 40 tC12 := ⟨rfl, by decide, rfl, iC12, kC12, nC12, w_9_109⟩
theorem w_9_111 : (Cond.fieldLink "FlashVaultModel" (79 : Nat) "FlashVaultModel" "pFile" "[I") ∈ gW := gW_9 111 rfl rfl
theorem F_MD_79 : tF "FlashVaultModel" 79 12 33 RC12 FC12 40 tC12 := ⟨rfl, by decide, rfl, iC12, kC12, nC12, w_9_111⟩
theorem w_9_112 : (Cond.fieldLink "FlashVaultModel" (82 : Nat) "FlashVaultModel" "pIndex" "[I") ∈ gW := gW_9 112 rfl rfl
theorem F_MD_82 : tF "FlashVaultModel" 82 12 34 RC12 FC12 40 tC12 := ⟨rfl, by decide, rfl, iC12, kC12, nC12, w_9_112⟩
theorem w_9_113 : (Cond.fieldLink "FlashVaultModel" (85 : Nat) "FlashVaultModel" "pSize" "[I") ∈ gW := gW_9 113 rfl rfl
theorem F_MD_85 : tF "FlashVaultModel" 85 12 35 RC12 FC12 40 tC12 := ⟨rfl, by decide, rfl, iC12, kC12, nC12, w_9_113⟩
theorem w_9_114 : (Cond.fieldLink "FlashVaultModel" (88 : Nat) "FlashVaultModel" "pAt" "[I") ∈ gW := gW_9 114 rfl rfl
theorem F_MD_88 : tF "FlashVaultModel" 88 12 36 RC12 FC12 40 tC12 := ⟨rfl, by decide, rfl, iC12, kC12, nC12, w_9_114⟩
theorem w_9_115 : (Cond.fieldLink "FlashVaultModel" (92 : Nat) "FlashVaultModel" "held" "[B") ∈ gW := gW_9 115 rfl rfl
theorem F_MD_92 : tF "FlashVaultModel" 92 12 37 RC12 FC12 40 tC12 := ⟨rfl, by decide, rfl, iC12, kC12, nC12, w_9_115⟩
theorem w_9_116 : (Cond.fieldLink "FlashVaultModel" (95 : Nat) "FlashVaultModel" "weights" "[I") ∈ gW := gW_9 116 rfl rfl
theorem F_MD_95 : tF "FlashVaultModel" 95 12 38 RC12 FC12 40 tC12 := ⟨rfl, by decide, rfl, iC12, kC12, nC12, w_9_116⟩
theorem w_9_79 : (Cond.fieldLink "FlashVaultModel" (98 : Nat) "FlashVaultModel" "limit" "I") ∈ gW := gW_9 79 rfl rfl
theorem F_MD_98 : tF "FlashVaultModel" 98 12 1 RC12 FC12 40 tC12 := ⟨rfl, by decide, rfl, iC12, kC12, nC12, w_9_79⟩
theorem w_9_78 : (Cond.fieldLink "FlashVaultModel" (102 : Nat) "FlashVaultModel" "failed" "I") ∈ gW := gW_9 78 rfl rfl
theorem F_MD_102 : tF "FlashVaultModel" 102 12 0 RC12 FC12 40 tC12 := ⟨rfl, by decide, rfl, iC12, kC12, nC12, w_9_78⟩
theorem w_9_80 : (Cond.fieldLink "FlashVaultModel" (105 : Nat) "FlashVaultModel" "down" "Z") ∈ gW := gW_9 80 rfl rfl
theorem F_MD_105 : tF "FlashVaultModel" 105 12 2 RC12 FC12 40 tC12 := ⟨rfl, by decide, rfl, iC12, kC12, nC12, w_9_80⟩
theorem w_9_84 : (Cond.fieldLink "FlashVaultModel" (113 : Nat) "FlashVaultModel" "taped" "I") ∈ gW := gW_9 84 rfl rfl
theorem F_MD_113 : tF "FlashVaultModel" 113 12 6 RC12 FC12 40 tC12 := ⟨rfl, by decide, rfl, iC12, kC12, nC12, w_9_84⟩
theorem w_9_86 : (Cond.fieldLink "FlashVaultModel" (120 : Nat) "FlashVaultModel" "resultSize" "I") ∈ gW := gW_9 86 rfl rfl
theorem F_MD_120 : tF "FlashVaultModel" 120 12 8 RC12 FC12 40 tC12 := ⟨rfl, by decide, rfl, iC12, kC12, nC12, w_9_86⟩
theorem w_9_81 : (Cond.fieldLink "FlashVaultModel" (125 : Nat) "FlashVaultModel" "cutWaits" "Z") ∈ gW := gW_9 81 rfl rfl
theorem F_MD_125 : tF "FlashVaultModel" 125 12 3 RC12 FC12 40 tC12 := ⟨rfl, by decide, rfl, iC12, kC12, nC12, w_9_81⟩
theorem w_9_82 : (Cond.fieldLink "FlashVaultModel" (131 : Nat) "FlashVaultModel" "cutLate" "Z") ∈ gW := gW_9 82 rfl rfl
theorem F_MD_131 : tF "FlashVaultModel" 131 12 4 RC12 FC12 40 tC12 := ⟨rfl, by decide, rfl, iC12, kC12, nC12, w_9_82⟩
theorem w_9_87 : (Cond.fieldLink "FlashVaultModel" (141 : Nat) "FlashVaultModel" "present" "I") ∈ gW := gW_9 87 rfl rfl
theorem F_MD_141 : tF "FlashVaultModel" 141 12 9 RC12 FC12 40 tC12 := ⟨rfl, by decide, rfl, iC12, kC12, nC12, w_9_87⟩
theorem w_9_88 : (Cond.fieldLink "FlashVaultModel" (151 : Nat) "FlashVaultModel" "versions" "I") ∈ gW := gW_9 88 rfl rfl
theorem F_MD_151 : tF "FlashVaultModel" 151 12 10 RC12 FC12 40 tC12 := ⟨rfl, by decide, rfl, iC12, kC12, nC12, w_9_88⟩
theorem w_9_110 : (Cond.fieldLink "FlashVaultModel" (161 : Nat) "FlashVaultModel" "pieces" "I") ∈ gW := gW_9 110 rfl rfl
theorem F_MD_161 : tF "FlashVaultModel" 161 12 32 RC12 FC12 40 tC12 := ⟨rfl, by decide, rfl, iC12, kC12, nC12, w_9_110⟩
theorem w_9_96 : (Cond.fieldLink "FlashVaultModel" (171 : Nat) "FlashVaultModel" "used" "I") ∈ gW := gW_9 96 rfl rfl
theorem F_MD_171 : tF "FlashVaultModel" 171 12 18 RC12 FC12 40 tC12 := ⟨rfl, by decide, rfl, iC12, kC12, nC12, w_9_96⟩
theorem w_9_117 : (Cond.fieldLink "FlashVaultModel" (221 : Nat) "FlashVaultModel" "heldUsed" "I") ∈ gW := gW_9 117 rfl rfl
theorem F_MD_221 : tF "FlashVaultModel" 221 12 39 RC12 FC12 40 tC12 := ⟨rfl, by decide, rfl, iC12, kC12, nC12, w_9_117⟩
theorem w_4_194 : (Cond.constant "FlashVault" (277 : Nat) (2147483647 : Int32)) ∈ gW := gW_4 194 rfl rfl
theorem w_7_32 : (Cond.constant "FlashVault$Cursor" (56 : Nat) (65535 : Int32)) ∈ gW := gW_7 32 rfl rfl
theorem w_6_203 : (Cond.constant "FlashVault$Tables" (73 : Nat) (65535 : Int32)) ∈ gW := gW_6 203 rfl rfl
theorem w_7_56 : (Cond.constant "FlashVault$Tables" (233 : Nat) (2147483647 : Int32)) ∈ gW := gW_7 56 rfl rfl
theorem w_5_26 : (Cond.constant "FlashVault$Versions" (68 : Nat) (2147483647 : Int32)) ∈ gW := gW_5 26 rfl rfl
theorem w_9_76 : (Cond.constant "FlashVaultModel" (32 : Nat) (48000 : Int32)) ∈ gW := gW_9 76 rfl rfl
theorem w_9_77 : (Cond.constant "FlashVaultModel" (91 : Nat) (40000 : Int32)) ∈ gW := gW_9 77 rfl rfl
theorem w_9_227 : (Cond.constantLong "FlashVaultModel" (123 : Nat) (256 : Int64)) ∈ gW := gW_9 227 rfl rfl
theorem w_1_42 : (Cond.classLink "FlashVault" (9 : Nat) "FlashVault$Row") ∈ gW := gW_1 42 rfl rfl
theorem w_1_43 : (Cond.instantiable "FlashVault$Row" (2 : Nat)) ∈ gW := gW_1 43 rfl rfl
theorem w_1_2 : (Cond.initialized "FlashVault$Row") ∈ gW := gW_1 2 rfl rfl
theorem w_1_63 : (Cond.classLink "FlashVault" (24 : Nat) "FlashVault$Sight") ∈ gW := gW_1 63 rfl rfl
theorem w_1_64 : (Cond.instantiable "FlashVault$Sight" (3 : Nat)) ∈ gW := gW_1 64 rfl rfl
theorem w_1_4 : (Cond.initialized "FlashVault$Sight") ∈ gW := gW_1 4 rfl rfl
theorem w_1_127 : (Cond.classLink "FlashVault" (31 : Nat) "FlashVault$Batch") ∈ gW := gW_1 127 rfl rfl
theorem w_1_71 : (Cond.instantiable "FlashVault$Batch" (7 : Nat)) ∈ gW := gW_1 71 rfl rfl
theorem w_1_5 : (Cond.initialized "FlashVault$Batch") ∈ gW := gW_1 5 rfl rfl
theorem w_1_129 : (Cond.classLink "FlashVault" (38 : Nat) "FlashVault$Tree") ∈ gW := gW_1 129 rfl rfl
theorem w_1_130 : (Cond.instantiable "FlashVault$Tree" (6 : Nat)) ∈ gW := gW_1 130 rfl rfl
theorem w_1_6 : (Cond.initialized "FlashVault$Tree") ∈ gW := gW_1 6 rfl rfl
theorem w_1_156 : (Cond.classLink "FlashVault" (68 : Nat) "FlashVault$Chip") ∈ gW := gW_1 156 rfl rfl
theorem w_1_157 : (Cond.instantiable "FlashVault$Chip" (5 : Nat)) ∈ gW := gW_1 157 rfl rfl
theorem w_1_7 : (Cond.initialized "FlashVault$Chip") ∈ gW := gW_1 7 rfl rfl
theorem w_1_185 : (Cond.classLink "FlashVault" (75 : Nat) "FlashVault$Versions") ∈ gW := gW_1 185 rfl rfl
theorem w_1_186 : (Cond.instantiable "FlashVault$Versions" (12 : Nat)) ∈ gW := gW_1 186 rfl rfl
theorem w_1_9 : (Cond.initialized "FlashVault$Versions") ∈ gW := gW_1 9 rfl rfl
theorem w_2_17 : (Cond.classLink "FlashVault" (84 : Nat) "FlashVault$Layout") ∈ gW := gW_2 17 rfl rfl
theorem w_2_18 : (Cond.instantiable "FlashVault$Layout" (18 : Nat)) ∈ gW := gW_2 18 rfl rfl
theorem w_1_10 : (Cond.initialized "FlashVault$Layout") ∈ gW := gW_1 10 rfl rfl
theorem w_2_130 : (Cond.classLink "FlashVault" (93 : Nat) "FlashVault$Tables") ∈ gW := gW_2 130 rfl rfl
theorem w_2_131 : (Cond.instantiable "FlashVault$Tables" (10 : Nat)) ∈ gW := gW_2 131 rfl rfl
theorem w_1_12 : (Cond.initialized "FlashVault$Tables") ∈ gW := gW_1 12 rfl rfl
theorem w_2_212 : (Cond.classLink "FlashVault" (102 : Nat) "FlashVault$Log") ∈ gW := gW_2 212 rfl rfl
theorem w_2_213 : (Cond.instantiable "FlashVault$Log" (10 : Nat)) ∈ gW := gW_2 213 rfl rfl
theorem w_1_14 : (Cond.initialized "FlashVault$Log") ∈ gW := gW_1 14 rfl rfl
theorem w_2_23 : (Cond.classLink "FlashVault$Layout" (9 : Nat) "FlashVault$Run") ∈ gW := gW_2 23 rfl rfl
theorem w_2_26 : (Cond.instantiable "FlashVault$Run" (5 : Nat)) ∈ gW := gW_2 26 rfl rfl
theorem w_1_11 : (Cond.initialized "FlashVault$Run") ∈ gW := gW_1 11 rfl rfl
theorem w_1_69 : (Cond.classLink "FlashVault$Sight" (19 : Nat) "FlashVault$Batch") ∈ gW := gW_1 69 rfl rfl
theorem w_2_136 : (Cond.classLink "FlashVault$Tables" (9 : Nat) "FlashVault$Cursor") ∈ gW := gW_2 136 rfl rfl
theorem w_2_140 : (Cond.instantiable "FlashVault$Cursor" (9 : Nat)) ∈ gW := gW_2 140 rfl rfl
theorem w_1_13 : (Cond.initialized "FlashVault$Cursor") ∈ gW := gW_1 13 rfl rfl
theorem w_2_138 : (Cond.classLink "FlashVault$Tables" (17 : Nat) "FlashVault$Row") ∈ gW := gW_2 138 rfl rfl
theorem w_1_34 : (Cond.classLink "FlashVaultLaw" (8 : Nat) "FlashVault") ∈ gW := gW_1 34 rfl rfl
theorem w_1_35 : (Cond.instantiable "FlashVault" (18 : Nat)) ∈ gW := gW_1 35 rfl rfl
theorem w_1_1 : (Cond.initialized "FlashVault") ∈ gW := gW_1 1 rfl rfl
theorem w_9_70 : (Cond.classLink "FlashVaultLaw" (121 : Nat) "FlashVaultModel") ∈ gW := gW_9 70 rfl rfl
theorem w_9_71 : (Cond.instantiable "FlashVaultModel" (40 : Nat)) ∈ gW := gW_9 71 rfl rfl
theorem w_1_15 : (Cond.initialized "FlashVaultModel") ∈ gW := gW_1 15 rfl rfl
theorem w_1_39 : (Cond.methodLink "FlashVault" (3 : Nat) ({ cls := "java/lang/Object", name := "<init>", desc := "()V" } : MethodName)) ∈ gW := gW_1 39 rfl rfl
theorem w_1_44 : (Cond.methodLink "FlashVault" (11 : Nat) ({ cls := "FlashVault$Row", name := "<init>", desc := "(I)V" } : MethodName)) ∈ gW := gW_1 44 rfl rfl
theorem w_1_65 : (Cond.methodLink "FlashVault" (26 : Nat) ({ cls := "FlashVault$Sight", name := "<init>", desc := "()V" } : MethodName)) ∈ gW := gW_1 65 rfl rfl
theorem w_1_128 : (Cond.methodLink "FlashVault" (33 : Nat) ({ cls := "FlashVault$Batch", name := "<init>", desc := "()V" } : MethodName)) ∈ gW := gW_1 128 rfl rfl
theorem w_1_131 : (Cond.methodLink "FlashVault" (40 : Nat) ({ cls := "FlashVault$Tree", name := "<init>", desc := "()V" } : MethodName)) ∈ gW := gW_1 131 rfl rfl
theorem w_1_158 : (Cond.methodLink "FlashVault" (70 : Nat) ({ cls := "FlashVault$Chip", name := "<init>", desc := "(I)V" } : MethodName)) ∈ gW := gW_1 158 rfl rfl
theorem w_1_187 : (Cond.methodLink "FlashVault" (77 : Nat) ({ cls := "FlashVault$Versions", name := "<init>", desc := "(ILFlashVault$Sight;)V" } : MethodName)) ∈ gW := gW_1 187 rfl rfl
theorem w_2_19 : (Cond.methodLink "FlashVault" (86 : Nat) ({ cls := "FlashVault$Layout", name := "<init>", desc := "(LFlashVault$Chip;I)V" } : MethodName)) ∈ gW := gW_2 19 rfl rfl
theorem w_2_132 : (Cond.methodLink "FlashVault" (95 : Nat) ({ cls := "FlashVault$Tables", name := "<init>", desc := "(LFlashVault$Chip;LFlashVault$Layout;LFlashVault$Versions;)V" } : MethodName)) ∈ gW := gW_2 132 rfl rfl
theorem w_2_214 : (Cond.methodLink "FlashVault" (104 : Nat) ({ cls := "FlashVault$Log", name := "<init>", desc := "(LFlashVault$Chip;LFlashVault$Layout;LFlashVault$Versions;LFlashVault$Tables;)V" } : MethodName)) ∈ gW := gW_2 214 rfl rfl
theorem w_3_78 : (Cond.methodLink "FlashVault" (111 : Nat) ({ cls := "FlashVault", name := "requireUp", desc := "()V" } : MethodName)) ∈ gW := gW_3 78 rfl rfl
theorem w_3_152 : (Cond.methodLink "FlashVault" (114 : Nat) ({ cls := "FlashVault", name := "requireTapeRoom", desc := "(I)V" } : MethodName)) ∈ gW := gW_3 152 rfl rfl
theorem w_3_172 : (Cond.methodLink "FlashVault" (117 : Nat) ({ cls := "FlashVault$Row", name := "addInt", desc := "(I)V" } : MethodName)) ∈ gW := gW_3 172 rfl rfl
theorem w_3_188 : (Cond.methodLink "FlashVault" (123 : Nat) ({ cls := "FlashVault", name := "requireRange", desc := "(III)V" } : MethodName)) ∈ gW := gW_3 188 rfl rfl
theorem w_3_208 : (Cond.methodLink "FlashVault" (127 : Nat) ({ cls := "FlashVault$Row", name := "add", desc := "(I)V" } : MethodName)) ∈ gW := gW_3 208 rfl rfl
theorem w_3_223 : (Cond.methodLink "FlashVault" (130 : Nat) ({ cls := "FlashVault$Sight", name := "leastClosed", desc := "()I" } : MethodName)) ∈ gW := gW_3 223 rfl rfl
theorem w_3_228 : (Cond.methodLink "FlashVault" (141 : Nat) ({ cls := "FlashVault$Sight", name := "start", desc := "(II)V" } : MethodName)) ∈ gW := gW_3 228 rfl rfl
theorem w_4_5 : (Cond.methodLink "FlashVault" (145 : Nat) ({ cls := "FlashVault", name := "requireTransaction", desc := "(I)V" } : MethodName)) ∈ gW := gW_4 5 rfl rfl
theorem w_4_9 : (Cond.methodLink "FlashVault" (148 : Nat) ({ cls := "java/lang/Math", name := "min", desc := "(II)I" } : MethodName)) ∈ gW := gW_4 9 rfl rfl
theorem w_4_12 : (Cond.methodLink "FlashVault" (154 : Nat) ({ cls := "FlashVault", name := "takeTape", desc := "()I" } : MethodName)) ∈ gW := gW_4 12 rfl rfl
theorem w_4_16 : (Cond.methodLink "FlashVault" (157 : Nat) ({ cls := "FlashVault", name := "requireOpen", desc := "(I)V" } : MethodName)) ∈ gW := gW_4 16 rfl rfl
theorem w_4_40 : (Cond.methodLink "FlashVault" (160 : Nat) ({ cls := "FlashVault$Sight", name := "writesOf", desc := "(I)LFlashVault$Batch;" } : MethodName)) ∈ gW := gW_4 40 rfl rfl
theorem w_4_44 : (Cond.methodLink "FlashVault" (164 : Nat) ({ cls := "FlashVault", name := "intend", desc := "(LFlashVault$Batch;II)I" } : MethodName)) ∈ gW := gW_4 44 rfl rfl
theorem w_4_48 : (Cond.methodLink "FlashVault" (168 : Nat) ({ cls := "FlashVault", name := "probeUser", desc := "(I)V" } : MethodName)) ∈ gW := gW_4 48 rfl rfl
theorem w_4_58 : (Cond.methodLink "FlashVault" (175 : Nat) ({ cls := "FlashVault$Batch", name := "indexOf", desc := "([BI)I" } : MethodName)) ∈ gW := gW_4 58 rfl rfl
theorem w_4_123 : (Cond.methodLink "FlashVault" (179 : Nat) ({ cls := "FlashVault", name := "answerWritten", desc := "(LFlashVault$Batch;I)I" } : MethodName)) ∈ gW := gW_4 123 rfl rfl
theorem w_4_131 : (Cond.methodLink "FlashVault" (183 : Nat) ({ cls := "FlashVault$Sight", name := "momentOf", desc := "(I)I" } : MethodName)) ∈ gW := gW_4 131 rfl rfl
theorem w_4_136 : (Cond.methodLink "FlashVault" (187 : Nat) ({ cls := "FlashVault$Versions", name := "seenAt", desc := "([BII)I" } : MethodName)) ∈ gW := gW_4 136 rfl rfl
theorem w_4_149 : (Cond.methodLink "FlashVault" (191 : Nat) ({ cls := "FlashVault", name := "answerStored", desc := "(I)I" } : MethodName)) ∈ gW := gW_4 149 rfl rfl
theorem w_4_190 : (Cond.methodLink "FlashVault" (194 : Nat) ({ cls := "FlashVault", name := "firstStored", desc := "(LFlashVault$Batch;IZ)I" } : MethodName)) ∈ gW := gW_4 190 rfl rfl
theorem w_4_213 : (Cond.methodLink "FlashVault" (198 : Nat) ({ cls := "FlashVault$Batch", name := "firstValue", desc := "([BIZ)I" } : MethodName)) ∈ gW := gW_4 213 rfl rfl
theorem w_4_217 : (Cond.methodLink "FlashVault" (209 : Nat) ({ cls := "FlashVault$Batch", name := "compareWith", desc := "(I[BII)I" } : MethodName)) ∈ gW := gW_4 217 rfl rfl
theorem w_4_127 : (Cond.methodLink "FlashVault" (220 : Nat) ({ cls := "FlashVault", name := "answer", desc := "([BII)I" } : MethodName)) ∈ gW := gW_4 127 rfl rfl
theorem w_4_225 : (Cond.methodLink "FlashVault" (226 : Nat) ({ cls := "FlashVault", name := "closeTransaction", desc := "(I)V" } : MethodName)) ∈ gW := gW_4 225 rfl rfl
theorem w_5_18 : (Cond.methodLink "FlashVault" (229 : Nat) ({ cls := "FlashVault", name := "collides", desc := "(LFlashVault$Batch;I)Z" } : MethodName)) ∈ gW := gW_5 18 rfl rfl
theorem w_5_28 : (Cond.methodLink "FlashVault" (238 : Nat) ({ cls := "FlashVault", name := "requireRoom", desc := "(LFlashVault$Batch;I)V" } : MethodName)) ∈ gW := gW_5 28 rfl rfl
theorem w_5_53 : (Cond.methodLink "FlashVault" (242 : Nat) ({ cls := "FlashVault", name := "armCut", desc := "(I)V" } : MethodName)) ∈ gW := gW_5 53 rfl rfl
theorem w_5_61 : (Cond.methodLink "FlashVault" (245 : Nat) ({ cls := "FlashVault", name := "roomMade", desc := "()Z" } : MethodName)) ∈ gW := gW_5 61 rfl rfl
theorem w_7_65 : (Cond.methodLink "FlashVault" (249 : Nat) ({ cls := "FlashVault", name := "stored", desc := "(LFlashVault$Batch;)Z" } : MethodName)) ∈ gW := gW_7 65 rfl rfl
theorem w_7_80 : (Cond.methodLink "FlashVault" (253 : Nat) ({ cls := "FlashVault", name := "settle", desc := "(Z)V" } : MethodName)) ∈ gW := gW_7 80 rfl rfl
theorem w_4_229 : (Cond.methodLink "FlashVault" (257 : Nat) ({ cls := "FlashVault$Sight", name := "close", desc := "(I)V" } : MethodName)) ∈ gW := gW_4 229 rfl rfl
theorem w_7_112 : (Cond.methodLink "FlashVault" (260 : Nat) ({ cls := "FlashVault", name := "include", desc := "(LFlashVault$Batch;)V" } : MethodName)) ∈ gW := gW_7 112 rfl rfl
theorem w_7_140 : (Cond.methodLink "FlashVault" (264 : Nat) ({ cls := "FlashVault", name := "flushed", desc := "()Z" } : MethodName)) ∈ gW := gW_7 140 rfl rfl
theorem w_7_144 : (Cond.methodLink "FlashVault" (267 : Nat) ({ cls := "FlashVault$Versions", name := "needed", desc := "(I)I" } : MethodName)) ∈ gW := gW_7 144 rfl rfl
theorem w_7_152 : (Cond.methodLink "FlashVault" (270 : Nat) ({ cls := "FlashVault", name := "merged", desc := "(Z)Z" } : MethodName)) ∈ gW := gW_7 152 rfl rfl
theorem w_7_169 : (Cond.methodLink "FlashVault" (274 : Nat) ({ cls := "FlashVault", name := "cleared", desc := "()Z" } : MethodName)) ∈ gW := gW_7 169 rfl rfl
theorem w_7_88 : (Cond.methodLink "FlashVault" (278 : Nat) ({ cls := "FlashVault", name := "goDown", desc := "()V" } : MethodName)) ∈ gW := gW_7 88 rfl rfl
theorem w_7_209 : (Cond.methodLink "FlashVault" (281 : Nat) ({ cls := "FlashVault", name := "mended", desc := "()Z" } : MethodName)) ∈ gW := gW_7 209 rfl rfl
theorem w_8_44 : (Cond.methodLink "FlashVault" (286 : Nat) ({ cls := "FlashVault$Row", name := "at", desc := "(I)I" } : MethodName)) ∈ gW := gW_8 44 rfl rfl
theorem w_8_55 : (Cond.methodLink "FlashVault" (289 : Nat) ({ cls := "FlashVault$Sight", name := "openCount", desc := "()I" } : MethodName)) ∈ gW := gW_8 55 rfl rfl
theorem w_5_48 : (Cond.methodLink "FlashVault" (292 : Nat) ({ cls := "FlashVault", name := "limit", desc := "()I" } : MethodName)) ∈ gW := gW_5 48 rfl rfl
theorem w_8_59 : (Cond.methodLink "FlashVault" (295 : Nat) ({ cls := "FlashVault$Versions", name := "userKeys", desc := "()I" } : MethodName)) ∈ gW := gW_8 59 rfl rfl
theorem w_8_77 : (Cond.methodLink "FlashVault" (319 : Nat) ({ cls := "FlashVault$Layout", name := "isSound", desc := "()Z" } : MethodName)) ∈ gW := gW_8 77 rfl rfl
theorem w_8_81 : (Cond.methodLink "FlashVault" (322 : Nat) ({ cls := "FlashVault$Tables", name := "isSound", desc := "()Z" } : MethodName)) ∈ gW := gW_8 81 rfl rfl
theorem w_8_89 : (Cond.methodLink "FlashVault" (323 : Nat) ({ cls := "FlashVault$Log", name := "isSound", desc := "()Z" } : MethodName)) ∈ gW := gW_8 89 rfl rfl
theorem w_8_98 : (Cond.methodLink "FlashVault" (324 : Nat) ({ cls := "FlashVault$Tree", name := "isSound", desc := "(LFlashVault$Versions;)Z" } : MethodName)) ∈ gW := gW_8 98 rfl rfl
theorem w_8_129 : (Cond.methodLink "FlashVault" (327 : Nat) ({ cls := "FlashVault", name := "requireNumber", desc := "(I)V" } : MethodName)) ∈ gW := gW_8 129 rfl rfl
theorem w_8_133 : (Cond.methodLink "FlashVault" (330 : Nat) ({ cls := "FlashVault", name := "requireName", desc := "(II)V" } : MethodName)) ∈ gW := gW_8 133 rfl rfl
theorem w_8_138 : (Cond.methodLink "FlashVault" (333 : Nat) ({ cls := "FlashVault", name := "requireDirectory", desc := "(I)V" } : MethodName)) ∈ gW := gW_8 138 rfl rfl
theorem w_8_144 : (Cond.methodLink "FlashVault" (336 : Nat) ({ cls := "FlashVault$Tree", name := "childNamed", desc := "(I[BII)I" } : MethodName)) ∈ gW := gW_8 144 rfl rfl
theorem w_8_154 : (Cond.methodLink "FlashVault" (341 : Nat) ({ cls := "FlashVault$Tree", name := "leastUnused", desc := "()I" } : MethodName)) ∈ gW := gW_8 154 rfl rfl
theorem w_8_159 : (Cond.methodLink "FlashVault" (346 : Nat) ({ cls := "FlashVault$Batch", name := "clear", desc := "()V" } : MethodName)) ∈ gW := gW_8 159 rfl rfl
theorem w_8_160 : (Cond.methodLink "FlashVault" (349 : Nat) ({ cls := "FlashVault", name := "changeNode", desc := "(IIII[BII)V" } : MethodName)) ∈ gW := gW_8 160 rfl rfl
theorem w_8_169 : (Cond.methodLink "FlashVault" (353 : Nat) ({ cls := "FlashVault$Tree", name := "set", desc := "(IIII[BII)V" } : MethodName)) ∈ gW := gW_8 169 rfl rfl
theorem w_8_177 : (Cond.methodLink "FlashVault" (356 : Nat) ({ cls := "FlashVault", name := "requireThere", desc := "(I)V" } : MethodName)) ∈ gW := gW_8 177 rfl rfl
theorem w_8_182 : (Cond.methodLink "FlashVault" (359 : Nat) ({ cls := "FlashVault$Tree", name := "childCount", desc := "(I)I" } : MethodName)) ∈ gW := gW_8 182 rfl rfl
theorem w_8_187 : (Cond.methodLink "FlashVault" (364 : Nat) ({ cls := "FlashVault", name := "changeToGone", desc := "(I)V" } : MethodName)) ∈ gW := gW_8 187 rfl rfl
theorem w_8_199 : (Cond.methodLink "FlashVault" (367 : Nat) ({ cls := "FlashVault$Tree", name := "unset", desc := "(I)V" } : MethodName)) ∈ gW := gW_8 199 rfl rfl
theorem w_8_142 : (Cond.methodLink "FlashVault" (370 : Nat) ({ cls := "FlashVault$Tree", name := "isDirectory", desc := "(I)Z" } : MethodName)) ∈ gW := gW_8 142 rfl rfl
theorem w_8_210 : (Cond.methodLink "FlashVault" (374 : Nat) ({ cls := "FlashVault$Tree", name := "isWithin", desc := "(II)Z" } : MethodName)) ∈ gW := gW_8 210 rfl rfl
theorem w_8_212 : (Cond.methodLink "FlashVault" (380 : Nat) ({ cls := "FlashVault$Tree", name := "kindOf", desc := "(I)I" } : MethodName)) ∈ gW := gW_8 212 rfl rfl
theorem w_8_213 : (Cond.methodLink "FlashVault" (383 : Nat) ({ cls := "FlashVault$Tree", name := "sizeOf", desc := "(I)I" } : MethodName)) ∈ gW := gW_8 213 rfl rfl
theorem w_8_231 : (Cond.methodLink "FlashVault" (386 : Nat) ({ cls := "FlashVault", name := "requireFile", desc := "(I)V" } : MethodName)) ∈ gW := gW_8 231 rfl rfl
theorem w_4_83 : (Cond.methodLink "FlashVault" (389 : Nat) ({ cls := "java/lang/Math", name := "max", desc := "(II)I" } : MethodName)) ∈ gW := gW_4 83 rfl rfl
theorem w_9_0 : (Cond.methodLink "FlashVault" (392 : Nat) ({ cls := "FlashVault", name := "changePiece", desc := "(IIII)V" } : MethodName)) ∈ gW := gW_9 0 rfl rfl
theorem w_9_8 : (Cond.methodLink "FlashVault" (396 : Nat) ({ cls := "FlashVault", name := "changeSize", desc := "(II)V" } : MethodName)) ∈ gW := gW_9 8 rfl rfl
theorem w_9_17 : (Cond.methodLink "FlashVault" (399 : Nat) ({ cls := "FlashVault$Tree", name := "setSize", desc := "(II)V" } : MethodName)) ∈ gW := gW_9 17 rfl rfl
theorem w_9_4 : (Cond.methodLink "FlashVault" (402 : Nat) ({ cls := "FlashVault$Row", name := "blank", desc := "([BII)V" } : MethodName)) ∈ gW := gW_9 4 rfl rfl
theorem w_9_28 : (Cond.methodLink "FlashVault" (406 : Nat) ({ cls := "FlashVault", name := "readPiece", desc := "(IIII)V" } : MethodName)) ∈ gW := gW_9 28 rfl rfl
theorem w_9_39 : (Cond.methodLink "FlashVault" (409 : Nat) ({ cls := "FlashVault", name := "shortenPiece", desc := "(III)V" } : MethodName)) ∈ gW := gW_9 39 rfl rfl
theorem w_9_50 : (Cond.methodLink "FlashVault" (412 : Nat) ({ cls := "FlashVault$Tree", name := "childRanked", desc := "(II)I" } : MethodName)) ∈ gW := gW_9 50 rfl rfl
theorem w_9_13 : (Cond.methodLink "FlashVault" (418 : Nat) ({ cls := "FlashVault$Tree", name := "nameLengthOf", desc := "(I)I" } : MethodName)) ∈ gW := gW_9 13 rfl rfl
theorem w_8_235 : (Cond.methodLink "FlashVault" (426 : Nat) ({ cls := "FlashVault$Tree", name := "isFile", desc := "(I)Z" } : MethodName)) ∈ gW := gW_8 235 rfl rfl
theorem w_9_12 : (Cond.methodLink "FlashVault" (429 : Nat) ({ cls := "FlashVault$Tree", name := "parentOf", desc := "(I)I" } : MethodName)) ∈ gW := gW_9 12 rfl rfl
theorem w_9_66 : (Cond.methodLink "FlashVault" (432 : Nat) ({ cls := "FlashVault", name := "keptPieces", desc := "(I)I" } : MethodName)) ∈ gW := gW_9 66 rfl rfl
theorem w_4_20 : (Cond.methodLink "FlashVault" (449 : Nat) ({ cls := "FlashVault$Sight", name := "isOpen", desc := "(I)Z" } : MethodName)) ∈ gW := gW_4 20 rfl rfl
theorem w_5_32 : (Cond.methodLink "FlashVault" (460 : Nat) ({ cls := "FlashVault$Versions", name := "neededWith", desc := "(LFlashVault$Batch;II)I" } : MethodName)) ∈ gW := gW_5 32 rfl rfl
theorem w_4_52 : (Cond.methodLink "FlashVault" (465 : Nat) ({ cls := "FlashVault$Row", name := "copy", desc := "([BI[BII)V" } : MethodName)) ∈ gW := gW_4 52 rfl rfl
theorem w_4_153 : (Cond.methodLink "FlashVault" (472 : Nat) ({ cls := "FlashVault$Log", name := "watch", desc := "(I)V" } : MethodName)) ∈ gW := gW_4 153 rfl rfl
theorem w_4_174 : (Cond.methodLink "FlashVault" (476 : Nat) ({ cls := "FlashVault$Versions", name := "valueAddress", desc := "(I)I" } : MethodName)) ∈ gW := gW_4 174 rfl rfl
theorem w_4_178 : (Cond.methodLink "FlashVault" (479 : Nat) ({ cls := "FlashVault$Chip", name := "copyOut", desc := "(I[BII)V" } : MethodName)) ∈ gW := gW_4 178 rfl rfl
theorem w_4_74 : (Cond.methodLink "FlashVault" (483 : Nat) ({ cls := "FlashVault$Batch", name := "userBytes", desc := "()I" } : MethodName)) ∈ gW := gW_4 74 rfl rfl
theorem w_4_78 : (Cond.methodLink "FlashVault" (486 : Nat) ({ cls := "FlashVault$Batch", name := "userBytesOf", desc := "(I)I" } : MethodName)) ∈ gW := gW_4 78 rfl rfl
theorem w_4_100 : (Cond.methodLink "FlashVault" (491 : Nat) ({ cls := "FlashVault$Batch", name := "drop", desc := "(I)V" } : MethodName)) ∈ gW := gW_4 100 rfl rfl
theorem w_4_105 : (Cond.methodLink "FlashVault" (494 : Nat) ({ cls := "FlashVault$Batch", name := "add", desc := "([BII)I" } : MethodName)) ∈ gW := gW_4 105 rfl rfl
theorem w_5_22 : (Cond.methodLink "FlashVault" (496 : Nat) ({ cls := "FlashVault$Versions", name := "newestOf", desc := "([BII)I" } : MethodName)) ∈ gW := gW_5 22 rfl rfl
theorem w_4_233 : (Cond.methodLink "FlashVault" (502 : Nat) ({ cls := "FlashVault$Versions", name := "purge", desc := "()V" } : MethodName)) ∈ gW := gW_4 233 rfl rfl
theorem w_4_195 : (Cond.methodLink "FlashVault" (505 : Nat) ({ cls := "FlashVault$Versions", name := "from", desc := "([BIII)I" } : MethodName)) ∈ gW := gW_4 195 rfl rfl
theorem w_4_196 : (Cond.methodLink "FlashVault" (513 : Nat) ({ cls := "FlashVault$Versions", name := "isUser", desc := "(I)Z" } : MethodName)) ∈ gW := gW_4 196 rfl rfl
theorem w_4_200 : (Cond.methodLink "FlashVault" (516 : Nat) ({ cls := "FlashVault$Versions", name := "isSeen", desc := "(II)Z" } : MethodName)) ∈ gW := gW_4 200 rfl rfl
theorem w_4_212 : (Cond.methodLink "FlashVault" (519 : Nat) ({ cls := "FlashVault$Batch", name := "indexOfKey", desc := "([BII)I" } : MethodName)) ∈ gW := gW_4 212 rfl rfl
theorem w_8_195 : (Cond.methodLink "FlashVault" (522 : Nat) ({ cls := "FlashVault", name := "probePiece", desc := "(II)V" } : MethodName)) ∈ gW := gW_8 195 rfl rfl
theorem w_8_191 : (Cond.methodLink "FlashVault" (525 : Nat) ({ cls := "FlashVault", name := "pieceSlot", desc := "(II)I" } : MethodName)) ∈ gW := gW_8 191 rfl rfl
theorem w_8_164 : (Cond.methodLink "FlashVault" (528 : Nat) ({ cls := "FlashVault", name := "probeNode", desc := "(I)V" } : MethodName)) ∈ gW := gW_8 164 rfl rfl
theorem w_8_168 : (Cond.methodLink "FlashVault" (531 : Nat) ({ cls := "FlashVault$Row", name := "number", desc := "([BIII)V" } : MethodName)) ∈ gW := gW_8 168 rfl rfl
theorem w_5_57 : (Cond.methodLink "FlashVault" (535 : Nat) ({ cls := "FlashVault$Chip", name := "arm", desc := "(II)V" } : MethodName)) ∈ gW := gW_5 57 rfl rfl
theorem w_5_65 : (Cond.methodLink "FlashVault" (538 : Nat) ({ cls := "FlashVault", name := "lacksReserve", desc := "()Z" } : MethodName)) ∈ gW := gW_5 65 rfl rfl
theorem w_5_81 : (Cond.methodLink "FlashVault" (541 : Nat) ({ cls := "FlashVault$Log", name := "renew", desc := "(I)V" } : MethodName)) ∈ gW := gW_5 81 rfl rfl
theorem w_7_1 : (Cond.methodLink "FlashVault" (547 : Nat) ({ cls := "FlashVault$Tables", name := "spill", desc := "(ZI)V" } : MethodName)) ∈ gW := gW_7 1 rfl rfl
theorem w_7_2 : (Cond.methodLink "FlashVault" (551 : Nat) ({ cls := "FlashVault", name := "keepTables", desc := "()V" } : MethodName)) ∈ gW := gW_7 2 rfl rfl
theorem w_7_69 : (Cond.methodLink "FlashVault" (554 : Nat) ({ cls := "FlashVault$Log", name := "store", desc := "(LFlashVault$Batch;I)V" } : MethodName)) ∈ gW := gW_7 69 rfl rfl
theorem w_7_10 : (Cond.methodLink "FlashVault" (560 : Nat) ({ cls := "FlashVault$Tables", name := "merge", desc := "(IIII)V" } : MethodName)) ∈ gW := gW_7 10 rfl rfl
theorem w_7_156 : (Cond.methodLink "FlashVault" (563 : Nat) ({ cls := "FlashVault$Tables", name := "mergeStep", desc := "(I)V" } : MethodName)) ∈ gW := gW_7 156 rfl rfl
theorem w_7_173 : (Cond.methodLink "FlashVault" (566 : Nat) ({ cls := "FlashVault$Log", name := "clearOne", desc := "(I)V" } : MethodName)) ∈ gW := gW_7 173 rfl rfl
theorem w_7_213 : (Cond.methodLink "FlashVault" (569 : Nat) ({ cls := "FlashVault$Layout", name := "load", desc := "()I" } : MethodName)) ∈ gW := gW_7 213 rfl rfl
theorem w_7_229 : (Cond.methodLink "FlashVault" (572 : Nat) ({ cls := "FlashVault$Tables", name := "loadAll", desc := "()V" } : MethodName)) ∈ gW := gW_7 229 rfl rfl
theorem w_7_237 : (Cond.methodLink "FlashVault" (575 : Nat) ({ cls := "FlashVault$Log", name := "replay", desc := "(I)I" } : MethodName)) ∈ gW := gW_7 237 rfl rfl
theorem w_8_14 : (Cond.methodLink "FlashVault" (578 : Nat) ({ cls := "FlashVault$Log", name := "watchAll", desc := "()V" } : MethodName)) ∈ gW := gW_8 14 rfl rfl
theorem w_8_18 : (Cond.methodLink "FlashVault" (581 : Nat) ({ cls := "FlashVault$Log", name := "sweep", desc := "()V" } : MethodName)) ∈ gW := gW_8 18 rfl rfl
theorem w_8_22 : (Cond.methodLink "FlashVault" (584 : Nat) ({ cls := "FlashVault$Tree", name := "load", desc := "(LFlashVault$Versions;LFlashVault$Chip;)V" } : MethodName)) ∈ gW := gW_8 22 rfl rfl
theorem w_7_84 : (Cond.methodLink "FlashVault" (587 : Nat) ({ cls := "FlashVault$Chip", name := "disarm", desc := "()V" } : MethodName)) ∈ gW := gW_7 84 rfl rfl
theorem w_7_92 : (Cond.methodLink "FlashVault" (592 : Nat) ({ cls := "FlashVault$Sight", name := "closeAll", desc := "()V" } : MethodName)) ∈ gW := gW_7 92 rfl rfl
theorem w_7_96 : (Cond.methodLink "FlashVault" (595 : Nat) ({ cls := "FlashVault$Versions", name := "clear", desc := "()V" } : MethodName)) ∈ gW := gW_7 96 rfl rfl
theorem w_7_100 : (Cond.methodLink "FlashVault" (596 : Nat) ({ cls := "FlashVault$Tree", name := "clear", desc := "()V" } : MethodName)) ∈ gW := gW_7 100 rfl rfl
theorem w_7_107 : (Cond.methodLink "FlashVault" (597 : Nat) ({ cls := "FlashVault$Layout", name := "clear", desc := "()V" } : MethodName)) ∈ gW := gW_7 107 rfl rfl
theorem w_7_116 : (Cond.methodLink "FlashVault" (598 : Nat) ({ cls := "FlashVault$Versions", name := "include", desc := "(LFlashVault$Batch;I)V" } : MethodName)) ∈ gW := gW_7 116 rfl rfl
theorem w_5_69 : (Cond.methodLink "FlashVault" (600 : Nat) ({ cls := "FlashVault$Tables", name := "aloneBlocks", desc := "()I" } : MethodName)) ∈ gW := gW_5 69 rfl rfl
theorem w_5_73 : (Cond.methodLink "FlashVault" (603 : Nat) ({ cls := "FlashVault$Layout", name := "tableBlocks", desc := "()I" } : MethodName)) ∈ gW := gW_5 73 rfl rfl
theorem w_5_77 : (Cond.methodLink "FlashVault" (606 : Nat) ({ cls := "FlashVault$Layout", name := "freeBlocks", desc := "()I" } : MethodName)) ∈ gW := gW_5 77 rfl rfl
theorem w_7_6 : (Cond.methodLink "FlashVault" (609 : Nat) ({ cls := "FlashVault$Layout", name := "firstRun", desc := "(I)I" } : MethodName)) ∈ gW := gW_7 6 rfl rfl
theorem w_7_61 : (Cond.methodLink "FlashVault" (612 : Nat) ({ cls := "FlashVault$Layout", name := "tableEntries", desc := "()I" } : MethodName)) ∈ gW := gW_7 61 rfl rfl
theorem w_1_75 : (Cond.methodLink "FlashVault$Batch" (3 : Nat) ({ cls := "java/lang/Object", name := "<init>", desc := "()V" } : MethodName)) ∈ gW := gW_1 75 rfl rfl
theorem w_4_62 : (Cond.methodLink "FlashVault$Batch" (35 : Nat) ({ cls := "FlashVault$Batch", name := "indexOfKey", desc := "([BII)I" } : MethodName)) ∈ gW := gW_4 62 rfl rfl
theorem w_4_66 : (Cond.methodLink "FlashVault$Batch" (39 : Nat) ({ cls := "FlashVault$Batch", name := "compareWith", desc := "(I[BII)I" } : MethodName)) ∈ gW := gW_4 66 rfl rfl
theorem w_4_70 : (Cond.methodLink "FlashVault$Batch" (43 : Nat) ({ cls := "FlashVault$Row", name := "compare", desc := "([BII[BII)I" } : MethodName)) ∈ gW := gW_4 70 rfl rfl
theorem w_4_82 : (Cond.methodLink "FlashVault$Batch" (49 : Nat) ({ cls := "java/lang/Math", name := "max", desc := "(II)I" } : MethodName)) ∈ gW := gW_4 82 rfl rfl
theorem w_4_104 : (Cond.methodLink "FlashVault$Batch" (55 : Nat) ({ cls := "FlashVault$Row", name := "copy", desc := "([BI[BII)V" } : MethodName)) ∈ gW := gW_4 104 rfl rfl
theorem w_1_161 : (Cond.methodLink "FlashVault$Chip" (3 : Nat) ({ cls := "java/lang/Object", name := "<init>", desc := "()V" } : MethodName)) ∈ gW := gW_1 161 rfl rfl
theorem w_1_162 : (Cond.methodLink "FlashVault$Chip" (21 : Nat) ({ cls := "java/lang/Math", name := "max", desc := "(II)I" } : MethodName)) ∈ gW := gW_1 162 rfl rfl
theorem w_1_163 : (Cond.methodLink "FlashVault$Chip" (35 : Nat) ({ cls := "java/util/Arrays", name := "fill", desc := "([BB)V" } : MethodName)) ∈ gW := gW_1 163 rfl rfl
theorem w_5_124 : (Cond.methodLink "FlashVault$Chip" (41 : Nat) ({ cls := "java/lang/Math", name := "min", desc := "(II)I" } : MethodName)) ∈ gW := gW_5 124 rfl rfl
theorem w_5_120 : (Cond.methodLink "FlashVault$Chip" (44 : Nat) ({ cls := "FlashVault$Chip", name := "granted", desc := "(I)I" } : MethodName)) ∈ gW := gW_5 120 rfl rfl
theorem w_4_182 : (Cond.methodLink "FlashVault$Chip" (48 : Nat) ({ cls := "FlashVault$Row", name := "copy", desc := "([BI[BII)V" } : MethodName)) ∈ gW := gW_4 182 rfl rfl
theorem w_5_125 : (Cond.methodLink "FlashVault$Chip" (61 : Nat) ({ cls := "java/util/Arrays", name := "fill", desc := "([BIIB)V" } : MethodName)) ∈ gW := gW_5 125 rfl rfl
theorem w_2_144 : (Cond.methodLink "FlashVault$Cursor" (3 : Nat) ({ cls := "java/lang/Object", name := "<init>", desc := "()V" } : MethodName)) ∈ gW := gW_2 144 rfl rfl
theorem w_7_22 : (Cond.methodLink "FlashVault$Cursor" (46 : Nat) ({ cls := "FlashVault$Cursor", name := "next", desc := "(I)I" } : MethodName)) ∈ gW := gW_7 22 rfl rfl
theorem w_7_31 : (Cond.methodLink "FlashVault$Cursor" (50 : Nat) ({ cls := "java/lang/Math", name := "min", desc := "(II)I" } : MethodName)) ∈ gW := gW_7 31 rfl rfl
theorem w_7_26 : (Cond.methodLink "FlashVault$Cursor" (57 : Nat) ({ cls := "FlashVault$Run", name := "addressOf", desc := "(I)I" } : MethodName)) ∈ gW := gW_7 26 rfl rfl
theorem w_7_30 : (Cond.methodLink "FlashVault$Cursor" (60 : Nat) ({ cls := "FlashVault$Chip", name := "at", desc := "(I)I" } : MethodName)) ∈ gW := gW_7 30 rfl rfl
theorem w_2_22 : (Cond.methodLink "FlashVault$Layout" (3 : Nat) ({ cls := "java/lang/Object", name := "<init>", desc := "()V" } : MethodName)) ∈ gW := gW_2 22 rfl rfl
theorem w_2_25 : (Cond.methodLink "FlashVault$Layout" (59 : Nat) ({ cls := "java/lang/Math", name := "max", desc := "(II)I" } : MethodName)) ∈ gW := gW_2 25 rfl rfl
theorem w_2_27 : (Cond.methodLink "FlashVault$Layout" (80 : Nat) ({ cls := "FlashVault$Run", name := "<init>", desc := "()V" } : MethodName)) ∈ gW := gW_2 27 rfl rfl
theorem w_2_56 : (Cond.methodLink "FlashVault$Layout" (81 : Nat) ({ cls := "FlashVault$Layout", name := "noteUse", desc := "()V" } : MethodName)) ∈ gW := gW_2 56 rfl rfl
theorem w_2_60 : (Cond.methodLink "FlashVault$Layout" (84 : Nat) ({ cls := "FlashVault$Layout", name := "setUsed", desc := "(I)V" } : MethodName)) ∈ gW := gW_2 60 rfl rfl
theorem w_5_106 : (Cond.methodLink "FlashVault$Layout" (94 : Nat) ({ cls := "java/lang/Math", name := "floorMod", desc := "(II)I" } : MethodName)) ∈ gW := gW_5 106 rfl rfl
theorem w_5_109 : (Cond.methodLink "FlashVault$Layout" (97 : Nat) ({ cls := "FlashVault$Layout", name := "uses", desc := "(I)I" } : MethodName)) ∈ gW := gW_5 109 rfl rfl
theorem w_6_178 : (Cond.methodLink "FlashVault$Layout" (108 : Nat) ({ cls := "java/lang/System", name := "arraycopy", desc := "(Ljava/lang/Object;ILjava/lang/Object;II)V" } : MethodName)) ∈ gW := gW_6 178 rfl rfl
theorem w_8_97 : (Cond.methodLink "FlashVault$Layout" (114 : Nat) ({ cls := "FlashVault$Layout", name := "logOf", desc := "(I)I" } : MethodName)) ∈ gW := gW_8 97 rfl rfl
theorem w_6_193 : (Cond.methodLink "FlashVault$Layout" (125 : Nat) ({ cls := "FlashVault$Run", name := "clear", desc := "(I)V" } : MethodName)) ∈ gW := gW_6 193 rfl rfl
theorem w_6_220 : (Cond.methodLink "FlashVault$Layout" (131 : Nat) ({ cls := "FlashVault$Layout", name := "moveRun", desc := "(II)V" } : MethodName)) ∈ gW := gW_6 220 rfl rfl
theorem w_6_232 : (Cond.methodLink "FlashVault$Layout" (135 : Nat) ({ cls := "FlashVault$Layout", name := "describe", desc := "(I)I" } : MethodName)) ∈ gW := gW_6 232 rfl rfl
theorem w_6_237 : (Cond.methodLink "FlashVault$Layout" (138 : Nat) ({ cls := "FlashVault$Chip", name := "program", desc := "(I[BII)V" } : MethodName)) ∈ gW := gW_6 237 rfl rfl
theorem w_6_236 : (Cond.methodLink "FlashVault$Layout" (144 : Nat) ({ cls := "FlashVault$Row", name := "number", desc := "([BIII)V" } : MethodName)) ∈ gW := gW_6 236 rfl rfl
theorem w_6_238 : (Cond.methodLink "FlashVault$Layout" (150 : Nat) ({ cls := "FlashVault$Chip", name := "erase", desc := "(I)V" } : MethodName)) ∈ gW := gW_6 238 rfl rfl
theorem w_7_217 : (Cond.methodLink "FlashVault$Layout" (153 : Nat) ({ cls := "FlashVault$Layout", name := "clear", desc := "()V" } : MethodName)) ∈ gW := gW_7 217 rfl rfl
theorem w_7_218 : (Cond.methodLink "FlashVault$Layout" (155 : Nat) ({ cls := "FlashVault$Layout", name := "lastState", desc := "(I)I" } : MethodName)) ∈ gW := gW_7 218 rfl rfl
theorem w_7_223 : (Cond.methodLink "FlashVault$Layout" (158 : Nat) ({ cls := "FlashVault$Chip", name := "number", desc := "(II)I" } : MethodName)) ∈ gW := gW_7 223 rfl rfl
theorem w_7_224 : (Cond.methodLink "FlashVault$Layout" (160 : Nat) ({ cls := "FlashVault$Layout", name := "adopt", desc := "(I)I" } : MethodName)) ∈ gW := gW_7 224 rfl rfl
theorem w_7_222 : (Cond.methodLink "FlashVault$Layout" (163 : Nat) ({ cls := "FlashVault$Chip", name := "at", desc := "(I)I" } : MethodName)) ∈ gW := gW_7 222 rfl rfl
theorem w_7_228 : (Cond.methodLink "FlashVault$Layout" (166 : Nat) ({ cls := "java/lang/Math", name := "min", desc := "(II)I" } : MethodName)) ∈ gW := gW_7 228 rfl rfl
theorem w_2_217 : (Cond.methodLink "FlashVault$Log" (3 : Nat) ({ cls := "java/lang/Object", name := "<init>", desc := "()V" } : MethodName)) ∈ gW := gW_2 217 rfl rfl
theorem w_7_73 : (Cond.methodLink "FlashVault$Log" (64 : Nat) ({ cls := "java/lang/Math", name := "max", desc := "(II)I" } : MethodName)) ∈ gW := gW_7 73 rfl rfl
theorem w_5_94 : (Cond.methodLink "FlashVault$Log" (70 : Nat) ({ cls := "FlashVault$Layout", name := "fits", desc := "(I)Z" } : MethodName)) ∈ gW := gW_5 94 rfl rfl
theorem w_5_98 : (Cond.methodLink "FlashVault$Log" (74 : Nat) ({ cls := "FlashVault$Log", name := "openBlock", desc := "()V" } : MethodName)) ∈ gW := gW_5 98 rfl rfl
theorem w_7_74 : (Cond.methodLink "FlashVault$Log" (77 : Nat) ({ cls := "FlashVault$Layout", name := "save", desc := "(I)V" } : MethodName)) ∈ gW := gW_7 74 rfl rfl
theorem w_7_75 : (Cond.methodLink "FlashVault$Log" (81 : Nat) ({ cls := "FlashVault$Log", name := "head", desc := "(IIII)V" } : MethodName)) ∈ gW := gW_7 75 rfl rfl
theorem w_7_79 : (Cond.methodLink "FlashVault$Log" (91 : Nat) ({ cls := "FlashVault$Row", name := "copy", desc := "([BI[BII)V" } : MethodName)) ∈ gW := gW_7 79 rfl rfl
theorem w_6_158 : (Cond.methodLink "FlashVault$Log" (100 : Nat) ({ cls := "FlashVault$Layout", name := "point", desc := "()I" } : MethodName)) ∈ gW := gW_6 158 rfl rfl
theorem w_6_162 : (Cond.methodLink "FlashVault$Log" (104 : Nat) ({ cls := "FlashVault$Log", name := "append", desc := "(I)V" } : MethodName)) ∈ gW := gW_6 162 rfl rfl
theorem w_5_102 : (Cond.methodLink "FlashVault$Log" (107 : Nat) ({ cls := "FlashVault$Layout", name := "take", desc := "()I" } : MethodName)) ∈ gW := gW_5 102 rfl rfl
theorem w_5_116 : (Cond.methodLink "FlashVault$Log" (110 : Nat) ({ cls := "FlashVault$Chip", name := "erase", desc := "(I)V" } : MethodName)) ∈ gW := gW_5 116 rfl rfl
theorem w_6_149 : (Cond.methodLink "FlashVault$Log" (115 : Nat) ({ cls := "FlashVault$Layout", name := "addLog", desc := "(I)V" } : MethodName)) ∈ gW := gW_6 149 rfl rfl
theorem w_6_155 : (Cond.methodLink "FlashVault$Log" (118 : Nat) ({ cls := "FlashVault$Row", name := "number", desc := "([BIII)V" } : MethodName)) ∈ gW := gW_6 155 rfl rfl
theorem w_6_166 : (Cond.methodLink "FlashVault$Log" (122 : Nat) ({ cls := "FlashVault$Chip", name := "program", desc := "(I[BII)V" } : MethodName)) ∈ gW := gW_6 166 rfl rfl
theorem w_4_161 : (Cond.methodLink "FlashVault$Log" (129 : Nat) ({ cls := "FlashVault$Chip", name := "at", desc := "(I)I" } : MethodName)) ∈ gW := gW_4 161 rfl rfl
theorem w_4_169 : (Cond.methodLink "FlashVault$Log" (133 : Nat) ({ cls := "FlashVault$Chip", name := "number", desc := "(II)I" } : MethodName)) ∈ gW := gW_4 169 rfl rfl
theorem w_8_5 : (Cond.methodLink "FlashVault$Log" (135 : Nat) ({ cls := "FlashVault$Log", name := "sizeAt", desc := "(I)I" } : MethodName)) ∈ gW := gW_8 5 rfl rfl
theorem w_4_165 : (Cond.methodLink "FlashVault$Log" (143 : Nat) ({ cls := "FlashVault$Layout", name := "logOf", desc := "(I)I" } : MethodName)) ∈ gW := gW_4 165 rfl rfl
theorem w_4_173 : (Cond.methodLink "FlashVault$Log" (155 : Nat) ({ cls := "FlashVault$Row", name := "compare", desc := "([BII[BII)I" } : MethodName)) ∈ gW := gW_4 173 rfl rfl
theorem w_4_157 : (Cond.methodLink "FlashVault$Log" (159 : Nat) ({ cls := "FlashVault$Log", name := "isAt", desc := "(I)Z" } : MethodName)) ∈ gW := gW_4 157 rfl rfl
theorem w_6_153 : (Cond.methodLink "FlashVault$Log" (166 : Nat) ({ cls := "FlashVault$Log", name := "watch", desc := "(I)V" } : MethodName)) ∈ gW := gW_6 153 rfl rfl
theorem w_8_93 : (Cond.methodLink "FlashVault$Log" (173 : Nat) ({ cls := "FlashVault$Layout", name := "isFresh", desc := "(I)Z" } : MethodName)) ∈ gW := gW_8 93 rfl rfl
theorem w_7_181 : (Cond.methodLink "FlashVault$Log" (176 : Nat) ({ cls := "java/util/Arrays", name := "fill", desc := "([II)V" } : MethodName)) ∈ gW := gW_7 181 rfl rfl
theorem w_7_182 : (Cond.methodLink "FlashVault$Log" (182 : Nat) ({ cls := "FlashVault$Versions", name := "weightOf", desc := "(I)I" } : MethodName)) ∈ gW := gW_7 182 rfl rfl
theorem w_7_187 : (Cond.methodLink "FlashVault$Log" (191 : Nat) ({ cls := "FlashVault$Log", name := "loadOf", desc := "(I)I" } : MethodName)) ∈ gW := gW_7 187 rfl rfl
theorem w_6_184 : (Cond.methodLink "FlashVault$Log" (197 : Nat) ({ cls := "FlashVault$Tables", name := "spill", desc := "(ZI)V" } : MethodName)) ∈ gW := gW_6 184 rfl rfl
theorem w_7_177 : (Cond.methodLink "FlashVault$Log" (203 : Nat) ({ cls := "FlashVault$Log", name := "weighLogs", desc := "()V" } : MethodName)) ∈ gW := gW_7 177 rfl rfl
theorem w_7_183 : (Cond.methodLink "FlashVault$Log" (206 : Nat) ({ cls := "FlashVault$Log", name := "lightestLog", desc := "()I" } : MethodName)) ∈ gW := gW_7 183 rfl rfl
theorem w_7_191 : (Cond.methodLink "FlashVault$Log" (209 : Nat) ({ cls := "FlashVault$Layout", name := "isWriting", desc := "(I)Z" } : MethodName)) ∈ gW := gW_7 191 rfl rfl
theorem w_5_85 : (Cond.methodLink "FlashVault$Log" (212 : Nat) ({ cls := "FlashVault$Layout", name := "seal", desc := "()V" } : MethodName)) ∈ gW := gW_5 85 rfl rfl
theorem w_5_90 : (Cond.methodLink "FlashVault$Log" (215 : Nat) ({ cls := "FlashVault$Log", name := "moveOut", desc := "(II)V" } : MethodName)) ∈ gW := gW_5 90 rfl rfl
theorem w_6_174 : (Cond.methodLink "FlashVault$Log" (219 : Nat) ({ cls := "FlashVault$Layout", name := "dropLog", desc := "(I)V" } : MethodName)) ∈ gW := gW_6 174 rfl rfl
theorem w_5_89 : (Cond.methodLink "FlashVault$Log" (222 : Nat) ({ cls := "FlashVault$Versions", name := "needed", desc := "(I)I" } : MethodName)) ∈ gW := gW_5 89 rfl rfl
theorem w_6_179 : (Cond.methodLink "FlashVault$Log" (225 : Nat) ({ cls := "FlashVault$Versions", name := "allInTables", desc := "()V" } : MethodName)) ∈ gW := gW_6 179 rfl rfl
theorem w_6_183 : (Cond.methodLink "FlashVault$Log" (228 : Nat) ({ cls := "FlashVault$Versions", name := "purge", desc := "()V" } : MethodName)) ∈ gW := gW_6 183 rfl rfl
theorem w_6_154 : (Cond.methodLink "FlashVault$Log" (231 : Nat) ({ cls := "FlashVault$Chip", name := "copyOut", desc := "(I[BII)V" } : MethodName)) ∈ gW := gW_6 154 rfl rfl
theorem w_6_170 : (Cond.methodLink "FlashVault$Log" (234 : Nat) ({ cls := "FlashVault$Versions", name := "relocate", desc := "(II)V" } : MethodName)) ∈ gW := gW_6 170 rfl rfl
theorem w_8_1 : (Cond.methodLink "FlashVault$Log" (243 : Nat) ({ cls := "FlashVault$Log", name := "isWholeAt", desc := "(I)Z" } : MethodName)) ∈ gW := gW_8 1 rfl rfl
theorem w_8_9 : (Cond.methodLink "FlashVault$Log" (246 : Nat) ({ cls := "FlashVault$Log", name := "meetPending", desc := "(I)V" } : MethodName)) ∈ gW := gW_8 9 rfl rfl
theorem w_8_13 : (Cond.methodLink "FlashVault$Log" (249 : Nat) ({ cls := "FlashVault$Versions", name := "meet", desc := "([BIIIIZ)V" } : MethodName)) ∈ gW := gW_8 13 rfl rfl
theorem w_1_47 : (Cond.methodLink "FlashVault$Row" (1 : Nat) ({ cls := "java/lang/Object", name := "<init>", desc := "()V" } : MethodName)) ∈ gW := gW_1 47 rfl rfl
theorem w_1_48 : (Cond.methodLink "FlashVault$Row" (13 : Nat) ({ cls := "java/lang/Math", name := "max", desc := "(II)I" } : MethodName)) ∈ gW := gW_1 48 rfl rfl
theorem w_3_176 : (Cond.methodLink "FlashVault$Row" (23 : Nat) ({ cls := "FlashVault$Row", name := "add", desc := "(I)V" } : MethodName)) ∈ gW := gW_3 176 rfl rfl
theorem w_4_55 : (Cond.methodLink "FlashVault$Row" (27 : Nat) ({ cls := "java/lang/System", name := "arraycopy", desc := "(Ljava/lang/Object;ILjava/lang/Object;II)V" } : MethodName)) ∈ gW := gW_4 55 rfl rfl
theorem w_9_7 : (Cond.methodLink "FlashVault$Row" (33 : Nat) ({ cls := "java/util/Arrays", name := "fill", desc := "([BIIB)V" } : MethodName)) ∈ gW := gW_9 7 rfl rfl
theorem w_4_73 : (Cond.methodLink "FlashVault$Row" (39 : Nat) ({ cls := "java/lang/Math", name := "min", desc := "(II)I" } : MethodName)) ∈ gW := gW_4 73 rfl rfl
theorem w_2_30 : (Cond.methodLink "FlashVault$Run" (3 : Nat) ({ cls := "java/lang/Object", name := "<init>", desc := "()V" } : MethodName)) ∈ gW := gW_2 30 rfl rfl
theorem w_1_68 : (Cond.methodLink "FlashVault$Sight" (3 : Nat) ({ cls := "java/lang/Object", name := "<init>", desc := "()V" } : MethodName)) ∈ gW := gW_1 68 rfl rfl
theorem w_1_72 : (Cond.methodLink "FlashVault$Sight" (25 : Nat) ({ cls := "FlashVault$Batch", name := "<init>", desc := "()V" } : MethodName)) ∈ gW := gW_1 72 rfl rfl
theorem w_4_135 : (Cond.methodLink "FlashVault$Sight" (26 : Nat) ({ cls := "FlashVault$Sight", name := "isOpen", desc := "(I)Z" } : MethodName)) ∈ gW := gW_4 135 rfl rfl
theorem w_3_232 : (Cond.methodLink "FlashVault$Sight" (30 : Nat) ({ cls := "FlashVault$Batch", name := "clear", desc := "()V" } : MethodName)) ∈ gW := gW_3 232 rfl rfl
theorem w_2_135 : (Cond.methodLink "FlashVault$Tables" (3 : Nat) ({ cls := "java/lang/Object", name := "<init>", desc := "()V" } : MethodName)) ∈ gW := gW_2 135 rfl rfl
theorem w_2_139 : (Cond.methodLink "FlashVault$Tables" (19 : Nat) ({ cls := "FlashVault$Row", name := "<init>", desc := "(I)V" } : MethodName)) ∈ gW := gW_2 139 rfl rfl
theorem w_2_141 : (Cond.methodLink "FlashVault$Tables" (62 : Nat) ({ cls := "FlashVault$Cursor", name := "<init>", desc := "(LFlashVault$Chip;)V" } : MethodName)) ∈ gW := gW_2 141 rfl rfl
theorem w_6_201 : (Cond.methodLink "FlashVault$Tables" (65 : Nat) ({ cls := "FlashVault$Row", name := "number", desc := "([BIII)V" } : MethodName)) ∈ gW := gW_6 201 rfl rfl
theorem w_6_202 : (Cond.methodLink "FlashVault$Tables" (69 : Nat) ({ cls := "FlashVault$Row", name := "copy", desc := "([BI[BII)V" } : MethodName)) ∈ gW := gW_6 202 rfl rfl
theorem w_6_208 : (Cond.methodLink "FlashVault$Tables" (74 : Nat) ({ cls := "java/lang/Math", name := "min", desc := "(II)I" } : MethodName)) ∈ gW := gW_6 208 rfl rfl
theorem w_6_209 : (Cond.methodLink "FlashVault$Tables" (80 : Nat) ({ cls := "FlashVault$Layout", name := "take", desc := "()I" } : MethodName)) ∈ gW := gW_6 209 rfl rfl
theorem w_6_210 : (Cond.methodLink "FlashVault$Tables" (86 : Nat) ({ cls := "FlashVault$Chip", name := "erase", desc := "(I)V" } : MethodName)) ∈ gW := gW_6 210 rfl rfl
theorem w_6_211 : (Cond.methodLink "FlashVault$Tables" (91 : Nat) ({ cls := "FlashVault$Chip", name := "program", desc := "(I[BII)V" } : MethodName)) ∈ gW := gW_6 211 rfl rfl
theorem w_6_212 : (Cond.methodLink "FlashVault$Tables" (95 : Nat) ({ cls := "FlashVault$Run", name := "add", desc := "(II)V" } : MethodName)) ∈ gW := gW_6 212 rfl rfl
theorem w_6_188 : (Cond.methodLink "FlashVault$Tables" (110 : Nat) ({ cls := "FlashVault$Layout", name := "draft", desc := "(I)LFlashVault$Run;" } : MethodName)) ∈ gW := gW_6 188 rfl rfl
theorem w_6_197 : (Cond.methodLink "FlashVault$Tables" (126 : Nat) ({ cls := "FlashVault$Tables", name := "emit", desc := "([BIIIII)V" } : MethodName)) ∈ gW := gW_6 197 rfl rfl
theorem w_6_204 : (Cond.methodLink "FlashVault$Tables" (133 : Nat) ({ cls := "FlashVault$Tables", name := "pageOut", desc := "(LFlashVault$Run;)V" } : MethodName)) ∈ gW := gW_6 204 rfl rfl
theorem w_6_216 : (Cond.methodLink "FlashVault$Tables" (140 : Nat) ({ cls := "FlashVault$Layout", name := "putDraft", desc := "(II)V" } : MethodName)) ∈ gW := gW_6 216 rfl rfl
theorem w_6_224 : (Cond.methodLink "FlashVault$Tables" (143 : Nat) ({ cls := "FlashVault$Layout", name := "passLog", desc := "()V" } : MethodName)) ∈ gW := gW_6 224 rfl rfl
theorem w_6_228 : (Cond.methodLink "FlashVault$Tables" (146 : Nat) ({ cls := "FlashVault$Layout", name := "save", desc := "(I)V" } : MethodName)) ∈ gW := gW_6 228 rfl rfl
theorem w_6_239 : (Cond.methodLink "FlashVault$Tables" (149 : Nat) ({ cls := "FlashVault$Versions", name := "allInTables", desc := "()V" } : MethodName)) ∈ gW := gW_6 239 rfl rfl
theorem w_7_0 : (Cond.methodLink "FlashVault$Tables" (152 : Nat) ({ cls := "FlashVault$Versions", name := "purge", desc := "()V" } : MethodName)) ∈ gW := gW_7 0 rfl rfl
theorem w_7_160 : (Cond.methodLink "FlashVault$Tables" (155 : Nat) ({ cls := "FlashVault$Layout", name := "firstRun", desc := "(I)I" } : MethodName)) ∈ gW := gW_7 160 rfl rfl
theorem w_7_161 : (Cond.methodLink "FlashVault$Tables" (159 : Nat) ({ cls := "FlashVault$Tables", name := "merge", desc := "(IIII)V" } : MethodName)) ∈ gW := gW_7 161 rfl rfl
theorem w_7_14 : (Cond.methodLink "FlashVault$Tables" (170 : Nat) ({ cls := "FlashVault$Cursor", name := "open", desc := "(LFlashVault$Run;)V" } : MethodName)) ∈ gW := gW_7 14 rfl rfl
theorem w_7_18 : (Cond.methodLink "FlashVault$Tables" (173 : Nat) ({ cls := "FlashVault$Cursor", name := "advance", desc := "()V" } : MethodName)) ∈ gW := gW_7 18 rfl rfl
theorem w_7_33 : (Cond.methodLink "FlashVault$Tables" (180 : Nat) ({ cls := "FlashVault$Tables", name := "leastCursor", desc := "(II)I" } : MethodName)) ∈ gW := gW_7 33 rfl rfl
theorem w_7_42 : (Cond.methodLink "FlashVault$Tables" (183 : Nat) ({ cls := "FlashVault$Tables", name := "isAgain", desc := "(LFlashVault$Cursor;)Z" } : MethodName)) ∈ gW := gW_7 42 rfl rfl
theorem w_7_46 : (Cond.methodLink "FlashVault$Tables" (187 : Nat) ({ cls := "FlashVault$Tables", name := "tells", desc := "(LFlashVault$Cursor;)Z" } : MethodName)) ∈ gW := gW_7 46 rfl rfl
theorem w_7_52 : (Cond.methodLink "FlashVault$Tables" (193 : Nat) ({ cls := "FlashVault$Tables", name := "hides", desc := "(LFlashVault$Cursor;)Z" } : MethodName)) ∈ gW := gW_7 52 rfl rfl
theorem w_7_57 : (Cond.methodLink "FlashVault$Tables" (206 : Nat) ({ cls := "FlashVault$Tables", name := "remember", desc := "(LFlashVault$Cursor;)V" } : MethodName)) ∈ gW := gW_7 57 rfl rfl
theorem w_7_37 : (Cond.methodLink "FlashVault$Tables" (214 : Nat) ({ cls := "FlashVault$Tables", name := "isBefore", desc := "(LFlashVault$Cursor;LFlashVault$Cursor;)Z" } : MethodName)) ∈ gW := gW_7 37 rfl rfl
theorem w_7_41 : (Cond.methodLink "FlashVault$Tables" (218 : Nat) ({ cls := "FlashVault$Row", name := "compare", desc := "([BII[BII)I" } : MethodName)) ∈ gW := gW_7 41 rfl rfl
theorem w_7_50 : (Cond.methodLink "FlashVault$Tables" (225 : Nat) ({ cls := "FlashVault$Versions", name := "from", desc := "([BIII)I" } : MethodName)) ∈ gW := gW_7 50 rfl rfl
theorem w_7_51 : (Cond.methodLink "FlashVault$Tables" (229 : Nat) ({ cls := "FlashVault$Versions", name := "hasKey", desc := "(I[BII)Z" } : MethodName)) ∈ gW := gW_7 51 rfl rfl
theorem w_7_233 : (Cond.methodLink "FlashVault$Tables" (234 : Nat) ({ cls := "FlashVault$Versions", name := "meet", desc := "([BIIIIZ)V" } : MethodName)) ∈ gW := gW_7 233 rfl rfl
theorem w_8_85 : (Cond.methodLink "FlashVault$Tables" (238 : Nat) ({ cls := "FlashVault$Tables", name := "isInOrder", desc := "(LFlashVault$Run;)Z" } : MethodName)) ∈ gW := gW_8 85 rfl rfl
theorem w_1_134 : (Cond.methodLink "FlashVault$Tree" (3 : Nat) ({ cls := "java/lang/Object", name := "<init>", desc := "()V" } : MethodName)) ∈ gW := gW_1 134 rfl rfl
theorem w_7_104 : (Cond.methodLink "FlashVault$Tree" (32 : Nat) ({ cls := "java/util/Arrays", name := "fill", desc := "([II)V" } : MethodName)) ∈ gW := gW_7 104 rfl rfl
theorem w_8_110 : (Cond.methodLink "FlashVault$Tree" (38 : Nat) ({ cls := "FlashVault$Tree", name := "isNumber", desc := "(I)Z" } : MethodName)) ∈ gW := gW_8 110 rfl rfl
theorem w_8_106 : (Cond.methodLink "FlashVault$Tree" (42 : Nat) ({ cls := "FlashVault$Tree", name := "kindOf", desc := "(I)I" } : MethodName)) ∈ gW := gW_8 106 rfl rfl
theorem w_8_34 : (Cond.methodLink "FlashVault$Tree" (46 : Nat) ({ cls := "java/lang/Math", name := "min", desc := "(II)I" } : MethodName)) ∈ gW := gW_8 34 rfl rfl
theorem w_8_35 : (Cond.methodLink "FlashVault$Tree" (52 : Nat) ({ cls := "FlashVault$Row", name := "copy", desc := "([BI[BII)V" } : MethodName)) ∈ gW := gW_8 35 rfl rfl
theorem w_8_148 : (Cond.methodLink "FlashVault$Tree" (58 : Nat) ({ cls := "FlashVault$Tree", name := "isIn", desc := "(II)Z" } : MethodName)) ∈ gW := gW_8 148 rfl rfl
theorem w_8_152 : (Cond.methodLink "FlashVault$Tree" (62 : Nat) ({ cls := "FlashVault$Row", name := "compare", desc := "([BII[BII)I" } : MethodName)) ∈ gW := gW_8 152 rfl rfl
theorem w_9_54 : (Cond.methodLink "FlashVault$Tree" (66 : Nat) ({ cls := "FlashVault$Tree", name := "rankOf", desc := "(II)I" } : MethodName)) ∈ gW := gW_9 54 rfl rfl
theorem w_8_118 : (Cond.methodLink "FlashVault$Tree" (69 : Nat) ({ cls := "FlashVault$Tree", name := "parentOf", desc := "(I)I" } : MethodName)) ∈ gW := gW_8 118 rfl rfl
theorem w_8_26 : (Cond.methodLink "FlashVault$Tree" (72 : Nat) ({ cls := "FlashVault$Tree", name := "clear", desc := "()V" } : MethodName)) ∈ gW := gW_8 26 rfl rfl
theorem w_8_27 : (Cond.methodLink "FlashVault$Tree" (94 : Nat) ({ cls := "FlashVault$Versions", name := "valueAddress", desc := "(I)I" } : MethodName)) ∈ gW := gW_8 27 rfl rfl
theorem w_8_28 : (Cond.methodLink "FlashVault$Tree" (97 : Nat) ({ cls := "FlashVault$Chip", name := "at", desc := "(I)I" } : MethodName)) ∈ gW := gW_8 28 rfl rfl
theorem w_8_29 : (Cond.methodLink "FlashVault$Tree" (100 : Nat) ({ cls := "FlashVault$Chip", name := "number", desc := "(II)I" } : MethodName)) ∈ gW := gW_8 29 rfl rfl
theorem w_8_30 : (Cond.methodLink "FlashVault$Tree" (103 : Nat) ({ cls := "FlashVault$Tree", name := "set", desc := "(IIII[BII)V" } : MethodName)) ∈ gW := gW_8 30 rfl rfl
theorem w_8_102 : (Cond.methodLink "FlashVault$Tree" (107 : Nat) ({ cls := "FlashVault$Tree", name := "isDirectory", desc := "(I)Z" } : MethodName)) ∈ gW := gW_8 102 rfl rfl
theorem w_8_114 : (Cond.methodLink "FlashVault$Tree" (110 : Nat) ({ cls := "FlashVault$Tree", name := "isWithin", desc := "(II)Z" } : MethodName)) ∈ gW := gW_8 114 rfl rfl
theorem w_1_190 : (Cond.methodLink "FlashVault$Versions" (3 : Nat) ({ cls := "java/lang/Object", name := "<init>", desc := "()V" } : MethodName)) ∈ gW := gW_1 190 rfl rfl
theorem w_1_191 : (Cond.methodLink "FlashVault$Versions" (21 : Nat) ({ cls := "java/lang/Math", name := "max", desc := "(II)I" } : MethodName)) ∈ gW := gW_1 191 rfl rfl
theorem w_5_10 : (Cond.methodLink "FlashVault$Versions" (58 : Nat) ({ cls := "FlashVault$Versions", name := "release", desc := "(I)V" } : MethodName)) ∈ gW := gW_5 10 rfl rfl
theorem w_4_144 : (Cond.methodLink "FlashVault$Versions" (62 : Nat) ({ cls := "FlashVault$Row", name := "compare", desc := "([BII[BII)I" } : MethodName)) ∈ gW := gW_4 144 rfl rfl
theorem w_4_140 : (Cond.methodLink "FlashVault$Versions" (69 : Nat) ({ cls := "FlashVault$Versions", name := "from", desc := "([BIII)I" } : MethodName)) ∈ gW := gW_4 140 rfl rfl
theorem w_4_145 : (Cond.methodLink "FlashVault$Versions" (73 : Nat) ({ cls := "FlashVault$Versions", name := "hasKey", desc := "(I[BII)Z" } : MethodName)) ∈ gW := gW_4 145 rfl rfl
theorem w_4_204 : (Cond.methodLink "FlashVault$Versions" (77 : Nat) ({ cls := "FlashVault$Versions", name := "isNewest", desc := "(I)Z" } : MethodName)) ∈ gW := gW_4 204 rfl rfl
theorem w_4_208 : (Cond.methodLink "FlashVault$Versions" (81 : Nat) ({ cls := "FlashVault$Versions", name := "sameKey", desc := "(II)Z" } : MethodName)) ∈ gW := gW_4 208 rfl rfl
theorem w_7_124 : (Cond.methodLink "FlashVault$Versions" (85 : Nat) ({ cls := "java/lang/System", name := "arraycopy", desc := "(Ljava/lang/Object;ILjava/lang/Object;II)V" } : MethodName)) ∈ gW := gW_7 124 rfl rfl
theorem w_7_125 : (Cond.methodLink "FlashVault$Versions" (91 : Nat) ({ cls := "FlashVault$Row", name := "copy", desc := "([BI[BII)V" } : MethodName)) ∈ gW := gW_7 125 rfl rfl
theorem w_5_14 : (Cond.methodLink "FlashVault$Versions" (95 : Nat) ({ cls := "FlashVault$Versions", name := "setAlone", desc := "(IZ)V" } : MethodName)) ∈ gW := gW_5 14 rfl rfl
theorem w_7_120 : (Cond.methodLink "FlashVault$Versions" (109 : Nat) ({ cls := "FlashVault$Versions", name := "insert", desc := "(I[BII)I" } : MethodName)) ∈ gW := gW_7 120 rfl rfl
theorem w_5_44 : (Cond.methodLink "FlashVault$Versions" (115 : Nat) ({ cls := "FlashVault$Versions", name := "weight", desc := "(III)I" } : MethodName)) ∈ gW := gW_5 44 rfl rfl
theorem w_5_1 : (Cond.methodLink "FlashVault$Versions" (119 : Nat) ({ cls := "FlashVault$Versions", name := "isUser", desc := "(I)Z" } : MethodName)) ∈ gW := gW_5 1 rfl rfl
theorem w_5_2 : (Cond.methodLink "FlashVault$Versions" (122 : Nat) ({ cls := "FlashVault$Sight", name := "anyBefore", desc := "(II)Z" } : MethodName)) ∈ gW := gW_5 2 rfl rfl
theorem w_5_6 : (Cond.methodLink "FlashVault$Versions" (127 : Nat) ({ cls := "FlashVault$Sight", name := "anyWithin", desc := "(III)Z" } : MethodName)) ∈ gW := gW_5 6 rfl rfl
theorem w_4_237 : (Cond.methodLink "FlashVault$Versions" (131 : Nat) ({ cls := "FlashVault$Versions", name := "isNeeded", desc := "(IZII)Z" } : MethodName)) ∈ gW := gW_4 237 rfl rfl
theorem w_5_40 : (Cond.methodLink "FlashVault$Versions" (135 : Nat) ({ cls := "FlashVault$Versions", name := "weightOf", desc := "(I)I" } : MethodName)) ∈ gW := gW_5 40 rfl rfl
theorem w_5_36 : (Cond.methodLink "FlashVault$Versions" (139 : Nat) ({ cls := "FlashVault$Versions", name := "needed", desc := "(I)I" } : MethodName)) ∈ gW := gW_5 36 rfl rfl
theorem w_5_47 : (Cond.methodLink "FlashVault$Versions" (142 : Nat) ({ cls := "FlashVault$Versions", name := "newestOf", desc := "([BII)I" } : MethodName)) ∈ gW := gW_5 47 rfl rfl
theorem w_3_74 : (Cond.methodLink "FlashVaultLaw" (7 : Nat) ({ cls := "FlashVault", name := "feed", desc := "(IIIII)I" } : MethodName)) ∈ gW := gW_3 74 rfl rfl
theorem w_3_184 : (Cond.methodLink "FlashVaultLaw" (17 : Nat) ({ cls := "FlashVault", name := "fill", desc := "(II)I" } : MethodName)) ∈ gW := gW_3 184 rfl rfl
theorem w_3_212 : (Cond.methodLink "FlashVaultLaw" (23 : Nat) ({ cls := "FlashVault", name := "end", desc := "(I)I" } : MethodName)) ∈ gW := gW_3 212 rfl rfl
theorem w_3_219 : (Cond.methodLink "FlashVaultLaw" (27 : Nat) ({ cls := "FlashVault", name := "begin", desc := "()I" } : MethodName)) ∈ gW := gW_3 219 rfl rfl
theorem w_4_1 : (Cond.methodLink "FlashVaultLaw" (31 : Nat) ({ cls := "FlashVault", name := "put", desc := "(II)I" } : MethodName)) ∈ gW := gW_4 1 rfl rfl
theorem w_4_112 : (Cond.methodLink "FlashVaultLaw" (38 : Nat) ({ cls := "FlashVault", name := "delete", desc := "(I)I" } : MethodName)) ∈ gW := gW_4 112 rfl rfl
theorem w_4_119 : (Cond.methodLink "FlashVaultLaw" (41 : Nat) ({ cls := "FlashVault", name := "get", desc := "(I)I" } : MethodName)) ∈ gW := gW_4 119 rfl rfl
theorem w_4_186 : (Cond.methodLink "FlashVaultLaw" (44 : Nat) ({ cls := "FlashVault", name := "seek", desc := "(IZ)I" } : MethodName)) ∈ gW := gW_4 186 rfl rfl
theorem w_4_221 : (Cond.methodLink "FlashVaultLaw" (48 : Nat) ({ cls := "FlashVault", name := "commit", desc := "(I)I" } : MethodName)) ∈ gW := gW_4 221 rfl rfl
theorem w_7_129 : (Cond.methodLink "FlashVaultLaw" (51 : Nat) ({ cls := "FlashVault", name := "abort", desc := "(I)I" } : MethodName)) ∈ gW := gW_7 129 rfl rfl
theorem w_7_136 : (Cond.methodLink "FlashVaultLaw" (54 : Nat) ({ cls := "FlashVault", name := "flush", desc := "()I" } : MethodName)) ∈ gW := gW_7 136 rfl rfl
theorem w_7_148 : (Cond.methodLink "FlashVaultLaw" (57 : Nat) ({ cls := "FlashVault", name := "compact", desc := "(Z)I" } : MethodName)) ∈ gW := gW_7 148 rfl rfl
theorem w_7_165 : (Cond.methodLink "FlashVaultLaw" (61 : Nat) ({ cls := "FlashVault", name := "collect", desc := "()I" } : MethodName)) ∈ gW := gW_7 165 rfl rfl
theorem w_7_198 : (Cond.methodLink "FlashVaultLaw" (64 : Nat) ({ cls := "FlashVault", name := "cut", desc := "(ZII)I" } : MethodName)) ∈ gW := gW_7 198 rfl rfl
theorem w_7_205 : (Cond.methodLink "FlashVaultLaw" (68 : Nat) ({ cls := "FlashVault", name := "mount", desc := "()I" } : MethodName)) ∈ gW := gW_7 205 rfl rfl
theorem w_8_39 : (Cond.methodLink "FlashVaultLaw" (71 : Nat) ({ cls := "FlashVault", name := "word", desc := "(I)J" } : MethodName)) ∈ gW := gW_8 39 rfl rfl
theorem w_8_51 : (Cond.methodLink "FlashVaultLaw" (75 : Nat) ({ cls := "FlashVault", name := "count", desc := "(I)I" } : MethodName)) ∈ gW := gW_8 51 rfl rfl
theorem w_8_66 : (Cond.methodLink "FlashVaultLaw" (78 : Nat) ({ cls := "FlashVault", name := "faults", desc := "(I)I" } : MethodName)) ∈ gW := gW_8 66 rfl rfl
theorem w_8_73 : (Cond.methodLink "FlashVaultLaw" (81 : Nat) ({ cls := "FlashVault", name := "check", desc := "()I" } : MethodName)) ∈ gW := gW_8 73 rfl rfl
theorem w_8_125 : (Cond.methodLink "FlashVaultLaw" (84 : Nat) ({ cls := "FlashVault", name := "make", desc := "(IZ)I" } : MethodName)) ∈ gW := gW_8 125 rfl rfl
theorem w_8_173 : (Cond.methodLink "FlashVaultLaw" (87 : Nat) ({ cls := "FlashVault", name := "remove", desc := "(I)I" } : MethodName)) ∈ gW := gW_8 173 rfl rfl
theorem w_8_206 : (Cond.methodLink "FlashVaultLaw" (90 : Nat) ({ cls := "FlashVault", name := "rename", desc := "(III)I" } : MethodName)) ∈ gW := gW_8 206 rfl rfl
theorem w_8_220 : (Cond.methodLink "FlashVaultLaw" (94 : Nat) ({ cls := "FlashVault", name := "find", desc := "()I" } : MethodName)) ∈ gW := gW_8 220 rfl rfl
theorem w_8_227 : (Cond.methodLink "FlashVaultLaw" (97 : Nat) ({ cls := "FlashVault", name := "write", desc := "(II)I" } : MethodName)) ∈ gW := gW_8 227 rfl rfl
theorem w_9_24 : (Cond.methodLink "FlashVaultLaw" (100 : Nat) ({ cls := "FlashVault", name := "read", desc := "(III)I" } : MethodName)) ∈ gW := gW_9 24 rfl rfl
theorem w_9_35 : (Cond.methodLink "FlashVaultLaw" (103 : Nat) ({ cls := "FlashVault", name := "resize", desc := "(II)I" } : MethodName)) ∈ gW := gW_9 35 rfl rfl
theorem w_9_46 : (Cond.methodLink "FlashVaultLaw" (106 : Nat) ({ cls := "FlashVault", name := "list", desc := "(II)I" } : MethodName)) ∈ gW := gW_9 46 rfl rfl
theorem w_9_61 : (Cond.methodLink "FlashVaultLaw" (109 : Nat) ({ cls := "FlashVault", name := "about", desc := "(II)I" } : MethodName)) ∈ gW := gW_9 61 rfl rfl
theorem w_3_66 : (Cond.methodLink "FlashVaultLaw" (112 : Nat) ({ cls := "FlashVaultLaw", name := "cell", desc := "([II)I" } : MethodName)) ∈ gW := gW_3 66 rfl rfl
theorem w_1_36 : (Cond.methodLink "FlashVaultLaw" (118 : Nat) ({ cls := "FlashVault", name := "<init>", desc := "(I)V" } : MethodName)) ∈ gW := gW_1 36 rfl rfl
theorem w_9_72 : (Cond.methodLink "FlashVaultLaw" (123 : Nat) ({ cls := "FlashVaultModel", name := "<init>", desc := "(I)V" } : MethodName)) ∈ gW := gW_9 72 rfl rfl
theorem w_3_69 : (Cond.methodLink "FlashVaultLaw" (124 : Nat) ({ cls := "FlashVaultLaw", name := "feed", desc := "(LFlashVault;IIIII[J)I" } : MethodName)) ∈ gW := gW_3 69 rfl rfl
theorem w_9_203 : (Cond.methodLink "FlashVaultLaw" (127 : Nat) ({ cls := "FlashVaultModel", name := "feed", desc := "(IIIII)I" } : MethodName)) ∈ gW := gW_9 203 rfl rfl
theorem w_9_199 : (Cond.methodLink "FlashVaultLaw" (128 : Nat) ({ cls := "FlashVaultModel", name := "thrown", desc := "()I" } : MethodName)) ∈ gW := gW_9 199 rfl rfl
theorem w_3_180 : (Cond.methodLink "FlashVaultLaw" (131 : Nat) ({ cls := "FlashVaultLaw", name := "fill", desc := "(LFlashVault;II[J)I" } : MethodName)) ∈ gW := gW_3 180 rfl rfl
theorem w_9_211 : (Cond.methodLink "FlashVaultLaw" (134 : Nat) ({ cls := "FlashVaultModel", name := "fill", desc := "(II)I" } : MethodName)) ∈ gW := gW_9 211 rfl rfl
theorem w_3_209 : (Cond.methodLink "FlashVaultLaw" (135 : Nat) ({ cls := "FlashVaultLaw", name := "end", desc := "(LFlashVault;I[J)I" } : MethodName)) ∈ gW := gW_3 209 rfl rfl
theorem w_9_219 : (Cond.methodLink "FlashVaultLaw" (138 : Nat) ({ cls := "FlashVaultModel", name := "end", desc := "(I)I" } : MethodName)) ∈ gW := gW_9 219 rfl rfl
theorem w_3_216 : (Cond.methodLink "FlashVaultLaw" (139 : Nat) ({ cls := "FlashVaultLaw", name := "begin", desc := "(LFlashVault;[J)I" } : MethodName)) ∈ gW := gW_3 216 rfl rfl
theorem w_10_48 : (Cond.methodLink "FlashVaultLaw" (142 : Nat) ({ cls := "FlashVaultModel", name := "begin", desc := "()I" } : MethodName)) ∈ gW := gW_10 48 rfl rfl
theorem w_3_236 : (Cond.methodLink "FlashVaultLaw" (143 : Nat) ({ cls := "FlashVaultLaw", name := "put", desc := "(LFlashVault;II[J)I" } : MethodName)) ∈ gW := gW_3 236 rfl rfl
theorem w_10_52 : (Cond.methodLink "FlashVaultLaw" (145 : Nat) ({ cls := "FlashVaultModel", name := "put", desc := "(II)I" } : MethodName)) ∈ gW := gW_10 52 rfl rfl
theorem w_4_109 : (Cond.methodLink "FlashVaultLaw" (146 : Nat) ({ cls := "FlashVaultLaw", name := "delete", desc := "(LFlashVault;I[J)I" } : MethodName)) ∈ gW := gW_4 109 rfl rfl
theorem w_10_72 : (Cond.methodLink "FlashVaultLaw" (148 : Nat) ({ cls := "FlashVaultModel", name := "delete", desc := "(I)I" } : MethodName)) ∈ gW := gW_10 72 rfl rfl
theorem w_4_116 : (Cond.methodLink "FlashVaultLaw" (149 : Nat) ({ cls := "FlashVaultLaw", name := "get", desc := "(LFlashVault;I[J)I" } : MethodName)) ∈ gW := gW_4 116 rfl rfl
theorem w_10_76 : (Cond.methodLink "FlashVaultLaw" (151 : Nat) ({ cls := "FlashVaultModel", name := "get", desc := "(I)I" } : MethodName)) ∈ gW := gW_10 76 rfl rfl
theorem w_4_183 : (Cond.methodLink "FlashVaultLaw" (152 : Nat) ({ cls := "FlashVaultLaw", name := "seek", desc := "(LFlashVault;IZ[J)I" } : MethodName)) ∈ gW := gW_4 183 rfl rfl
theorem w_10_88 : (Cond.methodLink "FlashVaultLaw" (155 : Nat) ({ cls := "FlashVaultModel", name := "seek", desc := "(IZ)I" } : MethodName)) ∈ gW := gW_10 88 rfl rfl
theorem w_4_218 : (Cond.methodLink "FlashVaultLaw" (156 : Nat) ({ cls := "FlashVaultLaw", name := "commit", desc := "(LFlashVault;I[J)I" } : MethodName)) ∈ gW := gW_4 218 rfl rfl
theorem w_10_100 : (Cond.methodLink "FlashVaultLaw" (158 : Nat) ({ cls := "FlashVaultModel", name := "commit", desc := "(I)I" } : MethodName)) ∈ gW := gW_10 100 rfl rfl
theorem w_7_126 : (Cond.methodLink "FlashVaultLaw" (159 : Nat) ({ cls := "FlashVaultLaw", name := "abort", desc := "(LFlashVault;I[J)I" } : MethodName)) ∈ gW := gW_7 126 rfl rfl
theorem w_10_116 : (Cond.methodLink "FlashVaultLaw" (161 : Nat) ({ cls := "FlashVaultModel", name := "abort", desc := "(I)I" } : MethodName)) ∈ gW := gW_10 116 rfl rfl
theorem w_7_133 : (Cond.methodLink "FlashVaultLaw" (162 : Nat) ({ cls := "FlashVaultLaw", name := "flush", desc := "(LFlashVault;[J)I" } : MethodName)) ∈ gW := gW_7 133 rfl rfl
theorem w_10_20 : (Cond.methodLink "FlashVaultLaw" (164 : Nat) ({ cls := "FlashVaultModel", name := "flush", desc := "()I" } : MethodName)) ∈ gW := gW_10 20 rfl rfl
theorem w_7_145 : (Cond.methodLink "FlashVaultLaw" (165 : Nat) ({ cls := "FlashVaultLaw", name := "compact", desc := "(LFlashVault;Z[J)I" } : MethodName)) ∈ gW := gW_7 145 rfl rfl
theorem w_10_36 : (Cond.methodLink "FlashVaultLaw" (168 : Nat) ({ cls := "FlashVaultModel", name := "compact", desc := "(Z)I" } : MethodName)) ∈ gW := gW_10 36 rfl rfl
theorem w_7_162 : (Cond.methodLink "FlashVaultLaw" (169 : Nat) ({ cls := "FlashVaultLaw", name := "collect", desc := "(LFlashVault;[J)I" } : MethodName)) ∈ gW := gW_7 162 rfl rfl
theorem w_10_40 : (Cond.methodLink "FlashVaultLaw" (171 : Nat) ({ cls := "FlashVaultModel", name := "collect", desc := "()I" } : MethodName)) ∈ gW := gW_10 40 rfl rfl
theorem w_7_195 : (Cond.methodLink "FlashVaultLaw" (172 : Nat) ({ cls := "FlashVaultLaw", name := "cut", desc := "(LFlashVault;ZII[J)I" } : MethodName)) ∈ gW := gW_7 195 rfl rfl
theorem w_9_228 : (Cond.methodLink "FlashVaultLaw" (175 : Nat) ({ cls := "FlashVaultModel", name := "cut", desc := "(ZII)I" } : MethodName)) ∈ gW := gW_9 228 rfl rfl
theorem w_7_202 : (Cond.methodLink "FlashVaultLaw" (176 : Nat) ({ cls := "FlashVaultLaw", name := "mount", desc := "(LFlashVault;[J)I" } : MethodName)) ∈ gW := gW_7 202 rfl rfl
theorem w_9_232 : (Cond.methodLink "FlashVaultLaw" (178 : Nat) ({ cls := "FlashVaultModel", name := "mount", desc := "()I" } : MethodName)) ∈ gW := gW_9 232 rfl rfl
theorem w_8_36 : (Cond.methodLink "FlashVaultLaw" (179 : Nat) ({ cls := "FlashVaultLaw", name := "word", desc := "(LFlashVault;I[J)I" } : MethodName)) ∈ gW := gW_8 36 rfl rfl
theorem w_9_223 : (Cond.methodLink "FlashVaultLaw" (181 : Nat) ({ cls := "FlashVaultModel", name := "word", desc := "(I)J" } : MethodName)) ∈ gW := gW_9 223 rfl rfl
theorem w_8_48 : (Cond.methodLink "FlashVaultLaw" (182 : Nat) ({ cls := "FlashVaultLaw", name := "count", desc := "(LFlashVault;I[J)I" } : MethodName)) ∈ gW := gW_8 48 rfl rfl
theorem w_10_120 : (Cond.methodLink "FlashVaultLaw" (184 : Nat) ({ cls := "FlashVaultModel", name := "count", desc := "(I)I" } : MethodName)) ∈ gW := gW_10 120 rfl rfl
theorem w_8_63 : (Cond.methodLink "FlashVaultLaw" (185 : Nat) ({ cls := "FlashVaultLaw", name := "faults", desc := "(LFlashVault;I[J)I" } : MethodName)) ∈ gW := gW_8 63 rfl rfl
theorem w_10_44 : (Cond.methodLink "FlashVaultLaw" (187 : Nat) ({ cls := "FlashVaultModel", name := "faults", desc := "(I)I" } : MethodName)) ∈ gW := gW_10 44 rfl rfl
theorem w_8_70 : (Cond.methodLink "FlashVaultLaw" (188 : Nat) ({ cls := "FlashVaultLaw", name := "check", desc := "(LFlashVault;[J)I" } : MethodName)) ∈ gW := gW_8 70 rfl rfl
theorem w_10_132 : (Cond.methodLink "FlashVaultLaw" (190 : Nat) ({ cls := "FlashVaultModel", name := "check", desc := "()I" } : MethodName)) ∈ gW := gW_10 132 rfl rfl
theorem w_8_122 : (Cond.methodLink "FlashVaultLaw" (191 : Nat) ({ cls := "FlashVaultLaw", name := "make", desc := "(LFlashVault;IZ[J)I" } : MethodName)) ∈ gW := gW_8 122 rfl rfl
theorem w_10_136 : (Cond.methodLink "FlashVaultLaw" (193 : Nat) ({ cls := "FlashVaultModel", name := "make", desc := "(IZ)I" } : MethodName)) ∈ gW := gW_10 136 rfl rfl
theorem w_8_170 : (Cond.methodLink "FlashVaultLaw" (194 : Nat) ({ cls := "FlashVaultLaw", name := "remove", desc := "(LFlashVault;I[J)I" } : MethodName)) ∈ gW := gW_8 170 rfl rfl
theorem w_10_164 : (Cond.methodLink "FlashVaultLaw" (196 : Nat) ({ cls := "FlashVaultModel", name := "remove", desc := "(I)I" } : MethodName)) ∈ gW := gW_10 164 rfl rfl
theorem w_8_203 : (Cond.methodLink "FlashVaultLaw" (197 : Nat) ({ cls := "FlashVaultLaw", name := "rename", desc := "(LFlashVault;III[J)I" } : MethodName)) ∈ gW := gW_8 203 rfl rfl
theorem w_10_188 : (Cond.methodLink "FlashVaultLaw" (200 : Nat) ({ cls := "FlashVaultModel", name := "rename", desc := "(III)I" } : MethodName)) ∈ gW := gW_10 188 rfl rfl
theorem w_8_217 : (Cond.methodLink "FlashVaultLaw" (201 : Nat) ({ cls := "FlashVaultLaw", name := "find", desc := "(LFlashVault;[J)I" } : MethodName)) ∈ gW := gW_8 217 rfl rfl
theorem w_10_204 : (Cond.methodLink "FlashVaultLaw" (203 : Nat) ({ cls := "FlashVaultModel", name := "find", desc := "()I" } : MethodName)) ∈ gW := gW_10 204 rfl rfl
theorem w_8_224 : (Cond.methodLink "FlashVaultLaw" (204 : Nat) ({ cls := "FlashVaultLaw", name := "write", desc := "(LFlashVault;II[J)I" } : MethodName)) ∈ gW := gW_8 224 rfl rfl
theorem w_10_208 : (Cond.methodLink "FlashVaultLaw" (206 : Nat) ({ cls := "FlashVaultModel", name := "write", desc := "(II)I" } : MethodName)) ∈ gW := gW_10 208 rfl rfl
theorem w_9_21 : (Cond.methodLink "FlashVaultLaw" (207 : Nat) ({ cls := "FlashVaultLaw", name := "read", desc := "(LFlashVault;III[J)I" } : MethodName)) ∈ gW := gW_9 21 rfl rfl
theorem w_10_224 : (Cond.methodLink "FlashVaultLaw" (209 : Nat) ({ cls := "FlashVaultModel", name := "read", desc := "(III)I" } : MethodName)) ∈ gW := gW_10 224 rfl rfl
theorem w_9_32 : (Cond.methodLink "FlashVaultLaw" (210 : Nat) ({ cls := "FlashVaultLaw", name := "resize", desc := "(LFlashVault;II[J)I" } : MethodName)) ∈ gW := gW_9 32 rfl rfl
theorem w_10_232 : (Cond.methodLink "FlashVaultLaw" (212 : Nat) ({ cls := "FlashVaultModel", name := "resize", desc := "(II)I" } : MethodName)) ∈ gW := gW_10 232 rfl rfl
theorem w_9_43 : (Cond.methodLink "FlashVaultLaw" (213 : Nat) ({ cls := "FlashVaultLaw", name := "list", desc := "(LFlashVault;II[J)I" } : MethodName)) ∈ gW := gW_9 43 rfl rfl
theorem w_10_236 : (Cond.methodLink "FlashVaultLaw" (215 : Nat) ({ cls := "FlashVaultModel", name := "list", desc := "(II)I" } : MethodName)) ∈ gW := gW_10 236 rfl rfl
theorem w_9_58 : (Cond.methodLink "FlashVaultLaw" (216 : Nat) ({ cls := "FlashVaultLaw", name := "about", desc := "(LFlashVault;II[J)I" } : MethodName)) ∈ gW := gW_9 58 rfl rfl
theorem w_11_0 : (Cond.methodLink "FlashVaultLaw" (218 : Nat) ({ cls := "FlashVaultModel", name := "about", desc := "(II)I" } : MethodName)) ∈ gW := gW_11 0 rfl rfl
theorem w_9_75 : (Cond.methodLink "FlashVaultModel" (1 : Nat) ({ cls := "java/lang/Object", name := "<init>", desc := "()V" } : MethodName)) ∈ gW := gW_9 75 rfl rfl
theorem w_9_207 : (Cond.methodLink "FlashVaultModel" (109 : Nat) ({ cls := "FlashVaultModel", name := "fail", desc := "(I)I" } : MethodName)) ∈ gW := gW_9 207 rfl rfl
theorem w_9_215 : (Cond.methodLink "FlashVaultModel" (116 : Nat) ({ cls := "FlashVaultModel", name := "out", desc := "(II)Z" } : MethodName)) ∈ gW := gW_9 215 rfl rfl
theorem w_9_236 : (Cond.methodLink "FlashVaultModel" (128 : Nat) ({ cls := "FlashVaultModel", name := "fall", desc := "()V" } : MethodName)) ∈ gW := gW_9 236 rfl rfl
theorem w_10_0 : (Cond.methodLink "FlashVaultModel" (134 : Nat) ({ cls := "FlashVaultModel", name := "prune", desc := "()V" } : MethodName)) ∈ gW := gW_10 0 rfl rfl
theorem w_10_16 : (Cond.methodLink "FlashVaultModel" (137 : Nat) ({ cls := "FlashVaultModel", name := "cutNow", desc := "(I)Z" } : MethodName)) ∈ gW := gW_10 16 rfl rfl
theorem w_10_28 : (Cond.methodLink "FlashVaultModel" (144 : Nat) ({ cls := "FlashVaultModel", name := "needed", desc := "(I)I" } : MethodName)) ∈ gW := gW_10 28 rfl rfl
theorem w_10_24 : (Cond.methodLink "FlashVaultModel" (147 : Nat) ({ cls := "FlashVaultModel", name := "maintained", desc := "()I" } : MethodName)) ∈ gW := gW_10 24 rfl rfl
theorem w_10_12 : (Cond.methodLink "FlashVaultModel" (154 : Nat) ({ cls := "FlashVaultModel", name := "compare", desc := "([BII[BII)I" } : MethodName)) ∈ gW := gW_10 12 rfl rfl
theorem w_10_8 : (Cond.methodLink "FlashVaultModel" (158 : Nat) ({ cls := "FlashVaultModel", name := "standsAt", desc := "(II)Z" } : MethodName)) ∈ gW := gW_10 8 rfl rfl
theorem w_10_32 : (Cond.methodLink "FlashVaultModel" (164 : Nat) ({ cls := "FlashVaultModel", name := "filesTake", desc := "()I" } : MethodName)) ∈ gW := gW_10 32 rfl rfl
theorem w_10_4 : (Cond.methodLink "FlashVaultModel" (167 : Nat) ({ cls := "FlashVaultModel", name := "weight", desc := "(II)I" } : MethodName)) ∈ gW := gW_10 4 rfl rfl
theorem w_10_64 : (Cond.methodLink "FlashVaultModel" (174 : Nat) ({ cls := "FlashVaultModel", name := "rowBytes", desc := "(I)I" } : MethodName)) ∈ gW := gW_10 64 rfl rfl
theorem w_10_60 : (Cond.methodLink "FlashVaultModel" (177 : Nat) ({ cls := "FlashVaultModel", name := "rowOf", desc := "(I[BII)I" } : MethodName)) ∈ gW := gW_10 60 rfl rfl
theorem w_10_68 : (Cond.methodLink "FlashVaultModel" (181 : Nat) ({ cls := "FlashVaultModel", name := "takeOut", desc := "(II)V" } : MethodName)) ∈ gW := gW_10 68 rfl rfl
theorem w_10_56 : (Cond.methodLink "FlashVaultModel" (185 : Nat) ({ cls := "FlashVaultModel", name := "enter", desc := "(III)I" } : MethodName)) ∈ gW := gW_10 56 rfl rfl
theorem w_10_84 : (Cond.methodLink "FlashVaultModel" (189 : Nat) ({ cls := "FlashVaultModel", name := "versionAt", desc := "([BIII)I" } : MethodName)) ∈ gW := gW_10 84 rfl rfl
theorem w_10_80 : (Cond.methodLink "FlashVaultModel" (193 : Nat) ({ cls := "FlashVaultModel", name := "tell", desc := "(I[BIIZ)I" } : MethodName)) ∈ gW := gW_10 80 rfl rfl
theorem w_10_92 : (Cond.methodLink "FlashVaultModel" (197 : Nat) ({ cls := "FlashVaultModel", name := "better", desc := "([BIIIZ)Z" } : MethodName)) ∈ gW := gW_10 92 rfl rfl
theorem w_10_96 : (Cond.methodLink "FlashVaultModel" (201 : Nat) ({ cls := "FlashVaultModel", name := "take", desc := "([BII)V" } : MethodName)) ∈ gW := gW_10 96 rfl rfl
theorem w_10_104 : (Cond.methodLink "FlashVaultModel" (205 : Nat) ({ cls := "FlashVaultModel", name := "collides", desc := "(I)Z" } : MethodName)) ∈ gW := gW_10 104 rfl rfl
theorem w_10_108 : (Cond.methodLink "FlashVaultModel" (208 : Nat) ({ cls := "FlashVaultModel", name := "apply", desc := "(I)V" } : MethodName)) ∈ gW := gW_10 108 rfl rfl
theorem w_10_112 : (Cond.methodLink "FlashVaultModel" (212 : Nat) ({ cls := "FlashVaultModel", name := "takeBack", desc := "(II)V" } : MethodName)) ∈ gW := gW_10 112 rfl rfl
theorem w_10_124 : (Cond.methodLink "FlashVaultModel" (215 : Nat) ({ cls := "FlashVaultModel", name := "keys", desc := "()I" } : MethodName)) ∈ gW := gW_10 124 rfl rfl
theorem w_10_128 : (Cond.methodLink "FlashVaultModel" (218 : Nat) ({ cls := "FlashVaultModel", name := "numbers", desc := "()I" } : MethodName)) ∈ gW := gW_10 128 rfl rfl
theorem w_10_184 : (Cond.methodLink "FlashVaultModel" (224 : Nat) ({ cls := "FlashVaultModel", name := "keep", desc := "(II)V" } : MethodName)) ∈ gW := gW_10 184 rfl rfl
theorem w_10_180 : (Cond.methodLink "FlashVaultModel" (227 : Nat) ({ cls := "FlashVaultModel", name := "dropPiece", desc := "(I)V" } : MethodName)) ∈ gW := gW_10 180 rfl rfl
theorem w_10_176 : (Cond.methodLink "FlashVaultModel" (230 : Nat) ({ cls := "FlashVaultModel", name := "cutOff", desc := "(II)V" } : MethodName)) ∈ gW := gW_10 176 rfl rfl
theorem w_10_140 : (Cond.methodLink "FlashVaultModel" (233 : Nat) ({ cls := "FlashVaultModel", name := "named", desc := "(II)Z" } : MethodName)) ∈ gW := gW_10 140 rfl rfl
theorem w_10_144 : (Cond.methodLink "FlashVaultModel" (236 : Nat) ({ cls := "FlashVaultModel", name := "directory", desc := "(I)Z" } : MethodName)) ∈ gW := gW_10 144 rfl rfl
theorem w_10_148 : (Cond.methodLink "FlashVaultModel" (239 : Nat) ({ cls := "FlashVaultModel", name := "child", desc := "(III)I" } : MethodName)) ∈ gW := gW_10 148 rfl rfl
theorem w_10_152 : (Cond.methodLink "FlashVaultModel" (242 : Nat) ({ cls := "FlashVaultModel", name := "lost", desc := "(I)Z" } : MethodName)) ∈ gW := gW_10 152 rfl rfl
theorem w_10_156 : (Cond.methodLink "FlashVaultModel" (245 : Nat) ({ cls := "FlashVaultModel", name := "name", desc := "(IIII)V" } : MethodName)) ∈ gW := gW_10 156 rfl rfl
theorem w_10_160 : (Cond.methodLink "FlashVaultModel" (249 : Nat) ({ cls := "FlashVaultModel", name := "changed", desc := "(II)I" } : MethodName)) ∈ gW := gW_10 160 rfl rfl
theorem w_10_168 : (Cond.methodLink "FlashVaultModel" (252 : Nat) ({ cls := "FlashVaultModel", name := "childCount", desc := "(I)I" } : MethodName)) ∈ gW := gW_10 168 rfl rfl
theorem w_10_172 : (Cond.methodLink "FlashVaultModel" (255 : Nat) ({ cls := "FlashVaultModel", name := "forget", desc := "(I)V" } : MethodName)) ∈ gW := gW_10 172 rfl rfl
theorem w_10_192 : (Cond.methodLink "FlashVaultModel" (258 : Nat) ({ cls := "FlashVaultModel", name := "least", desc := "(II)I" } : MethodName)) ∈ gW := gW_10 192 rfl rfl
theorem w_10_196 : (Cond.methodLink "FlashVaultModel" (261 : Nat) ({ cls := "FlashVaultModel", name := "inside", desc := "(II)Z" } : MethodName)) ∈ gW := gW_10 196 rfl rfl
theorem w_10_200 : (Cond.methodLink "FlashVaultModel" (264 : Nat) ({ cls := "FlashVaultModel", name := "weightOf", desc := "(I)I" } : MethodName)) ∈ gW := gW_10 200 rfl rfl
theorem w_10_216 : (Cond.methodLink "FlashVaultModel" (267 : Nat) ({ cls := "FlashVaultModel", name := "piece", desc := "(II)I" } : MethodName)) ∈ gW := gW_10 216 rfl rfl
theorem w_10_212 : (Cond.methodLink "FlashVaultModel" (270 : Nat) ({ cls := "FlashVaultModel", name := "growth", desc := "(III)I" } : MethodName)) ∈ gW := gW_10 212 rfl rfl
theorem w_10_220 : (Cond.methodLink "FlashVaultModel" (273 : Nat) ({ cls := "FlashVaultModel", name := "lay", desc := "(III)V" } : MethodName)) ∈ gW := gW_10 220 rfl rfl
theorem w_10_228 : (Cond.methodLink "FlashVaultModel" (277 : Nat) ({ cls := "FlashVaultModel", name := "byteOf", desc := "(II)I" } : MethodName)) ∈ gW := gW_10 228 rfl rfl
theorem w_5_128 : (Cond.methodLink "java/util/Arrays" (13 : Nat) ({ cls := "java/util/Arrays", name := "rangeCheck", desc := "(III)V" } : MethodName)) ∈ gW := gW_5 128 rfl rfl
theorem w_5_203 : (Cond.methodLink "java/util/Arrays" (150 : Nat) ({ cls := "java/lang/System", name := "arraycopy", desc := "(Ljava/lang/Object;ILjava/lang/Object;II)V" } : MethodName)) ∈ gW := gW_5 203 rfl rfl
theorem w_5_202 : (Cond.methodLink "java/util/Arrays" (304 : Nat) ({ cls := "java/lang/Math", name := "min", desc := "(II)I" } : MethodName)) ∈ gW := gW_5 202 rfl rfl
def flT_0 : List (Nat × Nat × Nat × Nat × Bool × Nat) := [(11, 14, 11, 1, true, 2), (11, 18, 11, 2, true, 2), (11, 21, 11, 3, true, 2), (11, 27, 11, 4, true, 2), (11, 34, 11, 5, true, 2), (11, 41, 11, 6, true, 2), (11, 45, 11, 12, false, 0), (11, 49, 11, 13, false, 1), (11, 53, 11, 14, false, 1), (11, 56, 11, 15, false, 1), (11, 59, 11, 16, false, 0), (11, 62, 11, 17, false, 0), (11, 65, 11, 0, true, 0), (11, 71, 11, 7, true, 2), (11, 80, 11, 8, true, 2), (11, 89, 11, 9, true, 2), (11, 98, 11, 10, true, 2), (11, 107, 11, 11, true, 2), (11, 120, 5, 1, false, 0), (11, 223, 0, 5, false, 0), (11, 298, 9, 5, false, 0), (11, 301, 1, 4, false, 0), (11, 304, 4, 8, false, 0), (11, 307, 4, 9, false, 0), (11, 310, 8, 9, false, 0), (11, 313, 3, 16, false, 0), (11, 316, 3, 17, false, 0), (11, 509, 10, 9, false, 0), (11, 544, 10, 11, false, 0), (11, 557, 3, 11, false, 0), (0, 9, 0, 0, true, 2), (0, 15, 0, 1, true, 2), (0, 19, 0, 2, true, 2), (0, 22, 0, 3, true, 2), (0, 25, 0, 4, true, 2), (0, 28, 0, 5, false, 0), (0, 32, 0, 6, false, 0), (1, 9, 1, 2, false, 0), (1, 15, 1, 3, false, 0), (1, 18, 1, 4, false, 0), (1, 27, 1, 0, true, 2), (1, 31, 1, 1, true, 2), (2, 9, 2, 1, true, 2), (2, 15, 2, 2, false, 2), (2, 19, 2, 3, false, 0), (2, 23, 2, 4, false, 0), (2, 26, 2, 5, false, 0), (2, 29, 2, 6, false, 0), (2, 32, 2, 7, false, 0), (2, 35, 2, 8, false, 1), (2, 39, 2, 0, true, 2), (2, 43, 6, 3, false, 0), (3, 11, 3, 4, true, 2), (3, 17, 3, 5, true, 2), (3, 21, 3, 6, false, 0), (3, 25, 3, 7, false, 0), (3, 28, 3, 8, false, 0), (3, 31, 3, 9, false, 1), (3, 35, 3, 10, false, 0), (3, 38, 3, 11, false, 0)]
theorem flT_0_ok : allP flP flT_0 := ⟨⟨_, _, _, _, F_FV_14, rfl, (fun _ => rfl), Or.inr (Or.inr ⟨rfl, Or.inl ⟨_, rfl⟩⟩)⟩, ⟨_, _, _, _, F_FV_18, rfl, (fun _ => rfl), Or.inr (Or.inr ⟨rfl, Or.inl ⟨_, rfl⟩⟩)⟩, ⟨_, _, _, _, F_FV_21, rfl, (fun _ => rfl), Or.inr (Or.inr ⟨rfl, Or.inl ⟨_, rfl⟩⟩)⟩, ⟨_, _, _, _, F_FV_27, rfl, (fun _ => rfl), Or.inr (Or.inr ⟨rfl, Or.inl ⟨_, rfl⟩⟩)⟩, ⟨_, _, _, _, F_FV_34, rfl, (fun _ => rfl), Or.inr (Or.inr ⟨rfl, Or.inl ⟨_, rfl⟩⟩)⟩, ⟨_, _, _, _, F_FV_41, rfl, (fun _ => rfl), Or.inr (Or.inr ⟨rfl, Or.inl ⟨_, rfl⟩⟩)⟩, ⟨_, _, _, _, F_FV_45, rfl, (fun h => absurd h Bool.false_ne_true), Or.inl ⟨rfl, rfl⟩⟩, ⟨_, _, _, _, F_FV_49, rfl, (fun h => absurd h Bool.false_ne_true), Or.inr (Or.inl ⟨rfl, rfl⟩)⟩, ⟨_, _, _, _, F_FV_53, rfl, (fun h => absurd h Bool.false_ne_true), Or.inr (Or.inl ⟨rfl, rfl⟩)⟩, ⟨_, _, _, _, F_FV_56, rfl, (fun h => absurd h Bool.false_ne_true), Or.inr (Or.inl ⟨rfl, rfl⟩)⟩, ⟨_, _, _, _, F_FV_59, rfl, (fun h => absurd h Bool.false_ne_true), Or.inl ⟨rfl, rfl⟩⟩, ⟨_, _, _, _, F_FV_62, rfl, (fun h => absurd h Bool.false_ne_true), Or.inl ⟨rfl, rfl⟩⟩, ⟨_, _, _, _, F_FV_65, rfl, (fun _ => rfl), Or.inl ⟨rfl, rfl⟩⟩, ⟨_, _, _, _, F_FV_71, rfl, (fun _ => rfl), Or.inr (Or.inr ⟨rfl, Or.inl ⟨_, rfl⟩⟩)⟩, ⟨_, _, _, _, F_FV_80, rfl, (fun _ => rfl), Or.inr (Or.inr ⟨rfl, Or.inl ⟨_, rfl⟩⟩)⟩, ⟨_, _, _, _, F_FV_89, rfl, (fun _ => rfl), Or.inr (Or.inr ⟨rfl, Or.inl ⟨_, rfl⟩⟩)⟩, ⟨_, _, _, _, F_FV_98, rfl, (fun _ => rfl), Or.inr (Or.inr ⟨rfl, Or.inl ⟨_, rfl⟩⟩)⟩, ⟨_, _, _, _, F_FV_107, rfl, (fun _ => rfl), Or.inr (Or.inr ⟨rfl, Or.inl ⟨_, rfl⟩⟩)⟩, ⟨_, _, _, _, F_FV_120, rfl, (fun h => absurd h Bool.false_ne_true), Or.inl ⟨rfl, rfl⟩⟩, ⟨_, _, _, _, F_FV_223, rfl, (fun h => absurd h Bool.false_ne_true), Or.inl ⟨rfl, rfl⟩⟩, ⟨_, _, _, _, F_FV_298, rfl, (fun h => absurd h Bool.false_ne_true), Or.inl ⟨rfl, rfl⟩⟩, ⟨_, _, _, _, F_FV_301, rfl, (fun h => absurd h Bool.false_ne_true), Or.inl ⟨rfl, rfl⟩⟩, ⟨_, _, _, _, F_FV_304, rfl, (fun h => absurd h Bool.false_ne_true), Or.inl ⟨rfl, rfl⟩⟩, ⟨_, _, _, _, F_FV_307, rfl, (fun h => absurd h Bool.false_ne_true), Or.inl ⟨rfl, rfl⟩⟩, ⟨_, _, _, _, F_FV_310, rfl, (fun h => absurd h Bool.false_ne_true), Or.inl ⟨rfl, rfl⟩⟩, ⟨_, _, _, _, F_FV_313, rfl, (fun h => absurd h Bool.false_ne_true), Or.inl ⟨rfl, rfl⟩⟩, ⟨_, _, _, _, F_FV_316, rfl, (fun h => absurd h Bool.false_ne_true), Or.inl ⟨rfl, rfl⟩⟩, ⟨_, _, _, _, F_FV_509, rfl, (fun h => absurd h Bool.false_ne_true), Or.inl ⟨rfl, rfl⟩⟩, ⟨_, _, _, _, F_FV_544, rfl, (fun h => absurd h Bool.false_ne_true), Or.inl ⟨rfl, rfl⟩⟩, ⟨_, _, _, _, F_FV_557, rfl, (fun h => absurd h Bool.false_ne_true), Or.inl ⟨rfl, rfl⟩⟩, ⟨_, _, _, _, F_Batch_9, rfl, (fun _ => rfl), Or.inr (Or.inr ⟨rfl, Or.inr ⟨_, rfl⟩⟩)⟩, ⟨_, _, _, _, F_Batch_15, rfl, (fun _ => rfl), Or.inr (Or.inr ⟨rfl, Or.inr ⟨_, rfl⟩⟩)⟩, ⟨_, _, _, _, F_Batch_19, rfl, (fun _ => rfl), Or.inr (Or.inr ⟨rfl, Or.inr ⟨_, rfl⟩⟩)⟩, ⟨_, _, _, _, F_Batch_22, rfl, (fun _ => rfl), Or.inr (Or.inr ⟨rfl, Or.inr ⟨_, rfl⟩⟩)⟩, ⟨_, _, _, _, F_Batch_25, rfl, (fun _ => rfl), Or.inr (Or.inr ⟨rfl, Or.inr ⟨_, rfl⟩⟩)⟩, ⟨_, _, _, _, F_Batch_28, rfl, (fun h => absurd h Bool.false_ne_true), Or.inl ⟨rfl, rfl⟩⟩, ⟨_, _, _, _, F_Batch_32, rfl, (fun h => absurd h Bool.false_ne_true), Or.inl ⟨rfl, rfl⟩⟩, ⟨_, _, _, _, F_Chip_9, rfl, (fun h => absurd h Bool.false_ne_true), Or.inl ⟨rfl, rfl⟩⟩, ⟨_, _, _, _, F_Chip_15, rfl, (fun h => absurd h Bool.false_ne_true), Or.inl ⟨rfl, rfl⟩⟩, ⟨_, _, _, _, F_Chip_18, rfl, (fun h => absurd h Bool.false_ne_true), Or.inl ⟨rfl, rfl⟩⟩, ⟨_, _, _, _, F_Chip_27, rfl, (fun _ => rfl), Or.inr (Or.inr ⟨rfl, Or.inr ⟨_, rfl⟩⟩)⟩, ⟨_, _, _, _, F_Chip_31, rfl, (fun _ => rfl), Or.inr (Or.inr ⟨rfl, Or.inr ⟨_, rfl⟩⟩)⟩, ⟨_, _, _, _, F_Cursor_9, rfl, (fun _ => rfl), Or.inr (Or.inr ⟨rfl, Or.inr ⟨_, rfl⟩⟩)⟩, ⟨_, _, _, _, F_Cursor_15, rfl, (fun h => absurd h Bool.false_ne_true), Or.inr (Or.inr ⟨rfl, Or.inl ⟨_, rfl⟩⟩)⟩, ⟨_, _, _, _, F_Cursor_19, rfl, (fun h => absurd h Bool.false_ne_true), Or.inl ⟨rfl, rfl⟩⟩, ⟨_, _, _, _, F_Cursor_23, rfl, (fun h => absurd h Bool.false_ne_true), Or.inl ⟨rfl, rfl⟩⟩, ⟨_, _, _, _, F_Cursor_26, rfl, (fun h => absurd h Bool.false_ne_true), Or.inl ⟨rfl, rfl⟩⟩, ⟨_, _, _, _, F_Cursor_29, rfl, (fun h => absurd h Bool.false_ne_true), Or.inl ⟨rfl, rfl⟩⟩, ⟨_, _, _, _, F_Cursor_32, rfl, (fun h => absurd h Bool.false_ne_true), Or.inl ⟨rfl, rfl⟩⟩, ⟨_, _, _, _, F_Cursor_35, rfl, (fun h => absurd h Bool.false_ne_true), Or.inr (Or.inl ⟨rfl, rfl⟩)⟩, ⟨_, _, _, _, F_Cursor_39, rfl, (fun _ => rfl), Or.inr (Or.inr ⟨rfl, Or.inl ⟨_, rfl⟩⟩)⟩, ⟨_, _, _, _, F_Cursor_43, rfl, (fun h => absurd h Bool.false_ne_true), Or.inl ⟨rfl, rfl⟩⟩, ⟨_, _, _, _, F_Layout_11, rfl, (fun _ => rfl), Or.inr (Or.inr ⟨rfl, Or.inr ⟨_, rfl⟩⟩)⟩, ⟨_, _, _, _, F_Layout_17, rfl, (fun _ => rfl), Or.inr (Or.inr ⟨rfl, Or.inr ⟨_, rfl⟩⟩)⟩, ⟨_, _, _, _, F_Layout_21, rfl, (fun h => absurd h Bool.false_ne_true), Or.inl ⟨rfl, rfl⟩⟩, ⟨_, _, _, _, F_Layout_25, rfl, (fun h => absurd h Bool.false_ne_true), Or.inl ⟨rfl, rfl⟩⟩, ⟨_, _, _, _, F_Layout_28, rfl, (fun h => absurd h Bool.false_ne_true), Or.inl ⟨rfl, rfl⟩⟩, ⟨_, _, _, _, F_Layout_31, rfl, (fun h => absurd h Bool.false_ne_true), Or.inr (Or.inl ⟨rfl, rfl⟩)⟩, ⟨_, _, _, _, F_Layout_35, rfl, (fun h => absurd h Bool.false_ne_true), Or.inl ⟨rfl, rfl⟩⟩, ⟨_, _, _, _, F_Layout_38, rfl, (fun h => absurd h Bool.false_ne_true), Or.inl ⟨rfl, rfl⟩⟩, trivial⟩
def flT_1 : List (Nat × Nat × Nat × Nat × Bool × Nat) := [(3, 41, 3, 12, false, 0), (3, 44, 3, 13, false, 0), (3, 47, 3, 14, false, 0), (3, 50, 3, 15, false, 0), (3, 53, 3, 16, false, 0), (3, 56, 3, 17, false, 0), (3, 65, 3, 0, true, 2), (3, 69, 3, 1, true, 0), (3, 72, 3, 2, true, 2), (3, 76, 3, 3, true, 2), (3, 88, 6, 1, false, 0), (3, 117, 6, 2, false, 0), (3, 120, 6, 4, false, 0), (3, 128, 6, 3, false, 0), (4, 9, 4, 4, true, 2), (4, 15, 4, 5, true, 2), (4, 18, 4, 6, true, 2), (4, 22, 4, 8, false, 0), (4, 26, 4, 9, false, 0), (4, 29, 4, 0, true, 2), (4, 33, 4, 1, true, 2), (4, 37, 4, 2, true, 2), (4, 41, 4, 3, true, 2), (4, 50, 4, 7, true, 2), (4, 53, 0, 5, false, 0), (4, 126, 3, 10, false, 0), (4, 162, 10, 9, false, 0), (4, 185, 3, 6, false, 0), (4, 194, 10, 11, false, 0), (4, 237, 3, 8, false, 0), (4, 240, 3, 7, false, 0), (5, 7, 5, 1, false, 0), (5, 19, 5, 0, true, 2), (6, 9, 6, 0, true, 2), (6, 15, 6, 1, false, 0), (6, 19, 6, 2, false, 0), (6, 22, 6, 3, false, 0), (6, 25, 6, 4, false, 0), (7, 9, 7, 0, true, 2), (7, 15, 7, 1, true, 2), (7, 21, 7, 2, true, 2), (8, 11, 8, 3, true, 2), (8, 22, 8, 4, true, 2), (8, 26, 8, 5, false, 0), (8, 30, 8, 7, true, 2), (8, 34, 8, 8, false, 0), (8, 37, 8, 9, false, 0), (8, 40, 8, 0, true, 2), (8, 44, 8, 1, true, 2), (8, 48, 8, 2, true, 2), (8, 58, 8, 6, true, 2), (8, 101, 10, 9, false, 0), (8, 130, 6, 4, false, 0), (8, 137, 3, 11, false, 0), (8, 167, 6, 2, false, 0), (8, 176, 6, 3, false, 0), (8, 179, 5, 1, false, 0), (8, 190, 2, 5, false, 0), (8, 199, 2, 4, false, 0), (8, 202, 2, 6, false, 0)]
theorem flT_1_ok : allP flP flT_1 := ⟨⟨_, _, _, _, F_Layout_41, rfl, (fun h => absurd h Bool.false_ne_true), Or.inl ⟨rfl, rfl⟩⟩, ⟨_, _, _, _, F_Layout_44, rfl, (fun h => absurd h Bool.false_ne_true), Or.inl ⟨rfl, rfl⟩⟩, ⟨_, _, _, _, F_Layout_47, rfl, (fun h => absurd h Bool.false_ne_true), Or.inl ⟨rfl, rfl⟩⟩, ⟨_, _, _, _, F_Layout_50, rfl, (fun h => absurd h Bool.false_ne_true), Or.inl ⟨rfl, rfl⟩⟩, ⟨_, _, _, _, F_Layout_53, rfl, (fun h => absurd h Bool.false_ne_true), Or.inl ⟨rfl, rfl⟩⟩, ⟨_, _, _, _, F_Layout_56, rfl, (fun h => absurd h Bool.false_ne_true), Or.inl ⟨rfl, rfl⟩⟩, ⟨_, _, _, _, F_Layout_65, rfl, (fun _ => rfl), Or.inr (Or.inr ⟨rfl, Or.inl ⟨_, rfl⟩⟩)⟩, ⟨_, _, _, _, F_Layout_69, rfl, (fun _ => rfl), Or.inl ⟨rfl, rfl⟩⟩, ⟨_, _, _, _, F_Layout_72, rfl, (fun _ => rfl), Or.inr (Or.inr ⟨rfl, Or.inr ⟨_, rfl⟩⟩)⟩, ⟨_, _, _, _, F_Layout_76, rfl, (fun _ => rfl), Or.inr (Or.inr ⟨rfl, Or.inr ⟨_, rfl⟩⟩)⟩, ⟨_, _, _, _, F_Layout_88, rfl, (fun h => absurd h Bool.false_ne_true), Or.inl ⟨rfl, rfl⟩⟩, ⟨_, _, _, _, F_Layout_117, rfl, (fun h => absurd h Bool.false_ne_true), Or.inl ⟨rfl, rfl⟩⟩, ⟨_, _, _, _, F_Layout_120, rfl, (fun h => absurd h Bool.false_ne_true), Or.inl ⟨rfl, rfl⟩⟩, ⟨_, _, _, _, F_Layout_128, rfl, (fun h => absurd h Bool.false_ne_true), Or.inl ⟨rfl, rfl⟩⟩, ⟨_, _, _, _, F_Log_9, rfl, (fun _ => rfl), Or.inr (Or.inr ⟨rfl, Or.inr ⟨_, rfl⟩⟩)⟩, ⟨_, _, _, _, F_Log_15, rfl, (fun _ => rfl), Or.inr (Or.inr ⟨rfl, Or.inr ⟨_, rfl⟩⟩)⟩, ⟨_, _, _, _, F_Log_18, rfl, (fun _ => rfl), Or.inr (Or.inr ⟨rfl, Or.inr ⟨_, rfl⟩⟩)⟩, ⟨_, _, _, _, F_Log_22, rfl, (fun h => absurd h Bool.false_ne_true), Or.inl ⟨rfl, rfl⟩⟩, ⟨_, _, _, _, F_Log_26, rfl, (fun h => absurd h Bool.false_ne_true), Or.inl ⟨rfl, rfl⟩⟩, ⟨_, _, _, _, F_Log_29, rfl, (fun _ => rfl), Or.inr (Or.inr ⟨rfl, Or.inl ⟨_, rfl⟩⟩)⟩, ⟨_, _, _, _, F_Log_33, rfl, (fun _ => rfl), Or.inr (Or.inr ⟨rfl, Or.inl ⟨_, rfl⟩⟩)⟩, ⟨_, _, _, _, F_Log_37, rfl, (fun _ => rfl), Or.inr (Or.inr ⟨rfl, Or.inl ⟨_, rfl⟩⟩)⟩, ⟨_, _, _, _, F_Log_41, rfl, (fun _ => rfl), Or.inr (Or.inr ⟨rfl, Or.inl ⟨_, rfl⟩⟩)⟩, ⟨_, _, _, _, F_Log_50, rfl, (fun _ => rfl), Or.inr (Or.inr ⟨rfl, Or.inr ⟨_, rfl⟩⟩)⟩, ⟨_, _, _, _, F_Log_53, rfl, (fun h => absurd h Bool.false_ne_true), Or.inl ⟨rfl, rfl⟩⟩, ⟨_, _, _, _, F_Log_126, rfl, (fun h => absurd h Bool.false_ne_true), Or.inl ⟨rfl, rfl⟩⟩, ⟨_, _, _, _, F_Log_162, rfl, (fun h => absurd h Bool.false_ne_true), Or.inl ⟨rfl, rfl⟩⟩, ⟨_, _, _, _, F_Log_185, rfl, (fun h => absurd h Bool.false_ne_true), Or.inl ⟨rfl, rfl⟩⟩, ⟨_, _, _, _, F_Log_194, rfl, (fun h => absurd h Bool.false_ne_true), Or.inl ⟨rfl, rfl⟩⟩, ⟨_, _, _, _, F_Log_237, rfl, (fun h => absurd h Bool.false_ne_true), Or.inl ⟨rfl, rfl⟩⟩, ⟨_, _, _, _, F_Log_240, rfl, (fun h => absurd h Bool.false_ne_true), Or.inl ⟨rfl, rfl⟩⟩, ⟨_, _, _, _, F_Row_7, rfl, (fun h => absurd h Bool.false_ne_true), Or.inl ⟨rfl, rfl⟩⟩, ⟨_, _, _, _, F_Row_19, rfl, (fun _ => rfl), Or.inr (Or.inr ⟨rfl, Or.inr ⟨_, rfl⟩⟩)⟩, ⟨_, _, _, _, F_Run_9, rfl, (fun _ => rfl), Or.inr (Or.inr ⟨rfl, Or.inr ⟨_, rfl⟩⟩)⟩, ⟨_, _, _, _, F_Run_15, rfl, (fun h => absurd h Bool.false_ne_true), Or.inl ⟨rfl, rfl⟩⟩, ⟨_, _, _, _, F_Run_19, rfl, (fun h => absurd h Bool.false_ne_true), Or.inl ⟨rfl, rfl⟩⟩, ⟨_, _, _, _, F_Run_22, rfl, (fun h => absurd h Bool.false_ne_true), Or.inl ⟨rfl, rfl⟩⟩, ⟨_, _, _, _, F_Run_25, rfl, (fun h => absurd h Bool.false_ne_true), Or.inl ⟨rfl, rfl⟩⟩, ⟨_, _, _, _, F_Sight_9, rfl, (fun _ => rfl), Or.inr (Or.inr ⟨rfl, Or.inr ⟨_, rfl⟩⟩)⟩, ⟨_, _, _, _, F_Sight_15, rfl, (fun _ => rfl), Or.inr (Or.inr ⟨rfl, Or.inr ⟨_, rfl⟩⟩)⟩, ⟨_, _, _, _, F_Sight_21, rfl, (fun _ => rfl), Or.inr (Or.inr ⟨rfl, Or.inr ⟨_, rfl⟩⟩)⟩, ⟨_, _, _, _, F_Tables_11, rfl, (fun _ => rfl), Or.inr (Or.inr ⟨rfl, Or.inr ⟨_, rfl⟩⟩)⟩, ⟨_, _, _, _, F_Tables_22, rfl, (fun _ => rfl), Or.inr (Or.inr ⟨rfl, Or.inl ⟨_, rfl⟩⟩)⟩, ⟨_, _, _, _, F_Tables_26, rfl, (fun h => absurd h Bool.false_ne_true), Or.inl ⟨rfl, rfl⟩⟩, ⟨_, _, _, _, F_Tables_30, rfl, (fun _ => rfl), Or.inr (Or.inr ⟨rfl, Or.inr ⟨_, rfl⟩⟩)⟩, ⟨_, _, _, _, F_Tables_34, rfl, (fun h => absurd h Bool.false_ne_true), Or.inl ⟨rfl, rfl⟩⟩, ⟨_, _, _, _, F_Tables_37, rfl, (fun h => absurd h Bool.false_ne_true), Or.inl ⟨rfl, rfl⟩⟩, ⟨_, _, _, _, F_Tables_40, rfl, (fun _ => rfl), Or.inr (Or.inr ⟨rfl, Or.inl ⟨_, rfl⟩⟩)⟩, ⟨_, _, _, _, F_Tables_44, rfl, (fun _ => rfl), Or.inr (Or.inr ⟨rfl, Or.inl ⟨_, rfl⟩⟩)⟩, ⟨_, _, _, _, F_Tables_48, rfl, (fun _ => rfl), Or.inr (Or.inr ⟨rfl, Or.inl ⟨_, rfl⟩⟩)⟩, ⟨_, _, _, _, F_Tables_58, rfl, (fun _ => rfl), Or.inr (Or.inr ⟨rfl, Or.inr ⟨_, rfl⟩⟩)⟩, ⟨_, _, _, _, F_Tables_101, rfl, (fun h => absurd h Bool.false_ne_true), Or.inl ⟨rfl, rfl⟩⟩, ⟨_, _, _, _, F_Tables_130, rfl, (fun h => absurd h Bool.false_ne_true), Or.inl ⟨rfl, rfl⟩⟩, ⟨_, _, _, _, F_Tables_137, rfl, (fun h => absurd h Bool.false_ne_true), Or.inl ⟨rfl, rfl⟩⟩, ⟨_, _, _, _, F_Tables_167, rfl, (fun h => absurd h Bool.false_ne_true), Or.inl ⟨rfl, rfl⟩⟩, ⟨_, _, _, _, F_Tables_176, rfl, (fun h => absurd h Bool.false_ne_true), Or.inl ⟨rfl, rfl⟩⟩, ⟨_, _, _, _, F_Tables_179, rfl, (fun h => absurd h Bool.false_ne_true), Or.inl ⟨rfl, rfl⟩⟩, ⟨_, _, _, _, F_Tables_190, rfl, (fun h => absurd h Bool.false_ne_true), Or.inl ⟨rfl, rfl⟩⟩, ⟨_, _, _, _, F_Tables_199, rfl, (fun h => absurd h Bool.false_ne_true), Or.inl ⟨rfl, rfl⟩⟩, ⟨_, _, _, _, F_Tables_202, rfl, (fun h => absurd h Bool.false_ne_true), Or.inl ⟨rfl, rfl⟩⟩, trivial⟩
def flT_2 : List (Nat × Nat × Nat × Nat × Bool × Nat) := [(8, 205, 2, 7, false, 0), (8, 210, 2, 8, false, 1), (8, 242, 2, 3, false, 0), (9, 9, 9, 0, true, 2), (9, 15, 9, 1, true, 2), (9, 18, 9, 2, true, 2), (9, 21, 9, 3, true, 2), (9, 24, 9, 4, true, 2), (9, 28, 9, 5, false, 0), (9, 80, 10, 9, false, 0), (10, 9, 10, 9, false, 0), (10, 15, 10, 10, false, 0), (10, 18, 10, 11, false, 0), (10, 27, 10, 0, true, 2), (10, 31, 10, 1, true, 2), (10, 35, 10, 2, true, 2), (10, 39, 10, 3, true, 2), (10, 42, 10, 4, true, 2), (10, 45, 10, 5, true, 2), (10, 48, 10, 6, true, 2), (10, 52, 10, 7, true, 2), (10, 55, 10, 8, true, 2), (10, 99, 0, 5, false, 0), (12, 7, 12, 5, true, 2), (12, 13, 12, 7, true, 2), (12, 16, 12, 11, true, 2), (12, 20, 12, 12, true, 2), (12, 23, 12, 13, true, 2), (12, 26, 12, 14, true, 2), (12, 29, 12, 15, true, 2), (12, 33, 12, 16, false, 2), (12, 36, 12, 17, false, 2), (12, 39, 12, 19, true, 2), (12, 43, 12, 20, true, 2), (12, 46, 12, 21, true, 2), (12, 49, 12, 22, true, 2), (12, 52, 12, 23, true, 2), (12, 55, 12, 24, true, 2), (12, 58, 12, 25, true, 2), (12, 61, 12, 26, true, 2), (12, 64, 12, 27, true, 2), (12, 67, 12, 28, true, 2), (12, 70, 12, 29, true, 2), (12, 73, 12, 30, true, 2), (12, 76, 12, 31, true, 2), (12, 79, 12, 33, true, 2), (12, 82, 12, 34, true, 2), (12, 85, 12, 35, true, 2), (12, 88, 12, 36, true, 2), (12, 92, 12, 37, true, 2), (12, 95, 12, 38, true, 2), (12, 98, 12, 1, true, 0), (12, 102, 12, 0, false, 0), (12, 105, 12, 2, false, 1), (12, 113, 12, 6, false, 0), (12, 120, 12, 8, false, 0), (12, 125, 12, 3, false, 1), (12, 131, 12, 4, false, 1), (12, 141, 12, 9, false, 0), (12, 151, 12, 10, false, 0)]
theorem flT_2_ok : allP flP flT_2 := ⟨⟨_, _, _, _, F_Tables_205, rfl, (fun h => absurd h Bool.false_ne_true), Or.inl ⟨rfl, rfl⟩⟩, ⟨_, _, _, _, F_Tables_210, rfl, (fun h => absurd h Bool.false_ne_true), Or.inr (Or.inl ⟨rfl, rfl⟩)⟩, ⟨_, _, _, _, F_Tables_242, rfl, (fun h => absurd h Bool.false_ne_true), Or.inl ⟨rfl, rfl⟩⟩, ⟨_, _, _, _, F_Tree_9, rfl, (fun _ => rfl), Or.inr (Or.inr ⟨rfl, Or.inr ⟨_, rfl⟩⟩)⟩, ⟨_, _, _, _, F_Tree_15, rfl, (fun _ => rfl), Or.inr (Or.inr ⟨rfl, Or.inr ⟨_, rfl⟩⟩)⟩, ⟨_, _, _, _, F_Tree_18, rfl, (fun _ => rfl), Or.inr (Or.inr ⟨rfl, Or.inr ⟨_, rfl⟩⟩)⟩, ⟨_, _, _, _, F_Tree_21, rfl, (fun _ => rfl), Or.inr (Or.inr ⟨rfl, Or.inr ⟨_, rfl⟩⟩)⟩, ⟨_, _, _, _, F_Tree_24, rfl, (fun _ => rfl), Or.inr (Or.inr ⟨rfl, Or.inr ⟨_, rfl⟩⟩)⟩, ⟨_, _, _, _, F_Tree_28, rfl, (fun h => absurd h Bool.false_ne_true), Or.inl ⟨rfl, rfl⟩⟩, ⟨_, _, _, _, F_Tree_80, rfl, (fun h => absurd h Bool.false_ne_true), Or.inl ⟨rfl, rfl⟩⟩, ⟨_, _, _, _, F_Versions_9, rfl, (fun h => absurd h Bool.false_ne_true), Or.inl ⟨rfl, rfl⟩⟩, ⟨_, _, _, _, F_Versions_15, rfl, (fun h => absurd h Bool.false_ne_true), Or.inl ⟨rfl, rfl⟩⟩, ⟨_, _, _, _, F_Versions_18, rfl, (fun h => absurd h Bool.false_ne_true), Or.inl ⟨rfl, rfl⟩⟩, ⟨_, _, _, _, F_Versions_27, rfl, (fun _ => rfl), Or.inr (Or.inr ⟨rfl, Or.inl ⟨_, rfl⟩⟩)⟩, ⟨_, _, _, _, F_Versions_31, rfl, (fun _ => rfl), Or.inr (Or.inr ⟨rfl, Or.inr ⟨_, rfl⟩⟩)⟩, ⟨_, _, _, _, F_Versions_35, rfl, (fun _ => rfl), Or.inr (Or.inr ⟨rfl, Or.inr ⟨_, rfl⟩⟩)⟩, ⟨_, _, _, _, F_Versions_39, rfl, (fun _ => rfl), Or.inr (Or.inr ⟨rfl, Or.inr ⟨_, rfl⟩⟩)⟩, ⟨_, _, _, _, F_Versions_42, rfl, (fun _ => rfl), Or.inr (Or.inr ⟨rfl, Or.inr ⟨_, rfl⟩⟩)⟩, ⟨_, _, _, _, F_Versions_45, rfl, (fun _ => rfl), Or.inr (Or.inr ⟨rfl, Or.inr ⟨_, rfl⟩⟩)⟩, ⟨_, _, _, _, F_Versions_48, rfl, (fun _ => rfl), Or.inr (Or.inr ⟨rfl, Or.inr ⟨_, rfl⟩⟩)⟩, ⟨_, _, _, _, F_Versions_52, rfl, (fun _ => rfl), Or.inr (Or.inr ⟨rfl, Or.inr ⟨_, rfl⟩⟩)⟩, ⟨_, _, _, _, F_Versions_55, rfl, (fun _ => rfl), Or.inr (Or.inr ⟨rfl, Or.inr ⟨_, rfl⟩⟩)⟩, ⟨_, _, _, _, F_Versions_99, rfl, (fun h => absurd h Bool.false_ne_true), Or.inl ⟨rfl, rfl⟩⟩, ⟨_, _, _, _, F_MD_7, rfl, (fun _ => rfl), Or.inr (Or.inr ⟨rfl, Or.inr ⟨_, rfl⟩⟩)⟩, ⟨_, _, _, _, F_MD_13, rfl, (fun _ => rfl), Or.inr (Or.inr ⟨rfl, Or.inr ⟨_, rfl⟩⟩)⟩, ⟨_, _, _, _, F_MD_16, rfl, (fun _ => rfl), Or.inr (Or.inr ⟨rfl, Or.inr ⟨_, rfl⟩⟩)⟩, ⟨_, _, _, _, F_MD_20, rfl, (fun _ => rfl), Or.inr (Or.inr ⟨rfl, Or.inr ⟨_, rfl⟩⟩)⟩, ⟨_, _, _, _, F_MD_23, rfl, (fun _ => rfl), Or.inr (Or.inr ⟨rfl, Or.inr ⟨_, rfl⟩⟩)⟩, ⟨_, _, _, _, F_MD_26, rfl, (fun _ => rfl), Or.inr (Or.inr ⟨rfl, Or.inr ⟨_, rfl⟩⟩)⟩, ⟨_, _, _, _, F_MD_29, rfl, (fun _ => rfl), Or.inr (Or.inr ⟨rfl, Or.inr ⟨_, rfl⟩⟩)⟩, ⟨_, _, _, _, F_MD_33, rfl, (fun h => absurd h Bool.false_ne_true), Or.inr (Or.inr ⟨rfl, Or.inr ⟨_, rfl⟩⟩)⟩, ⟨_, _, _, _, F_MD_36, rfl, (fun h => absurd h Bool.false_ne_true), Or.inr (Or.inr ⟨rfl, Or.inr ⟨_, rfl⟩⟩)⟩, ⟨_, _, _, _, F_MD_39, rfl, (fun _ => rfl), Or.inr (Or.inr ⟨rfl, Or.inr ⟨_, rfl⟩⟩)⟩, ⟨_, _, _, _, F_MD_43, rfl, (fun _ => rfl), Or.inr (Or.inr ⟨rfl, Or.inr ⟨_, rfl⟩⟩)⟩, ⟨_, _, _, _, F_MD_46, rfl, (fun _ => rfl), Or.inr (Or.inr ⟨rfl, Or.inr ⟨_, rfl⟩⟩)⟩, ⟨_, _, _, _, F_MD_49, rfl, (fun _ => rfl), Or.inr (Or.inr ⟨rfl, Or.inr ⟨_, rfl⟩⟩)⟩, ⟨_, _, _, _, F_MD_52, rfl, (fun _ => rfl), Or.inr (Or.inr ⟨rfl, Or.inr ⟨_, rfl⟩⟩)⟩, ⟨_, _, _, _, F_MD_55, rfl, (fun _ => rfl), Or.inr (Or.inr ⟨rfl, Or.inr ⟨_, rfl⟩⟩)⟩, ⟨_, _, _, _, F_MD_58, rfl, (fun _ => rfl), Or.inr (Or.inr ⟨rfl, Or.inr ⟨_, rfl⟩⟩)⟩, ⟨_, _, _, _, F_MD_61, rfl, (fun _ => rfl), Or.inr (Or.inr ⟨rfl, Or.inr ⟨_, rfl⟩⟩)⟩, ⟨_, _, _, _, F_MD_64, rfl, (fun _ => rfl), Or.inr (Or.inr ⟨rfl, Or.inr ⟨_, rfl⟩⟩)⟩, ⟨_, _, _, _, F_MD_67, rfl, (fun _ => rfl), Or.inr (Or.inr ⟨rfl, Or.inr ⟨_, rfl⟩⟩)⟩, ⟨_, _, _, _, F_MD_70, rfl, (fun _ => rfl), Or.inr (Or.inr ⟨rfl, Or.inr ⟨_, rfl⟩⟩)⟩, ⟨_, _, _, _, F_MD_73, rfl, (fun _ => rfl), Or.inr (Or.inr ⟨rfl, Or.inr ⟨_, rfl⟩⟩)⟩, ⟨_, _, _, _, F_MD_76, rfl, (fun _ => rfl), Or.inr (Or.inr ⟨rfl, Or.inr ⟨_, rfl⟩⟩)⟩, ⟨_, _, _, _, F_MD_79, rfl, (fun _ => rfl), Or.inr (Or.inr ⟨rfl, Or.inr ⟨_, rfl⟩⟩)⟩, ⟨_, _, _, _, F_MD_82, rfl, (fun _ => rfl), Or.inr (Or.inr ⟨rfl, Or.inr ⟨_, rfl⟩⟩)⟩, ⟨_, _, _, _, F_MD_85, rfl, (fun _ => rfl), Or.inr (Or.inr ⟨rfl, Or.inr ⟨_, rfl⟩⟩)⟩, ⟨_, _, _, _, F_MD_88, rfl, (fun _ => rfl), Or.inr (Or.inr ⟨rfl, Or.inr ⟨_, rfl⟩⟩)⟩, ⟨_, _, _, _, F_MD_92, rfl, (fun _ => rfl), Or.inr (Or.inr ⟨rfl, Or.inr ⟨_, rfl⟩⟩)⟩, ⟨_, _, _, _, F_MD_95, rfl, (fun _ => rfl), Or.inr (Or.inr ⟨rfl, Or.inr ⟨_, rfl⟩⟩)⟩, ⟨_, _, _, _, F_MD_98, rfl, (fun _ => rfl), Or.inl ⟨rfl, rfl⟩⟩, ⟨_, _, _, _, F_MD_102, rfl, (fun h => absurd h Bool.false_ne_true), Or.inl ⟨rfl, rfl⟩⟩, ⟨_, _, _, _, F_MD_105, rfl, (fun h => absurd h Bool.false_ne_true), Or.inr (Or.inl ⟨rfl, rfl⟩)⟩, ⟨_, _, _, _, F_MD_113, rfl, (fun h => absurd h Bool.false_ne_true), Or.inl ⟨rfl, rfl⟩⟩, ⟨_, _, _, _, F_MD_120, rfl, (fun h => absurd h Bool.false_ne_true), Or.inl ⟨rfl, rfl⟩⟩, ⟨_, _, _, _, F_MD_125, rfl, (fun h => absurd h Bool.false_ne_true), Or.inr (Or.inl ⟨rfl, rfl⟩)⟩, ⟨_, _, _, _, F_MD_131, rfl, (fun h => absurd h Bool.false_ne_true), Or.inr (Or.inl ⟨rfl, rfl⟩)⟩, ⟨_, _, _, _, F_MD_141, rfl, (fun h => absurd h Bool.false_ne_true), Or.inl ⟨rfl, rfl⟩⟩, ⟨_, _, _, _, F_MD_151, rfl, (fun h => absurd h Bool.false_ne_true), Or.inl ⟨rfl, rfl⟩⟩, trivial⟩
def flT_3 : List (Nat × Nat × Nat × Nat × Bool × Nat) := [(12, 161, 12, 32, false, 0), (12, 171, 12, 18, false, 0), (12, 221, 12, 39, false, 0)]
theorem flT_3_ok : allP flP flT_3 := ⟨⟨_, _, _, _, F_MD_161, rfl, (fun h => absurd h Bool.false_ne_true), Or.inl ⟨rfl, rfl⟩⟩, ⟨_, _, _, _, F_MD_171, rfl, (fun h => absurd h Bool.false_ne_true), Or.inl ⟨rfl, rfl⟩⟩, ⟨_, _, _, _, F_MD_221, rfl, (fun h => absurd h Bool.false_ne_true), Or.inl ⟨rfl, rfl⟩⟩, trivial⟩
def flT : List (Nat × Nat × Nat × Nat × Bool × Nat) := flT_0 ++ flT_1 ++ flT_2 ++ flT_3
theorem flT_ok : ∀ x ∈ flT, flP x := by
  intro x h
  unfold flT at h
  simp only [List.mem_append] at h
  rcases h with ((h | h) | h) | h
  · exact allP_mem flT_0_ok x h
  · exact allP_mem flT_1_ok x h
  · exact allP_mem flT_2_ok x h
  · exact allP_mem flT_3_ok x h
def frT_0 : List (Nat × Nat × Nat × Nat) := [(11, 171, 5, 0), (11, 202, 10, 1), (11, 205, 10, 2), (11, 213, 0, 0), (11, 216, 0, 1), (11, 219, 0, 2), (11, 415, 9, 4), (11, 469, 0, 3), (11, 475, 10, 5), (11, 499, 10, 3), (11, 510, 10, 7), (3, 91, 6, 0), (4, 45, 3, 1), (4, 58, 0, 2), (4, 61, 0, 3), (4, 85, 0, 0), (4, 88, 0, 1), (4, 97, 0, 4), (4, 138, 10, 4), (4, 141, 10, 2), (4, 142, 10, 5), (4, 146, 10, 3), (4, 149, 1, 0), (4, 152, 10, 1), (4, 163, 10, 7), (4, 169, 10, 6), (4, 188, 3, 3), (8, 52, 10, 7), (8, 104, 10, 6), (8, 107, 10, 2), (8, 114, 10, 1), (8, 117, 10, 3), (8, 120, 10, 4), (8, 123, 10, 5), (8, 163, 3, 4), (8, 196, 2, 1), (8, 222, 5, 0), (9, 75, 1, 0), (9, 85, 10, 7), (9, 88, 10, 1), (9, 91, 10, 5), (10, 102, 0, 0), (10, 105, 0, 1), (10, 108, 0, 2), (10, 113, 0, 4), (10, 114, 0, 3)]
theorem frT_0_ok : allP frP frT_0 := ⟨⟨_, _, _, _, F_FV_171⟩, ⟨_, _, _, _, F_FV_202⟩, ⟨_, _, _, _, F_FV_205⟩, ⟨_, _, _, _, F_FV_213⟩, ⟨_, _, _, _, F_FV_216⟩, ⟨_, _, _, _, F_FV_219⟩, ⟨_, _, _, _, F_FV_415⟩, ⟨_, _, _, _, F_FV_469⟩, ⟨_, _, _, _, F_FV_475⟩, ⟨_, _, _, _, F_FV_499⟩, ⟨_, _, _, _, F_FV_510⟩, ⟨_, _, _, _, F_Layout_91⟩, ⟨_, _, _, _, F_Log_45⟩, ⟨_, _, _, _, F_Log_58⟩, ⟨_, _, _, _, F_Log_61⟩, ⟨_, _, _, _, F_Log_85⟩, ⟨_, _, _, _, F_Log_88⟩, ⟨_, _, _, _, F_Log_97⟩, ⟨_, _, _, _, F_Log_138⟩, ⟨_, _, _, _, F_Log_141⟩, ⟨_, _, _, _, F_Log_142⟩, ⟨_, _, _, _, F_Log_146⟩, ⟨_, _, _, _, F_Log_149⟩, ⟨_, _, _, _, F_Log_152⟩, ⟨_, _, _, _, F_Log_163⟩, ⟨_, _, _, _, F_Log_169⟩, ⟨_, _, _, _, F_Log_188⟩, ⟨_, _, _, _, F_Tables_52⟩, ⟨_, _, _, _, F_Tables_104⟩, ⟨_, _, _, _, F_Tables_107⟩, ⟨_, _, _, _, F_Tables_114⟩, ⟨_, _, _, _, F_Tables_117⟩, ⟨_, _, _, _, F_Tables_120⟩, ⟨_, _, _, _, F_Tables_123⟩, ⟨_, _, _, _, F_Tables_163⟩, ⟨_, _, _, _, F_Tables_196⟩, ⟨_, _, _, _, F_Tables_222⟩, ⟨_, _, _, _, F_Tree_75⟩, ⟨_, _, _, _, F_Tree_85⟩, ⟨_, _, _, _, F_Tree_88⟩, ⟨_, _, _, _, F_Tree_91⟩, ⟨_, _, _, _, F_Versions_102⟩, ⟨_, _, _, _, F_Versions_105⟩, ⟨_, _, _, _, F_Versions_108⟩, ⟨_, _, _, _, F_Versions_113⟩, ⟨_, _, _, _, F_Versions_114⟩, trivial⟩
def frT : List (Nat × Nat × Nat × Nat) := frT_0
theorem frT_ok : ∀ x ∈ frT, frP x := allP_mem frT_0_ok
def ctT_0 : List (Nat × Nat × Int) := [(11, 277, 2147483647), (2, 56, 65535), (8, 73, 65535), (8, 233, 2147483647), (10, 68, 2147483647), (12, 32, 48000), (12, 91, 40000)]
theorem ctT_0_ok : allP ctP ctT_0 := ⟨w_4_194, w_7_32, w_6_203, w_7_56, w_5_26, w_9_76, w_9_77, trivial⟩
def ctT : List (Nat × Nat × Int) := ctT_0
theorem ctT_ok : ∀ x ∈ ctT, ctP x := allP_mem ctT_0_ok
def cjT_0 : List (Nat × Nat × Nat) := [(12, 123, 256)]
theorem cjT_0_ok : allP cjP cjT_0 := ⟨w_9_227, trivial⟩
def cjT : List (Nat × Nat × Nat) := cjT_0
theorem cjT_ok : ∀ x ∈ cjT, cjP x := allP_mem cjT_0_ok
def cnT_0 : List (Nat × Nat × Nat) := [(11, 9, 5), (11, 24, 7), (11, 31, 0), (11, 38, 9), (11, 68, 1), (11, 75, 10), (11, 84, 3), (11, 93, 8), (11, 102, 4), (3, 9, 6), (7, 19, 0), (8, 9, 2), (8, 17, 5), (13, 8, 11), (13, 121, 12)]
theorem cnT_0_ok : allP cnP cnT_0 := ⟨⟨RC5, FC5, 2, tC5, rfl, iC5, kC5, w_1_42, w_1_43, w_1_2, by decide, rfl⟩, ⟨RC7, FC7, 3, tC7, rfl, iC7, kC7, w_1_63, w_1_64, w_1_4, by decide, rfl⟩, ⟨RC0, FC0, 7, tC0, rfl, iC0, kC0, w_1_127, w_1_71, w_1_5, by decide, rfl⟩, ⟨RC9, FC9, 6, tC9, rfl, iC9, kC9, w_1_129, w_1_130, w_1_6, by decide, rfl⟩, ⟨RC1, FC1, 5, tC1, rfl, iC1, kC1, w_1_156, w_1_157, w_1_7, by decide, rfl⟩, ⟨RC10, FC10, 12, tC10, rfl, iC10, kC10, w_1_185, w_1_186, w_1_9, by decide, rfl⟩, ⟨RC3, FC3, 18, tC3, rfl, iC3, kC3, w_2_17, w_2_18, w_1_10, by decide, rfl⟩, ⟨RC8, FC8, 10, tC8, rfl, iC8, kC8, w_2_130, w_2_131, w_1_12, by decide, rfl⟩, ⟨RC4, FC4, 10, tC4, rfl, iC4, kC4, w_2_212, w_2_213, w_1_14, by decide, rfl⟩, ⟨RC6, FC6, 5, tC6, rfl, iC6, kC6, w_2_23, w_2_26, w_1_11, by decide, rfl⟩, ⟨RC0, FC0, 7, tC0, rfl, iC0, kC0, w_1_69, w_1_71, w_1_5, by decide, rfl⟩, ⟨RC2, FC2, 9, tC2, rfl, iC2, kC2, w_2_136, w_2_140, w_1_13, by decide, rfl⟩, ⟨RC5, FC5, 2, tC5, rfl, iC5, kC5, w_2_138, w_1_43, w_1_2, by decide, rfl⟩, ⟨RC11, FC11, 18, tC11, rfl, iC11, kC11, w_1_34, w_1_35, w_1_1, by decide, rfl⟩, ⟨RC12, FC12, 40, tC12, rfl, iC12, kC12, w_9_70, w_9_71, w_1_15, by decide, rfl⟩, trivial⟩
def cnT : List (Nat × Nat × Nat) := cnT_0
theorem cnT_ok : ∀ x ∈ cnT, cnP x := allP_mem cnT_0_ok
def cqT_0 : List (Nat × Nat × Nat) := [(11, 31, 4), (3, 9, 5), (7, 19, 4), (8, 9, 6)]
theorem cqT_0_ok : allP cqP cqT_0 := ⟨⟨"FlashVault$Batch", w_1_127, by decide +kernel, fun _ => rfl⟩, ⟨"FlashVault$Run", w_2_23, by decide +kernel, fun _ => rfl⟩, ⟨"FlashVault$Batch", w_1_69, by decide +kernel, fun _ => rfl⟩, ⟨"FlashVault$Cursor", w_2_136, by decide +kernel, fun _ => rfl⟩, trivial⟩
def cqT : List (Nat × Nat × Nat) := cqT_0
theorem cqT_ok : ∀ x ∈ cqT, cqP x := allP_mem cqT_0_ok
def mlT_0 : List (Nat × Nat × Nat × Nat) := [(11, 3, 0, 5), (11, 11, 1, 2), (11, 26, 2, 2), (11, 33, 3, 2), (11, 40, 4, 2), (11, 70, 5, 2), (11, 77, 7, 2), (11, 86, 8, 2), (11, 95, 12, 2), (11, 104, 14, 2), (11, 111, 18, 0), (11, 114, 19, 0), (11, 117, 20, 0), (11, 123, 24, 0), (11, 127, 21, 0), (11, 130, 29, 0), (11, 141, 30, 0), (11, 145, 34, 0), (11, 148, 0, 4), (11, 154, 35, 0), (11, 157, 36, 0), (11, 160, 38, 0), (11, 164, 39, 0), (11, 168, 40, 0), (11, 175, 42, 0), (11, 179, 54, 0), (11, 183, 56, 0), (11, 187, 57, 0), (11, 191, 60, 0), (11, 194, 70, 0), (11, 198, 75, 0), (11, 209, 44, 0), (11, 220, 55, 0), (11, 226, 78, 0), (11, 229, 86, 0), (11, 238, 88, 0), (11, 242, 94, 0), (11, 245, 96, 0), (11, 249, 150, 0), (11, 253, 153, 0), (11, 257, 79, 0), (11, 260, 160, 0), (11, 264, 167, 0), (11, 267, 90, 0), (11, 270, 170, 0), (11, 274, 174, 0), (11, 278, 155, 0), (11, 281, 179, 0), (11, 286, 194, 0), (11, 289, 197, 0), (11, 292, 93, 0), (11, 295, 198, 0), (11, 319, 203, 0), (11, 322, 204, 0), (11, 323, 206, 0), (11, 324, 208, 0), (11, 327, 216, 0), (11, 330, 217, 0), (11, 333, 218, 0), (11, 336, 219, 0)]
theorem mlT_0_ok : allP mlP mlT_0 := ⟨w_1_39, ⟨_, rfl, w_1_44⟩, ⟨_, rfl, w_1_65⟩, ⟨_, rfl, w_1_128⟩, ⟨_, rfl, w_1_131⟩, ⟨_, rfl, w_1_158⟩, ⟨_, rfl, w_1_187⟩, ⟨_, rfl, w_2_19⟩, ⟨_, rfl, w_2_132⟩, ⟨_, rfl, w_2_214⟩, ⟨_, rfl, w_3_78⟩, ⟨_, rfl, w_3_152⟩, ⟨_, rfl, w_3_172⟩, ⟨_, rfl, w_3_188⟩, ⟨_, rfl, w_3_208⟩, ⟨_, rfl, w_3_223⟩, ⟨_, rfl, w_3_228⟩, ⟨_, rfl, w_4_5⟩, w_4_9, ⟨_, rfl, w_4_12⟩, ⟨_, rfl, w_4_16⟩, ⟨_, rfl, w_4_40⟩, ⟨_, rfl, w_4_44⟩, ⟨_, rfl, w_4_48⟩, ⟨_, rfl, w_4_58⟩, ⟨_, rfl, w_4_123⟩, ⟨_, rfl, w_4_131⟩, ⟨_, rfl, w_4_136⟩, ⟨_, rfl, w_4_149⟩, ⟨_, rfl, w_4_190⟩, ⟨_, rfl, w_4_213⟩, ⟨_, rfl, w_4_217⟩, ⟨_, rfl, w_4_127⟩, ⟨_, rfl, w_4_225⟩, ⟨_, rfl, w_5_18⟩, ⟨_, rfl, w_5_28⟩, ⟨_, rfl, w_5_53⟩, ⟨_, rfl, w_5_61⟩, ⟨_, rfl, w_7_65⟩, ⟨_, rfl, w_7_80⟩, ⟨_, rfl, w_4_229⟩, ⟨_, rfl, w_7_112⟩, ⟨_, rfl, w_7_140⟩, ⟨_, rfl, w_7_144⟩, ⟨_, rfl, w_7_152⟩, ⟨_, rfl, w_7_169⟩, ⟨_, rfl, w_7_88⟩, ⟨_, rfl, w_7_209⟩, ⟨_, rfl, w_8_44⟩, ⟨_, rfl, w_8_55⟩, ⟨_, rfl, w_5_48⟩, ⟨_, rfl, w_8_59⟩, ⟨_, rfl, w_8_77⟩, ⟨_, rfl, w_8_81⟩, ⟨_, rfl, w_8_89⟩, ⟨_, rfl, w_8_98⟩, ⟨_, rfl, w_8_129⟩, ⟨_, rfl, w_8_133⟩, ⟨_, rfl, w_8_138⟩, ⟨_, rfl, w_8_144⟩, trivial⟩
def mlT_1 : List (Nat × Nat × Nat × Nat) := [(11, 341, 221, 0), (11, 346, 31, 0), (11, 349, 222, 0), (11, 353, 191, 0), (11, 356, 226, 0), (11, 359, 227, 0), (11, 364, 228, 0), (11, 367, 231, 0), (11, 370, 209, 0), (11, 374, 212, 0), (11, 380, 210, 0), (11, 383, 234, 0), (11, 386, 239, 0), (11, 389, 0, 3), (11, 392, 241, 0), (11, 396, 243, 0), (11, 399, 245, 0), (11, 402, 242, 1), (11, 406, 248, 0), (11, 409, 251, 0), (11, 412, 254, 0), (11, 418, 244, 0), (11, 426, 240, 0), (11, 429, 213, 0), (11, 432, 258, 0), (11, 449, 37, 0), (11, 460, 89, 0), (11, 465, 41, 1), (11, 472, 61, 0), (11, 476, 66, 0), (11, 479, 67, 0), (11, 483, 46, 0), (11, 486, 47, 0), (11, 491, 48, 0), (11, 494, 49, 0), (11, 496, 87, 0), (11, 502, 80, 0), (11, 505, 58, 0), (11, 513, 71, 0), (11, 516, 72, 0), (11, 519, 43, 0), (11, 522, 230, 0), (11, 525, 229, 0), (11, 528, 223, 0), (11, 531, 101, 1), (11, 535, 95, 0), (11, 538, 331, 0), (11, 541, 333, 0), (11, 547, 97, 0), (11, 551, 118, 0), (11, 554, 151, 0), (11, 560, 120, 0), (11, 563, 171, 0), (11, 566, 140, 0), (11, 569, 180, 0), (11, 572, 183, 0), (11, 575, 185, 0), (11, 578, 189, 0), (11, 581, 134, 0), (11, 584, 190, 0)]
theorem mlT_1_ok : allP mlP mlT_1 := ⟨⟨_, rfl, w_8_154⟩, ⟨_, rfl, w_8_159⟩, ⟨_, rfl, w_8_160⟩, ⟨_, rfl, w_8_169⟩, ⟨_, rfl, w_8_177⟩, ⟨_, rfl, w_8_182⟩, ⟨_, rfl, w_8_187⟩, ⟨_, rfl, w_8_199⟩, ⟨_, rfl, w_8_142⟩, ⟨_, rfl, w_8_210⟩, ⟨_, rfl, w_8_212⟩, ⟨_, rfl, w_8_213⟩, ⟨_, rfl, w_8_231⟩, w_4_83, ⟨_, rfl, w_9_0⟩, ⟨_, rfl, w_9_8⟩, ⟨_, rfl, w_9_17⟩, ⟨_, rfl, w_9_4⟩, ⟨_, rfl, w_9_28⟩, ⟨_, rfl, w_9_39⟩, ⟨_, rfl, w_9_50⟩, ⟨_, rfl, w_9_13⟩, ⟨_, rfl, w_8_235⟩, ⟨_, rfl, w_9_12⟩, ⟨_, rfl, w_9_66⟩, ⟨_, rfl, w_4_20⟩, ⟨_, rfl, w_5_32⟩, ⟨_, rfl, w_4_52⟩, ⟨_, rfl, w_4_153⟩, ⟨_, rfl, w_4_174⟩, ⟨_, rfl, w_4_178⟩, ⟨_, rfl, w_4_74⟩, ⟨_, rfl, w_4_78⟩, ⟨_, rfl, w_4_100⟩, ⟨_, rfl, w_4_105⟩, ⟨_, rfl, w_5_22⟩, ⟨_, rfl, w_4_233⟩, ⟨_, rfl, w_4_195⟩, ⟨_, rfl, w_4_196⟩, ⟨_, rfl, w_4_200⟩, ⟨_, rfl, w_4_212⟩, ⟨_, rfl, w_8_195⟩, ⟨_, rfl, w_8_191⟩, ⟨_, rfl, w_8_164⟩, ⟨_, rfl, w_8_168⟩, ⟨_, rfl, w_5_57⟩, ⟨_, rfl, w_5_65⟩, ⟨_, rfl, w_5_81⟩, ⟨_, rfl, w_7_1⟩, ⟨_, rfl, w_7_2⟩, ⟨_, rfl, w_7_69⟩, ⟨_, rfl, w_7_10⟩, ⟨_, rfl, w_7_156⟩, ⟨_, rfl, w_7_173⟩, ⟨_, rfl, w_7_213⟩, ⟨_, rfl, w_7_229⟩, ⟨_, rfl, w_7_237⟩, ⟨_, rfl, w_8_14⟩, ⟨_, rfl, w_8_18⟩, ⟨_, rfl, w_8_22⟩, trivial⟩
def mlT_2 : List (Nat × Nat × Nat × Nat) := [(11, 587, 154, 0), (11, 592, 156, 0), (11, 595, 157, 0), (11, 596, 158, 0), (11, 597, 159, 0), (11, 598, 161, 0), (11, 600, 332, 0), (11, 603, 131, 0), (11, 606, 133, 0), (11, 609, 119, 0), (11, 612, 132, 0), (0, 3, 0, 5), (0, 35, 43, 0), (0, 39, 44, 0), (0, 43, 45, 1), (0, 49, 0, 3), (0, 55, 41, 1), (1, 3, 0, 5), (1, 21, 0, 3), (1, 35, 6, 1), (1, 41, 0, 4), (1, 44, 107, 0), (1, 48, 41, 1), (1, 61, 108, 1), (2, 3, 0, 5), (2, 46, 123, 0), (2, 50, 0, 4), (2, 57, 124, 0), (2, 60, 63, 0), (3, 3, 0, 5), (3, 59, 0, 3), (3, 80, 9, 2), (3, 81, 10, 0), (3, 84, 11, 0), (3, 94, 104, 1), (3, 97, 105, 0), (3, 108, 0, 6), (3, 114, 64, 0), (3, 125, 99, 0), (3, 131, 113, 0), (3, 135, 116, 0), (3, 138, 110, 0), (3, 144, 101, 1), (3, 150, 106, 0), (3, 153, 159, 0), (3, 155, 181, 0), (3, 158, 65, 0), (3, 160, 182, 0), (3, 163, 63, 0), (3, 166, 0, 4), (4, 3, 0, 5), (4, 64, 0, 3), (4, 70, 143, 0), (4, 74, 144, 0), (4, 77, 115, 0), (4, 81, 152, 0), (4, 91, 41, 1), (4, 100, 147, 0), (4, 104, 148, 0), (4, 107, 103, 0)]
theorem mlT_2_ok : allP mlP mlT_2 := ⟨⟨_, rfl, w_7_84⟩, ⟨_, rfl, w_7_92⟩, ⟨_, rfl, w_7_96⟩, ⟨_, rfl, w_7_100⟩, ⟨_, rfl, w_7_107⟩, ⟨_, rfl, w_7_116⟩, ⟨_, rfl, w_5_69⟩, ⟨_, rfl, w_5_73⟩, ⟨_, rfl, w_5_77⟩, ⟨_, rfl, w_7_6⟩, ⟨_, rfl, w_7_61⟩, w_1_75, ⟨_, rfl, w_4_62⟩, ⟨_, rfl, w_4_66⟩, ⟨_, rfl, w_4_70⟩, w_4_82, ⟨_, rfl, w_4_104⟩, w_1_161, w_1_162, ⟨_, rfl, w_1_163⟩, w_5_124, ⟨_, rfl, w_5_120⟩, ⟨_, rfl, w_4_182⟩, ⟨_, rfl, w_5_125⟩, w_2_144, ⟨_, rfl, w_7_22⟩, w_7_31, ⟨_, rfl, w_7_26⟩, ⟨_, rfl, w_7_30⟩, w_2_22, w_2_25, ⟨_, rfl, w_2_27⟩, ⟨_, rfl, w_2_56⟩, ⟨_, rfl, w_2_60⟩, ⟨_, rfl, w_5_106⟩, ⟨_, rfl, w_5_109⟩, w_6_178, ⟨_, rfl, w_8_97⟩, ⟨_, rfl, w_6_193⟩, ⟨_, rfl, w_6_220⟩, ⟨_, rfl, w_6_232⟩, ⟨_, rfl, w_6_237⟩, ⟨_, rfl, w_6_236⟩, ⟨_, rfl, w_6_238⟩, ⟨_, rfl, w_7_217⟩, ⟨_, rfl, w_7_218⟩, ⟨_, rfl, w_7_223⟩, ⟨_, rfl, w_7_224⟩, ⟨_, rfl, w_7_222⟩, w_7_228, w_2_217, w_7_73, ⟨_, rfl, w_5_94⟩, ⟨_, rfl, w_5_98⟩, ⟨_, rfl, w_7_74⟩, ⟨_, rfl, w_7_75⟩, ⟨_, rfl, w_7_79⟩, ⟨_, rfl, w_6_158⟩, ⟨_, rfl, w_6_162⟩, ⟨_, rfl, w_5_102⟩, trivial⟩
def mlT_3 : List (Nat × Nat × Nat × Nat) := [(4, 110, 106, 0), (4, 115, 145, 0), (4, 118, 101, 1), (4, 122, 110, 0), (4, 129, 63, 0), (4, 133, 65, 0), (4, 135, 187, 0), (4, 143, 64, 0), (4, 155, 45, 1), (4, 159, 62, 0), (4, 166, 61, 0), (4, 173, 207, 0), (4, 176, 136, 1), (4, 182, 91, 0), (4, 191, 138, 0), (4, 197, 97, 0), (4, 203, 135, 0), (4, 206, 141, 0), (4, 209, 137, 0), (4, 212, 142, 0), (4, 215, 146, 0), (4, 219, 139, 0), (4, 222, 90, 0), (4, 225, 117, 0), (4, 228, 80, 0), (4, 231, 67, 0), (4, 234, 149, 0), (4, 243, 186, 0), (4, 246, 188, 0), (4, 249, 184, 0), (5, 1, 0, 5), (5, 13, 0, 3), (5, 23, 21, 0), (5, 27, 0, 6), (5, 33, 108, 1), (5, 39, 0, 4), (6, 3, 0, 5), (7, 3, 0, 5), (7, 25, 3, 2), (7, 26, 37, 0), (7, 30, 31, 0), (8, 3, 0, 5), (8, 19, 1, 2), (8, 62, 13, 2), (8, 65, 101, 1), (8, 69, 41, 1), (8, 74, 0, 4), (8, 80, 103, 0), (8, 86, 106, 0), (8, 91, 110, 0), (8, 95, 111, 0), (8, 110, 98, 0), (8, 126, 100, 0), (8, 133, 102, 0), (8, 140, 112, 0), (8, 143, 114, 0), (8, 146, 115, 0), (8, 149, 117, 0), (8, 152, 80, 0), (8, 155, 119, 0)]
theorem mlT_3_ok : allP mlP mlT_3 := ⟨⟨_, rfl, w_5_116⟩, ⟨_, rfl, w_6_149⟩, ⟨_, rfl, w_6_155⟩, ⟨_, rfl, w_6_166⟩, ⟨_, rfl, w_4_161⟩, ⟨_, rfl, w_4_169⟩, ⟨_, rfl, w_8_5⟩, ⟨_, rfl, w_4_165⟩, ⟨_, rfl, w_4_173⟩, ⟨_, rfl, w_4_157⟩, ⟨_, rfl, w_6_153⟩, ⟨_, rfl, w_8_93⟩, ⟨_, rfl, w_7_181⟩, ⟨_, rfl, w_7_182⟩, ⟨_, rfl, w_7_187⟩, ⟨_, rfl, w_6_184⟩, ⟨_, rfl, w_7_177⟩, ⟨_, rfl, w_7_183⟩, ⟨_, rfl, w_7_191⟩, ⟨_, rfl, w_5_85⟩, ⟨_, rfl, w_5_90⟩, ⟨_, rfl, w_6_174⟩, ⟨_, rfl, w_5_89⟩, ⟨_, rfl, w_6_179⟩, ⟨_, rfl, w_6_183⟩, ⟨_, rfl, w_6_154⟩, ⟨_, rfl, w_6_170⟩, ⟨_, rfl, w_8_1⟩, ⟨_, rfl, w_8_9⟩, ⟨_, rfl, w_8_13⟩, w_1_47, w_1_48, ⟨_, rfl, w_3_176⟩, w_4_55, ⟨_, rfl, w_9_7⟩, w_4_73, w_2_30, w_1_68, ⟨_, rfl, w_1_72⟩, ⟨_, rfl, w_4_135⟩, ⟨_, rfl, w_3_232⟩, w_2_135, ⟨_, rfl, w_2_139⟩, ⟨_, rfl, w_2_141⟩, ⟨_, rfl, w_6_201⟩, ⟨_, rfl, w_6_202⟩, w_6_208, ⟨_, rfl, w_6_209⟩, ⟨_, rfl, w_6_210⟩, ⟨_, rfl, w_6_211⟩, ⟨_, rfl, w_6_212⟩, ⟨_, rfl, w_6_188⟩, ⟨_, rfl, w_6_197⟩, ⟨_, rfl, w_6_204⟩, ⟨_, rfl, w_6_216⟩, ⟨_, rfl, w_6_224⟩, ⟨_, rfl, w_6_228⟩, ⟨_, rfl, w_6_239⟩, ⟨_, rfl, w_7_0⟩, ⟨_, rfl, w_7_160⟩, trivial⟩
def mlT_4 : List (Nat × Nat × Nat × Nat) := [(8, 159, 120, 0), (8, 170, 121, 0), (8, 173, 122, 0), (8, 180, 125, 0), (8, 183, 127, 0), (8, 187, 128, 0), (8, 193, 129, 0), (8, 206, 130, 0), (8, 214, 126, 0), (8, 218, 45, 1), (8, 225, 58, 0), (8, 229, 59, 0), (8, 234, 184, 0), (8, 238, 205, 0), (9, 3, 0, 5), (9, 32, 136, 1), (9, 38, 211, 0), (9, 42, 210, 0), (9, 46, 0, 4), (9, 52, 41, 1), (9, 58, 220, 0), (9, 62, 45, 1), (9, 66, 255, 0), (9, 69, 213, 0), (9, 72, 158, 0), (9, 94, 66, 0), (9, 97, 63, 0), (9, 100, 65, 0), (9, 103, 191, 0), (9, 107, 209, 0), (9, 110, 212, 0), (10, 3, 0, 5), (10, 21, 0, 3), (10, 58, 84, 0), (10, 62, 45, 1), (10, 69, 58, 0), (10, 73, 59, 0), (10, 77, 73, 0), (10, 81, 74, 0), (10, 85, 0, 6), (10, 91, 41, 1), (10, 95, 85, 0), (10, 109, 162, 0), (10, 115, 92, 1), (10, 119, 71, 0), (10, 122, 82, 0), (10, 127, 83, 0), (10, 131, 81, 0), (10, 135, 91, 0), (10, 139, 90, 0), (10, 142, 87, 0), (13, 7, 17, 0), (13, 17, 23, 0), (13, 23, 26, 0), (13, 27, 28, 0), (13, 31, 33, 0), (13, 38, 51, 0), (13, 41, 53, 0), (13, 44, 69, 0), (13, 48, 77, 0)]
theorem mlT_4_ok : allP mlP mlT_4 := ⟨⟨_, rfl, w_7_161⟩, ⟨_, rfl, w_7_14⟩, ⟨_, rfl, w_7_18⟩, ⟨_, rfl, w_7_33⟩, ⟨_, rfl, w_7_42⟩, ⟨_, rfl, w_7_46⟩, ⟨_, rfl, w_7_52⟩, ⟨_, rfl, w_7_57⟩, ⟨_, rfl, w_7_37⟩, ⟨_, rfl, w_7_41⟩, ⟨_, rfl, w_7_50⟩, ⟨_, rfl, w_7_51⟩, ⟨_, rfl, w_7_233⟩, ⟨_, rfl, w_8_85⟩, w_1_134, ⟨_, rfl, w_7_104⟩, ⟨_, rfl, w_8_110⟩, ⟨_, rfl, w_8_106⟩, w_8_34, ⟨_, rfl, w_8_35⟩, ⟨_, rfl, w_8_148⟩, ⟨_, rfl, w_8_152⟩, ⟨_, rfl, w_9_54⟩, ⟨_, rfl, w_8_118⟩, ⟨_, rfl, w_8_26⟩, ⟨_, rfl, w_8_27⟩, ⟨_, rfl, w_8_28⟩, ⟨_, rfl, w_8_29⟩, ⟨_, rfl, w_8_30⟩, ⟨_, rfl, w_8_102⟩, ⟨_, rfl, w_8_114⟩, w_1_190, w_1_191, ⟨_, rfl, w_5_10⟩, ⟨_, rfl, w_4_144⟩, ⟨_, rfl, w_4_140⟩, ⟨_, rfl, w_4_145⟩, ⟨_, rfl, w_4_204⟩, ⟨_, rfl, w_4_208⟩, w_7_124, ⟨_, rfl, w_7_125⟩, ⟨_, rfl, w_5_14⟩, ⟨_, rfl, w_7_120⟩, ⟨_, rfl, w_5_44⟩, ⟨_, rfl, w_5_1⟩, ⟨_, rfl, w_5_2⟩, ⟨_, rfl, w_5_6⟩, ⟨_, rfl, w_4_237⟩, ⟨_, rfl, w_5_40⟩, ⟨_, rfl, w_5_36⟩, ⟨_, rfl, w_5_47⟩, ⟨_, rfl, w_3_74⟩, ⟨_, rfl, w_3_184⟩, ⟨_, rfl, w_3_212⟩, ⟨_, rfl, w_3_219⟩, ⟨_, rfl, w_4_1⟩, ⟨_, rfl, w_4_112⟩, ⟨_, rfl, w_4_119⟩, ⟨_, rfl, w_4_186⟩, ⟨_, rfl, w_4_221⟩, trivial⟩
def mlT_5 : List (Nat × Nat × Nat × Nat) := [(13, 51, 164, 0), (13, 54, 166, 0), (13, 57, 169, 0), (13, 61, 173, 0), (13, 64, 176, 0), (13, 68, 178, 0), (13, 71, 193, 0), (13, 75, 196, 0), (13, 78, 200, 0), (13, 81, 202, 0), (13, 84, 215, 0), (13, 87, 225, 0), (13, 90, 233, 0), (13, 94, 236, 0), (13, 97, 238, 0), (13, 100, 247, 0), (13, 103, 250, 0), (13, 106, 253, 0), (13, 109, 257, 0), (13, 112, 15, 1), (13, 118, 0, 2), (13, 123, 259, 2), (13, 124, 16, 1), (13, 127, 261, 0), (13, 128, 260, 0), (13, 131, 22, 1), (13, 134, 263, 0), (13, 135, 25, 1), (13, 138, 265, 0), (13, 139, 27, 1), (13, 142, 282, 0), (13, 143, 32, 1), (13, 145, 283, 0), (13, 146, 50, 1), (13, 148, 288, 0), (13, 149, 52, 1), (13, 151, 289, 0), (13, 152, 68, 1), (13, 155, 292, 0), (13, 156, 76, 1), (13, 158, 295, 0), (13, 159, 163, 1), (13, 161, 299, 0), (13, 162, 165, 1), (13, 164, 275, 0), (13, 165, 168, 1), (13, 168, 279, 0), (13, 169, 172, 1), (13, 171, 280, 0), (13, 172, 175, 1), (13, 175, 267, 0), (13, 176, 177, 1), (13, 178, 268, 0), (13, 179, 192, 1), (13, 181, 266, 0), (13, 182, 195, 1), (13, 184, 300, 0), (13, 185, 199, 1), (13, 187, 281, 0), (13, 188, 201, 1)]
theorem mlT_5_ok : allP mlP mlT_5 := ⟨⟨_, rfl, w_7_129⟩, ⟨_, rfl, w_7_136⟩, ⟨_, rfl, w_7_148⟩, ⟨_, rfl, w_7_165⟩, ⟨_, rfl, w_7_198⟩, ⟨_, rfl, w_7_205⟩, ⟨_, rfl, w_8_39⟩, ⟨_, rfl, w_8_51⟩, ⟨_, rfl, w_8_66⟩, ⟨_, rfl, w_8_73⟩, ⟨_, rfl, w_8_125⟩, ⟨_, rfl, w_8_173⟩, ⟨_, rfl, w_8_206⟩, ⟨_, rfl, w_8_220⟩, ⟨_, rfl, w_8_227⟩, ⟨_, rfl, w_9_24⟩, ⟨_, rfl, w_9_35⟩, ⟨_, rfl, w_9_46⟩, ⟨_, rfl, w_9_61⟩, ⟨_, rfl, w_3_66⟩, ⟨_, rfl, w_1_36⟩, ⟨_, rfl, w_9_72⟩, ⟨_, rfl, w_3_69⟩, ⟨_, rfl, w_9_203⟩, ⟨_, rfl, w_9_199⟩, ⟨_, rfl, w_3_180⟩, ⟨_, rfl, w_9_211⟩, ⟨_, rfl, w_3_209⟩, ⟨_, rfl, w_9_219⟩, ⟨_, rfl, w_3_216⟩, ⟨_, rfl, w_10_48⟩, ⟨_, rfl, w_3_236⟩, ⟨_, rfl, w_10_52⟩, ⟨_, rfl, w_4_109⟩, ⟨_, rfl, w_10_72⟩, ⟨_, rfl, w_4_116⟩, ⟨_, rfl, w_10_76⟩, ⟨_, rfl, w_4_183⟩, ⟨_, rfl, w_10_88⟩, ⟨_, rfl, w_4_218⟩, ⟨_, rfl, w_10_100⟩, ⟨_, rfl, w_7_126⟩, ⟨_, rfl, w_10_116⟩, ⟨_, rfl, w_7_133⟩, ⟨_, rfl, w_10_20⟩, ⟨_, rfl, w_7_145⟩, ⟨_, rfl, w_10_36⟩, ⟨_, rfl, w_7_162⟩, ⟨_, rfl, w_10_40⟩, ⟨_, rfl, w_7_195⟩, ⟨_, rfl, w_9_228⟩, ⟨_, rfl, w_7_202⟩, ⟨_, rfl, w_9_232⟩, ⟨_, rfl, w_8_36⟩, ⟨_, rfl, w_9_223⟩, ⟨_, rfl, w_8_48⟩, ⟨_, rfl, w_10_120⟩, ⟨_, rfl, w_8_63⟩, ⟨_, rfl, w_10_44⟩, ⟨_, rfl, w_8_70⟩, trivial⟩
def mlT_6 : List (Nat × Nat × Nat × Nat) := [(13, 190, 303, 0), (13, 191, 214, 1), (13, 193, 304, 0), (13, 194, 224, 1), (13, 196, 311, 0), (13, 197, 232, 1), (13, 200, 317, 0), (13, 201, 235, 1), (13, 203, 321, 0), (13, 204, 237, 1), (13, 206, 322, 0), (13, 207, 246, 1), (13, 209, 326, 0), (13, 210, 249, 1), (13, 212, 328, 0), (13, 213, 252, 1), (13, 215, 329, 0), (13, 216, 256, 1), (13, 218, 330, 0), (12, 1, 0, 5), (12, 109, 262, 0), (12, 116, 264, 0), (12, 128, 269, 0), (12, 134, 270, 0), (12, 137, 274, 0), (12, 144, 277, 0), (12, 147, 276, 0), (12, 154, 273, 0), (12, 158, 272, 0), (12, 164, 278, 0), (12, 167, 271, 0), (12, 174, 286, 0), (12, 177, 285, 0), (12, 181, 287, 0), (12, 185, 284, 0), (12, 189, 291, 0), (12, 193, 290, 0), (12, 197, 293, 0), (12, 201, 294, 0), (12, 205, 296, 0), (12, 208, 297, 0), (12, 212, 298, 0), (12, 215, 301, 0), (12, 218, 302, 0), (12, 224, 316, 0), (12, 227, 315, 0), (12, 230, 314, 0), (12, 233, 305, 0), (12, 236, 306, 0), (12, 239, 307, 0), (12, 242, 308, 0), (12, 245, 309, 0), (12, 249, 310, 0), (12, 252, 312, 0), (12, 255, 313, 0), (12, 258, 318, 0), (12, 261, 319, 0), (12, 264, 320, 0), (12, 267, 324, 0), (12, 270, 323, 0)]
theorem mlT_6_ok : allP mlP mlT_6 := ⟨⟨_, rfl, w_10_132⟩, ⟨_, rfl, w_8_122⟩, ⟨_, rfl, w_10_136⟩, ⟨_, rfl, w_8_170⟩, ⟨_, rfl, w_10_164⟩, ⟨_, rfl, w_8_203⟩, ⟨_, rfl, w_10_188⟩, ⟨_, rfl, w_8_217⟩, ⟨_, rfl, w_10_204⟩, ⟨_, rfl, w_8_224⟩, ⟨_, rfl, w_10_208⟩, ⟨_, rfl, w_9_21⟩, ⟨_, rfl, w_10_224⟩, ⟨_, rfl, w_9_32⟩, ⟨_, rfl, w_10_232⟩, ⟨_, rfl, w_9_43⟩, ⟨_, rfl, w_10_236⟩, ⟨_, rfl, w_9_58⟩, ⟨_, rfl, w_11_0⟩, w_9_75, ⟨_, rfl, w_9_207⟩, ⟨_, rfl, w_9_215⟩, ⟨_, rfl, w_9_236⟩, ⟨_, rfl, w_10_0⟩, ⟨_, rfl, w_10_16⟩, ⟨_, rfl, w_10_28⟩, ⟨_, rfl, w_10_24⟩, ⟨_, rfl, w_10_12⟩, ⟨_, rfl, w_10_8⟩, ⟨_, rfl, w_10_32⟩, ⟨_, rfl, w_10_4⟩, ⟨_, rfl, w_10_64⟩, ⟨_, rfl, w_10_60⟩, ⟨_, rfl, w_10_68⟩, ⟨_, rfl, w_10_56⟩, ⟨_, rfl, w_10_84⟩, ⟨_, rfl, w_10_80⟩, ⟨_, rfl, w_10_92⟩, ⟨_, rfl, w_10_96⟩, ⟨_, rfl, w_10_104⟩, ⟨_, rfl, w_10_108⟩, ⟨_, rfl, w_10_112⟩, ⟨_, rfl, w_10_124⟩, ⟨_, rfl, w_10_128⟩, ⟨_, rfl, w_10_184⟩, ⟨_, rfl, w_10_180⟩, ⟨_, rfl, w_10_176⟩, ⟨_, rfl, w_10_140⟩, ⟨_, rfl, w_10_144⟩, ⟨_, rfl, w_10_148⟩, ⟨_, rfl, w_10_152⟩, ⟨_, rfl, w_10_156⟩, ⟨_, rfl, w_10_160⟩, ⟨_, rfl, w_10_168⟩, ⟨_, rfl, w_10_172⟩, ⟨_, rfl, w_10_192⟩, ⟨_, rfl, w_10_196⟩, ⟨_, rfl, w_10_200⟩, ⟨_, rfl, w_10_216⟩, ⟨_, rfl, w_10_212⟩, trivial⟩
def mlT_7 : List (Nat × Nat × Nat × Nat) := [(12, 273, 325, 0), (12, 277, 327, 0), (14, 13, 109, 1), (14, 150, 0, 6), (14, 304, 0, 4)]
theorem mlT_7_ok : allP mlP mlT_7 := ⟨⟨_, rfl, w_10_220⟩, ⟨_, rfl, w_10_228⟩, ⟨_, rfl, w_5_128⟩, w_5_203, w_5_202, trivial⟩
def mlT : List (Nat × Nat × Nat × Nat) := mlT_0 ++ mlT_1 ++ mlT_2 ++ mlT_3 ++ mlT_4 ++ mlT_5 ++ mlT_6 ++ mlT_7
theorem mlT_ok : ∀ x ∈ mlT, mlP x := by
  intro x h
  unfold mlT at h
  simp only [List.mem_append] at h
  rcases h with ((((((h | h) | h) | h) | h) | h) | h) | h
  · exact allP_mem mlT_0_ok x h
  · exact allP_mem mlT_1_ok x h
  · exact allP_mem mlT_2_ok x h
  · exact allP_mem mlT_3_ok x h
  · exact allP_mem mlT_4_ok x h
  · exact allP_mem mlT_5_ok x h
  · exact allP_mem mlT_6_ok x h
  · exact allP_mem mlT_7_ok x h
