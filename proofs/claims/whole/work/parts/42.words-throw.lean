/-- the words of a throw that are no good words -/
def XW : List Cond := [.laysStatic "java/lang/Throwable" "UNASSIGNED_STACK" "[Ljava/lang/StackTraceElement;", .laysStatic "java/lang/Throwable" "SUPPRESSED_SENTINEL" "Ljava/util/List;", .declares ⟨"java/lang/RuntimeException", "<init>", "(Ljava/lang/String;)V"⟩, .declares ⟨"java/lang/Exception", "<init>", "(Ljava/lang/String;)V"⟩, .declares ⟨"java/lang/Throwable", "<init>", "(Ljava/lang/String;)V"⟩, .castable "java/lang/IndexOutOfBoundsException" "java/lang/IndexOutOfBoundsException", .isRef (.static "java/lang/Throwable" "UNASSIGNED_STACK" "[Ljava/lang/StackTraceElement;"), .isRef (.static "java/lang/Throwable" "SUPPRESSED_SENTINEL" "Ljava/util/List;"), .castable "java/lang/UnsupportedOperationException" "java/lang/UnsupportedOperationException", .castable "java/lang/IllegalArgumentException" "java/lang/IllegalArgumentException", .castable "java/lang/IllegalStateException" "java/lang/IllegalStateException", .castable "java/lang/ArithmeticException" "java/lang/ArithmeticException", .stringRef "RosterSolve" 173 "a number outside its range", .stringRef "RosterSolve" 178 "no room", .stringRef "RosterSolve" 166 "an unknown number", .stringRef "RosterSolve" 162 "the day is frozen", .stringRef "RosterSolve" 169 "the two persons are one", .stringRef "RosterSolve" 140 "the roster would not be right", .stringRef "RosterSolve" 153 "all cost 0"]
theorem x0 : (.laysStatic "java/lang/Throwable" "UNASSIGNED_STACK" "[Ljava/lang/StackTraceElement;" : Cond) ∈ XW := List.mem_of_getElem? (i := 0) rfl
theorem x1 : (.laysStatic "java/lang/Throwable" "SUPPRESSED_SENTINEL" "Ljava/util/List;" : Cond) ∈ XW := List.mem_of_getElem? (i := 1) rfl
theorem x2 : (.declares ⟨"java/lang/RuntimeException", "<init>", "(Ljava/lang/String;)V"⟩ : Cond) ∈ XW := List.mem_of_getElem? (i := 2) rfl
theorem x3 : (.declares ⟨"java/lang/Exception", "<init>", "(Ljava/lang/String;)V"⟩ : Cond) ∈ XW := List.mem_of_getElem? (i := 3) rfl
theorem x4 : (.declares ⟨"java/lang/Throwable", "<init>", "(Ljava/lang/String;)V"⟩ : Cond) ∈ XW := List.mem_of_getElem? (i := 4) rfl
theorem x5 : (.castable "java/lang/IndexOutOfBoundsException" "java/lang/IndexOutOfBoundsException" : Cond) ∈ XW := List.mem_of_getElem? (i := 5) rfl
theorem x6 : (.isRef (.static "java/lang/Throwable" "UNASSIGNED_STACK" "[Ljava/lang/StackTraceElement;") : Cond) ∈ XW := List.mem_of_getElem? (i := 6) rfl
theorem x7 : (.isRef (.static "java/lang/Throwable" "SUPPRESSED_SENTINEL" "Ljava/util/List;") : Cond) ∈ XW := List.mem_of_getElem? (i := 7) rfl
theorem x8 : (.castable "java/lang/UnsupportedOperationException" "java/lang/UnsupportedOperationException" : Cond) ∈ XW := List.mem_of_getElem? (i := 8) rfl
theorem x9 : (.castable "java/lang/IllegalArgumentException" "java/lang/IllegalArgumentException" : Cond) ∈ XW := List.mem_of_getElem? (i := 9) rfl
theorem x10 : (.castable "java/lang/IllegalStateException" "java/lang/IllegalStateException" : Cond) ∈ XW := List.mem_of_getElem? (i := 10) rfl
theorem x11 : (.castable "java/lang/ArithmeticException" "java/lang/ArithmeticException" : Cond) ∈ XW := List.mem_of_getElem? (i := 11) rfl
theorem x12 : (.stringRef "RosterSolve" 173 "a number outside its range" : Cond) ∈ XW := List.mem_of_getElem? (i := 12) rfl
theorem x13 : (.stringRef "RosterSolve" 178 "no room" : Cond) ∈ XW := List.mem_of_getElem? (i := 13) rfl
theorem x14 : (.stringRef "RosterSolve" 166 "an unknown number" : Cond) ∈ XW := List.mem_of_getElem? (i := 14) rfl
theorem x15 : (.stringRef "RosterSolve" 162 "the day is frozen" : Cond) ∈ XW := List.mem_of_getElem? (i := 15) rfl
theorem x16 : (.stringRef "RosterSolve" 169 "the two persons are one" : Cond) ∈ XW := List.mem_of_getElem? (i := 16) rfl
theorem x17 : (.stringRef "RosterSolve" 140 "the roster would not be right" : Cond) ∈ XW := List.mem_of_getElem? (i := 17) rfl
theorem x18 : (.stringRef "RosterSolve" 153 "all cost 0" : Cond) ∈ XW := List.mem_of_getElem? (i := 18) rfl
set_option maxRecDepth 100000 in
theorem oa_IOOBE {args : Array Value} {s : State} (htb : ∀ w ∈ TBG, w.before args s = true) (hxw : ∀ w ∈ XW, w.before args s = true) : ∀ a ∈ Bundle.ownAtoms "RosterSolve" 175 "java/lang/IndexOutOfBoundsException" ["java/lang/RuntimeException", "java/lang/Exception"], a.before args s = true := by
  refine List.forall_mem_cons.mpr ⟨htb _ (tbm 5 rfl rfl), ?_⟩
  refine List.forall_mem_cons.mpr ⟨htb _ (tbm 269 rfl rfl), ?_⟩
  refine List.forall_mem_cons.mpr ⟨htb _ (tbm 278 rfl rfl), ?_⟩
  refine List.forall_mem_cons.mpr ⟨htb _ (tbm 284 rfl rfl), ?_⟩
  refine List.forall_mem_cons.mpr ⟨htb _ (tbm 287 rfl rfl), ?_⟩
  refine List.forall_mem_cons.mpr ⟨htb _ (tbm 289 rfl rfl), ?_⟩
  refine List.forall_mem_cons.mpr ⟨htb _ (tbm 270 rfl rfl), ?_⟩
  refine List.forall_mem_cons.mpr ⟨htb _ (tbm 271 rfl rfl), ?_⟩
  refine List.forall_mem_cons.mpr ⟨htb _ (tbm 20 rfl rfl), ?_⟩
  refine List.forall_mem_cons.mpr ⟨htb _ (tbm 21 rfl rfl), ?_⟩
  refine List.forall_mem_cons.mpr ⟨htb _ (tbm 272 rfl rfl), ?_⟩
  refine List.forall_mem_cons.mpr ⟨htb _ (tbm 277 rfl rfl), ?_⟩
  refine List.forall_mem_cons.mpr ⟨htb _ (tbm 285 rfl rfl), ?_⟩
  refine List.forall_mem_cons.mpr ⟨htb _ (tbm 305 rfl rfl), ?_⟩
  refine List.forall_mem_cons.mpr ⟨htb _ (tbm 259 rfl rfl), ?_⟩
  refine List.forall_mem_cons.mpr ⟨htb _ (tbm 306 rfl rfl), ?_⟩
  refine List.forall_mem_cons.mpr ⟨htb _ (tbm 261 rfl rfl), ?_⟩
  refine List.forall_mem_cons.mpr ⟨htb _ (tbm 307 rfl rfl), ?_⟩
  refine List.forall_mem_cons.mpr ⟨htb _ (tbm 263 rfl rfl), ?_⟩
  refine List.forall_mem_cons.mpr ⟨htb _ (tbm 273 rfl rfl), ?_⟩
  refine List.forall_mem_cons.mpr ⟨hxw _ x0, ?_⟩
  refine List.forall_mem_cons.mpr ⟨htb _ (tbm 275 rfl rfl), ?_⟩
  refine List.forall_mem_cons.mpr ⟨hxw _ x1, ?_⟩
  refine List.forall_mem_cons.mpr ⟨htb _ (tbm 265 rfl rfl), ?_⟩
  refine List.forall_mem_cons.mpr ⟨htb _ (tbm 301 rfl rfl), ?_⟩
  refine List.forall_mem_cons.mpr ⟨htb _ (tbm 302 rfl rfl), ?_⟩
  refine List.forall_mem_cons.mpr ⟨htb _ (tbm 304 rfl rfl), ?_⟩
  refine List.forall_mem_cons.mpr ⟨htb _ (tbm 265 rfl rfl), ?_⟩
  refine List.forall_mem_cons.mpr ⟨htb _ (tbm 292 rfl rfl), ?_⟩
  refine List.forall_mem_cons.mpr ⟨htb _ (tbm 293 rfl rfl), ?_⟩
  refine List.forall_mem_cons.mpr ⟨htb _ (tbm 294 rfl rfl), ?_⟩
  refine List.forall_mem_cons.mpr ⟨htb _ (tbm 295 rfl rfl), ?_⟩
  refine List.forall_mem_cons.mpr ⟨hxw _ x2, ?_⟩
  refine List.forall_mem_cons.mpr ⟨htb _ (tbm 295 rfl rfl), ?_⟩
  refine List.forall_mem_cons.mpr ⟨htb _ (tbm 296 rfl rfl), ?_⟩
  refine List.forall_mem_cons.mpr ⟨htb _ (tbm 297 rfl rfl), ?_⟩
  refine List.forall_mem_cons.mpr ⟨htb _ (tbm 298 rfl rfl), ?_⟩
  refine List.forall_mem_cons.mpr ⟨hxw _ x3, ?_⟩
  refine List.forall_mem_cons.mpr ⟨htb _ (tbm 298 rfl rfl), ?_⟩
  refine List.forall_mem_cons.mpr ⟨htb _ (tbm 299 rfl rfl), ?_⟩
  refine List.forall_mem_cons.mpr ⟨htb _ (tbm 300 rfl rfl), ?_⟩
  refine List.forall_mem_cons.mpr ⟨htb _ (tbm 301 rfl rfl), ?_⟩
  refine List.forall_mem_cons.mpr ⟨hxw _ x4, ?_⟩
  refine List.forall_mem_cons.mpr ⟨htb _ (tbm 291 rfl rfl), ?_⟩
  refine List.forall_mem_cons.mpr ⟨htb _ (tbm 248 rfl rfl), ?_⟩
  refine List.forall_mem_cons.mpr ⟨hxw _ x5, ?_⟩
  refine List.forall_mem_cons.mpr ⟨htb _ (tbm 256 rfl rfl), ?_⟩
  refine List.forall_mem_cons.mpr ⟨htb _ (tbm 257 rfl rfl), ?_⟩
  refine List.forall_mem_cons.mpr ⟨htb _ (tbm 258 rfl rfl), ?_⟩
  refine List.forall_mem_cons.mpr ⟨htb _ (tbm 260 rfl rfl), ?_⟩
  refine List.forall_mem_cons.mpr ⟨htb _ (tbm 262 rfl rfl), ?_⟩
  refine List.forall_mem_cons.mpr ⟨htb _ (tbm 264 rfl rfl), ?_⟩
  refine List.forall_mem_cons.mpr ⟨hxw _ x6, ?_⟩
  refine List.forall_mem_cons.mpr ⟨hxw _ x7, ?_⟩
  refine List.forall_mem_cons.mpr ⟨htb _ (tbm 268 rfl rfl), ?_⟩
  refine List.forall_mem_cons.mpr ⟨htb _ (tbm 267 rfl rfl), ?_⟩
  refine List.forall_mem_cons.mpr ⟨htb _ (tbm 266 rfl rfl), ?_⟩
  exact fun a h => absurd h List.not_mem_nil
set_option maxRecDepth 100000 in
theorem oa_UOE {args : Array Value} {s : State} (htb : ∀ w ∈ TBG, w.before args s = true) (hxw : ∀ w ∈ XW, w.before args s = true) : ∀ a ∈ Bundle.ownAtoms "RosterSolve" 180 "java/lang/UnsupportedOperationException" ["java/lang/RuntimeException", "java/lang/Exception"], a.before args s = true := by
  refine List.forall_mem_cons.mpr ⟨htb _ (tbm 5 rfl rfl), ?_⟩
  refine List.forall_mem_cons.mpr ⟨htb _ (tbm 269 rfl rfl), ?_⟩
  refine List.forall_mem_cons.mpr ⟨htb _ (tbm 278 rfl rfl), ?_⟩
  refine List.forall_mem_cons.mpr ⟨htb _ (tbm 284 rfl rfl), ?_⟩
  refine List.forall_mem_cons.mpr ⟨htb _ (tbm 287 rfl rfl), ?_⟩
  refine List.forall_mem_cons.mpr ⟨htb _ (tbm 289 rfl rfl), ?_⟩
  refine List.forall_mem_cons.mpr ⟨htb _ (tbm 270 rfl rfl), ?_⟩
  refine List.forall_mem_cons.mpr ⟨htb _ (tbm 271 rfl rfl), ?_⟩
  refine List.forall_mem_cons.mpr ⟨htb _ (tbm 20 rfl rfl), ?_⟩
  refine List.forall_mem_cons.mpr ⟨htb _ (tbm 21 rfl rfl), ?_⟩
  refine List.forall_mem_cons.mpr ⟨htb _ (tbm 272 rfl rfl), ?_⟩
  refine List.forall_mem_cons.mpr ⟨htb _ (tbm 277 rfl rfl), ?_⟩
  refine List.forall_mem_cons.mpr ⟨htb _ (tbm 285 rfl rfl), ?_⟩
  refine List.forall_mem_cons.mpr ⟨htb _ (tbm 305 rfl rfl), ?_⟩
  refine List.forall_mem_cons.mpr ⟨htb _ (tbm 259 rfl rfl), ?_⟩
  refine List.forall_mem_cons.mpr ⟨htb _ (tbm 306 rfl rfl), ?_⟩
  refine List.forall_mem_cons.mpr ⟨htb _ (tbm 261 rfl rfl), ?_⟩
  refine List.forall_mem_cons.mpr ⟨htb _ (tbm 307 rfl rfl), ?_⟩
  refine List.forall_mem_cons.mpr ⟨htb _ (tbm 263 rfl rfl), ?_⟩
  refine List.forall_mem_cons.mpr ⟨htb _ (tbm 273 rfl rfl), ?_⟩
  refine List.forall_mem_cons.mpr ⟨hxw _ x0, ?_⟩
  refine List.forall_mem_cons.mpr ⟨htb _ (tbm 275 rfl rfl), ?_⟩
  refine List.forall_mem_cons.mpr ⟨hxw _ x1, ?_⟩
  refine List.forall_mem_cons.mpr ⟨htb _ (tbm 265 rfl rfl), ?_⟩
  refine List.forall_mem_cons.mpr ⟨htb _ (tbm 301 rfl rfl), ?_⟩
  refine List.forall_mem_cons.mpr ⟨htb _ (tbm 302 rfl rfl), ?_⟩
  refine List.forall_mem_cons.mpr ⟨htb _ (tbm 304 rfl rfl), ?_⟩
  refine List.forall_mem_cons.mpr ⟨htb _ (tbm 265 rfl rfl), ?_⟩
  refine List.forall_mem_cons.mpr ⟨htb _ (tbm 347 rfl rfl), ?_⟩
  refine List.forall_mem_cons.mpr ⟨htb _ (tbm 348 rfl rfl), ?_⟩
  refine List.forall_mem_cons.mpr ⟨htb _ (tbm 349 rfl rfl), ?_⟩
  refine List.forall_mem_cons.mpr ⟨htb _ (tbm 295 rfl rfl), ?_⟩
  refine List.forall_mem_cons.mpr ⟨hxw _ x2, ?_⟩
  refine List.forall_mem_cons.mpr ⟨htb _ (tbm 295 rfl rfl), ?_⟩
  refine List.forall_mem_cons.mpr ⟨htb _ (tbm 296 rfl rfl), ?_⟩
  refine List.forall_mem_cons.mpr ⟨htb _ (tbm 297 rfl rfl), ?_⟩
  refine List.forall_mem_cons.mpr ⟨htb _ (tbm 298 rfl rfl), ?_⟩
  refine List.forall_mem_cons.mpr ⟨hxw _ x3, ?_⟩
  refine List.forall_mem_cons.mpr ⟨htb _ (tbm 298 rfl rfl), ?_⟩
  refine List.forall_mem_cons.mpr ⟨htb _ (tbm 299 rfl rfl), ?_⟩
  refine List.forall_mem_cons.mpr ⟨htb _ (tbm 300 rfl rfl), ?_⟩
  refine List.forall_mem_cons.mpr ⟨htb _ (tbm 301 rfl rfl), ?_⟩
  refine List.forall_mem_cons.mpr ⟨hxw _ x4, ?_⟩
  refine List.forall_mem_cons.mpr ⟨htb _ (tbm 346 rfl rfl), ?_⟩
  refine List.forall_mem_cons.mpr ⟨htb _ (tbm 337 rfl rfl), ?_⟩
  refine List.forall_mem_cons.mpr ⟨hxw _ x8, ?_⟩
  refine List.forall_mem_cons.mpr ⟨htb _ (tbm 339 rfl rfl), ?_⟩
  refine List.forall_mem_cons.mpr ⟨htb _ (tbm 283 rfl rfl), ?_⟩
  refine List.forall_mem_cons.mpr ⟨htb _ (tbm 340 rfl rfl), ?_⟩
  refine List.forall_mem_cons.mpr ⟨htb _ (tbm 341 rfl rfl), ?_⟩
  refine List.forall_mem_cons.mpr ⟨htb _ (tbm 342 rfl rfl), ?_⟩
  refine List.forall_mem_cons.mpr ⟨htb _ (tbm 343 rfl rfl), ?_⟩
  refine List.forall_mem_cons.mpr ⟨hxw _ x6, ?_⟩
  refine List.forall_mem_cons.mpr ⟨hxw _ x7, ?_⟩
  refine List.forall_mem_cons.mpr ⟨htb _ (tbm 268 rfl rfl), ?_⟩
  refine List.forall_mem_cons.mpr ⟨htb _ (tbm 267 rfl rfl), ?_⟩
  refine List.forall_mem_cons.mpr ⟨htb _ (tbm 344 rfl rfl), ?_⟩
  exact fun a h => absurd h List.not_mem_nil
set_option maxRecDepth 100000 in
theorem oa_IAE {args : Array Value} {s : State} (htb : ∀ w ∈ TBG, w.before args s = true) (hxw : ∀ w ∈ XW, w.before args s = true) : ∀ a ∈ Bundle.ownAtoms "RosterSolve" 168 "java/lang/IllegalArgumentException" ["java/lang/RuntimeException", "java/lang/Exception"], a.before args s = true := by
  refine List.forall_mem_cons.mpr ⟨htb _ (tbm 5 rfl rfl), ?_⟩
  refine List.forall_mem_cons.mpr ⟨htb _ (tbm 269 rfl rfl), ?_⟩
  refine List.forall_mem_cons.mpr ⟨htb _ (tbm 278 rfl rfl), ?_⟩
  refine List.forall_mem_cons.mpr ⟨htb _ (tbm 284 rfl rfl), ?_⟩
  refine List.forall_mem_cons.mpr ⟨htb _ (tbm 287 rfl rfl), ?_⟩
  refine List.forall_mem_cons.mpr ⟨htb _ (tbm 289 rfl rfl), ?_⟩
  refine List.forall_mem_cons.mpr ⟨htb _ (tbm 270 rfl rfl), ?_⟩
  refine List.forall_mem_cons.mpr ⟨htb _ (tbm 271 rfl rfl), ?_⟩
  refine List.forall_mem_cons.mpr ⟨htb _ (tbm 20 rfl rfl), ?_⟩
  refine List.forall_mem_cons.mpr ⟨htb _ (tbm 21 rfl rfl), ?_⟩
  refine List.forall_mem_cons.mpr ⟨htb _ (tbm 272 rfl rfl), ?_⟩
  refine List.forall_mem_cons.mpr ⟨htb _ (tbm 277 rfl rfl), ?_⟩
  refine List.forall_mem_cons.mpr ⟨htb _ (tbm 285 rfl rfl), ?_⟩
  refine List.forall_mem_cons.mpr ⟨htb _ (tbm 305 rfl rfl), ?_⟩
  refine List.forall_mem_cons.mpr ⟨htb _ (tbm 259 rfl rfl), ?_⟩
  refine List.forall_mem_cons.mpr ⟨htb _ (tbm 306 rfl rfl), ?_⟩
  refine List.forall_mem_cons.mpr ⟨htb _ (tbm 261 rfl rfl), ?_⟩
  refine List.forall_mem_cons.mpr ⟨htb _ (tbm 307 rfl rfl), ?_⟩
  refine List.forall_mem_cons.mpr ⟨htb _ (tbm 263 rfl rfl), ?_⟩
  refine List.forall_mem_cons.mpr ⟨htb _ (tbm 273 rfl rfl), ?_⟩
  refine List.forall_mem_cons.mpr ⟨hxw _ x0, ?_⟩
  refine List.forall_mem_cons.mpr ⟨htb _ (tbm 275 rfl rfl), ?_⟩
  refine List.forall_mem_cons.mpr ⟨hxw _ x1, ?_⟩
  refine List.forall_mem_cons.mpr ⟨htb _ (tbm 265 rfl rfl), ?_⟩
  refine List.forall_mem_cons.mpr ⟨htb _ (tbm 301 rfl rfl), ?_⟩
  refine List.forall_mem_cons.mpr ⟨htb _ (tbm 302 rfl rfl), ?_⟩
  refine List.forall_mem_cons.mpr ⟨htb _ (tbm 304 rfl rfl), ?_⟩
  refine List.forall_mem_cons.mpr ⟨htb _ (tbm 265 rfl rfl), ?_⟩
  refine List.forall_mem_cons.mpr ⟨htb _ (tbm 382 rfl rfl), ?_⟩
  refine List.forall_mem_cons.mpr ⟨htb _ (tbm 383 rfl rfl), ?_⟩
  refine List.forall_mem_cons.mpr ⟨htb _ (tbm 384 rfl rfl), ?_⟩
  refine List.forall_mem_cons.mpr ⟨htb _ (tbm 295 rfl rfl), ?_⟩
  refine List.forall_mem_cons.mpr ⟨hxw _ x2, ?_⟩
  refine List.forall_mem_cons.mpr ⟨htb _ (tbm 295 rfl rfl), ?_⟩
  refine List.forall_mem_cons.mpr ⟨htb _ (tbm 296 rfl rfl), ?_⟩
  refine List.forall_mem_cons.mpr ⟨htb _ (tbm 297 rfl rfl), ?_⟩
  refine List.forall_mem_cons.mpr ⟨htb _ (tbm 298 rfl rfl), ?_⟩
  refine List.forall_mem_cons.mpr ⟨hxw _ x3, ?_⟩
  refine List.forall_mem_cons.mpr ⟨htb _ (tbm 298 rfl rfl), ?_⟩
  refine List.forall_mem_cons.mpr ⟨htb _ (tbm 299 rfl rfl), ?_⟩
  refine List.forall_mem_cons.mpr ⟨htb _ (tbm 300 rfl rfl), ?_⟩
  refine List.forall_mem_cons.mpr ⟨htb _ (tbm 301 rfl rfl), ?_⟩
  refine List.forall_mem_cons.mpr ⟨hxw _ x4, ?_⟩
  refine List.forall_mem_cons.mpr ⟨htb _ (tbm 381 rfl rfl), ?_⟩
  refine List.forall_mem_cons.mpr ⟨htb _ (tbm 372 rfl rfl), ?_⟩
  refine List.forall_mem_cons.mpr ⟨hxw _ x9, ?_⟩
  refine List.forall_mem_cons.mpr ⟨htb _ (tbm 374 rfl rfl), ?_⟩
  refine List.forall_mem_cons.mpr ⟨htb _ (tbm 281 rfl rfl), ?_⟩
  refine List.forall_mem_cons.mpr ⟨htb _ (tbm 375 rfl rfl), ?_⟩
  refine List.forall_mem_cons.mpr ⟨htb _ (tbm 376 rfl rfl), ?_⟩
  refine List.forall_mem_cons.mpr ⟨htb _ (tbm 377 rfl rfl), ?_⟩
  refine List.forall_mem_cons.mpr ⟨htb _ (tbm 378 rfl rfl), ?_⟩
  refine List.forall_mem_cons.mpr ⟨hxw _ x6, ?_⟩
  refine List.forall_mem_cons.mpr ⟨hxw _ x7, ?_⟩
  refine List.forall_mem_cons.mpr ⟨htb _ (tbm 268 rfl rfl), ?_⟩
  refine List.forall_mem_cons.mpr ⟨htb _ (tbm 267 rfl rfl), ?_⟩
  refine List.forall_mem_cons.mpr ⟨htb _ (tbm 379 rfl rfl), ?_⟩
  exact fun a h => absurd h List.not_mem_nil
set_option maxRecDepth 100000 in
theorem oa_ISE {args : Array Value} {s : State} (htb : ∀ w ∈ TBG, w.before args s = true) (hxw : ∀ w ∈ XW, w.before args s = true) : ∀ a ∈ Bundle.ownAtoms "RosterSolve" 142 "java/lang/IllegalStateException" ["java/lang/RuntimeException", "java/lang/Exception"], a.before args s = true := by
  refine List.forall_mem_cons.mpr ⟨htb _ (tbm 5 rfl rfl), ?_⟩
  refine List.forall_mem_cons.mpr ⟨htb _ (tbm 269 rfl rfl), ?_⟩
  refine List.forall_mem_cons.mpr ⟨htb _ (tbm 278 rfl rfl), ?_⟩
  refine List.forall_mem_cons.mpr ⟨htb _ (tbm 284 rfl rfl), ?_⟩
  refine List.forall_mem_cons.mpr ⟨htb _ (tbm 287 rfl rfl), ?_⟩
  refine List.forall_mem_cons.mpr ⟨htb _ (tbm 289 rfl rfl), ?_⟩
  refine List.forall_mem_cons.mpr ⟨htb _ (tbm 270 rfl rfl), ?_⟩
  refine List.forall_mem_cons.mpr ⟨htb _ (tbm 271 rfl rfl), ?_⟩
  refine List.forall_mem_cons.mpr ⟨htb _ (tbm 20 rfl rfl), ?_⟩
  refine List.forall_mem_cons.mpr ⟨htb _ (tbm 21 rfl rfl), ?_⟩
  refine List.forall_mem_cons.mpr ⟨htb _ (tbm 272 rfl rfl), ?_⟩
  refine List.forall_mem_cons.mpr ⟨htb _ (tbm 277 rfl rfl), ?_⟩
  refine List.forall_mem_cons.mpr ⟨htb _ (tbm 285 rfl rfl), ?_⟩
  refine List.forall_mem_cons.mpr ⟨htb _ (tbm 305 rfl rfl), ?_⟩
  refine List.forall_mem_cons.mpr ⟨htb _ (tbm 259 rfl rfl), ?_⟩
  refine List.forall_mem_cons.mpr ⟨htb _ (tbm 306 rfl rfl), ?_⟩
  refine List.forall_mem_cons.mpr ⟨htb _ (tbm 261 rfl rfl), ?_⟩
  refine List.forall_mem_cons.mpr ⟨htb _ (tbm 307 rfl rfl), ?_⟩
  refine List.forall_mem_cons.mpr ⟨htb _ (tbm 263 rfl rfl), ?_⟩
  refine List.forall_mem_cons.mpr ⟨htb _ (tbm 273 rfl rfl), ?_⟩
  refine List.forall_mem_cons.mpr ⟨hxw _ x0, ?_⟩
  refine List.forall_mem_cons.mpr ⟨htb _ (tbm 275 rfl rfl), ?_⟩
  refine List.forall_mem_cons.mpr ⟨hxw _ x1, ?_⟩
  refine List.forall_mem_cons.mpr ⟨htb _ (tbm 265 rfl rfl), ?_⟩
  refine List.forall_mem_cons.mpr ⟨htb _ (tbm 301 rfl rfl), ?_⟩
  refine List.forall_mem_cons.mpr ⟨htb _ (tbm 302 rfl rfl), ?_⟩
  refine List.forall_mem_cons.mpr ⟨htb _ (tbm 304 rfl rfl), ?_⟩
  refine List.forall_mem_cons.mpr ⟨htb _ (tbm 265 rfl rfl), ?_⟩
  refine List.forall_mem_cons.mpr ⟨htb _ (tbm 437 rfl rfl), ?_⟩
  refine List.forall_mem_cons.mpr ⟨htb _ (tbm 438 rfl rfl), ?_⟩
  refine List.forall_mem_cons.mpr ⟨htb _ (tbm 439 rfl rfl), ?_⟩
  refine List.forall_mem_cons.mpr ⟨htb _ (tbm 295 rfl rfl), ?_⟩
  refine List.forall_mem_cons.mpr ⟨hxw _ x2, ?_⟩
  refine List.forall_mem_cons.mpr ⟨htb _ (tbm 295 rfl rfl), ?_⟩
  refine List.forall_mem_cons.mpr ⟨htb _ (tbm 296 rfl rfl), ?_⟩
  refine List.forall_mem_cons.mpr ⟨htb _ (tbm 297 rfl rfl), ?_⟩
  refine List.forall_mem_cons.mpr ⟨htb _ (tbm 298 rfl rfl), ?_⟩
  refine List.forall_mem_cons.mpr ⟨hxw _ x3, ?_⟩
  refine List.forall_mem_cons.mpr ⟨htb _ (tbm 298 rfl rfl), ?_⟩
  refine List.forall_mem_cons.mpr ⟨htb _ (tbm 299 rfl rfl), ?_⟩
  refine List.forall_mem_cons.mpr ⟨htb _ (tbm 300 rfl rfl), ?_⟩
  refine List.forall_mem_cons.mpr ⟨htb _ (tbm 301 rfl rfl), ?_⟩
  refine List.forall_mem_cons.mpr ⟨hxw _ x4, ?_⟩
  refine List.forall_mem_cons.mpr ⟨htb _ (tbm 436 rfl rfl), ?_⟩
  refine List.forall_mem_cons.mpr ⟨htb _ (tbm 427 rfl rfl), ?_⟩
  refine List.forall_mem_cons.mpr ⟨hxw _ x10, ?_⟩
  refine List.forall_mem_cons.mpr ⟨htb _ (tbm 429 rfl rfl), ?_⟩
  refine List.forall_mem_cons.mpr ⟨htb _ (tbm 282 rfl rfl), ?_⟩
  refine List.forall_mem_cons.mpr ⟨htb _ (tbm 430 rfl rfl), ?_⟩
  refine List.forall_mem_cons.mpr ⟨htb _ (tbm 431 rfl rfl), ?_⟩
  refine List.forall_mem_cons.mpr ⟨htb _ (tbm 432 rfl rfl), ?_⟩
  refine List.forall_mem_cons.mpr ⟨htb _ (tbm 433 rfl rfl), ?_⟩
  refine List.forall_mem_cons.mpr ⟨hxw _ x6, ?_⟩
  refine List.forall_mem_cons.mpr ⟨hxw _ x7, ?_⟩
  refine List.forall_mem_cons.mpr ⟨htb _ (tbm 268 rfl rfl), ?_⟩
  refine List.forall_mem_cons.mpr ⟨htb _ (tbm 267 rfl rfl), ?_⟩
  refine List.forall_mem_cons.mpr ⟨htb _ (tbm 434 rfl rfl), ?_⟩
  exact fun a h => absurd h List.not_mem_nil
set_option maxRecDepth 100000 in
theorem oa_AE {args : Array Value} {s : State} (htb : ∀ w ∈ TBG, w.before args s = true) (hxw : ∀ w ∈ XW, w.before args s = true) : ∀ a ∈ Bundle.ownAtoms "RosterSolve" 155 "java/lang/ArithmeticException" ["java/lang/RuntimeException", "java/lang/Exception"], a.before args s = true := by
  refine List.forall_mem_cons.mpr ⟨htb _ (tbm 5 rfl rfl), ?_⟩
  refine List.forall_mem_cons.mpr ⟨htb _ (tbm 269 rfl rfl), ?_⟩
  refine List.forall_mem_cons.mpr ⟨htb _ (tbm 278 rfl rfl), ?_⟩
  refine List.forall_mem_cons.mpr ⟨htb _ (tbm 284 rfl rfl), ?_⟩
  refine List.forall_mem_cons.mpr ⟨htb _ (tbm 287 rfl rfl), ?_⟩
  refine List.forall_mem_cons.mpr ⟨htb _ (tbm 289 rfl rfl), ?_⟩
  refine List.forall_mem_cons.mpr ⟨htb _ (tbm 270 rfl rfl), ?_⟩
  refine List.forall_mem_cons.mpr ⟨htb _ (tbm 271 rfl rfl), ?_⟩
  refine List.forall_mem_cons.mpr ⟨htb _ (tbm 20 rfl rfl), ?_⟩
  refine List.forall_mem_cons.mpr ⟨htb _ (tbm 21 rfl rfl), ?_⟩
  refine List.forall_mem_cons.mpr ⟨htb _ (tbm 272 rfl rfl), ?_⟩
  refine List.forall_mem_cons.mpr ⟨htb _ (tbm 277 rfl rfl), ?_⟩
  refine List.forall_mem_cons.mpr ⟨htb _ (tbm 285 rfl rfl), ?_⟩
  refine List.forall_mem_cons.mpr ⟨htb _ (tbm 305 rfl rfl), ?_⟩
  refine List.forall_mem_cons.mpr ⟨htb _ (tbm 259 rfl rfl), ?_⟩
  refine List.forall_mem_cons.mpr ⟨htb _ (tbm 306 rfl rfl), ?_⟩
  refine List.forall_mem_cons.mpr ⟨htb _ (tbm 261 rfl rfl), ?_⟩
  refine List.forall_mem_cons.mpr ⟨htb _ (tbm 307 rfl rfl), ?_⟩
  refine List.forall_mem_cons.mpr ⟨htb _ (tbm 263 rfl rfl), ?_⟩
  refine List.forall_mem_cons.mpr ⟨htb _ (tbm 273 rfl rfl), ?_⟩
  refine List.forall_mem_cons.mpr ⟨hxw _ x0, ?_⟩
  refine List.forall_mem_cons.mpr ⟨htb _ (tbm 275 rfl rfl), ?_⟩
  refine List.forall_mem_cons.mpr ⟨hxw _ x1, ?_⟩
  refine List.forall_mem_cons.mpr ⟨htb _ (tbm 265 rfl rfl), ?_⟩
  refine List.forall_mem_cons.mpr ⟨htb _ (tbm 301 rfl rfl), ?_⟩
  refine List.forall_mem_cons.mpr ⟨htb _ (tbm 302 rfl rfl), ?_⟩
  refine List.forall_mem_cons.mpr ⟨htb _ (tbm 304 rfl rfl), ?_⟩
  refine List.forall_mem_cons.mpr ⟨htb _ (tbm 265 rfl rfl), ?_⟩
  refine List.forall_mem_cons.mpr ⟨htb _ (tbm 559 rfl rfl), ?_⟩
  refine List.forall_mem_cons.mpr ⟨htb _ (tbm 560 rfl rfl), ?_⟩
  refine List.forall_mem_cons.mpr ⟨htb _ (tbm 561 rfl rfl), ?_⟩
  refine List.forall_mem_cons.mpr ⟨htb _ (tbm 295 rfl rfl), ?_⟩
  refine List.forall_mem_cons.mpr ⟨hxw _ x2, ?_⟩
  refine List.forall_mem_cons.mpr ⟨htb _ (tbm 295 rfl rfl), ?_⟩
  refine List.forall_mem_cons.mpr ⟨htb _ (tbm 296 rfl rfl), ?_⟩
  refine List.forall_mem_cons.mpr ⟨htb _ (tbm 297 rfl rfl), ?_⟩
  refine List.forall_mem_cons.mpr ⟨htb _ (tbm 298 rfl rfl), ?_⟩
  refine List.forall_mem_cons.mpr ⟨hxw _ x3, ?_⟩
  refine List.forall_mem_cons.mpr ⟨htb _ (tbm 298 rfl rfl), ?_⟩
  refine List.forall_mem_cons.mpr ⟨htb _ (tbm 299 rfl rfl), ?_⟩
  refine List.forall_mem_cons.mpr ⟨htb _ (tbm 300 rfl rfl), ?_⟩
  refine List.forall_mem_cons.mpr ⟨htb _ (tbm 301 rfl rfl), ?_⟩
  refine List.forall_mem_cons.mpr ⟨hxw _ x4, ?_⟩
  refine List.forall_mem_cons.mpr ⟨htb _ (tbm 558 rfl rfl), ?_⟩
  refine List.forall_mem_cons.mpr ⟨htb _ (tbm 549 rfl rfl), ?_⟩
  refine List.forall_mem_cons.mpr ⟨hxw _ x11, ?_⟩
  refine List.forall_mem_cons.mpr ⟨htb _ (tbm 551 rfl rfl), ?_⟩
  refine List.forall_mem_cons.mpr ⟨htb _ (tbm 280 rfl rfl), ?_⟩
  refine List.forall_mem_cons.mpr ⟨htb _ (tbm 552 rfl rfl), ?_⟩
  refine List.forall_mem_cons.mpr ⟨htb _ (tbm 553 rfl rfl), ?_⟩
  refine List.forall_mem_cons.mpr ⟨htb _ (tbm 554 rfl rfl), ?_⟩
  refine List.forall_mem_cons.mpr ⟨htb _ (tbm 555 rfl rfl), ?_⟩
  refine List.forall_mem_cons.mpr ⟨hxw _ x6, ?_⟩
  refine List.forall_mem_cons.mpr ⟨hxw _ x7, ?_⟩
  refine List.forall_mem_cons.mpr ⟨htb _ (tbm 268 rfl rfl), ?_⟩
  refine List.forall_mem_cons.mpr ⟨htb _ (tbm 267 rfl rfl), ?_⟩
  refine List.forall_mem_cons.mpr ⟨htb _ (tbm 556 rfl rfl), ?_⟩
  exact fun a h => absurd h List.not_mem_nil
