def pb {α β : Type} (o : Option (α × Hp)) (f : α → Hp → Option β) : Option β := match o with
  | none => none
  | some q => f q.1 q.2
theorem pbind {α β : Type} {o : Option (α × Hp)} {f : α → Hp → Option β} {b : β} (h : pb o f = some b) : ∃ a σ, o = some (a, σ) ∧ f a σ = some b := by
  cases o with
  | none => cases h
  | some q => exact ⟨q.1, q.2, rfl, h⟩
def pbx {β : Type} (o : Option ((Int32 ⊕ Nat) × Hp)) (f : Int32 → Hp → Option β) (g : Nat → Hp → Option β) : Option β := match o with
  | none => none
  | some (.inl a, σ) => f a σ
  | some (.inr k, σ) => g k σ
theorem pbxbind {β : Type} {o : Option ((Int32 ⊕ Nat) × Hp)} {f : Int32 → Hp → Option β} {g : Nat → Hp → Option β} {b : β} (h : pbx o f g = some b) : (∃ a σ, o = some (.inl a, σ) ∧ f a σ = some b) ∨ ∃ k σ, o = some (.inr k, σ) ∧ g k σ = some b := by
  match o, h with
  | some (.inl a, σ), h => exact Or.inl ⟨a, σ, rfl, h⟩
  | some (.inr k, σ), h => exact Or.inr ⟨k, σ, rfl, h⟩
theorem sw_out {x : Int32} (hi : Nat) (l : List Nat) (hl : l = List.range (hi + 1)) (h : ∀ j ∈ l, ¬ x = Int32.ofNat j) : x.toInt < 0 ∨ (hi : Int) < x.toInt := by
  by_cases h1 : x.toInt < 0
  · exact Or.inl h1
  · by_cases h2 : (hi : Int) < x.toInt
    · exact Or.inr h2
    · exfalso
      refine h x.toInt.toNat ?_ ?_
      · rw [hl, List.mem_range]; omega
      · have e : ((x.toInt.toNat : Nat) : Int) = x.toInt := Int.toNat_of_nonneg (by omega)
        apply Int32.toInt_inj.mp
        have hb : x.toInt < 2 ^ 31 := Int32.toInt_lt x
        rw [show Int32.ofNat x.toInt.toNat = nI x.toInt.toNat from rfl, nI_toInt (by omega), e]
theorem sl0 : Cond.selects "WindowCache" ⟨"WindowCache", "ask", "(I)I"⟩ ⟨"WindowCache", "ask", "(I)I"⟩ ∈ lw_tbl := List.mem_append_left _ (List.mem_of_getElem? (i := 0) (by decide +kernel))
theorem sl1 : Cond.selects "WindowCache" ⟨"WindowCache", "isSeen", "(LWindowCache$Entry;)Z"⟩ ⟨"WindowCache", "isSeen", "(LWindowCache$Entry;)Z"⟩ ∈ lw_tbl := List.mem_append_left _ (List.mem_of_getElem? (i := 1) (by decide +kernel))
theorem sl2 : Cond.selects "WindowCache" ⟨"WindowCache", "dropFromMap", "(LWindowCache$Entry;I)V"⟩ ⟨"WindowCache", "dropFromMap", "(LWindowCache$Entry;I)V"⟩ ∈ lw_tbl := List.mem_append_left _ (List.mem_of_getElem? (i := 2) (by decide +kernel))
theorem sl3 : Cond.selects "WindowCache" ⟨"WindowCache", "tidy", "()V"⟩ ⟨"WindowCache", "tidy", "()V"⟩ ∈ lw_tbl := List.mem_append_left _ (List.mem_of_getElem? (i := 3) (by decide +kernel))
theorem sl4 : Cond.selects "WindowCache" ⟨"WindowCache", "takeNotes", "(LWindowCache$Notes;)V"⟩ ⟨"WindowCache", "takeNotes", "(LWindowCache$Notes;)V"⟩ ∈ lw_tbl := List.mem_append_left _ (List.mem_of_getElem? (i := 4) (by decide +kernel))
theorem sl5 : Cond.selects "WindowCache" ⟨"WindowCache", "takeTasks", "()V"⟩ ⟨"WindowCache", "takeTasks", "()V"⟩ ∈ lw_tbl := List.mem_append_left _ (List.mem_of_getElem? (i := 5) (by decide +kernel))
theorem sl6 : Cond.selects "WindowCache" ⟨"WindowCache", "expire", "()V"⟩ ⟨"WindowCache", "expire", "()V"⟩ ∈ lw_tbl := List.mem_append_left _ (List.mem_of_getElem? (i := 6) (by decide +kernel))
theorem sl7 : Cond.selects "WindowCache" ⟨"WindowCache", "evict", "(LWindowCache$Entry;)V"⟩ ⟨"WindowCache", "evict", "(LWindowCache$Entry;)V"⟩ ∈ lw_tbl := List.mem_append_left _ (List.mem_of_getElem? (i := 7) (by decide +kernel))
theorem sl8 : Cond.selects "WindowCache" ⟨"WindowCache", "loserOf", "(LWindowCache$Entry;LWindowCache$Entry;)LWindowCache$Entry;"⟩ ⟨"WindowCache", "loserOf", "(LWindowCache$Entry;LWindowCache$Entry;)LWindowCache$Entry;"⟩ ∈ lw_tbl := List.mem_append_left _ (List.mem_of_getElem? (i := 8) (by decide +kernel))
theorem sl9 : Cond.selects "WindowCache" ⟨"WindowCache", "nextDraw", "()I"⟩ ⟨"WindowCache", "nextDraw", "()I"⟩ ∈ lw_tbl := List.mem_append_left _ (List.mem_of_getElem? (i := 9) (by decide +kernel))
theorem sl10 : Cond.selects "WindowCache" ⟨"WindowCache", "climbIfDue", "()V"⟩ ⟨"WindowCache", "climbIfDue", "()V"⟩ ∈ lw_tbl := List.mem_append_left _ (List.mem_of_getElem? (i := 10) (by decide +kernel))
theorem sl11 : Cond.selects "WindowCache" ⟨"WindowCache", "entriesInMap", "(Z)I"⟩ ⟨"WindowCache", "entriesInMap", "(Z)I"⟩ ∈ lw_tbl := List.mem_append_left _ (List.mem_of_getElem? (i := 11) (by decide +kernel))
theorem sl12 : Cond.selects "WindowCache" ⟨"WindowCache", "keysOnTheirWay", "()I"⟩ ⟨"WindowCache", "keysOnTheirWay", "()I"⟩ ∈ lw_tbl := List.mem_append_left _ (List.mem_of_getElem? (i := 12) (by decide +kernel))
theorem sl13 : Cond.selects "java/lang/Throwable" ⟨"java/lang/Throwable", "fillInStackTrace", "(I)Ljava/lang/Throwable;"⟩ ⟨"java/lang/Throwable", "fillInStackTrace", "(I)Ljava/lang/Throwable;"⟩ ∈ lw_tbl := List.mem_append_left _ (List.mem_of_getElem? (i := 13) (by decide +kernel))
theorem sl14 : Cond.selects "WindowCache" ⟨"WindowCache", "store", "(IIII)Z"⟩ ⟨"WindowCache", "store", "(IIII)Z"⟩ ∈ lw_tbl := List.mem_append_left _ (List.mem_of_getElem? (i := 14) (by decide +kernel))
theorem sl15 : Cond.selects "WindowCache" ⟨"WindowCache", "fill", "(LWindowCache$Entry;III)V"⟩ ⟨"WindowCache", "fill", "(LWindowCache$Entry;III)V"⟩ ∈ lw_tbl := List.mem_append_left _ (List.mem_of_getElem? (i := 15) (by decide +kernel))
theorem sl16 : Cond.selects "WindowCache" ⟨"WindowCache", "isWelcome", "(LWindowCache$Way;I)Z"⟩ ⟨"WindowCache", "isWelcome", "(LWindowCache$Way;I)Z"⟩ ∈ lw_tbl := List.mem_append_left _ (List.mem_of_getElem? (i := 16) (by decide +kernel))
theorem sl17 : Cond.selects "WindowCacheModel" ⟨"WindowCacheModel", "firstStep", "()I"⟩ ⟨"WindowCacheModel", "firstStep", "()I"⟩ ∈ lw_tbl := List.mem_append_left _ (List.mem_of_getElem? (i := 17) (by decide +kernel))
theorem sl18 : Cond.selects "WindowCacheModel" ⟨"WindowCacheModel", "got", "(I)I"⟩ ⟨"WindowCacheModel", "got", "(I)I"⟩ ∈ lw_tbl := List.mem_append_left _ (List.mem_of_getElem? (i := 18) (by decide +kernel))
theorem sl19 : Cond.selects "WindowCacheModel" ⟨"WindowCacheModel", "seen", "(I)I"⟩ ⟨"WindowCacheModel", "seen", "(I)I"⟩ ∈ lw_tbl := List.mem_append_left _ (List.mem_of_getElem? (i := 19) (by decide +kernel))
theorem sl20 : Cond.selects "WindowCacheModel" ⟨"WindowCacheModel", "isOver", "(I)Z"⟩ ⟨"WindowCacheModel", "isOver", "(I)Z"⟩ ∈ lw_tbl := List.mem_append_left _ (List.mem_of_getElem? (i := 20) (by decide +kernel))
theorem sl21 : Cond.selects "WindowCacheModel" ⟨"WindowCacheModel", "end", "(I)J"⟩ ⟨"WindowCacheModel", "end", "(I)J"⟩ ∈ lw_tbl := List.mem_append_left _ (List.mem_of_getElem? (i := 21) (by decide +kernel))
theorem sl22 : Cond.selects "WindowCacheModel" ⟨"WindowCacheModel", "lay", "(IIII)Z"⟩ ⟨"WindowCacheModel", "lay", "(IIII)Z"⟩ ∈ lw_tbl := List.mem_append_left _ (List.mem_of_getElem? (i := 22) (by decide +kernel))
theorem sl23 : Cond.selects "WindowCacheModel" ⟨"WindowCacheModel", "hear", "(II)V"⟩ ⟨"WindowCacheModel", "hear", "(II)V"⟩ ∈ lw_tbl := List.mem_append_left _ (List.mem_of_getElem? (i := 23) (by decide +kernel))
theorem sl24 : Cond.selects "WindowCacheModel" ⟨"WindowCacheModel", "drop", "(II)V"⟩ ⟨"WindowCacheModel", "drop", "(II)V"⟩ ∈ lw_tbl := List.mem_append_left _ (List.mem_of_getElem? (i := 24) (by decide +kernel))
theorem sl25 : Cond.selects "WindowCacheModel" ⟨"WindowCacheModel", "task", "(II)V"⟩ ⟨"WindowCacheModel", "task", "(II)V"⟩ ∈ lw_tbl := List.mem_append_left _ (List.mem_of_getElem? (i := 25) (by decide +kernel))
theorem sl26 : Cond.selects "WindowCacheModel" ⟨"WindowCacheModel", "maintenance", "()V"⟩ ⟨"WindowCacheModel", "maintenance", "()V"⟩ ∈ lw_tbl := List.mem_append_left _ (List.mem_of_getElem? (i := 26) (by decide +kernel))
theorem sl27 : Cond.selects "WindowCacheModel" ⟨"WindowCacheModel", "workNotes", "()V"⟩ ⟨"WindowCacheModel", "workNotes", "()V"⟩ ∈ lw_tbl := List.mem_append_left _ (List.mem_of_getElem? (i := 27) (by decide +kernel))
theorem sl28 : Cond.selects "WindowCacheModel" ⟨"WindowCacheModel", "count1", "(I)V"⟩ ⟨"WindowCacheModel", "count1", "(I)V"⟩ ∈ lw_tbl := List.mem_append_left _ (List.mem_of_getElem? (i := 28) (by decide +kernel))
theorem sl29 : Cond.selects "WindowCacheModel" ⟨"WindowCacheModel", "place", "(II)I"⟩ ⟨"WindowCacheModel", "place", "(II)I"⟩ ∈ lw_tbl := List.mem_append_left _ (List.mem_of_getElem? (i := 29) (by decide +kernel))
theorem sl30 : Cond.selects "WindowCacheModel" ⟨"WindowCacheModel", "touched", "(I)V"⟩ ⟨"WindowCacheModel", "touched", "(I)V"⟩ ∈ lw_tbl := List.mem_append_left _ (List.mem_of_getElem? (i := 30) (by decide +kernel))
theorem sl31 : Cond.selects "WindowCacheModel" ⟨"WindowCacheModel", "latest", "(II)V"⟩ ⟨"WindowCacheModel", "latest", "(II)V"⟩ ∈ lw_tbl := List.mem_append_left _ (List.mem_of_getElem? (i := 31) (by decide +kernel))
theorem sl32 : Cond.selects "WindowCacheModel" ⟨"WindowCacheModel", "lower", "()V"⟩ ⟨"WindowCacheModel", "lower", "()V"⟩ ∈ lw_tbl := List.mem_append_left _ (List.mem_of_getElem? (i := 32) (by decide +kernel))
theorem sl33 : Cond.selects "WindowCacheModel" ⟨"WindowCacheModel", "weightOf", "(I)I"⟩ ⟨"WindowCacheModel", "weightOf", "(I)I"⟩ ∈ lw_tbl := List.mem_append_left _ (List.mem_of_getElem? (i := 33) (by decide +kernel))
theorem sl34 : Cond.selects "WindowCacheModel" ⟨"WindowCacheModel", "earliest", "(I)I"⟩ ⟨"WindowCacheModel", "earliest", "(I)I"⟩ ∈ lw_tbl := List.mem_append_left _ (List.mem_of_getElem? (i := 34) (by decide +kernel))
theorem sl35 : Cond.selects "WindowCacheModel" ⟨"WindowCacheModel", "workTasks", "()V"⟩ ⟨"WindowCacheModel", "workTasks", "()V"⟩ ∈ lw_tbl := List.mem_append_left _ (List.mem_of_getElem? (i := 35) (by decide +kernel))
theorem sl36 : Cond.selects "WindowCacheModel" ⟨"WindowCacheModel", "expire", "()V"⟩ ⟨"WindowCacheModel", "expire", "()V"⟩ ∈ lw_tbl := List.mem_append_left _ (List.mem_of_getElem? (i := 36) (by decide +kernel))
theorem sl37 : Cond.selects "WindowCacheModel" ⟨"WindowCacheModel", "shrink", "()V"⟩ ⟨"WindowCacheModel", "shrink", "()V"⟩ ∈ lw_tbl := List.mem_append_left _ (List.mem_of_getElem? (i := 37) (by decide +kernel))
theorem sl38 : Cond.selects "WindowCacheModel" ⟨"WindowCacheModel", "all", "()I"⟩ ⟨"WindowCacheModel", "all", "()I"⟩ ∈ lw_tbl := List.mem_append_left _ (List.mem_of_getElem? (i := 38) (by decide +kernel))
theorem sl39 : Cond.selects "WindowCacheModel" ⟨"WindowCacheModel", "nextCandidate", "()I"⟩ ⟨"WindowCacheModel", "nextCandidate", "()I"⟩ ∈ lw_tbl := List.mem_append_left _ (List.mem_of_getElem? (i := 39) (by decide +kernel))
theorem sl40 : Cond.selects "WindowCacheModel" ⟨"WindowCacheModel", "often0", "(I)I"⟩ ⟨"WindowCacheModel", "often0", "(I)I"⟩ ∈ lw_tbl := List.mem_append_left _ (List.mem_of_getElem? (i := 40) (by decide +kernel))
theorem sl41 : Cond.selects "WindowCacheModel" ⟨"WindowCacheModel", "drawn", "()Z"⟩ ⟨"WindowCacheModel", "drawn", "()Z"⟩ ∈ lw_tbl := List.mem_append_left _ (List.mem_of_getElem? (i := 41) (by decide +kernel))
theorem sl42 : Cond.selects "WindowCacheModel" ⟨"WindowCacheModel", "evict", "(I)V"⟩ ⟨"WindowCacheModel", "evict", "(I)V"⟩ ∈ lw_tbl := List.mem_append_left _ (List.mem_of_getElem? (i := 42) (by decide +kernel))
theorem sl43 : Cond.selects "WindowCacheModel" ⟨"WindowCacheModel", "climb", "()V"⟩ ⟨"WindowCacheModel", "climb", "()V"⟩ ∈ lw_tbl := List.mem_append_left _ (List.mem_of_getElem? (i := 43) (by decide +kernel))
theorem sl44 : Cond.selects "WindowCacheModel" ⟨"WindowCacheModel", "inMap", "(Z)I"⟩ ⟨"WindowCacheModel", "inMap", "(Z)I"⟩ ∈ lw_tbl := List.mem_append_left _ (List.mem_of_getElem? (i := 44) (by decide +kernel))
theorem sl45 : Cond.selects "WindowCacheModel" ⟨"WindowCacheModel", "onWay", "()I"⟩ ⟨"WindowCacheModel", "onWay", "()I"⟩ ∈ lw_tbl := List.mem_append_left _ (List.mem_of_getElem? (i := 45) (by decide +kernel))
