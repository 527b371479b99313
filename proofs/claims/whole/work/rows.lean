section
-- ===== PART A: goes FIRST, ahead of the names: the tables' words, and 'selects' of the private methods out of them =====
/-- a private method of a class that the tables say can be made, by its rows of tables_1 -/
def lw_okq (q : MethodName × Nat) : Prop := (q.1.cls ≠ "java/lang/invoke/MethodHandle" ∧ q.1.cls ≠ "java/lang/invoke/VarHandle") ∧ Cond.instantiable q.1.cls q.2 ∈ tables_1 ∧ Cond.privateMethod q.1 ∈ tables_1 ∧ Cond.instanceMethod q.1 ∈ tables_1
theorem lw_p0 : lw_okq (⟨"FogMap", "look", "()V"⟩, 5) := ⟨⟨by decide +kernel, by decide +kernel⟩, List.mem_of_getElem? (i := 13) (by decide +kernel), List.mem_of_getElem? (i := 236) (by decide +kernel), List.mem_of_getElem? (i := 237) (by decide +kernel)⟩
theorem lw_p1 : lw_okq (⟨"FogMap$Sight", "canSee", "(LFogMap$State;III)Z"⟩, 2) := ⟨⟨by decide +kernel, by decide +kernel⟩, List.mem_of_getElem? (i := 116) (by decide +kernel), List.mem_of_getElem? (i := 263) (by decide +kernel), List.mem_of_getElem? (i := 264) (by decide +kernel)⟩
theorem lw_p2 : lw_okq (⟨"FogMap$State", "rememberCell", "(II)V"⟩, 13) := ⟨⟨by decide +kernel, by decide +kernel⟩, List.mem_of_getElem? (i := 21) (by decide +kernel), List.mem_of_getElem? (i := 299) (by decide +kernel), List.mem_of_getElem? (i := 300) (by decide +kernel)⟩
theorem lw_p3 : lw_okq (⟨"FogMap", "isScout", "(I)Z"⟩, 5) := ⟨⟨by decide +kernel, by decide +kernel⟩, List.mem_of_getElem? (i := 13) (by decide +kernel), List.mem_of_getElem? (i := 361) (by decide +kernel), List.mem_of_getElem? (i := 362) (by decide +kernel)⟩
theorem lw_p4 : lw_okq (⟨"FogMap", "canStep", "(II)Z"⟩, 5) := ⟨⟨by decide +kernel, by decide +kernel⟩, List.mem_of_getElem? (i := 13) (by decide +kernel), List.mem_of_getElem? (i := 365) (by decide +kernel), List.mem_of_getElem? (i := 366) (by decide +kernel)⟩
theorem lw_p5 : lw_okq (⟨"FogMap", "countUncovered", "(I)I"⟩, 5) := ⟨⟨by decide +kernel, by decide +kernel⟩, List.mem_of_getElem? (i := 13) (by decide +kernel), List.mem_of_getElem? (i := 369) (by decide +kernel), List.mem_of_getElem? (i := 370) (by decide +kernel)⟩
theorem lw_p6 : lw_okq (⟨"FogMap", "isLight", "(I)Z"⟩, 5) := ⟨⟨by decide +kernel, by decide +kernel⟩, List.mem_of_getElem? (i := 13) (by decide +kernel), List.mem_of_getElem? (i := 398) (by decide +kernel), List.mem_of_getElem? (i := 399) (by decide +kernel)⟩
theorem lw_p7 : lw_okq (⟨"FogMap", "passTurn", "()I"⟩, 5) := ⟨⟨by decide +kernel, by decide +kernel⟩, List.mem_of_getElem? (i := 13) (by decide +kernel), List.mem_of_getElem? (i := 427) (by decide +kernel), List.mem_of_getElem? (i := 428) (by decide +kernel)⟩
theorem lw_p8 : lw_okq (⟨"FogMap$Ways", "reach", "(II)V"⟩, 3) := ⟨⟨by decide +kernel, by decide +kernel⟩, List.mem_of_getElem? (i := 168) (by decide +kernel), List.mem_of_getElem? (i := 508) (by decide +kernel), List.mem_of_getElem? (i := 509) (by decide +kernel)⟩
theorem lw_p9 : lw_okq (⟨"FogMap$Ways", "reachNeighbors", "(LFogMap$Memory;I)V"⟩, 3) := ⟨⟨by decide +kernel, by decide +kernel⟩, List.mem_of_getElem? (i := 168) (by decide +kernel), List.mem_of_getElem? (i := 512) (by decide +kernel), List.mem_of_getElem? (i := 513) (by decide +kernel)⟩
theorem lw_p10 : lw_okq (⟨"FogMapModel", "replace", "(II)I"⟩, 9) := ⟨⟨by decide +kernel, by decide +kernel⟩, List.mem_of_getElem? (i := 538) (by decide +kernel), List.mem_of_getElem? (i := 585) (by decide +kernel), List.mem_of_getElem? (i := 586) (by decide +kernel)⟩
theorem lw_p11 : lw_okq (⟨"FogMapModel", "act", "()V"⟩, 9) := ⟨⟨by decide +kernel, by decide +kernel⟩, List.mem_of_getElem? (i := 538) (by decide +kernel), List.mem_of_getElem? (i := 589) (by decide +kernel), List.mem_of_getElem? (i := 590) (by decide +kernel)⟩
theorem lw_p12 : lw_okq (⟨"FogMapModel", "look", "()V"⟩, 9) := ⟨⟨by decide +kernel, by decide +kernel⟩, List.mem_of_getElem? (i := 538) (by decide +kernel), List.mem_of_getElem? (i := 593) (by decide +kernel), List.mem_of_getElem? (i := 594) (by decide +kernel)⟩
theorem lw_p13 : lw_okq (⟨"FogMapModel", "sideSees", "(II)Z"⟩, 9) := ⟨⟨by decide +kernel, by decide +kernel⟩, List.mem_of_getElem? (i := 538) (by decide +kernel), List.mem_of_getElem? (i := 597) (by decide +kernel), List.mem_of_getElem? (i := 598) (by decide +kernel)⟩
theorem lw_p14 : lw_okq (⟨"FogMapModel", "ofScout", "(II)I"⟩, 9) := ⟨⟨by decide +kernel, by decide +kernel⟩, List.mem_of_getElem? (i := 538) (by decide +kernel), List.mem_of_getElem? (i := 601) (by decide +kernel), List.mem_of_getElem? (i := 602) (by decide +kernel)⟩
theorem lw_p15 : lw_okq (⟨"FogMapModel", "sees", "(II)Z"⟩, 9) := ⟨⟨by decide +kernel, by decide +kernel⟩, List.mem_of_getElem? (i := 538) (by decide +kernel), List.mem_of_getElem? (i := 605) (by decide +kernel), List.mem_of_getElem? (i := 606) (by decide +kernel)⟩
def lw_privs_1 : List (MethodName × Nat) := [(⟨"FogMap", "look", "()V"⟩, 5), (⟨"FogMap$Sight", "canSee", "(LFogMap$State;III)Z"⟩, 2), (⟨"FogMap$State", "rememberCell", "(II)V"⟩, 13), (⟨"FogMap", "isScout", "(I)Z"⟩, 5), (⟨"FogMap", "canStep", "(II)Z"⟩, 5), (⟨"FogMap", "countUncovered", "(I)I"⟩, 5), (⟨"FogMap", "isLight", "(I)Z"⟩, 5), (⟨"FogMap", "passTurn", "()I"⟩, 5), (⟨"FogMap$Ways", "reach", "(II)V"⟩, 3), (⟨"FogMap$Ways", "reachNeighbors", "(LFogMap$Memory;I)V"⟩, 3), (⟨"FogMapModel", "replace", "(II)I"⟩, 9), (⟨"FogMapModel", "act", "()V"⟩, 9), (⟨"FogMapModel", "look", "()V"⟩, 9), (⟨"FogMapModel", "sideSees", "(II)Z"⟩, 9), (⟨"FogMapModel", "ofScout", "(II)I"⟩, 9), (⟨"FogMapModel", "sees", "(II)Z"⟩, 9)]
theorem lw_r1 : ∀ q ∈ lw_privs_1, lw_okq q := List.forall_mem_cons.mpr ⟨lw_p0, List.forall_mem_cons.mpr ⟨lw_p1, List.forall_mem_cons.mpr ⟨lw_p2, List.forall_mem_cons.mpr ⟨lw_p3, List.forall_mem_cons.mpr ⟨lw_p4, List.forall_mem_cons.mpr ⟨lw_p5, List.forall_mem_cons.mpr ⟨lw_p6, List.forall_mem_cons.mpr ⟨lw_p7, List.forall_mem_cons.mpr ⟨lw_p8, List.forall_mem_cons.mpr ⟨lw_p9, List.forall_mem_cons.mpr ⟨lw_p10, List.forall_mem_cons.mpr ⟨lw_p11, List.forall_mem_cons.mpr ⟨lw_p12, List.forall_mem_cons.mpr ⟨lw_p13, List.forall_mem_cons.mpr ⟨lw_p14, List.forall_mem_cons.mpr ⟨lw_p15, fun _ h => absurd h List.not_mem_nil⟩⟩⟩⟩⟩⟩⟩⟩⟩⟩⟩⟩⟩⟩⟩⟩
theorem lw_p16 : lw_okq (⟨"FogMapModel", "cellOf", "(I)I"⟩, 9) := ⟨⟨by decide +kernel, by decide +kernel⟩, List.mem_of_getElem? (i := 538) (by decide +kernel), List.mem_of_getElem? (i := 609) (by decide +kernel), List.mem_of_getElem? (i := 610) (by decide +kernel)⟩
theorem lw_p17 : lw_okq (⟨"FogMapModel", "isSeenFrom", "(III)Z"⟩, 9) := ⟨⟨by decide +kernel, by decide +kernel⟩, List.mem_of_getElem? (i := 538) (by decide +kernel), List.mem_of_getElem? (i := 613) (by decide +kernel), List.mem_of_getElem? (i := 614) (by decide +kernel)⟩
theorem lw_p18 : lw_okq (⟨"FogMapModel", "isLit", "(I)Z"⟩, 9) := ⟨⟨by decide +kernel, by decide +kernel⟩, List.mem_of_getElem? (i := 538) (by decide +kernel), List.mem_of_getElem? (i := 626) (by decide +kernel), List.mem_of_getElem? (i := 627) (by decide +kernel)⟩
theorem lw_p19 : lw_okq (⟨"FogMapModel", "ofLight", "(II)I"⟩, 9) := ⟨⟨by decide +kernel, by decide +kernel⟩, List.mem_of_getElem? (i := 538) (by decide +kernel), List.mem_of_getElem? (i := 630) (by decide +kernel), List.mem_of_getElem? (i := 631) (by decide +kernel)⟩
theorem lw_p20 : lw_okq (⟨"FogMapModel", "isFree", "(II)Z"⟩, 9) := ⟨⟨by decide +kernel, by decide +kernel⟩, List.mem_of_getElem? (i := 538) (by decide +kernel), List.mem_of_getElem? (i := 634) (by decide +kernel), List.mem_of_getElem? (i := 635) (by decide +kernel)⟩
theorem lw_p21 : lw_okq (⟨"FogMapModel", "scoutIn", "(I)I"⟩, 9) := ⟨⟨by decide +kernel, by decide +kernel⟩, List.mem_of_getElem? (i := 538) (by decide +kernel), List.mem_of_getElem? (i := 644) (by decide +kernel), List.mem_of_getElem? (i := 645) (by decide +kernel)⟩
theorem lw_p22 : lw_okq (⟨"FogMapModel", "here", "()I"⟩, 9) := ⟨⟨by decide +kernel, by decide +kernel⟩, List.mem_of_getElem? (i := 538) (by decide +kernel), List.mem_of_getElem? (i := 664) (by decide +kernel), List.mem_of_getElem? (i := 665) (by decide +kernel)⟩
theorem lw_p23 : lw_okq (⟨"FogMapModel", "readsRow", "(I)Z"⟩, 9) := ⟨⟨by decide +kernel, by decide +kernel⟩, List.mem_of_getElem? (i := 538) (by decide +kernel), List.mem_of_getElem? (i := 668) (by decide +kernel), List.mem_of_getElem? (i := 669) (by decide +kernel)⟩
theorem lw_p24 : lw_okq (⟨"FogMapModel", "readsCell", "(II)Z"⟩, 9) := ⟨⟨by decide +kernel, by decide +kernel⟩, List.mem_of_getElem? (i := 538) (by decide +kernel), List.mem_of_getElem? (i := 672) (by decide +kernel), List.mem_of_getElem? (i := 673) (by decide +kernel)⟩
theorem lw_p25 : lw_okq (⟨"FogMapModel", "exchange", "()V"⟩, 9) := ⟨⟨by decide +kernel, by decide +kernel⟩, List.mem_of_getElem? (i := 538) (by decide +kernel), List.mem_of_getElem? (i := 676) (by decide +kernel), List.mem_of_getElem? (i := 677) (by decide +kernel)⟩
theorem lw_p26 : lw_okq (⟨"FogMapModel", "isScout", "(I)Z"⟩, 9) := ⟨⟨by decide +kernel, by decide +kernel⟩, List.mem_of_getElem? (i := 538) (by decide +kernel), List.mem_of_getElem? (i := 688) (by decide +kernel), List.mem_of_getElem? (i := 689) (by decide +kernel)⟩
theorem lw_p27 : lw_okq (⟨"FogMapModel", "remembered", "(I)I"⟩, 9) := ⟨⟨by decide +kernel, by decide +kernel⟩, List.mem_of_getElem? (i := 538) (by decide +kernel), List.mem_of_getElem? (i := 692) (by decide +kernel), List.mem_of_getElem? (i := 693) (by decide +kernel)⟩
theorem lw_p28 : lw_okq (⟨"FogMapModel", "memory", "(II)I"⟩, 9) := ⟨⟨by decide +kernel, by decide +kernel⟩, List.mem_of_getElem? (i := 538) (by decide +kernel), List.mem_of_getElem? (i := 696) (by decide +kernel), List.mem_of_getElem? (i := 697) (by decide +kernel)⟩
theorem lw_p29 : lw_okq (⟨"FogMapModel", "remove", "(III)V"⟩, 9) := ⟨⟨by decide +kernel, by decide +kernel⟩, List.mem_of_getElem? (i := 538) (by decide +kernel), List.mem_of_getElem? (i := 704) (by decide +kernel), List.mem_of_getElem? (i := 705) (by decide +kernel)⟩
theorem lw_p30 : lw_okq (⟨"FogMapModel", "isLight", "(I)Z"⟩, 9) := ⟨⟨by decide +kernel, by decide +kernel⟩, List.mem_of_getElem? (i := 538) (by decide +kernel), List.mem_of_getElem? (i := 716) (by decide +kernel), List.mem_of_getElem? (i := 717) (by decide +kernel)⟩
theorem lw_p31 : lw_okq (⟨"FogMapModel", "turn", "()I"⟩, 9) := ⟨⟨by decide +kernel, by decide +kernel⟩, List.mem_of_getElem? (i := 538) (by decide +kernel), List.mem_of_getElem? (i := 732) (by decide +kernel), List.mem_of_getElem? (i := 733) (by decide +kernel)⟩
def lw_privs_2 : List (MethodName × Nat) := [(⟨"FogMapModel", "cellOf", "(I)I"⟩, 9), (⟨"FogMapModel", "isSeenFrom", "(III)Z"⟩, 9), (⟨"FogMapModel", "isLit", "(I)Z"⟩, 9), (⟨"FogMapModel", "ofLight", "(II)I"⟩, 9), (⟨"FogMapModel", "isFree", "(II)Z"⟩, 9), (⟨"FogMapModel", "scoutIn", "(I)I"⟩, 9), (⟨"FogMapModel", "here", "()I"⟩, 9), (⟨"FogMapModel", "readsRow", "(I)Z"⟩, 9), (⟨"FogMapModel", "readsCell", "(II)Z"⟩, 9), (⟨"FogMapModel", "exchange", "()V"⟩, 9), (⟨"FogMapModel", "isScout", "(I)Z"⟩, 9), (⟨"FogMapModel", "remembered", "(I)I"⟩, 9), (⟨"FogMapModel", "memory", "(II)I"⟩, 9), (⟨"FogMapModel", "remove", "(III)V"⟩, 9), (⟨"FogMapModel", "isLight", "(I)Z"⟩, 9), (⟨"FogMapModel", "turn", "()I"⟩, 9)]
theorem lw_r2 : ∀ q ∈ lw_privs_2, lw_okq q := List.forall_mem_cons.mpr ⟨lw_p16, List.forall_mem_cons.mpr ⟨lw_p17, List.forall_mem_cons.mpr ⟨lw_p18, List.forall_mem_cons.mpr ⟨lw_p19, List.forall_mem_cons.mpr ⟨lw_p20, List.forall_mem_cons.mpr ⟨lw_p21, List.forall_mem_cons.mpr ⟨lw_p22, List.forall_mem_cons.mpr ⟨lw_p23, List.forall_mem_cons.mpr ⟨lw_p24, List.forall_mem_cons.mpr ⟨lw_p25, List.forall_mem_cons.mpr ⟨lw_p26, List.forall_mem_cons.mpr ⟨lw_p27, List.forall_mem_cons.mpr ⟨lw_p28, List.forall_mem_cons.mpr ⟨lw_p29, List.forall_mem_cons.mpr ⟨lw_p30, List.forall_mem_cons.mpr ⟨lw_p31, fun _ h => absurd h List.not_mem_nil⟩⟩⟩⟩⟩⟩⟩⟩⟩⟩⟩⟩⟩⟩⟩⟩
theorem lw_p32 : lw_okq (⟨"FogMapModel", "burning", "()I"⟩, 9) := ⟨⟨by decide +kernel, by decide +kernel⟩, List.mem_of_getElem? (i := 538) (by decide +kernel), List.mem_of_getElem? (i := 744) (by decide +kernel), List.mem_of_getElem? (i := 745) (by decide +kernel)⟩
theorem lw_p33 : lw_okq (⟨"FogMapModel", "lit", "()I"⟩, 9) := ⟨⟨by decide +kernel, by decide +kernel⟩, List.mem_of_getElem? (i := 538) (by decide +kernel), List.mem_of_getElem? (i := 748) (by decide +kernel), List.mem_of_getElem? (i := 749) (by decide +kernel)⟩
theorem lw_p34 : lw_okq (⟨"FogMapModel", "seenBy", "(I)I"⟩, 9) := ⟨⟨by decide +kernel, by decide +kernel⟩, List.mem_of_getElem? (i := 538) (by decide +kernel), List.mem_of_getElem? (i := 752) (by decide +kernel), List.mem_of_getElem? (i := 753) (by decide +kernel)⟩
theorem lw_p35 : lw_okq (⟨"FogMapModel", "seenFrom", "(II)I"⟩, 9) := ⟨⟨by decide +kernel, by decide +kernel⟩, List.mem_of_getElem? (i := 538) (by decide +kernel), List.mem_of_getElem? (i := 764) (by decide +kernel), List.mem_of_getElem? (i := 765) (by decide +kernel)⟩
theorem lw_p36 : lw_okq (⟨"FogMapModel", "findSteps", "(II)V"⟩, 9) := ⟨⟨by decide +kernel, by decide +kernel⟩, List.mem_of_getElem? (i := 538) (by decide +kernel), List.mem_of_getElem? (i := 784) (by decide +kernel), List.mem_of_getElem? (i := 785) (by decide +kernel)⟩
theorem lw_p37 : lw_okq (⟨"FogMapModel", "isKnownStep", "(III)Z"⟩, 9) := ⟨⟨by decide +kernel, by decide +kernel⟩, List.mem_of_getElem? (i := 538) (by decide +kernel), List.mem_of_getElem? (i := 788) (by decide +kernel), List.mem_of_getElem? (i := 789) (by decide +kernel)⟩
def lw_privs_3 : List (MethodName × Nat) := [(⟨"FogMapModel", "burning", "()I"⟩, 9), (⟨"FogMapModel", "lit", "()I"⟩, 9), (⟨"FogMapModel", "seenBy", "(I)I"⟩, 9), (⟨"FogMapModel", "seenFrom", "(II)I"⟩, 9), (⟨"FogMapModel", "findSteps", "(II)V"⟩, 9), (⟨"FogMapModel", "isKnownStep", "(III)Z"⟩, 9)]
theorem lw_r3 : ∀ q ∈ lw_privs_3, lw_okq q := List.forall_mem_cons.mpr ⟨lw_p32, List.forall_mem_cons.mpr ⟨lw_p33, List.forall_mem_cons.mpr ⟨lw_p34, List.forall_mem_cons.mpr ⟨lw_p35, List.forall_mem_cons.mpr ⟨lw_p36, List.forall_mem_cons.mpr ⟨lw_p37, fun _ h => absurd h List.not_mem_nil⟩⟩⟩⟩⟩⟩
def lw_privs : List (MethodName × Nat) := lw_privs_1 ++ (lw_privs_2 ++ (lw_privs_3))
def lw_tbl : List Cond := k2_sels lw_privs ++ tables_1
theorem lw_privs_ok : ∀ q ∈ lw_privs, lw_okq q := by
  show ∀ q ∈ lw_privs_1 ++ (lw_privs_2 ++ (lw_privs_3)), lw_okq q
  exact List.forall_mem_append.mpr ⟨lw_r1, List.forall_mem_append.mpr ⟨lw_r2, lw_r3⟩⟩
def RX0 : String := "FogMap$History"
def TX0 : u_T := fun k => match k with
  | 0 => ("FogMap$History", "states", "[LFogMap$State;", true)
  | 1 => ("FogMap$History", "size", "I", false)
  | _ => ("FogMap$History", "next", "I", false)
def tyX0 : Nat → FieldType := fun k => match k with
  | 0 => .array (.object "FogMap$State")
  | 1 => .int
  | _ => .int
theorem nmX0 : ∀ a, a < 3 → ∀ b, b < 3 → a ≠ b → (TX0 a).2.1 ≠ (TX0 b).2.1 := by decide +kernel
theorem tyX0_ok : ∀ k, k < 3 → parseFieldDescriptor (TX0 k).2.2.1 = some (tyX0 k) := by decide +kernel
def RX1 : String := "FogMap$Memory"
def TX1 : u_T := fun k => match k with
  | 0 => ("FogMap$Memory", "turnsLeft", "[I", true)
  | 1 => ("FogMap$Memory", "heights", "[I", true)
  | 2 => ("FogMap$Memory", "walls", "[I", true)
  | _ => ("FogMap$Memory", "enemies", "[I", true)
def tyX1 : Nat → FieldType := fun k => match k with
  | 0 => .array .int
  | 1 => .array .int
  | 2 => .array .int
  | _ => .array .int
theorem nmX1 : ∀ a, a < 4 → ∀ b, b < 4 → a ≠ b → (TX1 a).2.1 ≠ (TX1 b).2.1 := by decide +kernel
theorem tyX1_ok : ∀ k, k < 4 → parseFieldDescriptor (TX1 k).2.2.1 = some (tyX1 k) := by decide +kernel
def RX2 : String := "FogMap$Sight"
def TX2 : u_T := fun k => match k with
  | 0 => ("FogMap$Sight", "lit", "[I", true)
  | _ => ("FogMap$Sight", "watchers", "[I", true)
def tyX2 : Nat → FieldType := fun k => match k with
  | 0 => .array .int
  | _ => .array .int
theorem nmX2 : ∀ a, a < 2 → ∀ b, b < 2 → a ≠ b → (TX2 a).2.1 ≠ (TX2 b).2.1 := by decide +kernel
theorem tyX2_ok : ∀ k, k < 2 → parseFieldDescriptor (TX2 k).2.2.1 = some (tyX2 k) := by decide +kernel
def RX3 : String := "FogMap$State"
def TX3 : u_T := fun k => match k with
  | 0 => ("FogMap$State", "heights", "[I", true)
  | 1 => ("FogMap$State", "walls", "[I", true)
  | 2 => ("FogMap$State", "scoutCount", "I", false)
  | 3 => ("FogMap$State", "scoutSides", "[I", true)
  | 4 => ("FogMap$State", "scoutCells", "[I", true)
  | 5 => ("FogMap$State", "scoutRanges", "[I", true)
  | 6 => ("FogMap$State", "lightCount", "I", false)
  | 7 => ("FogMap$State", "lightCells", "[I", true)
  | 8 => ("FogMap$State", "lightRadii", "[I", true)
  | 9 => ("FogMap$State", "lightOils", "[I", true)
  | 10 => ("FogMap$State", "fogTime", "I", false)
  | 11 => ("FogMap$State", "turns", "I", false)
  | _ => ("FogMap$State", "memories", "[LFogMap$Memory;", true)
def tyX3 : Nat → FieldType := fun k => match k with
  | 0 => .array .int
  | 1 => .array .int
  | 2 => .int
  | 3 => .array .int
  | 4 => .array .int
  | 5 => .array .int
  | 6 => .int
  | 7 => .array .int
  | 8 => .array .int
  | 9 => .array .int
  | 10 => .int
  | 11 => .int
  | _ => .array (.object "FogMap$Memory")
theorem nmX3 : ∀ a, a < 13 → ∀ b, b < 13 → a ≠ b → (TX3 a).2.1 ≠ (TX3 b).2.1 := by decide +kernel
theorem tyX3_ok : ∀ k, k < 13 → parseFieldDescriptor (TX3 k).2.2.1 = some (tyX3 k) := by decide +kernel
def RX4 : String := "FogMap$Text"
def TX4 : u_T := fun k => match k with
  | 0 => ("FogMap$Text", "characters", "[I", true)
  | 1 => ("FogMap$Text", "length", "I", false)
  | _ => ("FogMap$Text", "told", "[I", true)
def tyX4 : Nat → FieldType := fun k => match k with
  | 0 => .array .int
  | 1 => .int
  | _ => .array .int
theorem nmX4 : ∀ a, a < 3 → ∀ b, b < 3 → a ≠ b → (TX4 a).2.1 ≠ (TX4 b).2.1 := by decide +kernel
theorem tyX4_ok : ∀ k, k < 3 → parseFieldDescriptor (TX4 k).2.2.1 = some (tyX4 k) := by decide +kernel
def RX5 : String := "FogMap$Ways"
def TX5 : u_T := fun k => match k with
  | 0 => ("FogMap$Ways", "steps", "[I", true)
  | 1 => ("FogMap$Ways", "queue", "[I", true)
  | _ => ("FogMap$Ways", "queued", "I", false)
def tyX5 : Nat → FieldType := fun k => match k with
  | 0 => .array .int
  | 1 => .array .int
  | _ => .int
theorem nmX5 : ∀ a, a < 3 → ∀ b, b < 3 → a ≠ b → (TX5 a).2.1 ≠ (TX5 b).2.1 := by decide +kernel
theorem tyX5_ok : ∀ k, k < 3 → parseFieldDescriptor (TX5 k).2.2.1 = some (tyX5 k) := by decide +kernel
def RX6 : String := "FogMap"
def TX6 : u_T := fun k => match k with
  | 0 => ("FogMap", "state", "LFogMap$State;", true)
  | 1 => ("FogMap", "sight", "LFogMap$Sight;", true)
  | 2 => ("FogMap", "history", "LFogMap$History;", true)
  | 3 => ("FogMap", "text", "LFogMap$Text;", true)
  | _ => ("FogMap", "ways", "LFogMap$Ways;", true)
def tyX6 : Nat → FieldType := fun k => match k with
  | 0 => .object "FogMap$State"
  | 1 => .object "FogMap$Sight"
  | 2 => .object "FogMap$History"
  | 3 => .object "FogMap$Text"
  | _ => .object "FogMap$Ways"
theorem nmX6 : ∀ a, a < 5 → ∀ b, b < 5 → a ≠ b → (TX6 a).2.1 ≠ (TX6 b).2.1 := by decide +kernel
theorem tyX6_ok : ∀ k, k < 5 → parseFieldDescriptor (TX6 k).2.2.1 = some (tyX6 k) := by decide +kernel
def RX7 : String := "FogMapModel"
def TX7 : u_T := fun k => match k with
  | 0 => ("FogMapModel", "thrown", "I", false)
  | 1 => ("FogMapModel", "s", "[I", true)
  | 2 => ("FogMapModel", "aside", "[I", true)
  | 3 => ("FogMapModel", "saved", "[I", true)
  | 4 => ("FogMapModel", "savedMany", "I", false)
  | 5 => ("FogMapModel", "text", "[I", true)
  | 6 => ("FogMapModel", "length", "I", false)
  | 7 => ("FogMapModel", "next", "I", false)
  | _ => ("FogMapModel", "steps", "[I", true)
def tyX7 : Nat → FieldType := fun k => match k with
  | 0 => .int
  | 1 => .array .int
  | 2 => .array .int
  | 3 => .array .int
  | 4 => .int
  | 5 => .array .int
  | 6 => .int
  | 7 => .int
  | _ => .array .int
theorem nmX7 : ∀ a, a < 9 → ∀ b, b < 9 → a ≠ b → (TX7 a).2.1 ≠ (TX7 b).2.1 := by decide +kernel
theorem tyX7_ok : ∀ k, k < 9 → parseFieldDescriptor (TX7 k).2.2.1 = some (tyX7 k) := by decide +kernel
def RJ10 : String := "java/lang/System"
def RJ7 : String := "java/util/Arrays"
def RJ9 : String := "java/lang/Math"
abbrev vwCl : List vw_C := [(RX0, TX0, 3), (RX1, TX1, 4), (RX2, TX2, 2), (RX3, TX3, 13), (RX4, TX4, 3), (RX5, TX5, 3), (RX6, TX6, 5), (RX7, TX7, 9)]
abbrev Mu : Type := MethodName × ByteArray × Nat × Option FieldType
abbrev cX0_init : ByteArray := prog_2_method_1_code
def yX0_init : MethodName := ⟨RX0, "<init>", "()V"⟩
abbrev mX0_init : Mu := (yX0_init, cX0_init, 2, none)
abbrev cX0_keep : ByteArray := prog_2_method_2_code
def yX0_keep : MethodName := ⟨RX0, "keep", "(LFogMap$State;)V"⟩
abbrev mX0_keep : Mu := (yX0_keep, cX0_keep, 2, none)
abbrev cX0_restore : ByteArray := prog_2_method_3_code
def yX0_restore : MethodName := ⟨RX0, "restore", "(LFogMap$State;)V"⟩
abbrev mX0_restore : Mu := (yX0_restore, cX0_restore, 2, none)
abbrev cX1_init : ByteArray := prog_3_method_1_code
def yX1_init : MethodName := ⟨RX1, "<init>", "()V"⟩
abbrev mX1_init : Mu := (yX1_init, cX1_init, 1, none)
abbrev cX1_copyFrom : ByteArray := prog_3_method_2_code
def yX1_copyFrom : MethodName := ⟨RX1, "copyFrom", "(LFogMap$Memory;)V"⟩
abbrev mX1_copyFrom : Mu := (yX1_copyFrom, cX1_copyFrom, 2, none)
abbrev cX1_fade : ByteArray := prog_3_method_3_code
def yX1_fade : MethodName := ⟨RX1, "fade", "()V"⟩
abbrev mX1_fade : Mu := (yX1_fade, cX1_fade, 2, none)
abbrev cX1_limit : ByteArray := prog_3_method_4_code
def yX1_limit : MethodName := ⟨RX1, "limit", "(I)V"⟩
abbrev mX1_limit : Mu := (yX1_limit, cX1_limit, 3, none)
abbrev cX1_countNotFogged : ByteArray := prog_3_method_5_code
def yX1_countNotFogged : MethodName := ⟨RX1, "countNotFogged", "()I"⟩
abbrev mX1_countNotFogged : Mu := (yX1_countNotFogged, cX1_countNotFogged, 3, some .int)
abbrev cX1_canStep : ByteArray := prog_3_method_6_code
def yX1_canStep : MethodName := ⟨RX1, "canStep", "(II)Z"⟩
abbrev mX1_canStep : Mu := (yX1_canStep, cX1_canStep, 3, some .boolean)
abbrev cX2_init : ByteArray := prog_4_method_1_code
def yX2_init : MethodName := ⟨RX2, "<init>", "()V"⟩
abbrev mX2_init : Mu := (yX2_init, cX2_init, 1, none)
abbrev cX2_refresh : ByteArray := prog_4_method_2_code
def yX2_refresh : MethodName := ⟨RX2, "refresh", "(LFogMap$State;)V"⟩
abbrev mX2_refresh : Mu := (yX2_refresh, cX2_refresh, 4, none)
abbrev cX2_canSee : ByteArray := prog_4_method_3_code
def yX2_canSee : MethodName := ⟨RX2, "canSee", "(LFogMap$State;III)Z"⟩
abbrev mX2_canSee : Mu := (yX2_canSee, cX2_canSee, 6, some .boolean)
abbrev cX2_countSeenFrom : ByteArray := prog_4_method_4_code
def yX2_countSeenFrom : MethodName := ⟨RX2, "countSeenFrom", "(LFogMap$State;II)I"⟩
abbrev mX2_countSeenFrom : Mu := (yX2_countSeenFrom, cX2_countSeenFrom, 6, some .int)
abbrev cX2_isSeen : ByteArray := prog_4_method_5_code
def yX2_isSeen : MethodName := ⟨RX2, "isSeen", "(II)Z"⟩
abbrev mX2_isSeen : Mu := (yX2_isSeen, cX2_isSeen, 3, some .boolean)
abbrev cX2_countSeen : ByteArray := prog_4_method_6_code
def yX2_countSeen : MethodName := ⟨RX2, "countSeen", "(I)I"⟩
abbrev mX2_countSeen : Mu := (yX2_countSeen, cX2_countSeen, 4, some .int)
abbrev cX2_countLit : ByteArray := prog_4_method_7_code
def yX2_countLit : MethodName := ⟨RX2, "countLit", "()I"⟩
abbrev mX2_countLit : Mu := (yX2_countLit, cX2_countLit, 3, some .int)
abbrev cX2_isViewFree : ByteArray := prog_4_method_8_code
def yX2_isViewFree : MethodName := ⟨RX2, "isViewFree", "(LFogMap$State;II)Z"⟩
abbrev mX2_isViewFree : Mu := (yX2_isViewFree, cX2_isViewFree, 10, some .boolean)
abbrev cX2_innerCell : ByteArray := prog_4_method_9_code
def yX2_innerCell : MethodName := ⟨RX2, "innerCell", "(IIII)I"⟩
abbrev mX2_innerCell : Mu := (yX2_innerCell, cX2_innerCell, 6, some .int)
abbrev cX2_part : ByteArray := prog_4_method_10_code
def yX2_part : MethodName := ⟨RX2, "part", "(II)I"⟩
abbrev mX2_part : Mu := (yX2_part, cX2_part, 2, some .int)
abbrev cX3_init : ByteArray := prog_5_method_1_code
def yX3_init : MethodName := ⟨RX3, "<init>", "()V"⟩
abbrev mX3_init : Mu := (yX3_init, cX3_init, 1, none)
abbrev cX3_copyFrom : ByteArray := prog_5_method_2_code
def yX3_copyFrom : MethodName := ⟨RX3, "copyFrom", "(LFogMap$State;)V"⟩
abbrev mX3_copyFrom : Mu := (yX3_copyFrom, cX3_copyFrom, 3, none)
abbrev cX3_scoutIn : ByteArray := prog_5_method_3_code
def yX3_scoutIn : MethodName := ⟨RX3, "scoutIn", "(I)I"⟩
abbrev mX3_scoutIn : Mu := (yX3_scoutIn, cX3_scoutIn, 3, some .int)
abbrev cX3_isFree : ByteArray := prog_5_method_4_code
def yX3_isFree : MethodName := ⟨RX3, "isFree", "(I)Z"⟩
abbrev mX3_isFree : Mu := (yX3_isFree, cX3_isFree, 2, some .boolean)
abbrev cX3_scoutsOf : ByteArray := prog_5_method_5_code
def yX3_scoutsOf : MethodName := ⟨RX3, "scoutsOf", "(I)I"⟩
abbrev mX3_scoutsOf : Mu := (yX3_scoutsOf, cX3_scoutsOf, 4, some .int)
abbrev cX3_putScout : ByteArray := prog_5_method_6_code
def yX3_putScout : MethodName := ⟨RX3, "putScout", "(III)V"⟩
abbrev mX3_putScout : Mu := (yX3_putScout, cX3_putScout, 4, none)
abbrev cX3_dropScout : ByteArray := prog_5_method_7_code
def yX3_dropScout : MethodName := ⟨RX3, "dropScout", "(I)V"⟩
abbrev mX3_dropScout : Mu := (yX3_dropScout, cX3_dropScout, 2, none)
abbrev cX3_putLight : ByteArray := prog_5_method_8_code
def yX3_putLight : MethodName := ⟨RX3, "putLight", "(III)V"⟩
abbrev mX3_putLight : Mu := (yX3_putLight, cX3_putLight, 4, none)
abbrev cX3_dropLight : ByteArray := prog_5_method_9_code
def yX3_dropLight : MethodName := ⟨RX3, "dropLight", "(I)V"⟩
abbrev mX3_dropLight : Mu := (yX3_dropLight, cX3_dropLight, 2, none)
abbrev cX3_countBurning : ByteArray := prog_5_method_10_code
def yX3_countBurning : MethodName := ⟨RX3, "countBurning", "()I"⟩
abbrev mX3_countBurning : Mu := (yX3_countBurning, cX3_countBurning, 3, some .int)
abbrev cX3_burn : ByteArray := prog_5_method_11_code
def yX3_burn : MethodName := ⟨RX3, "burn", "()I"⟩
abbrev mX3_burn : Mu := (yX3_burn, cX3_burn, 3, some .int)
abbrev cX3_isLit : ByteArray := prog_5_method_12_code
def yX3_isLit : MethodName := ⟨RX3, "isLit", "(I)Z"⟩
abbrev mX3_isLit : Mu := (yX3_isLit, cX3_isLit, 3, some .boolean)
abbrev cX3_fade : ByteArray := prog_5_method_13_code
def yX3_fade : MethodName := ⟨RX3, "fade", "()V"⟩
abbrev mX3_fade : Mu := (yX3_fade, cX3_fade, 2, none)
abbrev cX3_changeFogTime : ByteArray := prog_5_method_14_code
def yX3_changeFogTime : MethodName := ⟨RX3, "changeFogTime", "(I)V"⟩
abbrev mX3_changeFogTime : Mu := (yX3_changeFogTime, cX3_changeFogTime, 3, none)
abbrev cX3_remember : ByteArray := prog_5_method_15_code
def yX3_remember : MethodName := ⟨RX3, "remember", "(LFogMap$Sight;)V"⟩
abbrev mX3_remember : Mu := (yX3_remember, cX3_remember, 5, none)
abbrev cX3_rememberCell : ByteArray := prog_5_method_16_code
def yX3_rememberCell : MethodName := ⟨RX3, "rememberCell", "(II)V"⟩
abbrev mX3_rememberCell : Mu := (yX3_rememberCell, cX3_rememberCell, 5, none)
abbrev cX4_init : ByteArray := prog_6_method_1_code
def yX4_init : MethodName := ⟨RX4, "<init>", "()V"⟩
abbrev mX4_init : Mu := (yX4_init, cX4_init, 1, none)
abbrev cX4_put : ByteArray := prog_6_method_2_code
def yX4_put : MethodName := ⟨RX4, "put", "(I)V"⟩
abbrev mX4_put : Mu := (yX4_put, cX4_put, 2, none)
abbrev cX4_read : ByteArray := prog_6_method_3_code
def yX4_read : MethodName := ⟨RX4, "read", "(LFogMap$State;)I"⟩
abbrev mX4_read : Mu := (yX4_read, cX4_read, 6, some .int)
abbrev cX4_isAllowed : ByteArray := prog_6_method_4_code
def yX4_isAllowed : MethodName := ⟨RX4, "isAllowed", "(LFogMap$State;III)Z"⟩
abbrev mX4_isAllowed : Mu := (yX4_isAllowed, cX4_isAllowed, 4, some .boolean)
abbrev cX4_tellTo : ByteArray := prog_6_method_5_code
def yX4_tellTo : MethodName := ⟨RX4, "tellTo", "(LFogMap$State;)V"⟩
abbrev mX4_tellTo : Mu := (yX4_tellTo, cX4_tellTo, 3, none)
abbrev cX5_init : ByteArray := prog_7_method_1_code
def yX5_init : MethodName := ⟨RX5, "<init>", "()V"⟩
abbrev mX5_init : Mu := (yX5_init, cX5_init, 1, none)
abbrev cX5_shortest : ByteArray := prog_7_method_2_code
def yX5_shortest : MethodName := ⟨RX5, "shortest", "(LFogMap$Memory;II)I"⟩
abbrev mX5_shortest : Mu := (yX5_shortest, cX5_shortest, 5, some .int)
abbrev cX5_reachNeighbors : ByteArray := prog_7_method_3_code
def yX5_reachNeighbors : MethodName := ⟨RX5, "reachNeighbors", "(LFogMap$Memory;I)V"⟩
abbrev mX5_reachNeighbors : Mu := (yX5_reachNeighbors, cX5_reachNeighbors, 7, none)
abbrev cX5_reach : ByteArray := prog_7_method_4_code
def yX5_reach : MethodName := ⟨RX5, "reach", "(II)V"⟩
abbrev mX5_reach : Mu := (yX5_reach, cX5_reach, 3, none)
abbrev cX6_init : ByteArray := prog_1_method_1_code
def yX6_init : MethodName := ⟨RX6, "<init>", "()V"⟩
abbrev mX6_init : Mu := (yX6_init, cX6_init, 1, none)
abbrev cX6_setHeight : ByteArray := prog_1_method_2_code
def yX6_setHeight : MethodName := ⟨RX6, "setHeight", "(III)I"⟩
abbrev mX6_setHeight : Mu := (yX6_setHeight, cX6_setHeight, 6, some .int)
abbrev cX6_setWall : ByteArray := prog_1_method_3_code
def yX6_setWall : MethodName := ⟨RX6, "setWall", "(III)I"⟩
abbrev mX6_setWall : Mu := (yX6_setWall, cX6_setWall, 6, some .int)
abbrev cX6_append : ByteArray := prog_1_method_4_code
def yX6_append : MethodName := ⟨RX6, "append", "(I)I"⟩
abbrev mX6_append : Mu := (yX6_append, cX6_append, 2, some .int)
abbrev cX6_clearText : ByteArray := prog_1_method_5_code
def yX6_clearText : MethodName := ⟨RX6, "clearText", "()I"⟩
abbrev mX6_clearText : Mu := (yX6_clearText, cX6_clearText, 2, some .int)
abbrev cX6_load : ByteArray := prog_1_method_6_code
def yX6_load : MethodName := ⟨RX6, "load", "()I"⟩
abbrev mX6_load : Mu := (yX6_load, cX6_load, 2, some .int)
abbrev cX6_addScout : ByteArray := prog_1_method_7_code
def yX6_addScout : MethodName := ⟨RX6, "addScout", "(IIII)I"⟩
abbrev mX6_addScout : Mu := (yX6_addScout, cX6_addScout, 6, some .int)
abbrev cX6_step : ByteArray := prog_1_method_8_code
def yX6_step : MethodName := ⟨RX6, "step", "(III)I"⟩
abbrev mX6_step : Mu := (yX6_step, cX6_step, 8, some .int)
abbrev cX6_removeScout : ByteArray := prog_1_method_9_code
def yX6_removeScout : MethodName := ⟨RX6, "removeScout", "(I)I"⟩
abbrev mX6_removeScout : Mu := (yX6_removeScout, cX6_removeScout, 2, some .int)
abbrev cX6_addLight : ByteArray := prog_1_method_10_code
def yX6_addLight : MethodName := ⟨RX6, "addLight", "(IIII)I"⟩
abbrev mX6_addLight : Mu := (yX6_addLight, cX6_addLight, 5, some .int)
abbrev cX6_setOil : ByteArray := prog_1_method_11_code
def yX6_setOil : MethodName := ⟨RX6, "setOil", "(II)I"⟩
abbrev mX6_setOil : Mu := (yX6_setOil, cX6_setOil, 4, some .int)
abbrev cX6_removeLight : ByteArray := prog_1_method_12_code
def yX6_removeLight : MethodName := ⟨RX6, "removeLight", "(I)I"⟩
abbrev mX6_removeLight : Mu := (yX6_removeLight, cX6_removeLight, 2, some .int)
abbrev cX6_setFogTime : ByteArray := prog_1_method_13_code
def yX6_setFogTime : MethodName := ⟨RX6, "setFogTime", "(I)I"⟩
abbrev mX6_setFogTime : Mu := (yX6_setFogTime, cX6_setFogTime, 3, some .int)
abbrev cX6_pass : ByteArray := prog_1_method_14_code
def yX6_pass : MethodName := ⟨RX6, "pass", "(I)I"⟩
abbrev mX6_pass : Mu := (yX6_pass, cX6_pass, 4, some .int)
abbrev cX6_undo : ByteArray := prog_1_method_15_code
def yX6_undo : MethodName := ⟨RX6, "undo", "()I"⟩
abbrev mX6_undo : Mu := (yX6_undo, cX6_undo, 1, some .int)
abbrev cX6_count : ByteArray := prog_1_method_16_code
def yX6_count : MethodName := ⟨RX6, "count", "(I)I"⟩
abbrev mX6_count : Mu := (yX6_count, cX6_count, 2, some .int)
abbrev cX6_cell : ByteArray := prog_1_method_17_code
def yX6_cell : MethodName := ⟨RX6, "cell", "(III)I"⟩
abbrev mX6_cell : Mu := (yX6_cell, cX6_cell, 5, some .int)
abbrev cX6_scout : ByteArray := prog_1_method_18_code
def yX6_scout : MethodName := ⟨RX6, "scout", "(II)I"⟩
abbrev mX6_scout : Mu := (yX6_scout, cX6_scout, 5, some .int)
abbrev cX6_light : ByteArray := prog_1_method_19_code
def yX6_light : MethodName := ⟨RX6, "light", "(II)I"⟩
abbrev mX6_light : Mu := (yX6_light, cX6_light, 3, some .int)
abbrev cX6_known : ByteArray := prog_1_method_20_code
def yX6_known : MethodName := ⟨RX6, "known", "(IIII)I"⟩
abbrev mX6_known : Mu := (yX6_known, cX6_known, 8, some .int)
abbrev cX6_view : ByteArray := prog_1_method_21_code
def yX6_view : MethodName := ⟨RX6, "view", "(IIII)I"⟩
abbrev mX6_view : Mu := (yX6_view, cX6_view, 5, some .int)
abbrev cX6_way : ByteArray := prog_1_method_22_code
def yX6_way : MethodName := ⟨RX6, "way", "(III)I"⟩
abbrev mX6_way : Mu := (yX6_way, cX6_way, 5, some .int)
abbrev cX6_lookout : ByteArray := prog_1_method_23_code
def yX6_lookout : MethodName := ⟨RX6, "lookout", "(II)I"⟩
abbrev mX6_lookout : Mu := (yX6_lookout, cX6_lookout, 10, some .int)
abbrev cX6_alone : ByteArray := prog_1_method_24_code
def yX6_alone : MethodName := ⟨RX6, "alone", "(I)I"⟩
abbrev mX6_alone : Mu := (yX6_alone, cX6_alone, 5, some .int)
abbrev cX6_look : ByteArray := prog_1_method_25_code
def yX6_look : MethodName := ⟨RX6, "look", "()V"⟩
abbrev mX6_look : Mu := (yX6_look, cX6_look, 1, none)
abbrev cX6_passTurn : ByteArray := prog_1_method_26_code
def yX6_passTurn : MethodName := ⟨RX6, "passTurn", "()I"⟩
abbrev mX6_passTurn : Mu := (yX6_passTurn, cX6_passTurn, 2, some .int)
abbrev cX6_canStep : ByteArray := prog_1_method_27_code
def yX6_canStep : MethodName := ⟨RX6, "canStep", "(II)Z"⟩
abbrev mX6_canStep : Mu := (yX6_canStep, cX6_canStep, 3, some .boolean)
abbrev cX6_countUncovered : ByteArray := prog_1_method_28_code
def yX6_countUncovered : MethodName := ⟨RX6, "countUncovered", "(I)I"⟩
abbrev mX6_countUncovered : Mu := (yX6_countUncovered, cX6_countUncovered, 5, some .int)
abbrev cX6_isScout : ByteArray := prog_1_method_29_code
def yX6_isScout : MethodName := ⟨RX6, "isScout", "(I)Z"⟩
abbrev mX6_isScout : Mu := (yX6_isScout, cX6_isScout, 2, some .boolean)
abbrev cX6_isLight : ByteArray := prog_1_method_30_code
def yX6_isLight : MethodName := ⟨RX6, "isLight", "(I)Z"⟩
abbrev mX6_isLight : Mu := (yX6_isLight, cX6_isLight, 2, some .boolean)
abbrev cX6_isWithin : ByteArray := prog_1_method_31_code
def yX6_isWithin : MethodName := ⟨RX6, "isWithin", "(III)Z"⟩
abbrev mX6_isWithin : Mu := (yX6_isWithin, cX6_isWithin, 3, some .boolean)
abbrev cX6_isCell : ByteArray := prog_1_method_32_code
def yX6_isCell : MethodName := ⟨RX6, "isCell", "(II)Z"⟩
abbrev mX6_isCell : Mu := (yX6_isCell, cX6_isCell, 2, some .boolean)
abbrev cX6_cellAt : ByteArray := prog_1_method_33_code
def yX6_cellAt : MethodName := ⟨RX6, "cellAt", "(II)I"⟩
abbrev mX6_cellAt : Mu := (yX6_cellAt, cX6_cellAt, 2, some .int)
abbrev cX6_columnOf : ByteArray := prog_1_method_34_code
def yX6_columnOf : MethodName := ⟨RX6, "columnOf", "(I)I"⟩
abbrev mX6_columnOf : Mu := (yX6_columnOf, cX6_columnOf, 1, some .int)
abbrev cX6_rowOf : ByteArray := prog_1_method_35_code
def yX6_rowOf : MethodName := ⟨RX6, "rowOf", "(I)I"⟩
abbrev mX6_rowOf : Mu := (yX6_rowOf, cX6_rowOf, 1, some .int)
abbrev cX6_distanceOf : ByteArray := prog_1_method_36_code
def yX6_distanceOf : MethodName := ⟨RX6, "distanceOf", "(II)I"⟩
abbrev mX6_distanceOf : Mu := (yX6_distanceOf, cX6_distanceOf, 4, some .int)
abbrev cX6_otherSide : ByteArray := prog_1_method_37_code
def yX6_otherSide : MethodName := ⟨RX6, "otherSide", "(I)I"⟩
abbrev mX6_otherSide : Mu := (yX6_otherSide, cX6_otherSide, 1, some .int)
abbrev cX6_bitOf : ByteArray := prog_1_method_38_code
def yX6_bitOf : MethodName := ⟨RX6, "bitOf", "(I)I"⟩
abbrev mX6_bitOf : Mu := (yX6_bitOf, cX6_bitOf, 1, some .int)
abbrev cX6_copy : ByteArray := prog_1_method_39_code
def yX6_copy : MethodName := ⟨RX6, "copy", "([I[I)V"⟩
abbrev mX6_copy : Mu := (yX6_copy, cX6_copy, 2, none)
abbrev cX6_closeGap : ByteArray := prog_1_method_40_code
def yX6_closeGap : MethodName := ⟨RX6, "closeGap", "([III)V"⟩
abbrev mX6_closeGap : Mu := (yX6_closeGap, cX6_closeGap, 4, none)
abbrev cX7_init : ByteArray := prog_9_method_1_code
def yX7_init : MethodName := ⟨RX7, "<init>", "()V"⟩
abbrev mX7_init : Mu := (yX7_init, cX7_init, 1, none)
abbrev cX7_in : ByteArray := prog_9_method_3_code
def yX7_in : MethodName := ⟨RX7, "in", "(III)Z"⟩
abbrev mX7_in : Mu := (yX7_in, cX7_in, 3, some .boolean)
abbrev cX7_apart : ByteArray := prog_9_method_4_code
def yX7_apart : MethodName := ⟨RX7, "apart", "(II)I"⟩
abbrev mX7_apart : Mu := (yX7_apart, cX7_apart, 2, some .int)
abbrev cX7_more : ByteArray := prog_9_method_5_code
def yX7_more : MethodName := ⟨RX7, "more", "(II)I"⟩
abbrev mX7_more : Mu := (yX7_more, cX7_more, 2, some .int)
abbrev cX7_act : ByteArray := prog_9_method_6_code
def yX7_act : MethodName := ⟨RX7, "act", "()V"⟩
abbrev mX7_act : Mu := (yX7_act, cX7_act, 2, none)
abbrev cX7_isCell : ByteArray := prog_9_method_7_code
def yX7_isCell : MethodName := ⟨RX7, "isCell", "(II)Z"⟩
abbrev mX7_isCell : Mu := (yX7_isCell, cX7_isCell, 2, some .boolean)
abbrev cX7_at : ByteArray := prog_9_method_8_code
def yX7_at : MethodName := ⟨RX7, "at", "(II)I"⟩
abbrev mX7_at : Mu := (yX7_at, cX7_at, 2, some .int)
abbrev cX7_distance : ByteArray := prog_9_method_9_code
def yX7_distance : MethodName := ⟨RX7, "distance", "(II)I"⟩
abbrev mX7_distance : Mu := (yX7_distance, cX7_distance, 2, some .int)
abbrev cX7_isScout : ByteArray := prog_9_method_10_code
def yX7_isScout : MethodName := ⟨RX7, "isScout", "(I)Z"⟩
abbrev mX7_isScout : Mu := (yX7_isScout, cX7_isScout, 2, some .boolean)
abbrev cX7_isLight : ByteArray := prog_9_method_11_code
def yX7_isLight : MethodName := ⟨RX7, "isLight", "(I)Z"⟩
abbrev mX7_isLight : Mu := (yX7_isLight, cX7_isLight, 2, some .boolean)
abbrev cX7_ofScout : ByteArray := prog_9_method_12_code
def yX7_ofScout : MethodName := ⟨RX7, "ofScout", "(II)I"⟩
abbrev mX7_ofScout : Mu := (yX7_ofScout, cX7_ofScout, 3, some .int)
abbrev cX7_ofLight : ByteArray := prog_9_method_13_code
def yX7_ofLight : MethodName := ⟨RX7, "ofLight", "(II)I"⟩
abbrev mX7_ofLight : Mu := (yX7_ofLight, cX7_ofLight, 3, some .int)
abbrev cX7_cellOf : ByteArray := prog_9_method_14_code
def yX7_cellOf : MethodName := ⟨RX7, "cellOf", "(I)I"⟩
abbrev mX7_cellOf : Mu := (yX7_cellOf, cX7_cellOf, 2, some .int)
abbrev cX7_scoutIn : ByteArray := prog_9_method_15_code
def yX7_scoutIn : MethodName := ⟨RX7, "scoutIn", "(I)I"⟩
abbrev mX7_scoutIn : Mu := (yX7_scoutIn, cX7_scoutIn, 3, some .int)
abbrev cX7_isLit : ByteArray := prog_9_method_16_code
def yX7_isLit : MethodName := ⟨RX7, "isLit", "(I)Z"⟩
abbrev mX7_isLit : Mu := (yX7_isLit, cX7_isLit, 4, some .boolean)
abbrev cX7_down : ByteArray := prog_9_method_17_code
def yX7_down : MethodName := ⟨RX7, "down", "(II)I"⟩
abbrev mX7_down : Mu := (yX7_down, cX7_down, 3, some .int)
abbrev cX7_inner : ByteArray := prog_9_method_18_code
def yX7_inner : MethodName := ⟨RX7, "inner", "(IIII)I"⟩
abbrev mX7_inner : Mu := (yX7_inner, cX7_inner, 4, some .int)
abbrev cX7_isFree : ByteArray := prog_9_method_19_code
def yX7_isFree : MethodName := ⟨RX7, "isFree", "(II)Z"⟩
abbrev mX7_isFree : Mu := (yX7_isFree, cX7_isFree, 12, some .boolean)
abbrev cX7_isSeenFrom : ByteArray := prog_9_method_20_code
def yX7_isSeenFrom : MethodName := ⟨RX7, "isSeenFrom", "(III)Z"⟩
abbrev mX7_isSeenFrom : Mu := (yX7_isSeenFrom, cX7_isSeenFrom, 5, some .boolean)
abbrev cX7_sees : ByteArray := prog_9_method_21_code
def yX7_sees : MethodName := ⟨RX7, "sees", "(II)Z"⟩
abbrev mX7_sees : Mu := (yX7_sees, cX7_sees, 3, some .boolean)
abbrev cX7_sideSees : ByteArray := prog_9_method_22_code
def yX7_sideSees : MethodName := ⟨RX7, "sideSees", "(II)Z"⟩
abbrev mX7_sideSees : Mu := (yX7_sideSees, cX7_sideSees, 5, some .boolean)
abbrev cX7_look : ByteArray := prog_9_method_23_code
def yX7_look : MethodName := ⟨RX7, "look", "()V"⟩
abbrev mX7_look : Mu := (yX7_look, cX7_look, 5, none)
abbrev cX7_memory : ByteArray := prog_9_method_24_code
def yX7_memory : MethodName := ⟨RX7, "memory", "(II)I"⟩
abbrev mX7_memory : Mu := (yX7_memory, cX7_memory, 3, some .int)
abbrev cX7_seenBy : ByteArray := prog_9_method_25_code
def yX7_seenBy : MethodName := ⟨RX7, "seenBy", "(I)I"⟩
abbrev mX7_seenBy : Mu := (yX7_seenBy, cX7_seenBy, 4, some .int)
abbrev cX7_remembered : ByteArray := prog_9_method_26_code
def yX7_remembered : MethodName := ⟨RX7, "remembered", "(I)I"⟩
abbrev mX7_remembered : Mu := (yX7_remembered, cX7_remembered, 4, some .int)
abbrev cX7_replace : ByteArray := prog_9_method_27_code
def yX7_replace : MethodName := ⟨RX7, "replace", "(II)I"⟩
abbrev mX7_replace : Mu := (yX7_replace, cX7_replace, 4, some .int)
abbrev cX7_setHeight : ByteArray := prog_9_method_28_code
def yX7_setHeight : MethodName := ⟨RX7, "setHeight", "(III)I"⟩
abbrev mX7_setHeight : Mu := (yX7_setHeight, cX7_setHeight, 4, some .int)
abbrev cX7_setWall : ByteArray := prog_9_method_29_code
def yX7_setWall : MethodName := ⟨RX7, "setWall", "(III)I"⟩
abbrev mX7_setWall : Mu := (yX7_setWall, cX7_setWall, 4, some .int)
abbrev cX7_append : ByteArray := prog_9_method_30_code
def yX7_append : MethodName := ⟨RX7, "append", "(I)I"⟩
abbrev mX7_append : Mu := (yX7_append, cX7_append, 2, some .int)
abbrev cX7_clearText : ByteArray := prog_9_method_31_code
def yX7_clearText : MethodName := ⟨RX7, "clearText", "()I"⟩
abbrev mX7_clearText : Mu := (yX7_clearText, cX7_clearText, 2, some .int)
abbrev cX7_here : ByteArray := prog_9_method_32_code
def yX7_here : MethodName := ⟨RX7, "here", "()I"⟩
abbrev mX7_here : Mu := (yX7_here, cX7_here, 1, some .int)
abbrev cX7_readsCell : ByteArray := prog_9_method_33_code
def yX7_readsCell : MethodName := ⟨RX7, "readsCell", "(II)Z"⟩
abbrev mX7_readsCell : Mu := (yX7_readsCell, cX7_readsCell, 5, some .boolean)
abbrev cX7_readsRow : ByteArray := prog_9_method_34_code
def yX7_readsRow : MethodName := ⟨RX7, "readsRow", "(I)Z"⟩
abbrev mX7_readsRow : Mu := (yX7_readsRow, cX7_readsRow, 3, some .boolean)
abbrev cX7_exchange : ByteArray := prog_9_method_35_code
def yX7_exchange : MethodName := ⟨RX7, "exchange", "()V"⟩
abbrev mX7_exchange : Mu := (yX7_exchange, cX7_exchange, 3, none)
abbrev cX7_load : ByteArray := prog_9_method_36_code
def yX7_load : MethodName := ⟨RX7, "load", "()I"⟩
abbrev mX7_load : Mu := (yX7_load, cX7_load, 3, some .int)
abbrev cX7_addScout : ByteArray := prog_9_method_37_code
def yX7_addScout : MethodName := ⟨RX7, "addScout", "(IIII)I"⟩
abbrev mX7_addScout : Mu := (yX7_addScout, cX7_addScout, 7, some .int)
abbrev cX7_step : ByteArray := prog_9_method_38_code
def yX7_step : MethodName := ⟨RX7, "step", "(III)I"⟩
abbrev mX7_step : Mu := (yX7_step, cX7_step, 9, some .int)
abbrev cX7_remove : ByteArray := prog_9_method_39_code
def yX7_remove : MethodName := ⟨RX7, "remove", "(III)V"⟩
abbrev mX7_remove : Mu := (yX7_remove, cX7_remove, 5, none)
abbrev cX7_removeScout : ByteArray := prog_9_method_40_code
def yX7_removeScout : MethodName := ⟨RX7, "removeScout", "(I)I"⟩
abbrev mX7_removeScout : Mu := (yX7_removeScout, cX7_removeScout, 2, some .int)
abbrev cX7_addLight : ByteArray := prog_9_method_41_code
def yX7_addLight : MethodName := ⟨RX7, "addLight", "(IIII)I"⟩
abbrev mX7_addLight : Mu := (yX7_addLight, cX7_addLight, 6, some .int)
abbrev cX7_setOil : ByteArray := prog_9_method_42_code
def yX7_setOil : MethodName := ⟨RX7, "setOil", "(II)I"⟩
abbrev mX7_setOil : Mu := (yX7_setOil, cX7_setOil, 3, some .int)
abbrev cX7_removeLight : ByteArray := prog_9_method_43_code
def yX7_removeLight : MethodName := ⟨RX7, "removeLight", "(I)I"⟩
abbrev mX7_removeLight : Mu := (yX7_removeLight, cX7_removeLight, 2, some .int)
abbrev cX7_setFogTime : ByteArray := prog_9_method_44_code
def yX7_setFogTime : MethodName := ⟨RX7, "setFogTime", "(I)I"⟩
abbrev mX7_setFogTime : Mu := (yX7_setFogTime, cX7_setFogTime, 4, some .int)
abbrev cX7_turn : ByteArray := prog_9_method_45_code
def yX7_turn : MethodName := ⟨RX7, "turn", "()I"⟩
abbrev mX7_turn : Mu := (yX7_turn, cX7_turn, 4, some .int)
abbrev cX7_pass : ByteArray := prog_9_method_46_code
def yX7_pass : MethodName := ⟨RX7, "pass", "(I)I"⟩
abbrev mX7_pass : Mu := (yX7_pass, cX7_pass, 4, some .int)
abbrev cX7_undo : ByteArray := prog_9_method_47_code
def yX7_undo : MethodName := ⟨RX7, "undo", "()I"⟩
abbrev mX7_undo : Mu := (yX7_undo, cX7_undo, 2, some .int)
abbrev cX7_burning : ByteArray := prog_9_method_48_code
def yX7_burning : MethodName := ⟨RX7, "burning", "()I"⟩
abbrev mX7_burning : Mu := (yX7_burning, cX7_burning, 3, some .int)
abbrev cX7_lit : ByteArray := prog_9_method_49_code
def yX7_lit : MethodName := ⟨RX7, "lit", "()I"⟩
abbrev mX7_lit : Mu := (yX7_lit, cX7_lit, 3, some .int)
abbrev cX7_count : ByteArray := prog_9_method_50_code
def yX7_count : MethodName := ⟨RX7, "count", "(I)I"⟩
abbrev mX7_count : Mu := (yX7_count, cX7_count, 2, some .int)
abbrev cX7_cell : ByteArray := prog_9_method_51_code
def yX7_cell : MethodName := ⟨RX7, "cell", "(III)I"⟩
abbrev mX7_cell : Mu := (yX7_cell, cX7_cell, 5, some .int)
abbrev cX7_seenFrom : ByteArray := prog_9_method_52_code
def yX7_seenFrom : MethodName := ⟨RX7, "seenFrom", "(II)I"⟩
abbrev mX7_seenFrom : Mu := (yX7_seenFrom, cX7_seenFrom, 5, some .int)
abbrev cX7_scout : ByteArray := prog_9_method_53_code
def yX7_scout : MethodName := ⟨RX7, "scout", "(II)I"⟩
abbrev mX7_scout : Mu := (yX7_scout, cX7_scout, 3, some .int)
abbrev cX7_light : ByteArray := prog_9_method_54_code
def yX7_light : MethodName := ⟨RX7, "light", "(II)I"⟩
abbrev mX7_light : Mu := (yX7_light, cX7_light, 3, some .int)
abbrev cX7_known : ByteArray := prog_9_method_55_code
def yX7_known : MethodName := ⟨RX7, "known", "(IIII)I"⟩
abbrev mX7_known : Mu := (yX7_known, cX7_known, 6, some .int)
abbrev cX7_view : ByteArray := prog_9_method_56_code
def yX7_view : MethodName := ⟨RX7, "view", "(IIII)I"⟩
abbrev mX7_view : Mu := (yX7_view, cX7_view, 5, some .int)
abbrev cX7_isKnownStep : ByteArray := prog_9_method_57_code
def yX7_isKnownStep : MethodName := ⟨RX7, "isKnownStep", "(III)Z"⟩
abbrev mX7_isKnownStep : Mu := (yX7_isKnownStep, cX7_isKnownStep, 5, some .boolean)
abbrev cX7_findSteps : ByteArray := prog_9_method_58_code
def yX7_findSteps : MethodName := ⟨RX7, "findSteps", "(II)V"⟩
abbrev mX7_findSteps : Mu := (yX7_findSteps, cX7_findSteps, 7, none)
abbrev cX7_way : ByteArray := prog_9_method_59_code
def yX7_way : MethodName := ⟨RX7, "way", "(III)I"⟩
abbrev mX7_way : Mu := (yX7_way, cX7_way, 4, some .int)
abbrev cX7_lookout : ByteArray := prog_9_method_60_code
def yX7_lookout : MethodName := ⟨RX7, "lookout", "(II)I"⟩
abbrev mX7_lookout : Mu := (yX7_lookout, cX7_lookout, 10, some .int)
abbrev cX7_alone : ByteArray := prog_9_method_61_code
def yX7_alone : MethodName := ⟨RX7, "alone", "(I)I"⟩
abbrev mX7_alone : Mu := (yX7_alone, cX7_alone, 6, some .int)
abbrev cJ9_floorDiv_7cf53 : ByteArray := prog_10_method_47_code
def yJ9_floorDiv_7cf53 : MethodName := ⟨RJ9, "floorDiv", "(II)I"⟩
abbrev mJ9_floorDiv_7cf53 : Mu := (yJ9_floorDiv_7cf53, cJ9_floorDiv_7cf53, 3, some .int)
abbrev cJ9_abs_0f7a4 : ByteArray := prog_10_method_59_code
def yJ9_abs_0f7a4 : MethodName := ⟨RJ9, "abs", "(I)I"⟩
abbrev mJ9_abs_0f7a4 : Mu := (yJ9_abs_0f7a4, cJ9_abs_0f7a4, 1, some .int)
abbrev cJ9_max_7cf53 : ByteArray := prog_10_method_65_code
def yJ9_max_7cf53 : MethodName := ⟨RJ9, "max", "(II)I"⟩
abbrev mJ9_max_7cf53 : Mu := (yJ9_max_7cf53, cJ9_max_7cf53, 2, some .int)
abbrev cJ9_min_7cf53 : ByteArray := prog_10_method_69_code
def yJ9_min_7cf53 : MethodName := ⟨RJ9, "min", "(II)I"⟩
abbrev mJ9_min_7cf53 : Mu := (yJ9_min_7cf53, cJ9_min_7cf53, 2, some .int)
abbrev cJ7_fill_53178 : ByteArray := prog_12_method_103_code
def yJ7_fill_53178 : MethodName := ⟨RJ7, "fill", "([II)V"⟩
abbrev mJ7_fill_53178 : Mu := (yJ7_fill_53178, cJ7_fill_53178, 4, none)
def fm_TBL : List Cond := lw_tbl.filter goodWord
theorem fm_tab {w : Cond} (i : Nat) (h : tables_1[i]? = some w) (g : goodWord w = true) : w ∈ fm_TBL := List.mem_filter.mpr ⟨List.mem_append_right _ (List.mem_of_getElem? h), g⟩
theorem fm_sel {w : Cond} (i : Nat) (h : (k2_sels lw_privs)[i]? = some w) (g : goodWord w = true) : w ∈ fm_TBL := List.mem_filter.mpr ⟨List.mem_append_left _ (List.mem_of_getElem? h), g⟩
def fm_ws (μ : Mu) : List Cond := Cond.code μ.1 μ.2.1 μ.2.2.1 μ.2.2.2 :: fm_TBL
theorem fm_good {w : Cond} (h : w ∈ fm_TBL) : (w.onTables && w.keeps) = true ∨ ∃ ty, w = .arrayClass ty := good_of_word (List.mem_filter.mp h).2
theorem fm_goodIn {μ ν : Mu} (h : Cond.code ν.1 ν.2.1 ν.2.2.1 ν.2.2.2 ∈ fm_TBL) : GoodIn (fm_ws μ) (fm_ws ν) := by
  intro w hw
  rcases List.mem_cons.mp hw with e | e
  · exact ⟨List.mem_cons_of_mem _ (e ▸ h), fm_good (e ▸ h)⟩
  · exact ⟨List.mem_cons_of_mem _ e, fm_good e⟩
abbrev fm_N : Type := String × Nat × MethodName × String
def fm_NL : List fm_N := [(RX6, 11, yX3_init, "FogMap"), (RX3, 51, yX1_init, "FogMap"), (RX6, 18, yX2_init, "FogMap"), (RX0, 24, yX3_init, "FogMap"), (RX6, 32, yX4_init, "FogMap"), (RX6, 39, yX5_init, "FogMap"), (RX3, 56, yX6_copy, "FogMap"), (RX1, 24, yX6_copy, "FogMap"), (RX3, 79, yX6_distanceOf, "FogMap"), (RX2, 42, yX6_distanceOf, "FogMap"), (RX2, 64, yX6_columnOf, "FogMap"), (RX2, 70, yX6_rowOf, "FogMap"), (RX2, 73, yX6_cellAt, "FogMap"), (RX2, 38, yX6_bitOf, "FogMap"), (RX3, 68, yX6_bitOf, "FogMap"), (RX4, 32, yX6_cellAt, "FogMap"), (RX4, 42, yX6_isWithin, "FogMap"), (RX3, 71, yX6_closeGap, "FogMap"), (RX5, 36, yX6_columnOf, "FogMap"), (RX5, 40, yX6_rowOf, "FogMap"), (RX5, 43, yX6_isCell, "FogMap"), (RX5, 47, yX6_cellAt, "FogMap")]
theorem fm_NL_in : ∀ q ∈ fm_NL, Cond.methodLinkNest q.1 q.2.1 q.2.2.1 q.2.2.2 ∈ lw_tbl := by decide +kernel
theorem kc_X0_init : Cond.code mX0_init.1 mX0_init.2.1 mX0_init.2.2.1 mX0_init.2.2.2 ∈ fm_TBL := fm_tab 134 (by decide +kernel) (by decide +kernel)
theorem kc_X0_keep : Cond.code mX0_keep.1 mX0_keep.2.1 mX0_keep.2.2.1 mX0_keep.2.2.2 ∈ fm_TBL := fm_tab 215 (by decide +kernel) (by decide +kernel)
theorem kc_X0_restore : Cond.code mX0_restore.1 mX0_restore.2.1 mX0_restore.2.2.1 mX0_restore.2.2.2 ∈ fm_TBL := fm_tab 454 (by decide +kernel) (by decide +kernel)
theorem kc_X1_init : Cond.code mX1_init.1 mX1_init.2.1 mX1_init.2.2.1 mX1_init.2.2.2 ∈ fm_TBL := fm_tab 31 (by decide +kernel) (by decide +kernel)
theorem kc_X1_copyFrom : Cond.code mX1_copyFrom.1 mX1_copyFrom.2.1 mX1_copyFrom.2.2.1 mX1_copyFrom.2.2.2 ∈ fm_TBL := fm_tab 232 (by decide +kernel) (by decide +kernel)
theorem kc_X1_fade : Cond.code mX1_fade.1 mX1_fade.2.1 mX1_fade.2.2.1 mX1_fade.2.2.2 ∈ fm_TBL := fm_tab 445 (by decide +kernel) (by decide +kernel)
theorem kc_X1_limit : Cond.code mX1_limit.1 mX1_limit.2.1 mX1_limit.2.2.1 mX1_limit.2.2.2 ∈ fm_TBL := fm_tab 420 (by decide +kernel) (by decide +kernel)
theorem kc_X1_countNotFogged : Cond.code mX1_countNotFogged.1 mX1_countNotFogged.2.1 mX1_countNotFogged.2.2.1 mX1_countNotFogged.2.2.2 ∈ fm_TBL := fm_tab 472 (by decide +kernel) (by decide +kernel)
theorem kc_X1_canStep : Cond.code mX1_canStep.1 mX1_canStep.2.1 mX1_canStep.2.2.1 mX1_canStep.2.2.2 ∈ fm_TBL := fm_tab 522 (by decide +kernel) (by decide +kernel)
theorem kc_X2_init : Cond.code mX2_init.1 mX2_init.2.1 mX2_init.2.2.1 mX2_init.2.2.2 ∈ fm_TBL := fm_tab 119 (by decide +kernel) (by decide +kernel)
theorem kc_X2_refresh : Cond.code mX2_refresh.1 mX2_refresh.2.1 mX2_refresh.2.2.1 mX2_refresh.2.2.2 ∈ fm_TBL := fm_tab 242 (by decide +kernel) (by decide +kernel)
theorem kc_X2_canSee : Cond.code mX2_canSee.1 mX2_canSee.2.1 mX2_canSee.2.2.1 mX2_canSee.2.2.2 ∈ fm_TBL := fm_tab 265 (by decide +kernel) (by decide +kernel)
theorem kc_X2_countSeenFrom : Cond.code mX2_countSeenFrom.1 mX2_countSeenFrom.2.1 mX2_countSeenFrom.2.2.1 mX2_countSeenFrom.2.2.2 ∈ fm_TBL := fm_tab 532 (by decide +kernel) (by decide +kernel)
theorem kc_X2_isSeen : Cond.code mX2_isSeen.1 mX2_isSeen.2.1 mX2_isSeen.2.2.1 mX2_isSeen.2.2.2 ∈ fm_TBL := fm_tab 297 (by decide +kernel) (by decide +kernel)
theorem kc_X2_countSeen : Cond.code mX2_countSeen.1 mX2_countSeen.2.1 mX2_countSeen.2.2.1 mX2_countSeen.2.2.2 ∈ fm_TBL := fm_tab 467 (by decide +kernel) (by decide +kernel)
theorem kc_X2_countLit : Cond.code mX2_countLit.1 mX2_countLit.2.1 mX2_countLit.2.2.1 mX2_countLit.2.2.2 ∈ fm_TBL := fm_tab 463 (by decide +kernel) (by decide +kernel)
theorem kc_X2_isViewFree : Cond.code mX2_isViewFree.1 mX2_isViewFree.2.1 mX2_isViewFree.2.2.1 mX2_isViewFree.2.2.2 ∈ fm_TBL := fm_tab 269 (by decide +kernel) (by decide +kernel)
theorem kc_X2_innerCell : Cond.code mX2_innerCell.1 mX2_innerCell.2.1 mX2_innerCell.2.2.1 mX2_innerCell.2.2.2 ∈ fm_TBL := fm_tab 272 (by decide +kernel) (by decide +kernel)
theorem kc_X2_part : Cond.code mX2_part.1 mX2_part.2.1 mX2_part.2.2.1 mX2_part.2.2.2 ∈ fm_TBL := fm_tab 276 (by decide +kernel) (by decide +kernel)
theorem kc_X3_init : Cond.code mX3_init.1 mX3_init.2.1 mX3_init.2.2.1 mX3_init.2.2.2 ∈ fm_TBL := fm_tab 24 (by decide +kernel) (by decide +kernel)
theorem kc_X3_copyFrom : Cond.code mX3_copyFrom.1 mX3_copyFrom.2.1 mX3_copyFrom.2.2.1 mX3_copyFrom.2.2.2 ∈ fm_TBL := fm_tab 219 (by decide +kernel) (by decide +kernel)
theorem kc_X3_scoutIn : Cond.code mX3_scoutIn.1 mX3_scoutIn.2.1 mX3_scoutIn.2.2.1 mX3_scoutIn.2.2.2 ∈ fm_TBL := fm_tab 305 (by decide +kernel) (by decide +kernel)
theorem kc_X3_isFree : Cond.code mX3_isFree.1 mX3_isFree.2.1 mX3_isFree.2.2.1 mX3_isFree.2.2.2 ∈ fm_TBL := fm_tab 351 (by decide +kernel) (by decide +kernel)
theorem kc_X3_scoutsOf : Cond.code mX3_scoutsOf.1 mX3_scoutsOf.2.1 mX3_scoutsOf.2.2.1 mX3_scoutsOf.2.2.2 ∈ fm_TBL := fm_tab 292 (by decide +kernel) (by decide +kernel)
theorem kc_X3_putScout : Cond.code mX3_putScout.1 mX3_putScout.2.1 mX3_putScout.2.2.1 mX3_putScout.2.2.2 ∈ fm_TBL := fm_tab 355 (by decide +kernel) (by decide +kernel)
theorem kc_X3_dropScout : Cond.code mX3_dropScout.1 mX3_dropScout.2.1 mX3_dropScout.2.2.1 mX3_dropScout.2.2.2 ∈ fm_TBL := fm_tab 381 (by decide +kernel) (by decide +kernel)
theorem kc_X3_putLight : Cond.code mX3_putLight.1 mX3_putLight.2.1 mX3_putLight.2.2.1 mX3_putLight.2.2.2 ∈ fm_TBL := fm_tab 392 (by decide +kernel) (by decide +kernel)
theorem kc_X3_dropLight : Cond.code mX3_dropLight.1 mX3_dropLight.2.1 mX3_dropLight.2.2.1 mX3_dropLight.2.2.2 ∈ fm_TBL := fm_tab 408 (by decide +kernel) (by decide +kernel)
theorem kc_X3_countBurning : Cond.code mX3_countBurning.1 mX3_countBurning.2.1 mX3_countBurning.2.2.1 mX3_countBurning.2.2.2 ∈ fm_TBL := fm_tab 437 (by decide +kernel) (by decide +kernel)
theorem kc_X3_burn : Cond.code mX3_burn.1 mX3_burn.2.1 mX3_burn.2.2.1 mX3_burn.2.2.2 ∈ fm_TBL := fm_tab 433 (by decide +kernel) (by decide +kernel)
theorem kc_X3_isLit : Cond.code mX3_isLit.1 mX3_isLit.2.1 mX3_isLit.2.2.1 mX3_isLit.2.2.2 ∈ fm_TBL := fm_tab 246 (by decide +kernel) (by decide +kernel)
theorem kc_X3_fade : Cond.code mX3_fade.1 mX3_fade.2.1 mX3_fade.2.2.1 mX3_fade.2.2.2 ∈ fm_TBL := fm_tab 441 (by decide +kernel) (by decide +kernel)
theorem kc_X3_changeFogTime : Cond.code mX3_changeFogTime.1 mX3_changeFogTime.2.1 mX3_changeFogTime.2.2.1 mX3_changeFogTime.2.2.2 ∈ fm_TBL := fm_tab 416 (by decide +kernel) (by decide +kernel)
theorem kc_X3_remember : Cond.code mX3_remember.1 mX3_remember.2.1 mX3_remember.2.2.1 mX3_remember.2.2.2 ∈ fm_TBL := fm_tab 288 (by decide +kernel) (by decide +kernel)
theorem kc_X3_rememberCell : Cond.code mX3_rememberCell.1 mX3_rememberCell.2.1 mX3_rememberCell.2.2.1 mX3_rememberCell.2.2.2 ∈ fm_TBL := fm_tab 301 (by decide +kernel) (by decide +kernel)
theorem kc_X4_init : Cond.code mX4_init.1 mX4_init.2.1 mX4_init.2.2.1 mX4_init.2.2.2 ∈ fm_TBL := fm_tab 154 (by decide +kernel) (by decide +kernel)
theorem kc_X4_put : Cond.code mX4_put.1 mX4_put.2.1 mX4_put.2.2.1 mX4_put.2.2.2 ∈ fm_TBL := fm_tab 318 (by decide +kernel) (by decide +kernel)
theorem kc_X4_read : Cond.code mX4_read.1 mX4_read.2.1 mX4_read.2.2.1 mX4_read.2.2.2 ∈ fm_TBL := fm_tab 330 (by decide +kernel) (by decide +kernel)
theorem kc_X4_isAllowed : Cond.code mX4_isAllowed.1 mX4_isAllowed.2.1 mX4_isAllowed.2.2.1 mX4_isAllowed.2.2.2 ∈ fm_TBL := fm_tab 336 (by decide +kernel) (by decide +kernel)
theorem kc_X4_tellTo : Cond.code mX4_tellTo.1 mX4_tellTo.2.1 mX4_tellTo.2.2.1 mX4_tellTo.2.2.2 ∈ fm_TBL := fm_tab 343 (by decide +kernel) (by decide +kernel)
theorem kc_X5_init : Cond.code mX5_init.1 mX5_init.2.1 mX5_init.2.2.1 mX5_init.2.2.2 ∈ fm_TBL := fm_tab 171 (by decide +kernel) (by decide +kernel)
theorem kc_X5_shortest : Cond.code mX5_shortest.1 mX5_shortest.2.1 mX5_shortest.2.2.1 mX5_shortest.2.2.2 ∈ fm_TBL := fm_tab 505 (by decide +kernel) (by decide +kernel)
theorem kc_X5_reachNeighbors : Cond.code mX5_reachNeighbors.1 mX5_reachNeighbors.2.1 mX5_reachNeighbors.2.2.1 mX5_reachNeighbors.2.2.2 ∈ fm_TBL := fm_tab 514 (by decide +kernel) (by decide +kernel)
theorem kc_X5_reach : Cond.code mX5_reach.1 mX5_reach.2.1 mX5_reach.2.2.1 mX5_reach.2.2.2 ∈ fm_TBL := fm_tab 510 (by decide +kernel) (by decide +kernel)
theorem kc_X6_init : Cond.code mX6_init.1 mX6_init.2.1 mX6_init.2.2.1 mX6_init.2.2.2 ∈ fm_TBL := fm_tab 16 (by decide +kernel) (by decide +kernel)
theorem kc_X6_setHeight : Cond.code mX6_setHeight.1 mX6_setHeight.2.1 mX6_setHeight.2.2.1 mX6_setHeight.2.2.2 ∈ fm_TBL := fm_tab 202 (by decide +kernel) (by decide +kernel)
theorem kc_X6_setWall : Cond.code mX6_setWall.1 mX6_setWall.2.1 mX6_setWall.2.2.1 mX6_setWall.2.2.2 ∈ fm_TBL := fm_tab 309 (by decide +kernel) (by decide +kernel)
theorem kc_X6_append : Cond.code mX6_append.1 mX6_append.2.1 mX6_append.2.2.1 mX6_append.2.2.2 ∈ fm_TBL := fm_tab 314 (by decide +kernel) (by decide +kernel)
theorem kc_X6_clearText : Cond.code mX6_clearText.1 mX6_clearText.2.1 mX6_clearText.2.2.1 mX6_clearText.2.2.2 ∈ fm_TBL := fm_tab 322 (by decide +kernel) (by decide +kernel)
theorem kc_X6_load : Cond.code mX6_load.1 mX6_load.2.1 mX6_load.2.2.1 mX6_load.2.2.2 ∈ fm_TBL := fm_tab 326 (by decide +kernel) (by decide +kernel)
theorem kc_X6_addScout : Cond.code mX6_addScout.1 mX6_addScout.2.1 mX6_addScout.2.2.1 mX6_addScout.2.2.2 ∈ fm_TBL := fm_tab 347 (by decide +kernel) (by decide +kernel)
theorem kc_X6_step : Cond.code mX6_step.1 mX6_step.2.1 mX6_step.2.2.1 mX6_step.2.2.2 ∈ fm_TBL := fm_tab 359 (by decide +kernel) (by decide +kernel)
theorem kc_X6_removeScout : Cond.code mX6_removeScout.1 mX6_removeScout.2.1 mX6_removeScout.2.2.1 mX6_removeScout.2.2.2 ∈ fm_TBL := fm_tab 377 (by decide +kernel) (by decide +kernel)
theorem kc_X6_addLight : Cond.code mX6_addLight.1 mX6_addLight.2.1 mX6_addLight.2.2.1 mX6_addLight.2.2.2 ∈ fm_TBL := fm_tab 388 (by decide +kernel) (by decide +kernel)
theorem kc_X6_setOil : Cond.code mX6_setOil.1 mX6_setOil.2.1 mX6_setOil.2.2.1 mX6_setOil.2.2.2 ∈ fm_TBL := fm_tab 396 (by decide +kernel) (by decide +kernel)
theorem kc_X6_removeLight : Cond.code mX6_removeLight.1 mX6_removeLight.2.1 mX6_removeLight.2.2.1 mX6_removeLight.2.2.2 ∈ fm_TBL := fm_tab 404 (by decide +kernel) (by decide +kernel)
theorem kc_X6_setFogTime : Cond.code mX6_setFogTime.1 mX6_setFogTime.2.1 mX6_setFogTime.2.2.1 mX6_setFogTime.2.2.2 ∈ fm_TBL := fm_tab 412 (by decide +kernel) (by decide +kernel)
theorem kc_X6_pass : Cond.code mX6_pass.1 mX6_pass.2.1 mX6_pass.2.2.1 mX6_pass.2.2.2 ∈ fm_TBL := fm_tab 425 (by decide +kernel) (by decide +kernel)
theorem kc_X6_undo : Cond.code mX6_undo.1 mX6_undo.2.1 mX6_undo.2.2.1 mX6_undo.2.2.2 ∈ fm_TBL := fm_tab 450 (by decide +kernel) (by decide +kernel)
theorem kc_X6_count : Cond.code mX6_count.1 mX6_count.2.1 mX6_count.2.2.1 mX6_count.2.2.2 ∈ fm_TBL := fm_tab 458 (by decide +kernel) (by decide +kernel)
theorem kc_X6_cell : Cond.code mX6_cell.1 mX6_cell.2.1 mX6_cell.2.2.1 mX6_cell.2.2.2 ∈ fm_TBL := fm_tab 476 (by decide +kernel) (by decide +kernel)
theorem kc_X6_scout : Cond.code mX6_scout.1 mX6_scout.2.1 mX6_scout.2.2.1 mX6_scout.2.2.2 ∈ fm_TBL := fm_tab 480 (by decide +kernel) (by decide +kernel)
theorem kc_X6_light : Cond.code mX6_light.1 mX6_light.2.1 mX6_light.2.2.1 mX6_light.2.2.2 ∈ fm_TBL := fm_tab 488 (by decide +kernel) (by decide +kernel)
theorem kc_X6_known : Cond.code mX6_known.1 mX6_known.2.1 mX6_known.2.2.1 mX6_known.2.2.2 ∈ fm_TBL := fm_tab 492 (by decide +kernel) (by decide +kernel)
theorem kc_X6_view : Cond.code mX6_view.1 mX6_view.2.1 mX6_view.2.2.1 mX6_view.2.2.2 ∈ fm_TBL := fm_tab 496 (by decide +kernel) (by decide +kernel)
theorem kc_X6_way : Cond.code mX6_way.1 mX6_way.2.1 mX6_way.2.2.1 mX6_way.2.2.2 ∈ fm_TBL := fm_tab 501 (by decide +kernel) (by decide +kernel)
theorem kc_X6_lookout : Cond.code mX6_lookout.1 mX6_lookout.2.1 mX6_lookout.2.2.1 mX6_lookout.2.2.2 ∈ fm_TBL := fm_tab 527 (by decide +kernel) (by decide +kernel)
theorem kc_X6_alone : Cond.code mX6_alone.1 mX6_alone.2.1 mX6_alone.2.2.1 mX6_alone.2.2.2 ∈ fm_TBL := fm_tab 536 (by decide +kernel) (by decide +kernel)
theorem kc_X6_look : Cond.code mX6_look.1 mX6_look.2.1 mX6_look.2.2.1 mX6_look.2.2.2 ∈ fm_TBL := fm_tab 238 (by decide +kernel) (by decide +kernel)
theorem kc_X6_passTurn : Cond.code mX6_passTurn.1 mX6_passTurn.2.1 mX6_passTurn.2.2.1 mX6_passTurn.2.2.2 ∈ fm_TBL := fm_tab 429 (by decide +kernel) (by decide +kernel)
theorem kc_X6_canStep : Cond.code mX6_canStep.1 mX6_canStep.2.1 mX6_canStep.2.2.1 mX6_canStep.2.2.2 ∈ fm_TBL := fm_tab 367 (by decide +kernel) (by decide +kernel)
theorem kc_X6_countUncovered : Cond.code mX6_countUncovered.1 mX6_countUncovered.2.1 mX6_countUncovered.2.2.1 mX6_countUncovered.2.2.2 ∈ fm_TBL := fm_tab 371 (by decide +kernel) (by decide +kernel)
theorem kc_X6_isScout : Cond.code mX6_isScout.1 mX6_isScout.2.1 mX6_isScout.2.2.1 mX6_isScout.2.2.2 ∈ fm_TBL := fm_tab 363 (by decide +kernel) (by decide +kernel)
theorem kc_X6_isLight : Cond.code mX6_isLight.1 mX6_isLight.2.1 mX6_isLight.2.2.1 mX6_isLight.2.2.2 ∈ fm_TBL := fm_tab 400 (by decide +kernel) (by decide +kernel)
theorem kc_X6_isWithin : Cond.code mX6_isWithin.1 mX6_isWithin.2.1 mX6_isWithin.2.2.1 mX6_isWithin.2.2.2 ∈ fm_TBL := fm_tab 208 (by decide +kernel) (by decide +kernel)
theorem kc_X6_isCell : Cond.code mX6_isCell.1 mX6_isCell.2.1 mX6_isCell.2.2.1 mX6_isCell.2.2.2 ∈ fm_TBL := fm_tab 205 (by decide +kernel) (by decide +kernel)
theorem kc_X6_cellAt : Cond.code mX6_cellAt.1 mX6_cellAt.2.1 mX6_cellAt.2.2.1 mX6_cellAt.2.2.2 ∈ fm_TBL := fm_tab 211 (by decide +kernel) (by decide +kernel)
theorem kc_X6_columnOf : Cond.code mX6_columnOf.1 mX6_columnOf.2.1 mX6_columnOf.2.2.1 mX6_columnOf.2.2.2 ∈ fm_TBL := fm_tab 252 (by decide +kernel) (by decide +kernel)
theorem kc_X6_rowOf : Cond.code mX6_rowOf.1 mX6_rowOf.2.1 mX6_rowOf.2.2.1 mX6_rowOf.2.2.2 ∈ fm_TBL := fm_tab 258 (by decide +kernel) (by decide +kernel)
theorem kc_X6_distanceOf : Cond.code mX6_distanceOf.1 mX6_distanceOf.2.1 mX6_distanceOf.2.2.1 mX6_distanceOf.2.2.2 ∈ fm_TBL := fm_tab 249 (by decide +kernel) (by decide +kernel)
theorem kc_X6_otherSide : Cond.code mX6_otherSide.1 mX6_otherSide.2.1 mX6_otherSide.2.2.1 mX6_otherSide.2.2.2 ∈ fm_TBL := fm_tab 484 (by decide +kernel) (by decide +kernel)
theorem kc_X6_bitOf : Cond.code mX6_bitOf.1 mX6_bitOf.2.1 mX6_bitOf.2.2.1 mX6_bitOf.2.2.2 ∈ fm_TBL := fm_tab 284 (by decide +kernel) (by decide +kernel)
theorem kc_X6_copy : Cond.code mX6_copy.1 mX6_copy.2.1 mX6_copy.2.2.1 mX6_copy.2.2.2 ∈ fm_TBL := fm_tab 222 (by decide +kernel) (by decide +kernel)
theorem kc_X6_closeGap : Cond.code mX6_closeGap.1 mX6_closeGap.2.1 mX6_closeGap.2.2.1 mX6_closeGap.2.2.2 ∈ fm_TBL := fm_tab 384 (by decide +kernel) (by decide +kernel)
theorem kc_X7_init : Cond.code mX7_init.1 mX7_init.2.1 mX7_init.2.2.1 mX7_init.2.2.2 ∈ fm_TBL := fm_tab 541 (by decide +kernel) (by decide +kernel)
theorem kc_X7_in : Cond.code mX7_in.1 mX7_in.2.1 mX7_in.2.2.1 mX7_in.2.2.2 ∈ fm_TBL := fm_tab 580 (by decide +kernel) (by decide +kernel)
theorem kc_X7_apart : Cond.code mX7_apart.1 mX7_apart.2.1 mX7_apart.2.2.1 mX7_apart.2.2.2 ∈ fm_TBL := fm_tab 621 (by decide +kernel) (by decide +kernel)
theorem kc_X7_more : Cond.code mX7_more.1 mX7_more.2.1 mX7_more.2.2.1 mX7_more.2.2.2 ∈ fm_TBL := fm_tab 624 (by decide +kernel) (by decide +kernel)
theorem kc_X7_act : Cond.code mX7_act.1 mX7_act.2.1 mX7_act.2.2.1 mX7_act.2.2.2 ∈ fm_TBL := fm_tab 591 (by decide +kernel) (by decide +kernel)
theorem kc_X7_isCell : Cond.code mX7_isCell.1 mX7_isCell.2.1 mX7_isCell.2.2.1 mX7_isCell.2.2.2 ∈ fm_TBL := fm_tab 577 (by decide +kernel) (by decide +kernel)
theorem kc_X7_at : Cond.code mX7_at.1 mX7_at.2.1 mX7_at.2.2.1 mX7_at.2.2.2 ∈ fm_TBL := fm_tab 583 (by decide +kernel) (by decide +kernel)
theorem kc_X7_distance : Cond.code mX7_distance.1 mX7_distance.2.1 mX7_distance.2.2.1 mX7_distance.2.2.2 ∈ fm_TBL := fm_tab 618 (by decide +kernel) (by decide +kernel)
theorem kc_X7_isScout : Cond.code mX7_isScout.1 mX7_isScout.2.1 mX7_isScout.2.2.1 mX7_isScout.2.2.2 ∈ fm_TBL := fm_tab 690 (by decide +kernel) (by decide +kernel)
theorem kc_X7_isLight : Cond.code mX7_isLight.1 mX7_isLight.2.1 mX7_isLight.2.2.1 mX7_isLight.2.2.2 ∈ fm_TBL := fm_tab 718 (by decide +kernel) (by decide +kernel)
theorem kc_X7_ofScout : Cond.code mX7_ofScout.1 mX7_ofScout.2.1 mX7_ofScout.2.2.1 mX7_ofScout.2.2.2 ∈ fm_TBL := fm_tab 603 (by decide +kernel) (by decide +kernel)
theorem kc_X7_ofLight : Cond.code mX7_ofLight.1 mX7_ofLight.2.1 mX7_ofLight.2.2.1 mX7_ofLight.2.2.2 ∈ fm_TBL := fm_tab 632 (by decide +kernel) (by decide +kernel)
theorem kc_X7_cellOf : Cond.code mX7_cellOf.1 mX7_cellOf.2.1 mX7_cellOf.2.2.1 mX7_cellOf.2.2.2 ∈ fm_TBL := fm_tab 611 (by decide +kernel) (by decide +kernel)
theorem kc_X7_scoutIn : Cond.code mX7_scoutIn.1 mX7_scoutIn.2.1 mX7_scoutIn.2.2.1 mX7_scoutIn.2.2.2 ∈ fm_TBL := fm_tab 646 (by decide +kernel) (by decide +kernel)
theorem kc_X7_isLit : Cond.code mX7_isLit.1 mX7_isLit.2.1 mX7_isLit.2.2.1 mX7_isLit.2.2.2 ∈ fm_TBL := fm_tab 628 (by decide +kernel) (by decide +kernel)
theorem kc_X7_down : Cond.code mX7_down.1 mX7_down.2.1 mX7_down.2.2.1 mX7_down.2.2.2 ∈ fm_TBL := fm_tab 642 (by decide +kernel) (by decide +kernel)
theorem kc_X7_inner : Cond.code mX7_inner.1 mX7_inner.2.1 mX7_inner.2.2.1 mX7_inner.2.2.2 ∈ fm_TBL := fm_tab 639 (by decide +kernel) (by decide +kernel)
theorem kc_X7_isFree : Cond.code mX7_isFree.1 mX7_isFree.2.1 mX7_isFree.2.2.1 mX7_isFree.2.2.2 ∈ fm_TBL := fm_tab 636 (by decide +kernel) (by decide +kernel)
theorem kc_X7_isSeenFrom : Cond.code mX7_isSeenFrom.1 mX7_isSeenFrom.2.1 mX7_isSeenFrom.2.2.1 mX7_isSeenFrom.2.2.2 ∈ fm_TBL := fm_tab 615 (by decide +kernel) (by decide +kernel)
theorem kc_X7_sees : Cond.code mX7_sees.1 mX7_sees.2.1 mX7_sees.2.2.1 mX7_sees.2.2.2 ∈ fm_TBL := fm_tab 607 (by decide +kernel) (by decide +kernel)
theorem kc_X7_sideSees : Cond.code mX7_sideSees.1 mX7_sideSees.2.1 mX7_sideSees.2.2.1 mX7_sideSees.2.2.2 ∈ fm_TBL := fm_tab 599 (by decide +kernel) (by decide +kernel)
theorem kc_X7_look : Cond.code mX7_look.1 mX7_look.2.1 mX7_look.2.2.1 mX7_look.2.2.2 ∈ fm_TBL := fm_tab 595 (by decide +kernel) (by decide +kernel)
theorem kc_X7_memory : Cond.code mX7_memory.1 mX7_memory.2.1 mX7_memory.2.2.1 mX7_memory.2.2.2 ∈ fm_TBL := fm_tab 698 (by decide +kernel) (by decide +kernel)
theorem kc_X7_seenBy : Cond.code mX7_seenBy.1 mX7_seenBy.2.1 mX7_seenBy.2.2.1 mX7_seenBy.2.2.2 ∈ fm_TBL := fm_tab 754 (by decide +kernel) (by decide +kernel)
theorem kc_X7_remembered : Cond.code mX7_remembered.1 mX7_remembered.2.1 mX7_remembered.2.2.1 mX7_remembered.2.2.2 ∈ fm_TBL := fm_tab 694 (by decide +kernel) (by decide +kernel)
theorem kc_X7_replace : Cond.code mX7_replace.1 mX7_replace.2.1 mX7_replace.2.2.1 mX7_replace.2.2.2 ∈ fm_TBL := fm_tab 587 (by decide +kernel) (by decide +kernel)
theorem kc_X7_setHeight : Cond.code mX7_setHeight.1 mX7_setHeight.2.1 mX7_setHeight.2.2.1 mX7_setHeight.2.2.2 ∈ fm_TBL := fm_tab 574 (by decide +kernel) (by decide +kernel)
theorem kc_X7_setWall : Cond.code mX7_setWall.1 mX7_setWall.2.1 mX7_setWall.2.2.1 mX7_setWall.2.2.2 ∈ fm_TBL := fm_tab 650 (by decide +kernel) (by decide +kernel)
theorem kc_X7_append : Cond.code mX7_append.1 mX7_append.2.1 mX7_append.2.2.1 mX7_append.2.2.2 ∈ fm_TBL := fm_tab 654 (by decide +kernel) (by decide +kernel)
theorem kc_X7_clearText : Cond.code mX7_clearText.1 mX7_clearText.2.1 mX7_clearText.2.2.1 mX7_clearText.2.2.2 ∈ fm_TBL := fm_tab 658 (by decide +kernel) (by decide +kernel)
theorem kc_X7_here : Cond.code mX7_here.1 mX7_here.2.1 mX7_here.2.2.1 mX7_here.2.2.2 ∈ fm_TBL := fm_tab 666 (by decide +kernel) (by decide +kernel)
theorem kc_X7_readsCell : Cond.code mX7_readsCell.1 mX7_readsCell.2.1 mX7_readsCell.2.2.1 mX7_readsCell.2.2.2 ∈ fm_TBL := fm_tab 674 (by decide +kernel) (by decide +kernel)
theorem kc_X7_readsRow : Cond.code mX7_readsRow.1 mX7_readsRow.2.1 mX7_readsRow.2.2.1 mX7_readsRow.2.2.2 ∈ fm_TBL := fm_tab 670 (by decide +kernel) (by decide +kernel)
theorem kc_X7_exchange : Cond.code mX7_exchange.1 mX7_exchange.2.1 mX7_exchange.2.2.1 mX7_exchange.2.2.2 ∈ fm_TBL := fm_tab 678 (by decide +kernel) (by decide +kernel)
theorem kc_X7_load : Cond.code mX7_load.1 mX7_load.2.1 mX7_load.2.2.1 mX7_load.2.2.2 ∈ fm_TBL := fm_tab 662 (by decide +kernel) (by decide +kernel)
theorem kc_X7_addScout : Cond.code mX7_addScout.1 mX7_addScout.2.1 mX7_addScout.2.2.1 mX7_addScout.2.2.2 ∈ fm_TBL := fm_tab 682 (by decide +kernel) (by decide +kernel)
theorem kc_X7_step : Cond.code mX7_step.1 mX7_step.2.1 mX7_step.2.2.1 mX7_step.2.2.2 ∈ fm_TBL := fm_tab 686 (by decide +kernel) (by decide +kernel)
theorem kc_X7_remove : Cond.code mX7_remove.1 mX7_remove.2.1 mX7_remove.2.2.1 mX7_remove.2.2.2 ∈ fm_TBL := fm_tab 706 (by decide +kernel) (by decide +kernel)
theorem kc_X7_removeScout : Cond.code mX7_removeScout.1 mX7_removeScout.2.1 mX7_removeScout.2.2.1 mX7_removeScout.2.2.2 ∈ fm_TBL := fm_tab 702 (by decide +kernel) (by decide +kernel)
theorem kc_X7_addLight : Cond.code mX7_addLight.1 mX7_addLight.2.1 mX7_addLight.2.2.1 mX7_addLight.2.2.2 ∈ fm_TBL := fm_tab 710 (by decide +kernel) (by decide +kernel)
theorem kc_X7_setOil : Cond.code mX7_setOil.1 mX7_setOil.2.1 mX7_setOil.2.2.1 mX7_setOil.2.2.2 ∈ fm_TBL := fm_tab 714 (by decide +kernel) (by decide +kernel)
theorem kc_X7_removeLight : Cond.code mX7_removeLight.1 mX7_removeLight.2.1 mX7_removeLight.2.2.1 mX7_removeLight.2.2.2 ∈ fm_TBL := fm_tab 722 (by decide +kernel) (by decide +kernel)
theorem kc_X7_setFogTime : Cond.code mX7_setFogTime.1 mX7_setFogTime.2.1 mX7_setFogTime.2.2.1 mX7_setFogTime.2.2.2 ∈ fm_TBL := fm_tab 726 (by decide +kernel) (by decide +kernel)
theorem kc_X7_turn : Cond.code mX7_turn.1 mX7_turn.2.1 mX7_turn.2.2.1 mX7_turn.2.2.2 ∈ fm_TBL := fm_tab 734 (by decide +kernel) (by decide +kernel)
theorem kc_X7_pass : Cond.code mX7_pass.1 mX7_pass.2.1 mX7_pass.2.2.1 mX7_pass.2.2.2 ∈ fm_TBL := fm_tab 730 (by decide +kernel) (by decide +kernel)
theorem kc_X7_undo : Cond.code mX7_undo.1 mX7_undo.2.1 mX7_undo.2.2.1 mX7_undo.2.2.2 ∈ fm_TBL := fm_tab 738 (by decide +kernel) (by decide +kernel)
theorem kc_X7_burning : Cond.code mX7_burning.1 mX7_burning.2.1 mX7_burning.2.2.1 mX7_burning.2.2.2 ∈ fm_TBL := fm_tab 746 (by decide +kernel) (by decide +kernel)
theorem kc_X7_lit : Cond.code mX7_lit.1 mX7_lit.2.1 mX7_lit.2.2.1 mX7_lit.2.2.2 ∈ fm_TBL := fm_tab 750 (by decide +kernel) (by decide +kernel)
theorem kc_X7_count : Cond.code mX7_count.1 mX7_count.2.1 mX7_count.2.2.1 mX7_count.2.2.2 ∈ fm_TBL := fm_tab 742 (by decide +kernel) (by decide +kernel)
theorem kc_X7_cell : Cond.code mX7_cell.1 mX7_cell.2.1 mX7_cell.2.2.1 mX7_cell.2.2.2 ∈ fm_TBL := fm_tab 758 (by decide +kernel) (by decide +kernel)
theorem kc_X7_seenFrom : Cond.code mX7_seenFrom.1 mX7_seenFrom.2.1 mX7_seenFrom.2.2.1 mX7_seenFrom.2.2.2 ∈ fm_TBL := fm_tab 766 (by decide +kernel) (by decide +kernel)
theorem kc_X7_scout : Cond.code mX7_scout.1 mX7_scout.2.1 mX7_scout.2.2.1 mX7_scout.2.2.2 ∈ fm_TBL := fm_tab 762 (by decide +kernel) (by decide +kernel)
theorem kc_X7_light : Cond.code mX7_light.1 mX7_light.2.1 mX7_light.2.2.1 mX7_light.2.2.2 ∈ fm_TBL := fm_tab 770 (by decide +kernel) (by decide +kernel)
theorem kc_X7_known : Cond.code mX7_known.1 mX7_known.2.1 mX7_known.2.2.1 mX7_known.2.2.2 ∈ fm_TBL := fm_tab 774 (by decide +kernel) (by decide +kernel)
theorem kc_X7_view : Cond.code mX7_view.1 mX7_view.2.1 mX7_view.2.2.1 mX7_view.2.2.2 ∈ fm_TBL := fm_tab 778 (by decide +kernel) (by decide +kernel)
theorem kc_X7_isKnownStep : Cond.code mX7_isKnownStep.1 mX7_isKnownStep.2.1 mX7_isKnownStep.2.2.1 mX7_isKnownStep.2.2.2 ∈ fm_TBL := fm_tab 790 (by decide +kernel) (by decide +kernel)
theorem kc_X7_findSteps : Cond.code mX7_findSteps.1 mX7_findSteps.2.1 mX7_findSteps.2.2.1 mX7_findSteps.2.2.2 ∈ fm_TBL := fm_tab 786 (by decide +kernel) (by decide +kernel)
theorem kc_X7_way : Cond.code mX7_way.1 mX7_way.2.1 mX7_way.2.2.1 mX7_way.2.2.2 ∈ fm_TBL := fm_tab 782 (by decide +kernel) (by decide +kernel)
theorem kc_X7_lookout : Cond.code mX7_lookout.1 mX7_lookout.2.1 mX7_lookout.2.2.1 mX7_lookout.2.2.2 ∈ fm_TBL := fm_tab 794 (by decide +kernel) (by decide +kernel)
theorem kc_X7_alone : Cond.code mX7_alone.1 mX7_alone.2.1 mX7_alone.2.2.1 mX7_alone.2.2.2 ∈ fm_TBL := fm_tab 798 (by decide +kernel) (by decide +kernel)
theorem kc_J9_floorDiv_7cf53 : Cond.code mJ9_floorDiv_7cf53.1 mJ9_floorDiv_7cf53.2.1 mJ9_floorDiv_7cf53.2.2.1 mJ9_floorDiv_7cf53.2.2.2 ∈ fm_TBL := fm_tab 279 (by decide +kernel) (by decide +kernel)
theorem kc_J9_abs_0f7a4 : Cond.code mJ9_abs_0f7a4.1 mJ9_abs_0f7a4.2.1 mJ9_abs_0f7a4.2.2.1 mJ9_abs_0f7a4.2.2.2 ∈ fm_TBL := fm_tab 255 (by decide +kernel) (by decide +kernel)
theorem kc_J9_max_7cf53 : Cond.code mJ9_max_7cf53.1 mJ9_max_7cf53.2.1 mJ9_max_7cf53.2.2.1 mJ9_max_7cf53.2.2.2 ∈ fm_TBL := fm_tab 261 (by decide +kernel) (by decide +kernel)
theorem kc_J9_min_7cf53 : Cond.code mJ9_min_7cf53.1 mJ9_min_7cf53.2.1 mJ9_min_7cf53.2.2.1 mJ9_min_7cf53.2.2.2 ∈ fm_TBL := fm_tab 225 (by decide +kernel) (by decide +kernel)
theorem kc_J7_fill_53178 : Cond.code mJ7_fill_53178.1 mJ7_fill_53178.2.1 mJ7_fill_53178.2.2.1 mJ7_fill_53178.2.2.2 ∈ fm_TBL := fm_tab 333 (by decide +kernel) (by decide +kernel)
theorem ki_X0 : Cond.initialized RX0 ∈ fm_TBL := fm_tab 5 (by decide +kernel) (by decide +kernel)
theorem ki_X1 : Cond.initialized RX1 ∈ fm_TBL := fm_tab 3 (by decide +kernel) (by decide +kernel)
theorem ki_X2 : Cond.initialized RX2 ∈ fm_TBL := fm_tab 4 (by decide +kernel) (by decide +kernel)
theorem ki_X3 : Cond.initialized RX3 ∈ fm_TBL := fm_tab 2 (by decide +kernel) (by decide +kernel)
theorem ki_X4 : Cond.initialized RX4 ∈ fm_TBL := fm_tab 6 (by decide +kernel) (by decide +kernel)
theorem ki_X5 : Cond.initialized RX5 ∈ fm_TBL := fm_tab 7 (by decide +kernel) (by decide +kernel)
theorem ki_X6 : Cond.initialized RX6 ∈ fm_TBL := fm_tab 1 (by decide +kernel) (by decide +kernel)
theorem ki_X7 : Cond.initialized RX7 ∈ fm_TBL := fm_tab 8 (by decide +kernel) (by decide +kernel)
theorem ki_J9 : Cond.initialized RJ9 ∈ fm_TBL := fm_tab 9 (by decide +kernel) (by decide +kernel)
theorem ki_J10 : Cond.initialized RJ10 ∈ fm_TBL := fm_tab 10 (by decide +kernel) (by decide +kernel)
theorem ki_J7 : Cond.initialized RJ7 ∈ fm_TBL := fm_tab 11 (by decide +kernel) (by decide +kernel)
theorem ku_X0 : ∀ w ∈ u_ws RX0 TX0 3, w ∈ fm_TBL := by decide +kernel
theorem kn_X0 : Cond.instantiable RX0 3 ∈ fm_TBL := fm_tab 131 (by decide +kernel) (by decide +kernel)
theorem ku_X1 : ∀ w ∈ u_ws RX1 TX1 4, w ∈ fm_TBL := by decide +kernel
theorem kn_X1 : Cond.instantiable RX1 4 ∈ fm_TBL := fm_tab 28 (by decide +kernel) (by decide +kernel)
theorem ku_X2 : ∀ w ∈ u_ws RX2 TX2 2, w ∈ fm_TBL := by decide +kernel
theorem kn_X2 : Cond.instantiable RX2 2 ∈ fm_TBL := fm_tab 116 (by decide +kernel) (by decide +kernel)
theorem ku_X3 : ∀ w ∈ u_ws RX3 TX3 13, w ∈ fm_TBL := by decide +kernel
theorem kn_X3 : Cond.instantiable RX3 13 ∈ fm_TBL := fm_tab 21 (by decide +kernel) (by decide +kernel)
theorem ku_X4 : ∀ w ∈ u_ws RX4 TX4 3, w ∈ fm_TBL := by decide +kernel
theorem kn_X4 : Cond.instantiable RX4 3 ∈ fm_TBL := fm_tab 151 (by decide +kernel) (by decide +kernel)
theorem ku_X5 : ∀ w ∈ u_ws RX5 TX5 3, w ∈ fm_TBL := by decide +kernel
theorem kn_X5 : Cond.instantiable RX5 3 ∈ fm_TBL := fm_tab 168 (by decide +kernel) (by decide +kernel)
theorem ku_X6 : ∀ w ∈ u_ws RX6 TX6 5, w ∈ fm_TBL := by decide +kernel
theorem kn_X6 : Cond.instantiable RX6 5 ∈ fm_TBL := fm_tab 13 (by decide +kernel) (by decide +kernel)
theorem ku_X7 : ∀ w ∈ u_ws RX7 TX7 9, w ∈ fm_TBL := by decide +kernel
theorem kn_X7 : Cond.instantiable RX7 9 ∈ fm_TBL := fm_tab 538 (by decide +kernel) (by decide +kernel)
theorem kv_X0_init : Cond.instanceMethod yX0_init ∈ fm_TBL := fm_tab 133 (by decide +kernel) (by decide +kernel)
theorem kv_X0_keep : Cond.instanceMethod yX0_keep ∈ fm_TBL := fm_tab 213 (by decide +kernel) (by decide +kernel)
theorem kz_X0_keep : Cond.selects RX0 yX0_keep yX0_keep ∈ fm_TBL := fm_tab 214 (by decide +kernel) (by decide +kernel)
theorem kv_X0_restore : Cond.instanceMethod yX0_restore ∈ fm_TBL := fm_tab 452 (by decide +kernel) (by decide +kernel)
theorem kz_X0_restore : Cond.selects RX0 yX0_restore yX0_restore ∈ fm_TBL := fm_tab 453 (by decide +kernel) (by decide +kernel)
theorem kv_X1_init : Cond.instanceMethod yX1_init ∈ fm_TBL := fm_tab 30 (by decide +kernel) (by decide +kernel)
theorem kv_X1_copyFrom : Cond.instanceMethod yX1_copyFrom ∈ fm_TBL := fm_tab 230 (by decide +kernel) (by decide +kernel)
theorem kz_X1_copyFrom : Cond.selects RX1 yX1_copyFrom yX1_copyFrom ∈ fm_TBL := fm_tab 231 (by decide +kernel) (by decide +kernel)
theorem kv_X1_fade : Cond.instanceMethod yX1_fade ∈ fm_TBL := fm_tab 443 (by decide +kernel) (by decide +kernel)
theorem kz_X1_fade : Cond.selects RX1 yX1_fade yX1_fade ∈ fm_TBL := fm_tab 444 (by decide +kernel) (by decide +kernel)
theorem kv_X1_limit : Cond.instanceMethod yX1_limit ∈ fm_TBL := fm_tab 418 (by decide +kernel) (by decide +kernel)
theorem kz_X1_limit : Cond.selects RX1 yX1_limit yX1_limit ∈ fm_TBL := fm_tab 419 (by decide +kernel) (by decide +kernel)
theorem kv_X1_countNotFogged : Cond.instanceMethod yX1_countNotFogged ∈ fm_TBL := fm_tab 470 (by decide +kernel) (by decide +kernel)
theorem kz_X1_countNotFogged : Cond.selects RX1 yX1_countNotFogged yX1_countNotFogged ∈ fm_TBL := fm_tab 471 (by decide +kernel) (by decide +kernel)
theorem kv_X1_canStep : Cond.instanceMethod yX1_canStep ∈ fm_TBL := fm_tab 520 (by decide +kernel) (by decide +kernel)
theorem kz_X1_canStep : Cond.selects RX1 yX1_canStep yX1_canStep ∈ fm_TBL := fm_tab 521 (by decide +kernel) (by decide +kernel)
theorem kv_X2_init : Cond.instanceMethod yX2_init ∈ fm_TBL := fm_tab 118 (by decide +kernel) (by decide +kernel)
theorem kv_X2_refresh : Cond.instanceMethod yX2_refresh ∈ fm_TBL := fm_tab 240 (by decide +kernel) (by decide +kernel)
theorem kz_X2_refresh : Cond.selects RX2 yX2_refresh yX2_refresh ∈ fm_TBL := fm_tab 241 (by decide +kernel) (by decide +kernel)
theorem kv_X2_canSee : Cond.instanceMethod yX2_canSee ∈ fm_TBL := fm_tab 264 (by decide +kernel) (by decide +kernel)
theorem kz_X2_canSee : Cond.selects RX2 yX2_canSee yX2_canSee ∈ fm_TBL := fm_sel 1 (by decide +kernel) (by decide +kernel)
theorem kv_X2_countSeenFrom : Cond.instanceMethod yX2_countSeenFrom ∈ fm_TBL := fm_tab 530 (by decide +kernel) (by decide +kernel)
theorem kz_X2_countSeenFrom : Cond.selects RX2 yX2_countSeenFrom yX2_countSeenFrom ∈ fm_TBL := fm_tab 531 (by decide +kernel) (by decide +kernel)
theorem kv_X2_isSeen : Cond.instanceMethod yX2_isSeen ∈ fm_TBL := fm_tab 295 (by decide +kernel) (by decide +kernel)
theorem kz_X2_isSeen : Cond.selects RX2 yX2_isSeen yX2_isSeen ∈ fm_TBL := fm_tab 296 (by decide +kernel) (by decide +kernel)
theorem kv_X2_countSeen : Cond.instanceMethod yX2_countSeen ∈ fm_TBL := fm_tab 465 (by decide +kernel) (by decide +kernel)
theorem kz_X2_countSeen : Cond.selects RX2 yX2_countSeen yX2_countSeen ∈ fm_TBL := fm_tab 466 (by decide +kernel) (by decide +kernel)
theorem kv_X2_countLit : Cond.instanceMethod yX2_countLit ∈ fm_TBL := fm_tab 461 (by decide +kernel) (by decide +kernel)
theorem kz_X2_countLit : Cond.selects RX2 yX2_countLit yX2_countLit ∈ fm_TBL := fm_tab 462 (by decide +kernel) (by decide +kernel)
theorem ks_X2_isViewFree : Cond.static yX2_isViewFree ∈ fm_TBL := fm_tab 268 (by decide +kernel) (by decide +kernel)
theorem ks_X2_innerCell : Cond.static yX2_innerCell ∈ fm_TBL := fm_tab 271 (by decide +kernel) (by decide +kernel)
theorem ks_X2_part : Cond.static yX2_part ∈ fm_TBL := fm_tab 275 (by decide +kernel) (by decide +kernel)
theorem kv_X3_init : Cond.instanceMethod yX3_init ∈ fm_TBL := fm_tab 23 (by decide +kernel) (by decide +kernel)
theorem kv_X3_copyFrom : Cond.instanceMethod yX3_copyFrom ∈ fm_TBL := fm_tab 217 (by decide +kernel) (by decide +kernel)
theorem kz_X3_copyFrom : Cond.selects RX3 yX3_copyFrom yX3_copyFrom ∈ fm_TBL := fm_tab 218 (by decide +kernel) (by decide +kernel)
theorem kv_X3_scoutIn : Cond.instanceMethod yX3_scoutIn ∈ fm_TBL := fm_tab 303 (by decide +kernel) (by decide +kernel)
theorem kz_X3_scoutIn : Cond.selects RX3 yX3_scoutIn yX3_scoutIn ∈ fm_TBL := fm_tab 304 (by decide +kernel) (by decide +kernel)
theorem kv_X3_isFree : Cond.instanceMethod yX3_isFree ∈ fm_TBL := fm_tab 349 (by decide +kernel) (by decide +kernel)
theorem kz_X3_isFree : Cond.selects RX3 yX3_isFree yX3_isFree ∈ fm_TBL := fm_tab 350 (by decide +kernel) (by decide +kernel)
theorem kv_X3_scoutsOf : Cond.instanceMethod yX3_scoutsOf ∈ fm_TBL := fm_tab 290 (by decide +kernel) (by decide +kernel)
theorem kz_X3_scoutsOf : Cond.selects RX3 yX3_scoutsOf yX3_scoutsOf ∈ fm_TBL := fm_tab 291 (by decide +kernel) (by decide +kernel)
theorem kv_X3_putScout : Cond.instanceMethod yX3_putScout ∈ fm_TBL := fm_tab 353 (by decide +kernel) (by decide +kernel)
theorem kz_X3_putScout : Cond.selects RX3 yX3_putScout yX3_putScout ∈ fm_TBL := fm_tab 354 (by decide +kernel) (by decide +kernel)
theorem kv_X3_dropScout : Cond.instanceMethod yX3_dropScout ∈ fm_TBL := fm_tab 379 (by decide +kernel) (by decide +kernel)
theorem kz_X3_dropScout : Cond.selects RX3 yX3_dropScout yX3_dropScout ∈ fm_TBL := fm_tab 380 (by decide +kernel) (by decide +kernel)
theorem kv_X3_putLight : Cond.instanceMethod yX3_putLight ∈ fm_TBL := fm_tab 390 (by decide +kernel) (by decide +kernel)
theorem kz_X3_putLight : Cond.selects RX3 yX3_putLight yX3_putLight ∈ fm_TBL := fm_tab 391 (by decide +kernel) (by decide +kernel)
theorem kv_X3_dropLight : Cond.instanceMethod yX3_dropLight ∈ fm_TBL := fm_tab 406 (by decide +kernel) (by decide +kernel)
theorem kz_X3_dropLight : Cond.selects RX3 yX3_dropLight yX3_dropLight ∈ fm_TBL := fm_tab 407 (by decide +kernel) (by decide +kernel)
theorem kv_X3_countBurning : Cond.instanceMethod yX3_countBurning ∈ fm_TBL := fm_tab 435 (by decide +kernel) (by decide +kernel)
theorem kz_X3_countBurning : Cond.selects RX3 yX3_countBurning yX3_countBurning ∈ fm_TBL := fm_tab 436 (by decide +kernel) (by decide +kernel)
theorem kv_X3_burn : Cond.instanceMethod yX3_burn ∈ fm_TBL := fm_tab 431 (by decide +kernel) (by decide +kernel)
theorem kz_X3_burn : Cond.selects RX3 yX3_burn yX3_burn ∈ fm_TBL := fm_tab 432 (by decide +kernel) (by decide +kernel)
theorem kv_X3_isLit : Cond.instanceMethod yX3_isLit ∈ fm_TBL := fm_tab 244 (by decide +kernel) (by decide +kernel)
theorem kz_X3_isLit : Cond.selects RX3 yX3_isLit yX3_isLit ∈ fm_TBL := fm_tab 245 (by decide +kernel) (by decide +kernel)
theorem kv_X3_fade : Cond.instanceMethod yX3_fade ∈ fm_TBL := fm_tab 439 (by decide +kernel) (by decide +kernel)
theorem kz_X3_fade : Cond.selects RX3 yX3_fade yX3_fade ∈ fm_TBL := fm_tab 440 (by decide +kernel) (by decide +kernel)
theorem kv_X3_changeFogTime : Cond.instanceMethod yX3_changeFogTime ∈ fm_TBL := fm_tab 414 (by decide +kernel) (by decide +kernel)
theorem kz_X3_changeFogTime : Cond.selects RX3 yX3_changeFogTime yX3_changeFogTime ∈ fm_TBL := fm_tab 415 (by decide +kernel) (by decide +kernel)
theorem kv_X3_remember : Cond.instanceMethod yX3_remember ∈ fm_TBL := fm_tab 286 (by decide +kernel) (by decide +kernel)
theorem kz_X3_remember : Cond.selects RX3 yX3_remember yX3_remember ∈ fm_TBL := fm_tab 287 (by decide +kernel) (by decide +kernel)
theorem kv_X3_rememberCell : Cond.instanceMethod yX3_rememberCell ∈ fm_TBL := fm_tab 300 (by decide +kernel) (by decide +kernel)
theorem kz_X3_rememberCell : Cond.selects RX3 yX3_rememberCell yX3_rememberCell ∈ fm_TBL := fm_sel 2 (by decide +kernel) (by decide +kernel)
theorem kv_X4_init : Cond.instanceMethod yX4_init ∈ fm_TBL := fm_tab 153 (by decide +kernel) (by decide +kernel)
theorem kv_X4_put : Cond.instanceMethod yX4_put ∈ fm_TBL := fm_tab 316 (by decide +kernel) (by decide +kernel)
theorem kz_X4_put : Cond.selects RX4 yX4_put yX4_put ∈ fm_TBL := fm_tab 317 (by decide +kernel) (by decide +kernel)
theorem kv_X4_read : Cond.instanceMethod yX4_read ∈ fm_TBL := fm_tab 328 (by decide +kernel) (by decide +kernel)
theorem kz_X4_read : Cond.selects RX4 yX4_read yX4_read ∈ fm_TBL := fm_tab 329 (by decide +kernel) (by decide +kernel)
theorem ks_X4_isAllowed : Cond.static yX4_isAllowed ∈ fm_TBL := fm_tab 335 (by decide +kernel) (by decide +kernel)
theorem kv_X4_tellTo : Cond.instanceMethod yX4_tellTo ∈ fm_TBL := fm_tab 341 (by decide +kernel) (by decide +kernel)
theorem kz_X4_tellTo : Cond.selects RX4 yX4_tellTo yX4_tellTo ∈ fm_TBL := fm_tab 342 (by decide +kernel) (by decide +kernel)
theorem kv_X5_init : Cond.instanceMethod yX5_init ∈ fm_TBL := fm_tab 170 (by decide +kernel) (by decide +kernel)
theorem kv_X5_shortest : Cond.instanceMethod yX5_shortest ∈ fm_TBL := fm_tab 503 (by decide +kernel) (by decide +kernel)
theorem kz_X5_shortest : Cond.selects RX5 yX5_shortest yX5_shortest ∈ fm_TBL := fm_tab 504 (by decide +kernel) (by decide +kernel)
theorem kv_X5_reachNeighbors : Cond.instanceMethod yX5_reachNeighbors ∈ fm_TBL := fm_tab 513 (by decide +kernel) (by decide +kernel)
theorem kz_X5_reachNeighbors : Cond.selects RX5 yX5_reachNeighbors yX5_reachNeighbors ∈ fm_TBL := fm_sel 9 (by decide +kernel) (by decide +kernel)
theorem kv_X5_reach : Cond.instanceMethod yX5_reach ∈ fm_TBL := fm_tab 509 (by decide +kernel) (by decide +kernel)
theorem kz_X5_reach : Cond.selects RX5 yX5_reach yX5_reach ∈ fm_TBL := fm_sel 8 (by decide +kernel) (by decide +kernel)
theorem kv_X6_init : Cond.instanceMethod yX6_init ∈ fm_TBL := fm_tab 15 (by decide +kernel) (by decide +kernel)
theorem kv_X6_setHeight : Cond.instanceMethod yX6_setHeight ∈ fm_TBL := fm_tab 200 (by decide +kernel) (by decide +kernel)
theorem kz_X6_setHeight : Cond.selects RX6 yX6_setHeight yX6_setHeight ∈ fm_TBL := fm_tab 201 (by decide +kernel) (by decide +kernel)
theorem kv_X6_setWall : Cond.instanceMethod yX6_setWall ∈ fm_TBL := fm_tab 307 (by decide +kernel) (by decide +kernel)
theorem kz_X6_setWall : Cond.selects RX6 yX6_setWall yX6_setWall ∈ fm_TBL := fm_tab 308 (by decide +kernel) (by decide +kernel)
theorem kv_X6_append : Cond.instanceMethod yX6_append ∈ fm_TBL := fm_tab 312 (by decide +kernel) (by decide +kernel)
theorem kz_X6_append : Cond.selects RX6 yX6_append yX6_append ∈ fm_TBL := fm_tab 313 (by decide +kernel) (by decide +kernel)
theorem kv_X6_clearText : Cond.instanceMethod yX6_clearText ∈ fm_TBL := fm_tab 320 (by decide +kernel) (by decide +kernel)
theorem kz_X6_clearText : Cond.selects RX6 yX6_clearText yX6_clearText ∈ fm_TBL := fm_tab 321 (by decide +kernel) (by decide +kernel)
theorem kv_X6_load : Cond.instanceMethod yX6_load ∈ fm_TBL := fm_tab 324 (by decide +kernel) (by decide +kernel)
theorem kz_X6_load : Cond.selects RX6 yX6_load yX6_load ∈ fm_TBL := fm_tab 325 (by decide +kernel) (by decide +kernel)
theorem kv_X6_addScout : Cond.instanceMethod yX6_addScout ∈ fm_TBL := fm_tab 345 (by decide +kernel) (by decide +kernel)
theorem kz_X6_addScout : Cond.selects RX6 yX6_addScout yX6_addScout ∈ fm_TBL := fm_tab 346 (by decide +kernel) (by decide +kernel)
theorem kv_X6_step : Cond.instanceMethod yX6_step ∈ fm_TBL := fm_tab 357 (by decide +kernel) (by decide +kernel)
theorem kz_X6_step : Cond.selects RX6 yX6_step yX6_step ∈ fm_TBL := fm_tab 358 (by decide +kernel) (by decide +kernel)
theorem kv_X6_removeScout : Cond.instanceMethod yX6_removeScout ∈ fm_TBL := fm_tab 375 (by decide +kernel) (by decide +kernel)
theorem kz_X6_removeScout : Cond.selects RX6 yX6_removeScout yX6_removeScout ∈ fm_TBL := fm_tab 376 (by decide +kernel) (by decide +kernel)
theorem kv_X6_addLight : Cond.instanceMethod yX6_addLight ∈ fm_TBL := fm_tab 386 (by decide +kernel) (by decide +kernel)
theorem kz_X6_addLight : Cond.selects RX6 yX6_addLight yX6_addLight ∈ fm_TBL := fm_tab 387 (by decide +kernel) (by decide +kernel)
theorem kv_X6_setOil : Cond.instanceMethod yX6_setOil ∈ fm_TBL := fm_tab 394 (by decide +kernel) (by decide +kernel)
theorem kz_X6_setOil : Cond.selects RX6 yX6_setOil yX6_setOil ∈ fm_TBL := fm_tab 395 (by decide +kernel) (by decide +kernel)
theorem kv_X6_removeLight : Cond.instanceMethod yX6_removeLight ∈ fm_TBL := fm_tab 402 (by decide +kernel) (by decide +kernel)
theorem kz_X6_removeLight : Cond.selects RX6 yX6_removeLight yX6_removeLight ∈ fm_TBL := fm_tab 403 (by decide +kernel) (by decide +kernel)
theorem kv_X6_setFogTime : Cond.instanceMethod yX6_setFogTime ∈ fm_TBL := fm_tab 410 (by decide +kernel) (by decide +kernel)
theorem kz_X6_setFogTime : Cond.selects RX6 yX6_setFogTime yX6_setFogTime ∈ fm_TBL := fm_tab 411 (by decide +kernel) (by decide +kernel)
theorem kv_X6_pass : Cond.instanceMethod yX6_pass ∈ fm_TBL := fm_tab 423 (by decide +kernel) (by decide +kernel)
theorem kz_X6_pass : Cond.selects RX6 yX6_pass yX6_pass ∈ fm_TBL := fm_tab 424 (by decide +kernel) (by decide +kernel)
theorem kv_X6_undo : Cond.instanceMethod yX6_undo ∈ fm_TBL := fm_tab 448 (by decide +kernel) (by decide +kernel)
theorem kz_X6_undo : Cond.selects RX6 yX6_undo yX6_undo ∈ fm_TBL := fm_tab 449 (by decide +kernel) (by decide +kernel)
theorem kv_X6_count : Cond.instanceMethod yX6_count ∈ fm_TBL := fm_tab 456 (by decide +kernel) (by decide +kernel)
theorem kz_X6_count : Cond.selects RX6 yX6_count yX6_count ∈ fm_TBL := fm_tab 457 (by decide +kernel) (by decide +kernel)
theorem kv_X6_cell : Cond.instanceMethod yX6_cell ∈ fm_TBL := fm_tab 474 (by decide +kernel) (by decide +kernel)
theorem kz_X6_cell : Cond.selects RX6 yX6_cell yX6_cell ∈ fm_TBL := fm_tab 475 (by decide +kernel) (by decide +kernel)
theorem kv_X6_scout : Cond.instanceMethod yX6_scout ∈ fm_TBL := fm_tab 478 (by decide +kernel) (by decide +kernel)
theorem kz_X6_scout : Cond.selects RX6 yX6_scout yX6_scout ∈ fm_TBL := fm_tab 479 (by decide +kernel) (by decide +kernel)
theorem kv_X6_light : Cond.instanceMethod yX6_light ∈ fm_TBL := fm_tab 486 (by decide +kernel) (by decide +kernel)
theorem kz_X6_light : Cond.selects RX6 yX6_light yX6_light ∈ fm_TBL := fm_tab 487 (by decide +kernel) (by decide +kernel)
theorem kv_X6_known : Cond.instanceMethod yX6_known ∈ fm_TBL := fm_tab 490 (by decide +kernel) (by decide +kernel)
theorem kz_X6_known : Cond.selects RX6 yX6_known yX6_known ∈ fm_TBL := fm_tab 491 (by decide +kernel) (by decide +kernel)
theorem kv_X6_view : Cond.instanceMethod yX6_view ∈ fm_TBL := fm_tab 494 (by decide +kernel) (by decide +kernel)
theorem kz_X6_view : Cond.selects RX6 yX6_view yX6_view ∈ fm_TBL := fm_tab 495 (by decide +kernel) (by decide +kernel)
theorem kv_X6_way : Cond.instanceMethod yX6_way ∈ fm_TBL := fm_tab 499 (by decide +kernel) (by decide +kernel)
theorem kz_X6_way : Cond.selects RX6 yX6_way yX6_way ∈ fm_TBL := fm_tab 500 (by decide +kernel) (by decide +kernel)
theorem kv_X6_lookout : Cond.instanceMethod yX6_lookout ∈ fm_TBL := fm_tab 525 (by decide +kernel) (by decide +kernel)
theorem kz_X6_lookout : Cond.selects RX6 yX6_lookout yX6_lookout ∈ fm_TBL := fm_tab 526 (by decide +kernel) (by decide +kernel)
theorem kv_X6_alone : Cond.instanceMethod yX6_alone ∈ fm_TBL := fm_tab 534 (by decide +kernel) (by decide +kernel)
theorem kz_X6_alone : Cond.selects RX6 yX6_alone yX6_alone ∈ fm_TBL := fm_tab 535 (by decide +kernel) (by decide +kernel)
theorem kv_X6_look : Cond.instanceMethod yX6_look ∈ fm_TBL := fm_tab 237 (by decide +kernel) (by decide +kernel)
theorem kz_X6_look : Cond.selects RX6 yX6_look yX6_look ∈ fm_TBL := fm_sel 0 (by decide +kernel) (by decide +kernel)
theorem kv_X6_passTurn : Cond.instanceMethod yX6_passTurn ∈ fm_TBL := fm_tab 428 (by decide +kernel) (by decide +kernel)
theorem kz_X6_passTurn : Cond.selects RX6 yX6_passTurn yX6_passTurn ∈ fm_TBL := fm_sel 7 (by decide +kernel) (by decide +kernel)
theorem kv_X6_canStep : Cond.instanceMethod yX6_canStep ∈ fm_TBL := fm_tab 366 (by decide +kernel) (by decide +kernel)
theorem kz_X6_canStep : Cond.selects RX6 yX6_canStep yX6_canStep ∈ fm_TBL := fm_sel 4 (by decide +kernel) (by decide +kernel)
theorem kv_X6_countUncovered : Cond.instanceMethod yX6_countUncovered ∈ fm_TBL := fm_tab 370 (by decide +kernel) (by decide +kernel)
theorem kz_X6_countUncovered : Cond.selects RX6 yX6_countUncovered yX6_countUncovered ∈ fm_TBL := fm_sel 5 (by decide +kernel) (by decide +kernel)
theorem kv_X6_isScout : Cond.instanceMethod yX6_isScout ∈ fm_TBL := fm_tab 362 (by decide +kernel) (by decide +kernel)
theorem kz_X6_isScout : Cond.selects RX6 yX6_isScout yX6_isScout ∈ fm_TBL := fm_sel 3 (by decide +kernel) (by decide +kernel)
theorem kv_X6_isLight : Cond.instanceMethod yX6_isLight ∈ fm_TBL := fm_tab 399 (by decide +kernel) (by decide +kernel)
theorem kz_X6_isLight : Cond.selects RX6 yX6_isLight yX6_isLight ∈ fm_TBL := fm_sel 6 (by decide +kernel) (by decide +kernel)
theorem ks_X6_isWithin : Cond.static yX6_isWithin ∈ fm_TBL := fm_tab 207 (by decide +kernel) (by decide +kernel)
theorem ks_X6_isCell : Cond.static yX6_isCell ∈ fm_TBL := fm_tab 204 (by decide +kernel) (by decide +kernel)
theorem ks_X6_cellAt : Cond.static yX6_cellAt ∈ fm_TBL := fm_tab 210 (by decide +kernel) (by decide +kernel)
theorem ks_X6_columnOf : Cond.static yX6_columnOf ∈ fm_TBL := fm_tab 251 (by decide +kernel) (by decide +kernel)
theorem ks_X6_rowOf : Cond.static yX6_rowOf ∈ fm_TBL := fm_tab 257 (by decide +kernel) (by decide +kernel)
theorem ks_X6_distanceOf : Cond.static yX6_distanceOf ∈ fm_TBL := fm_tab 248 (by decide +kernel) (by decide +kernel)
theorem ks_X6_otherSide : Cond.static yX6_otherSide ∈ fm_TBL := fm_tab 483 (by decide +kernel) (by decide +kernel)
theorem ks_X6_bitOf : Cond.static yX6_bitOf ∈ fm_TBL := fm_tab 283 (by decide +kernel) (by decide +kernel)
theorem ks_X6_copy : Cond.static yX6_copy ∈ fm_TBL := fm_tab 221 (by decide +kernel) (by decide +kernel)
theorem ks_X6_closeGap : Cond.static yX6_closeGap ∈ fm_TBL := fm_tab 383 (by decide +kernel) (by decide +kernel)
theorem kv_X7_init : Cond.instanceMethod yX7_init ∈ fm_TBL := fm_tab 540 (by decide +kernel) (by decide +kernel)
theorem ks_X7_in : Cond.static yX7_in ∈ fm_TBL := fm_tab 579 (by decide +kernel) (by decide +kernel)
theorem ks_X7_apart : Cond.static yX7_apart ∈ fm_TBL := fm_tab 620 (by decide +kernel) (by decide +kernel)
theorem ks_X7_more : Cond.static yX7_more ∈ fm_TBL := fm_tab 623 (by decide +kernel) (by decide +kernel)
theorem kv_X7_act : Cond.instanceMethod yX7_act ∈ fm_TBL := fm_tab 590 (by decide +kernel) (by decide +kernel)
theorem kz_X7_act : Cond.selects RX7 yX7_act yX7_act ∈ fm_TBL := fm_sel 11 (by decide +kernel) (by decide +kernel)
theorem ks_X7_isCell : Cond.static yX7_isCell ∈ fm_TBL := fm_tab 576 (by decide +kernel) (by decide +kernel)
theorem ks_X7_at : Cond.static yX7_at ∈ fm_TBL := fm_tab 582 (by decide +kernel) (by decide +kernel)
theorem ks_X7_distance : Cond.static yX7_distance ∈ fm_TBL := fm_tab 617 (by decide +kernel) (by decide +kernel)
theorem kv_X7_isScout : Cond.instanceMethod yX7_isScout ∈ fm_TBL := fm_tab 689 (by decide +kernel) (by decide +kernel)
theorem kz_X7_isScout : Cond.selects RX7 yX7_isScout yX7_isScout ∈ fm_TBL := fm_sel 26 (by decide +kernel) (by decide +kernel)
theorem kv_X7_isLight : Cond.instanceMethod yX7_isLight ∈ fm_TBL := fm_tab 717 (by decide +kernel) (by decide +kernel)
theorem kz_X7_isLight : Cond.selects RX7 yX7_isLight yX7_isLight ∈ fm_TBL := fm_sel 30 (by decide +kernel) (by decide +kernel)
theorem kv_X7_ofScout : Cond.instanceMethod yX7_ofScout ∈ fm_TBL := fm_tab 602 (by decide +kernel) (by decide +kernel)
theorem kz_X7_ofScout : Cond.selects RX7 yX7_ofScout yX7_ofScout ∈ fm_TBL := fm_sel 14 (by decide +kernel) (by decide +kernel)
theorem kv_X7_ofLight : Cond.instanceMethod yX7_ofLight ∈ fm_TBL := fm_tab 631 (by decide +kernel) (by decide +kernel)
theorem kz_X7_ofLight : Cond.selects RX7 yX7_ofLight yX7_ofLight ∈ fm_TBL := fm_sel 19 (by decide +kernel) (by decide +kernel)
theorem kv_X7_cellOf : Cond.instanceMethod yX7_cellOf ∈ fm_TBL := fm_tab 610 (by decide +kernel) (by decide +kernel)
theorem kz_X7_cellOf : Cond.selects RX7 yX7_cellOf yX7_cellOf ∈ fm_TBL := fm_sel 16 (by decide +kernel) (by decide +kernel)
theorem kv_X7_scoutIn : Cond.instanceMethod yX7_scoutIn ∈ fm_TBL := fm_tab 645 (by decide +kernel) (by decide +kernel)
theorem kz_X7_scoutIn : Cond.selects RX7 yX7_scoutIn yX7_scoutIn ∈ fm_TBL := fm_sel 21 (by decide +kernel) (by decide +kernel)
theorem kv_X7_isLit : Cond.instanceMethod yX7_isLit ∈ fm_TBL := fm_tab 627 (by decide +kernel) (by decide +kernel)
theorem kz_X7_isLit : Cond.selects RX7 yX7_isLit yX7_isLit ∈ fm_TBL := fm_sel 18 (by decide +kernel) (by decide +kernel)
theorem ks_X7_down : Cond.static yX7_down ∈ fm_TBL := fm_tab 641 (by decide +kernel) (by decide +kernel)
theorem ks_X7_inner : Cond.static yX7_inner ∈ fm_TBL := fm_tab 638 (by decide +kernel) (by decide +kernel)
theorem kv_X7_isFree : Cond.instanceMethod yX7_isFree ∈ fm_TBL := fm_tab 635 (by decide +kernel) (by decide +kernel)
theorem kz_X7_isFree : Cond.selects RX7 yX7_isFree yX7_isFree ∈ fm_TBL := fm_sel 20 (by decide +kernel) (by decide +kernel)
theorem kv_X7_isSeenFrom : Cond.instanceMethod yX7_isSeenFrom ∈ fm_TBL := fm_tab 614 (by decide +kernel) (by decide +kernel)
theorem kz_X7_isSeenFrom : Cond.selects RX7 yX7_isSeenFrom yX7_isSeenFrom ∈ fm_TBL := fm_sel 17 (by decide +kernel) (by decide +kernel)
theorem kv_X7_sees : Cond.instanceMethod yX7_sees ∈ fm_TBL := fm_tab 606 (by decide +kernel) (by decide +kernel)
theorem kz_X7_sees : Cond.selects RX7 yX7_sees yX7_sees ∈ fm_TBL := fm_sel 15 (by decide +kernel) (by decide +kernel)
theorem kv_X7_sideSees : Cond.instanceMethod yX7_sideSees ∈ fm_TBL := fm_tab 598 (by decide +kernel) (by decide +kernel)
theorem kz_X7_sideSees : Cond.selects RX7 yX7_sideSees yX7_sideSees ∈ fm_TBL := fm_sel 13 (by decide +kernel) (by decide +kernel)
theorem kv_X7_look : Cond.instanceMethod yX7_look ∈ fm_TBL := fm_tab 594 (by decide +kernel) (by decide +kernel)
theorem kz_X7_look : Cond.selects RX7 yX7_look yX7_look ∈ fm_TBL := fm_sel 12 (by decide +kernel) (by decide +kernel)
theorem kv_X7_memory : Cond.instanceMethod yX7_memory ∈ fm_TBL := fm_tab 697 (by decide +kernel) (by decide +kernel)
theorem kz_X7_memory : Cond.selects RX7 yX7_memory yX7_memory ∈ fm_TBL := fm_sel 28 (by decide +kernel) (by decide +kernel)
theorem kv_X7_seenBy : Cond.instanceMethod yX7_seenBy ∈ fm_TBL := fm_tab 753 (by decide +kernel) (by decide +kernel)
theorem kz_X7_seenBy : Cond.selects RX7 yX7_seenBy yX7_seenBy ∈ fm_TBL := fm_sel 34 (by decide +kernel) (by decide +kernel)
theorem kv_X7_remembered : Cond.instanceMethod yX7_remembered ∈ fm_TBL := fm_tab 693 (by decide +kernel) (by decide +kernel)
theorem kz_X7_remembered : Cond.selects RX7 yX7_remembered yX7_remembered ∈ fm_TBL := fm_sel 27 (by decide +kernel) (by decide +kernel)
theorem kv_X7_replace : Cond.instanceMethod yX7_replace ∈ fm_TBL := fm_tab 586 (by decide +kernel) (by decide +kernel)
theorem kz_X7_replace : Cond.selects RX7 yX7_replace yX7_replace ∈ fm_TBL := fm_sel 10 (by decide +kernel) (by decide +kernel)
theorem kv_X7_setHeight : Cond.instanceMethod yX7_setHeight ∈ fm_TBL := fm_tab 572 (by decide +kernel) (by decide +kernel)
theorem kz_X7_setHeight : Cond.selects RX7 yX7_setHeight yX7_setHeight ∈ fm_TBL := fm_tab 573 (by decide +kernel) (by decide +kernel)
theorem kv_X7_setWall : Cond.instanceMethod yX7_setWall ∈ fm_TBL := fm_tab 648 (by decide +kernel) (by decide +kernel)
theorem kz_X7_setWall : Cond.selects RX7 yX7_setWall yX7_setWall ∈ fm_TBL := fm_tab 649 (by decide +kernel) (by decide +kernel)
theorem kv_X7_append : Cond.instanceMethod yX7_append ∈ fm_TBL := fm_tab 652 (by decide +kernel) (by decide +kernel)
theorem kz_X7_append : Cond.selects RX7 yX7_append yX7_append ∈ fm_TBL := fm_tab 653 (by decide +kernel) (by decide +kernel)
theorem kv_X7_clearText : Cond.instanceMethod yX7_clearText ∈ fm_TBL := fm_tab 656 (by decide +kernel) (by decide +kernel)
theorem kz_X7_clearText : Cond.selects RX7 yX7_clearText yX7_clearText ∈ fm_TBL := fm_tab 657 (by decide +kernel) (by decide +kernel)
theorem kv_X7_here : Cond.instanceMethod yX7_here ∈ fm_TBL := fm_tab 665 (by decide +kernel) (by decide +kernel)
theorem kz_X7_here : Cond.selects RX7 yX7_here yX7_here ∈ fm_TBL := fm_sel 22 (by decide +kernel) (by decide +kernel)
theorem kv_X7_readsCell : Cond.instanceMethod yX7_readsCell ∈ fm_TBL := fm_tab 673 (by decide +kernel) (by decide +kernel)
theorem kz_X7_readsCell : Cond.selects RX7 yX7_readsCell yX7_readsCell ∈ fm_TBL := fm_sel 24 (by decide +kernel) (by decide +kernel)
theorem kv_X7_readsRow : Cond.instanceMethod yX7_readsRow ∈ fm_TBL := fm_tab 669 (by decide +kernel) (by decide +kernel)
theorem kz_X7_readsRow : Cond.selects RX7 yX7_readsRow yX7_readsRow ∈ fm_TBL := fm_sel 23 (by decide +kernel) (by decide +kernel)
theorem kv_X7_exchange : Cond.instanceMethod yX7_exchange ∈ fm_TBL := fm_tab 677 (by decide +kernel) (by decide +kernel)
theorem kz_X7_exchange : Cond.selects RX7 yX7_exchange yX7_exchange ∈ fm_TBL := fm_sel 25 (by decide +kernel) (by decide +kernel)
theorem kv_X7_load : Cond.instanceMethod yX7_load ∈ fm_TBL := fm_tab 660 (by decide +kernel) (by decide +kernel)
theorem kz_X7_load : Cond.selects RX7 yX7_load yX7_load ∈ fm_TBL := fm_tab 661 (by decide +kernel) (by decide +kernel)
theorem kv_X7_addScout : Cond.instanceMethod yX7_addScout ∈ fm_TBL := fm_tab 680 (by decide +kernel) (by decide +kernel)
theorem kz_X7_addScout : Cond.selects RX7 yX7_addScout yX7_addScout ∈ fm_TBL := fm_tab 681 (by decide +kernel) (by decide +kernel)
theorem kv_X7_step : Cond.instanceMethod yX7_step ∈ fm_TBL := fm_tab 684 (by decide +kernel) (by decide +kernel)
theorem kz_X7_step : Cond.selects RX7 yX7_step yX7_step ∈ fm_TBL := fm_tab 685 (by decide +kernel) (by decide +kernel)
theorem kv_X7_remove : Cond.instanceMethod yX7_remove ∈ fm_TBL := fm_tab 705 (by decide +kernel) (by decide +kernel)
theorem kz_X7_remove : Cond.selects RX7 yX7_remove yX7_remove ∈ fm_TBL := fm_sel 29 (by decide +kernel) (by decide +kernel)
theorem kv_X7_removeScout : Cond.instanceMethod yX7_removeScout ∈ fm_TBL := fm_tab 700 (by decide +kernel) (by decide +kernel)
theorem kz_X7_removeScout : Cond.selects RX7 yX7_removeScout yX7_removeScout ∈ fm_TBL := fm_tab 701 (by decide +kernel) (by decide +kernel)
theorem kv_X7_addLight : Cond.instanceMethod yX7_addLight ∈ fm_TBL := fm_tab 708 (by decide +kernel) (by decide +kernel)
theorem kz_X7_addLight : Cond.selects RX7 yX7_addLight yX7_addLight ∈ fm_TBL := fm_tab 709 (by decide +kernel) (by decide +kernel)
theorem kv_X7_setOil : Cond.instanceMethod yX7_setOil ∈ fm_TBL := fm_tab 712 (by decide +kernel) (by decide +kernel)
theorem kz_X7_setOil : Cond.selects RX7 yX7_setOil yX7_setOil ∈ fm_TBL := fm_tab 713 (by decide +kernel) (by decide +kernel)
theorem kv_X7_removeLight : Cond.instanceMethod yX7_removeLight ∈ fm_TBL := fm_tab 720 (by decide +kernel) (by decide +kernel)
theorem kz_X7_removeLight : Cond.selects RX7 yX7_removeLight yX7_removeLight ∈ fm_TBL := fm_tab 721 (by decide +kernel) (by decide +kernel)
theorem kv_X7_setFogTime : Cond.instanceMethod yX7_setFogTime ∈ fm_TBL := fm_tab 724 (by decide +kernel) (by decide +kernel)
theorem kz_X7_setFogTime : Cond.selects RX7 yX7_setFogTime yX7_setFogTime ∈ fm_TBL := fm_tab 725 (by decide +kernel) (by decide +kernel)
theorem kv_X7_turn : Cond.instanceMethod yX7_turn ∈ fm_TBL := fm_tab 733 (by decide +kernel) (by decide +kernel)
theorem kz_X7_turn : Cond.selects RX7 yX7_turn yX7_turn ∈ fm_TBL := fm_sel 31 (by decide +kernel) (by decide +kernel)
theorem kv_X7_pass : Cond.instanceMethod yX7_pass ∈ fm_TBL := fm_tab 728 (by decide +kernel) (by decide +kernel)
theorem kz_X7_pass : Cond.selects RX7 yX7_pass yX7_pass ∈ fm_TBL := fm_tab 729 (by decide +kernel) (by decide +kernel)
theorem kv_X7_undo : Cond.instanceMethod yX7_undo ∈ fm_TBL := fm_tab 736 (by decide +kernel) (by decide +kernel)
theorem kz_X7_undo : Cond.selects RX7 yX7_undo yX7_undo ∈ fm_TBL := fm_tab 737 (by decide +kernel) (by decide +kernel)
theorem kv_X7_burning : Cond.instanceMethod yX7_burning ∈ fm_TBL := fm_tab 745 (by decide +kernel) (by decide +kernel)
theorem kz_X7_burning : Cond.selects RX7 yX7_burning yX7_burning ∈ fm_TBL := fm_sel 32 (by decide +kernel) (by decide +kernel)
theorem kv_X7_lit : Cond.instanceMethod yX7_lit ∈ fm_TBL := fm_tab 749 (by decide +kernel) (by decide +kernel)
theorem kz_X7_lit : Cond.selects RX7 yX7_lit yX7_lit ∈ fm_TBL := fm_sel 33 (by decide +kernel) (by decide +kernel)
theorem kv_X7_count : Cond.instanceMethod yX7_count ∈ fm_TBL := fm_tab 740 (by decide +kernel) (by decide +kernel)
theorem kz_X7_count : Cond.selects RX7 yX7_count yX7_count ∈ fm_TBL := fm_tab 741 (by decide +kernel) (by decide +kernel)
theorem kv_X7_cell : Cond.instanceMethod yX7_cell ∈ fm_TBL := fm_tab 756 (by decide +kernel) (by decide +kernel)
theorem kz_X7_cell : Cond.selects RX7 yX7_cell yX7_cell ∈ fm_TBL := fm_tab 757 (by decide +kernel) (by decide +kernel)
theorem kv_X7_seenFrom : Cond.instanceMethod yX7_seenFrom ∈ fm_TBL := fm_tab 765 (by decide +kernel) (by decide +kernel)
theorem kz_X7_seenFrom : Cond.selects RX7 yX7_seenFrom yX7_seenFrom ∈ fm_TBL := fm_sel 35 (by decide +kernel) (by decide +kernel)
theorem kv_X7_scout : Cond.instanceMethod yX7_scout ∈ fm_TBL := fm_tab 760 (by decide +kernel) (by decide +kernel)
theorem kz_X7_scout : Cond.selects RX7 yX7_scout yX7_scout ∈ fm_TBL := fm_tab 761 (by decide +kernel) (by decide +kernel)
theorem kv_X7_light : Cond.instanceMethod yX7_light ∈ fm_TBL := fm_tab 768 (by decide +kernel) (by decide +kernel)
theorem kz_X7_light : Cond.selects RX7 yX7_light yX7_light ∈ fm_TBL := fm_tab 769 (by decide +kernel) (by decide +kernel)
theorem kv_X7_known : Cond.instanceMethod yX7_known ∈ fm_TBL := fm_tab 772 (by decide +kernel) (by decide +kernel)
theorem kz_X7_known : Cond.selects RX7 yX7_known yX7_known ∈ fm_TBL := fm_tab 773 (by decide +kernel) (by decide +kernel)
theorem kv_X7_view : Cond.instanceMethod yX7_view ∈ fm_TBL := fm_tab 776 (by decide +kernel) (by decide +kernel)
theorem kz_X7_view : Cond.selects RX7 yX7_view yX7_view ∈ fm_TBL := fm_tab 777 (by decide +kernel) (by decide +kernel)
theorem kv_X7_isKnownStep : Cond.instanceMethod yX7_isKnownStep ∈ fm_TBL := fm_tab 789 (by decide +kernel) (by decide +kernel)
theorem kz_X7_isKnownStep : Cond.selects RX7 yX7_isKnownStep yX7_isKnownStep ∈ fm_TBL := fm_sel 37 (by decide +kernel) (by decide +kernel)
theorem kv_X7_findSteps : Cond.instanceMethod yX7_findSteps ∈ fm_TBL := fm_tab 785 (by decide +kernel) (by decide +kernel)
theorem kz_X7_findSteps : Cond.selects RX7 yX7_findSteps yX7_findSteps ∈ fm_TBL := fm_sel 36 (by decide +kernel) (by decide +kernel)
theorem kv_X7_way : Cond.instanceMethod yX7_way ∈ fm_TBL := fm_tab 780 (by decide +kernel) (by decide +kernel)
theorem kz_X7_way : Cond.selects RX7 yX7_way yX7_way ∈ fm_TBL := fm_tab 781 (by decide +kernel) (by decide +kernel)
theorem kv_X7_lookout : Cond.instanceMethod yX7_lookout ∈ fm_TBL := fm_tab 792 (by decide +kernel) (by decide +kernel)
theorem kz_X7_lookout : Cond.selects RX7 yX7_lookout yX7_lookout ∈ fm_TBL := fm_tab 793 (by decide +kernel) (by decide +kernel)
theorem kv_X7_alone : Cond.instanceMethod yX7_alone ∈ fm_TBL := fm_tab 796 (by decide +kernel) (by decide +kernel)
theorem kz_X7_alone : Cond.selects RX7 yX7_alone yX7_alone ∈ fm_TBL := fm_tab 797 (by decide +kernel) (by decide +kernel)
theorem ks_J9_floorDiv_7cf53 : Cond.static yJ9_floorDiv_7cf53 ∈ fm_TBL := fm_tab 278 (by decide +kernel) (by decide +kernel)
theorem ks_J9_abs_0f7a4 : Cond.static yJ9_abs_0f7a4 ∈ fm_TBL := fm_tab 254 (by decide +kernel) (by decide +kernel)
theorem ks_J9_max_7cf53 : Cond.static yJ9_max_7cf53 ∈ fm_TBL := fm_tab 260 (by decide +kernel) (by decide +kernel)
theorem ks_J9_min_7cf53 : Cond.static yJ9_min_7cf53 ∈ fm_TBL := fm_tab 224 (by decide +kernel) (by decide +kernel)
theorem ks_J7_fill_53178 : Cond.static yJ7_fill_53178 ∈ fm_TBL := fm_tab 332 (by decide +kernel) (by decide +kernel)
theorem kl_X6_3 : Cond.methodLink RX6 3 objectInit ∈ fm_TBL := fm_tab 17 (by decide +kernel) (by decide +kernel)
theorem kk_X6_9 : Cond.classLink RX6 9 RX3 ∈ fm_TBL := fm_tab 20 (by decide +kernel) (by decide +kernel)
theorem kl_X3_3 : Cond.methodLink RX3 3 objectInit ∈ fm_TBL := fm_tab 25 (by decide +kernel) (by decide +kernel)
theorem kk_X3_49 : Cond.classLink RX3 49 RX1 ∈ fm_TBL := fm_tab 26 (by decide +kernel) (by decide +kernel)
theorem kl_X1_3 : Cond.methodLink RX1 3 objectInit ∈ fm_TBL := fm_tab 32 (by decide +kernel) (by decide +kernel)
theorem kf_X1_9 : Cond.fieldLink RX1 9 (TX1 0).1 (TX1 0).2.1 (TX1 0).2.2.1 ∈ fm_TBL := fm_tab 33 (by decide +kernel) (by decide +kernel)
theorem kf_X3_103 : Cond.fieldLink RX3 103 (TX1 0).1 (TX1 0).2.1 (TX1 0).2.2.1 ∈ fm_TBL := fm_tab 34 (by decide +kernel) (by decide +kernel)
theorem kf_X6_207 : Cond.fieldLink RX6 207 (TX1 0).1 (TX1 0).2.1 (TX1 0).2.2.1 ∈ fm_TBL := fm_tab 35 (by decide +kernel) (by decide +kernel)
theorem kf_X1_15 : Cond.fieldLink RX1 15 (TX1 1).1 (TX1 1).2.1 (TX1 1).2.2.1 ∈ fm_TBL := fm_tab 36 (by decide +kernel) (by decide +kernel)
theorem kf_X3_106 : Cond.fieldLink RX3 106 (TX1 1).1 (TX1 1).2.1 (TX1 1).2.2.1 ∈ fm_TBL := fm_tab 37 (by decide +kernel) (by decide +kernel)
theorem kf_X6_210 : Cond.fieldLink RX6 210 (TX1 1).1 (TX1 1).2.1 (TX1 1).2.2.1 ∈ fm_TBL := fm_tab 38 (by decide +kernel) (by decide +kernel)
theorem kf_X1_18 : Cond.fieldLink RX1 18 (TX1 2).1 (TX1 2).2.1 (TX1 2).2.2.1 ∈ fm_TBL := fm_tab 39 (by decide +kernel) (by decide +kernel)
theorem kf_X3_107 : Cond.fieldLink RX3 107 (TX1 2).1 (TX1 2).2.1 (TX1 2).2.2.1 ∈ fm_TBL := fm_tab 40 (by decide +kernel) (by decide +kernel)
theorem kf_X6_211 : Cond.fieldLink RX6 211 (TX1 2).1 (TX1 2).2.1 (TX1 2).2.2.1 ∈ fm_TBL := fm_tab 41 (by decide +kernel) (by decide +kernel)
theorem kf_X1_21 : Cond.fieldLink RX1 21 (TX1 3).1 (TX1 3).2.1 (TX1 3).2.2.1 ∈ fm_TBL := fm_tab 42 (by decide +kernel) (by decide +kernel)
theorem kf_X3_108 : Cond.fieldLink RX3 108 (TX1 3).1 (TX1 3).2.1 (TX1 3).2.2.1 ∈ fm_TBL := fm_tab 43 (by decide +kernel) (by decide +kernel)
theorem kf_X6_212 : Cond.fieldLink RX6 212 (TX1 3).1 (TX1 3).2.1 (TX1 3).2.2.1 ∈ fm_TBL := fm_tab 44 (by decide +kernel) (by decide +kernel)
theorem kf_X3_9 : Cond.fieldLink RX3 9 (TX3 0).1 (TX3 0).2.1 (TX3 0).2.2.1 ∈ fm_TBL := fm_tab 55 (by decide +kernel) (by decide +kernel)
theorem kf_X6_56 : Cond.fieldLink RX6 56 (TX3 0).1 (TX3 0).2.1 (TX3 0).2.2.1 ∈ fm_TBL := fm_tab 56 (by decide +kernel) (by decide +kernel)
theorem kf_X4_49 : Cond.fieldLink RX4 49 (TX3 0).1 (TX3 0).2.1 (TX3 0).2.2.1 ∈ fm_TBL := fm_tab 57 (by decide +kernel) (by decide +kernel)
theorem kf_X2_54 : Cond.fieldLink RX2 54 (TX3 0).1 (TX3 0).2.1 (TX3 0).2.2.1 ∈ fm_TBL := fm_tab 58 (by decide +kernel) (by decide +kernel)
theorem kf_X3_15 : Cond.fieldLink RX3 15 (TX3 1).1 (TX3 1).2.1 (TX3 1).2.2.1 ∈ fm_TBL := fm_tab 59 (by decide +kernel) (by decide +kernel)
theorem kf_X6_71 : Cond.fieldLink RX6 71 (TX3 1).1 (TX3 1).2.1 (TX3 1).2.2.1 ∈ fm_TBL := fm_tab 60 (by decide +kernel) (by decide +kernel)
theorem kf_X4_46 : Cond.fieldLink RX4 46 (TX3 1).1 (TX3 1).2.1 (TX3 1).2.2.1 ∈ fm_TBL := fm_tab 61 (by decide +kernel) (by decide +kernel)
theorem kf_X2_61 : Cond.fieldLink RX2 61 (TX3 1).1 (TX3 1).2.1 (TX3 1).2.2.1 ∈ fm_TBL := fm_tab 62 (by decide +kernel) (by decide +kernel)
theorem kf_X3_18 : Cond.fieldLink RX3 18 (TX3 2).1 (TX3 2).2.1 (TX3 2).2.2.1 ∈ fm_TBL := fm_tab 63 (by decide +kernel) (by decide +kernel)
theorem kf_X2_24 : Cond.fieldLink RX2 24 (TX3 2).1 (TX3 2).2.1 (TX3 2).2.2.1 ∈ fm_TBL := fm_tab 64 (by decide +kernel) (by decide +kernel)
theorem kf_X6_93 : Cond.fieldLink RX6 93 (TX3 2).1 (TX3 2).2.1 (TX3 2).2.2.1 ∈ fm_TBL := fm_tab 65 (by decide +kernel) (by decide +kernel)
theorem kf_X3_22 : Cond.fieldLink RX3 22 (TX3 3).1 (TX3 3).2.1 (TX3 3).2.2.1 ∈ fm_TBL := fm_tab 66 (by decide +kernel) (by decide +kernel)
theorem kf_X6_118 : Cond.fieldLink RX6 118 (TX3 3).1 (TX3 3).2.1 (TX3 3).2.2.1 ∈ fm_TBL := fm_tab 67 (by decide +kernel) (by decide +kernel)
theorem kf_X3_25 : Cond.fieldLink RX3 25 (TX3 4).1 (TX3 4).2.1 (TX3 4).2.2.1 ∈ fm_TBL := fm_tab 68 (by decide +kernel) (by decide +kernel)
theorem kf_X2_28 : Cond.fieldLink RX2 28 (TX3 4).1 (TX3 4).2.1 (TX3 4).2.2.1 ∈ fm_TBL := fm_tab 69 (by decide +kernel) (by decide +kernel)
theorem kf_X6_103 : Cond.fieldLink RX6 103 (TX3 4).1 (TX3 4).2.1 (TX3 4).2.2.1 ∈ fm_TBL := fm_tab 70 (by decide +kernel) (by decide +kernel)
theorem kf_X3_28 : Cond.fieldLink RX3 28 (TX3 5).1 (TX3 5).2.1 (TX3 5).2.2.1 ∈ fm_TBL := fm_tab 71 (by decide +kernel) (by decide +kernel)
theorem kf_X2_31 : Cond.fieldLink RX2 31 (TX3 5).1 (TX3 5).2.1 (TX3 5).2.2.1 ∈ fm_TBL := fm_tab 72 (by decide +kernel) (by decide +kernel)
theorem kf_X6_189 : Cond.fieldLink RX6 189 (TX3 5).1 (TX3 5).2.1 (TX3 5).2.2.1 ∈ fm_TBL := fm_tab 73 (by decide +kernel) (by decide +kernel)
theorem kf_X3_31 : Cond.fieldLink RX3 31 (TX3 6).1 (TX3 6).2.1 (TX3 6).2.2.1 ∈ fm_TBL := fm_tab 74 (by decide +kernel) (by decide +kernel)
theorem kf_X6_131 : Cond.fieldLink RX6 131 (TX3 6).1 (TX3 6).2.1 (TX3 6).2.2.1 ∈ fm_TBL := fm_tab 75 (by decide +kernel) (by decide +kernel)
theorem kf_X3_34 : Cond.fieldLink RX3 34 (TX3 7).1 (TX3 7).2.1 (TX3 7).2.2.1 ∈ fm_TBL := fm_tab 76 (by decide +kernel) (by decide +kernel)
theorem kf_X6_201 : Cond.fieldLink RX6 201 (TX3 7).1 (TX3 7).2.1 (TX3 7).2.2.1 ∈ fm_TBL := fm_tab 77 (by decide +kernel) (by decide +kernel)
theorem kf_X3_37 : Cond.fieldLink RX3 37 (TX3 8).1 (TX3 8).2.1 (TX3 8).2.2.1 ∈ fm_TBL := fm_tab 78 (by decide +kernel) (by decide +kernel)
theorem kf_X6_204 : Cond.fieldLink RX6 204 (TX3 8).1 (TX3 8).2.1 (TX3 8).2.2.1 ∈ fm_TBL := fm_tab 79 (by decide +kernel) (by decide +kernel)
theorem kf_X3_40 : Cond.fieldLink RX3 40 (TX3 9).1 (TX3 9).2.1 (TX3 9).2.2.1 ∈ fm_TBL := fm_tab 80 (by decide +kernel) (by decide +kernel)
theorem kf_X6_140 : Cond.fieldLink RX6 140 (TX3 9).1 (TX3 9).2.1 (TX3 9).2.2.1 ∈ fm_TBL := fm_tab 81 (by decide +kernel) (by decide +kernel)
theorem kf_X3_43 : Cond.fieldLink RX3 43 (TX3 10).1 (TX3 10).2.1 (TX3 10).2.2.1 ∈ fm_TBL := fm_tab 82 (by decide +kernel) (by decide +kernel)
theorem kf_X6_146 : Cond.fieldLink RX6 146 (TX3 10).1 (TX3 10).2.1 (TX3 10).2.2.1 ∈ fm_TBL := fm_tab 83 (by decide +kernel) (by decide +kernel)
theorem kf_X3_46 : Cond.fieldLink RX3 46 (TX3 11).1 (TX3 11).2.1 (TX3 11).2.2.1 ∈ fm_TBL := fm_tab 84 (by decide +kernel) (by decide +kernel)
theorem kf_X6_168 : Cond.fieldLink RX6 168 (TX3 11).1 (TX3 11).2.1 (TX3 11).2.2.1 ∈ fm_TBL := fm_tab 85 (by decide +kernel) (by decide +kernel)
theorem kf_X3_52 : Cond.fieldLink RX3 52 (TX3 12).1 (TX3 12).2.1 (TX3 12).2.2.1 ∈ fm_TBL := fm_tab 86 (by decide +kernel) (by decide +kernel)
theorem kf_X6_177 : Cond.fieldLink RX6 177 (TX3 12).1 (TX3 12).2.1 (TX3 12).2.2.1 ∈ fm_TBL := fm_tab 87 (by decide +kernel) (by decide +kernel)
theorem kk_X6_16 : Cond.classLink RX6 16 RX2 ∈ fm_TBL := fm_tab 115 (by decide +kernel) (by decide +kernel)
theorem kl_X2_3 : Cond.methodLink RX2 3 objectInit ∈ fm_TBL := fm_tab 120 (by decide +kernel) (by decide +kernel)
theorem kf_X2_9 : Cond.fieldLink RX2 9 (TX2 0).1 (TX2 0).2.1 (TX2 0).2.2.1 ∈ fm_TBL := fm_tab 121 (by decide +kernel) (by decide +kernel)
theorem kf_X6_186 : Cond.fieldLink RX6 186 (TX2 0).1 (TX2 0).2.1 (TX2 0).2.2.1 ∈ fm_TBL := fm_tab 122 (by decide +kernel) (by decide +kernel)
theorem kf_X2_15 : Cond.fieldLink RX2 15 (TX2 1).1 (TX2 1).2.1 (TX2 1).2.2.1 ∈ fm_TBL := fm_tab 123 (by decide +kernel) (by decide +kernel)
theorem kf_X6_230 : Cond.fieldLink RX6 230 (TX2 1).1 (TX2 1).2.1 (TX2 1).2.2.1 ∈ fm_TBL := fm_tab 124 (by decide +kernel) (by decide +kernel)
theorem kk_X6_23 : Cond.classLink RX6 23 RX0 ∈ fm_TBL := fm_tab 130 (by decide +kernel) (by decide +kernel)
theorem kl_X6_25 : Cond.methodLink RX6 25 yX0_init ∈ fm_TBL := fm_tab 132 (by decide +kernel) (by decide +kernel)
theorem kl_X0_3 : Cond.methodLink RX0 3 objectInit ∈ fm_TBL := fm_tab 135 (by decide +kernel) (by decide +kernel)
theorem kk_X0_9 : Cond.classLink RX0 9 RX3 ∈ fm_TBL := fm_tab 136 (by decide +kernel) (by decide +kernel)
theorem kf_X0_11 : Cond.fieldLink RX0 11 (TX0 0).1 (TX0 0).2.1 (TX0 0).2.2.1 ∈ fm_TBL := fm_tab 139 (by decide +kernel) (by decide +kernel)
theorem kf_X0_17 : Cond.fieldLink RX0 17 (TX0 1).1 (TX0 1).2.1 (TX0 1).2.2.1 ∈ fm_TBL := fm_tab 140 (by decide +kernel) (by decide +kernel)
theorem kf_X6_156 : Cond.fieldLink RX6 156 (TX0 1).1 (TX0 1).2.1 (TX0 1).2.2.1 ∈ fm_TBL := fm_tab 141 (by decide +kernel) (by decide +kernel)
theorem kf_X0_21 : Cond.fieldLink RX0 21 (TX0 2).1 (TX0 2).2.1 (TX0 2).2.2.1 ∈ fm_TBL := fm_tab 142 (by decide +kernel) (by decide +kernel)
theorem kk_X6_30 : Cond.classLink RX6 30 RX4 ∈ fm_TBL := fm_tab 150 (by decide +kernel) (by decide +kernel)
theorem kl_X4_3 : Cond.methodLink RX4 3 objectInit ∈ fm_TBL := fm_tab 155 (by decide +kernel) (by decide +kernel)
theorem kf_X4_9 : Cond.fieldLink RX4 9 (TX4 0).1 (TX4 0).2.1 (TX4 0).2.2.1 ∈ fm_TBL := fm_tab 156 (by decide +kernel) (by decide +kernel)
theorem kf_X4_15 : Cond.fieldLink RX4 15 (TX4 1).1 (TX4 1).2.1 (TX4 1).2.2.1 ∈ fm_TBL := fm_tab 157 (by decide +kernel) (by decide +kernel)
theorem kf_X6_74 : Cond.fieldLink RX6 74 (TX4 1).1 (TX4 1).2.1 (TX4 1).2.2.1 ∈ fm_TBL := fm_tab 158 (by decide +kernel) (by decide +kernel)
theorem kf_X4_19 : Cond.fieldLink RX4 19 (TX4 2).1 (TX4 2).2.1 (TX4 2).2.2.1 ∈ fm_TBL := fm_tab 159 (by decide +kernel) (by decide +kernel)
theorem kk_X6_37 : Cond.classLink RX6 37 RX5 ∈ fm_TBL := fm_tab 167 (by decide +kernel) (by decide +kernel)
theorem kl_X5_3 : Cond.methodLink RX5 3 objectInit ∈ fm_TBL := fm_tab 172 (by decide +kernel) (by decide +kernel)
theorem kf_X5_9 : Cond.fieldLink RX5 9 (TX5 0).1 (TX5 0).2.1 (TX5 0).2.2.1 ∈ fm_TBL := fm_tab 173 (by decide +kernel) (by decide +kernel)
theorem kf_X5_15 : Cond.fieldLink RX5 15 (TX5 1).1 (TX5 1).2.1 (TX5 1).2.2.1 ∈ fm_TBL := fm_tab 174 (by decide +kernel) (by decide +kernel)
theorem kf_X5_18 : Cond.fieldLink RX5 18 (TX5 2).1 (TX5 2).2.1 (TX5 2).2.2.1 ∈ fm_TBL := fm_tab 175 (by decide +kernel) (by decide +kernel)
theorem kf_X6_12 : Cond.fieldLink RX6 12 (TX6 0).1 (TX6 0).2.1 (TX6 0).2.2.1 ∈ fm_TBL := fm_tab 183 (by decide +kernel) (by decide +kernel)
theorem kf_X6_19 : Cond.fieldLink RX6 19 (TX6 1).1 (TX6 1).2.1 (TX6 1).2.2.1 ∈ fm_TBL := fm_tab 184 (by decide +kernel) (by decide +kernel)
theorem kf_X6_26 : Cond.fieldLink RX6 26 (TX6 2).1 (TX6 2).2.1 (TX6 2).2.2.1 ∈ fm_TBL := fm_tab 185 (by decide +kernel) (by decide +kernel)
theorem kf_X6_33 : Cond.fieldLink RX6 33 (TX6 3).1 (TX6 3).2.1 (TX6 3).2.2.1 ∈ fm_TBL := fm_tab 186 (by decide +kernel) (by decide +kernel)
theorem kf_X6_40 : Cond.fieldLink RX6 40 (TX6 4).1 (TX6 4).2.1 (TX6 4).2.2.1 ∈ fm_TBL := fm_tab 187 (by decide +kernel) (by decide +kernel)
theorem kl_X6_44 : Cond.methodLink RX6 44 yX6_isCell ∈ fm_TBL := fm_tab 203 (by decide +kernel) (by decide +kernel)
theorem kl_X6_48 : Cond.methodLink RX6 48 yX6_isWithin ∈ fm_TBL := fm_tab 206 (by decide +kernel) (by decide +kernel)
theorem kl_X6_52 : Cond.methodLink RX6 52 yX6_cellAt ∈ fm_TBL := fm_tab 209 (by decide +kernel) (by decide +kernel)
theorem kl_X6_60 : Cond.methodLink RX6 60 yX0_keep ∈ fm_TBL := fm_tab 212 (by decide +kernel) (by decide +kernel)
theorem kl_X0_25 : Cond.methodLink RX0 25 yX3_copyFrom ∈ fm_TBL := fm_tab 216 (by decide +kernel) (by decide +kernel)
theorem kl_X6_247 : Cond.methodLink RX6 247 yJ9_min_7cf53 ∈ fm_TBL := fm_tab 223 (by decide +kernel) (by decide +kernel)
theorem kl_X6_250 : Cond.methodLink RX6 250 arraycopyName ∈ fm_TBL := fm_tab 226 (by decide +kernel) (by decide +kernel)
theorem kl_X3_60 : Cond.methodLink RX3 60 yX1_copyFrom ∈ fm_TBL := fm_tab 229 (by decide +kernel) (by decide +kernel)
theorem kl_X0_29 : Cond.methodLink RX0 29 yJ9_min_7cf53 ∈ fm_TBL := fm_tab 234 (by decide +kernel) (by decide +kernel)
theorem kl_X6_64 : Cond.methodLink RX6 64 yX6_look ∈ fm_TBL := fm_tab 235 (by decide +kernel) (by decide +kernel)
theorem kl_X6_115 : Cond.methodLink RX6 115 yX2_refresh ∈ fm_TBL := fm_tab 239 (by decide +kernel) (by decide +kernel)
theorem kl_X2_18 : Cond.methodLink RX2 18 yX3_isLit ∈ fm_TBL := fm_tab 243 (by decide +kernel) (by decide +kernel)
theorem kl_X6_106 : Cond.methodLink RX6 106 yX6_columnOf ∈ fm_TBL := fm_tab 250 (by decide +kernel) (by decide +kernel)
theorem kl_X6_239 : Cond.methodLink RX6 239 yJ9_abs_0f7a4 ∈ fm_TBL := fm_tab 253 (by decide +kernel) (by decide +kernel)
theorem kl_X6_109 : Cond.methodLink RX6 109 yX6_rowOf ∈ fm_TBL := fm_tab 256 (by decide +kernel) (by decide +kernel)
theorem kl_X6_244 : Cond.methodLink RX6 244 yJ9_max_7cf53 ∈ fm_TBL := fm_tab 259 (by decide +kernel) (by decide +kernel)
theorem kl_X2_34 : Cond.methodLink RX2 34 yX2_canSee ∈ fm_TBL := fm_tab 262 (by decide +kernel) (by decide +kernel)
theorem kl_X2_46 : Cond.methodLink RX2 46 yX2_isViewFree ∈ fm_TBL := fm_tab 267 (by decide +kernel) (by decide +kernel)
theorem kl_X2_57 : Cond.methodLink RX2 57 yX2_innerCell ∈ fm_TBL := fm_tab 270 (by decide +kernel) (by decide +kernel)
theorem kl_X2_67 : Cond.methodLink RX2 67 yX2_part ∈ fm_TBL := fm_tab 274 (by decide +kernel) (by decide +kernel)
theorem kl_X2_76 : Cond.methodLink RX2 76 yJ9_floorDiv_7cf53 ∈ fm_TBL := fm_tab 277 (by decide +kernel) (by decide +kernel)
theorem kl_X6_124 : Cond.methodLink RX6 124 yX3_remember ∈ fm_TBL := fm_tab 285 (by decide +kernel) (by decide +kernel)
theorem kl_X3_90 : Cond.methodLink RX3 90 yX3_scoutsOf ∈ fm_TBL := fm_tab 289 (by decide +kernel) (by decide +kernel)
theorem kl_X3_93 : Cond.methodLink RX3 93 yX2_isSeen ∈ fm_TBL := fm_tab 294 (by decide +kernel) (by decide +kernel)
theorem kl_X3_99 : Cond.methodLink RX3 99 yX3_rememberCell ∈ fm_TBL := fm_tab 298 (by decide +kernel) (by decide +kernel)
theorem kl_X3_64 : Cond.methodLink RX3 64 yX3_scoutIn ∈ fm_TBL := fm_tab 302 (by decide +kernel) (by decide +kernel)
theorem kl_X6_67 : Cond.methodLink RX6 67 yX3_scoutIn ∈ fm_TBL := fm_tab 310 (by decide +kernel) (by decide +kernel)
theorem kl_X6_78 : Cond.methodLink RX6 78 yX4_put ∈ fm_TBL := fm_tab 315 (by decide +kernel) (by decide +kernel)
theorem kl_X6_82 : Cond.methodLink RX6 82 yX4_read ∈ fm_TBL := fm_tab 327 (by decide +kernel) (by decide +kernel)
theorem kl_X4_22 : Cond.methodLink RX4 22 yJ7_fill_53178 ∈ fm_TBL := fm_tab 331 (by decide +kernel) (by decide +kernel)
theorem kl_X4_28 : Cond.methodLink RX4 28 yX4_isAllowed ∈ fm_TBL := fm_tab 334 (by decide +kernel) (by decide +kernel)
theorem kl_X4_36 : Cond.methodLink RX4 36 yX3_scoutIn ∈ fm_TBL := fm_tab 338 (by decide +kernel) (by decide +kernel)
theorem kl_X6_86 : Cond.methodLink RX6 86 yX4_tellTo ∈ fm_TBL := fm_tab 340 (by decide +kernel) (by decide +kernel)
theorem kl_X6_89 : Cond.methodLink RX6 89 yX3_isFree ∈ fm_TBL := fm_tab 348 (by decide +kernel) (by decide +kernel)
theorem kl_X6_96 : Cond.methodLink RX6 96 yX3_putScout ∈ fm_TBL := fm_tab 352 (by decide +kernel) (by decide +kernel)
theorem kl_X6_100 : Cond.methodLink RX6 100 yX6_isScout ∈ fm_TBL := fm_tab 360 (by decide +kernel) (by decide +kernel)
theorem kl_X6_112 : Cond.methodLink RX6 112 yX6_canStep ∈ fm_TBL := fm_tab 364 (by decide +kernel) (by decide +kernel)
theorem kl_X6_121 : Cond.methodLink RX6 121 yX6_countUncovered ∈ fm_TBL := fm_tab 368 (by decide +kernel) (by decide +kernel)
theorem kl_X6_171 : Cond.methodLink RX6 171 yX3_scoutsOf ∈ fm_TBL := fm_tab 372 (by decide +kernel) (by decide +kernel)
theorem kl_X6_198 : Cond.methodLink RX6 198 yX2_isSeen ∈ fm_TBL := fm_tab 373 (by decide +kernel) (by decide +kernel)
theorem kl_X6_128 : Cond.methodLink RX6 128 yX3_dropScout ∈ fm_TBL := fm_tab 378 (by decide +kernel) (by decide +kernel)
theorem kl_X6_134 : Cond.methodLink RX6 134 yX3_putLight ∈ fm_TBL := fm_tab 389 (by decide +kernel) (by decide +kernel)
theorem kl_X6_137 : Cond.methodLink RX6 137 yX6_isLight ∈ fm_TBL := fm_tab 397 (by decide +kernel) (by decide +kernel)
theorem kl_X6_143 : Cond.methodLink RX6 143 yX3_dropLight ∈ fm_TBL := fm_tab 405 (by decide +kernel) (by decide +kernel)
theorem kl_X6_149 : Cond.methodLink RX6 149 yX3_changeFogTime ∈ fm_TBL := fm_tab 413 (by decide +kernel) (by decide +kernel)
theorem kl_X3_86 : Cond.methodLink RX3 86 yX1_limit ∈ fm_TBL := fm_tab 417 (by decide +kernel) (by decide +kernel)
theorem kl_X1_34 : Cond.methodLink RX1 34 yJ9_min_7cf53 ∈ fm_TBL := fm_tab 421 (by decide +kernel) (by decide +kernel)
theorem kl_X6_152 : Cond.methodLink RX6 152 yX6_passTurn ∈ fm_TBL := fm_tab 426 (by decide +kernel) (by decide +kernel)
theorem kl_X6_233 : Cond.methodLink RX6 233 yX3_burn ∈ fm_TBL := fm_tab 430 (by decide +kernel) (by decide +kernel)
theorem kl_X3_75 : Cond.methodLink RX3 75 yX3_countBurning ∈ fm_TBL := fm_tab 434 (by decide +kernel) (by decide +kernel)
theorem kl_X6_236 : Cond.methodLink RX6 236 yX3_fade ∈ fm_TBL := fm_tab 438 (by decide +kernel) (by decide +kernel)
theorem kl_X3_83 : Cond.methodLink RX3 83 yX1_fade ∈ fm_TBL := fm_tab 442 (by decide +kernel) (by decide +kernel)
theorem kl_X1_28 : Cond.methodLink RX1 28 yJ9_max_7cf53 ∈ fm_TBL := fm_tab 446 (by decide +kernel) (by decide +kernel)
theorem kl_X6_159 : Cond.methodLink RX6 159 yX0_restore ∈ fm_TBL := fm_tab 451 (by decide +kernel) (by decide +kernel)
theorem kl_X6_162 : Cond.methodLink RX6 162 yX3_countBurning ∈ fm_TBL := fm_tab 459 (by decide +kernel) (by decide +kernel)
theorem kl_X6_165 : Cond.methodLink RX6 165 yX2_countLit ∈ fm_TBL := fm_tab 460 (by decide +kernel) (by decide +kernel)
theorem kl_X6_174 : Cond.methodLink RX6 174 yX2_countSeen ∈ fm_TBL := fm_tab 464 (by decide +kernel) (by decide +kernel)
theorem kl_X2_50 : Cond.methodLink RX2 50 yX2_isSeen ∈ fm_TBL := fm_tab 468 (by decide +kernel) (by decide +kernel)
theorem kl_X6_181 : Cond.methodLink RX6 181 yX1_countNotFogged ∈ fm_TBL := fm_tab 469 (by decide +kernel) (by decide +kernel)
theorem kl_X6_192 : Cond.methodLink RX6 192 yX6_bitOf ∈ fm_TBL := fm_tab 481 (by decide +kernel) (by decide +kernel)
theorem kl_X6_195 : Cond.methodLink RX6 195 yX6_otherSide ∈ fm_TBL := fm_tab 482 (by decide +kernel) (by decide +kernel)
theorem kl_X6_215 : Cond.methodLink RX6 215 yX2_isViewFree ∈ fm_TBL := fm_tab 497 (by decide +kernel) (by decide +kernel)
theorem kl_X6_219 : Cond.methodLink RX6 219 yX5_shortest ∈ fm_TBL := fm_tab 502 (by decide +kernel) (by decide +kernel)
theorem kl_X5_22 : Cond.methodLink RX5 22 yJ7_fill_53178 ∈ fm_TBL := fm_tab 506 (by decide +kernel) (by decide +kernel)
theorem kl_X5_28 : Cond.methodLink RX5 28 yX5_reach ∈ fm_TBL := fm_tab 507 (by decide +kernel) (by decide +kernel)
theorem kl_X5_32 : Cond.methodLink RX5 32 yX5_reachNeighbors ∈ fm_TBL := fm_tab 511 (by decide +kernel) (by decide +kernel)
theorem kl_X5_51 : Cond.methodLink RX5 51 yX1_canStep ∈ fm_TBL := fm_tab 519 (by decide +kernel) (by decide +kernel)
theorem kl_X1_37 : Cond.methodLink RX1 37 yJ9_abs_0f7a4 ∈ fm_TBL := fm_tab 523 (by decide +kernel) (by decide +kernel)
theorem kl_X6_223 : Cond.methodLink RX6 223 yX6_distanceOf ∈ fm_TBL := fm_tab 528 (by decide +kernel) (by decide +kernel)
theorem kl_X6_226 : Cond.methodLink RX6 226 yX2_countSeenFrom ∈ fm_TBL := fm_tab 529 (by decide +kernel) (by decide +kernel)
theorem kl_X7_1 : Cond.methodLink RX7 1 objectInit ∈ fm_TBL := fm_tab 542 (by decide +kernel) (by decide +kernel)
theorem kf_X7_25 : Cond.fieldLink RX7 25 (TX7 0).1 (TX7 0).2.1 (TX7 0).2.2.1 ∈ fm_TBL := fm_tab 543 (by decide +kernel) (by decide +kernel)
theorem kf_X7_7 : Cond.fieldLink RX7 7 (TX7 1).1 (TX7 1).2.1 (TX7 1).2.2.1 ∈ fm_TBL := fm_tab 544 (by decide +kernel) (by decide +kernel)
theorem kf_X7_13 : Cond.fieldLink RX7 13 (TX7 2).1 (TX7 2).2.1 (TX7 2).2.2.1 ∈ fm_TBL := fm_tab 545 (by decide +kernel) (by decide +kernel)
theorem kf_X7_16 : Cond.fieldLink RX7 16 (TX7 3).1 (TX7 3).2.1 (TX7 3).2.2.1 ∈ fm_TBL := fm_tab 546 (by decide +kernel) (by decide +kernel)
theorem kf_X7_29 : Cond.fieldLink RX7 29 (TX7 4).1 (TX7 4).2.1 (TX7 4).2.2.1 ∈ fm_TBL := fm_tab 547 (by decide +kernel) (by decide +kernel)
theorem kf_X7_19 : Cond.fieldLink RX7 19 (TX7 5).1 (TX7 5).2.1 (TX7 5).2.2.1 ∈ fm_TBL := fm_tab 548 (by decide +kernel) (by decide +kernel)
theorem kf_X7_101 : Cond.fieldLink RX7 101 (TX7 6).1 (TX7 6).2.1 (TX7 6).2.2.1 ∈ fm_TBL := fm_tab 549 (by decide +kernel) (by decide +kernel)
theorem kf_X7_104 : Cond.fieldLink RX7 104 (TX7 7).1 (TX7 7).2.1 (TX7 7).2.2.1 ∈ fm_TBL := fm_tab 550 (by decide +kernel) (by decide +kernel)
theorem kf_X7_22 : Cond.fieldLink RX7 22 (TX7 8).1 (TX7 8).2.1 (TX7 8).2.2.1 ∈ fm_TBL := fm_tab 551 (by decide +kernel) (by decide +kernel)
theorem kl_X7_95 : Cond.methodLink RX7 95 yX7_isCell ∈ fm_TBL := fm_tab 575 (by decide +kernel) (by decide +kernel)
theorem kl_X7_32 : Cond.methodLink RX7 32 yX7_in ∈ fm_TBL := fm_tab 578 (by decide +kernel) (by decide +kernel)
theorem kl_X7_46 : Cond.methodLink RX7 46 yX7_at ∈ fm_TBL := fm_tab 581 (by decide +kernel) (by decide +kernel)
theorem kl_X7_98 : Cond.methodLink RX7 98 yX7_replace ∈ fm_TBL := fm_tab 584 (by decide +kernel) (by decide +kernel)
theorem kl_X7_89 : Cond.methodLink RX7 89 yX7_act ∈ fm_TBL := fm_tab 588 (by decide +kernel) (by decide +kernel)
theorem kl_X7_92 : Cond.methodLink RX7 92 yX7_look ∈ fm_TBL := fm_tab 592 (by decide +kernel) (by decide +kernel)
theorem kl_X7_80 : Cond.methodLink RX7 80 yX7_sideSees ∈ fm_TBL := fm_tab 596 (by decide +kernel) (by decide +kernel)
theorem kl_X7_43 : Cond.methodLink RX7 43 yX7_ofScout ∈ fm_TBL := fm_tab 600 (by decide +kernel) (by decide +kernel)
theorem kl_X7_77 : Cond.methodLink RX7 77 yX7_sees ∈ fm_TBL := fm_tab 604 (by decide +kernel) (by decide +kernel)
theorem kl_X7_49 : Cond.methodLink RX7 49 yX7_cellOf ∈ fm_TBL := fm_tab 608 (by decide +kernel) (by decide +kernel)
theorem kl_X7_74 : Cond.methodLink RX7 74 yX7_isSeenFrom ∈ fm_TBL := fm_tab 612 (by decide +kernel) (by decide +kernel)
theorem kl_X7_56 : Cond.methodLink RX7 56 yX7_distance ∈ fm_TBL := fm_tab 616 (by decide +kernel) (by decide +kernel)
theorem kl_X7_36 : Cond.methodLink RX7 36 yX7_apart ∈ fm_TBL := fm_tab 619 (by decide +kernel) (by decide +kernel)
theorem kl_X7_40 : Cond.methodLink RX7 40 yX7_more ∈ fm_TBL := fm_tab 622 (by decide +kernel) (by decide +kernel)
theorem kl_X7_66 : Cond.methodLink RX7 66 yX7_isLit ∈ fm_TBL := fm_tab 625 (by decide +kernel) (by decide +kernel)
theorem kl_X7_53 : Cond.methodLink RX7 53 yX7_ofLight ∈ fm_TBL := fm_tab 629 (by decide +kernel) (by decide +kernel)
theorem kl_X7_70 : Cond.methodLink RX7 70 yX7_isFree ∈ fm_TBL := fm_tab 633 (by decide +kernel) (by decide +kernel)
theorem kl_X7_62 : Cond.methodLink RX7 62 yX7_inner ∈ fm_TBL := fm_tab 637 (by decide +kernel) (by decide +kernel)
theorem kl_X7_59 : Cond.methodLink RX7 59 yX7_down ∈ fm_TBL := fm_tab 640 (by decide +kernel) (by decide +kernel)
theorem kl_X7_83 : Cond.methodLink RX7 83 yX7_scoutIn ∈ fm_TBL := fm_tab 643 (by decide +kernel) (by decide +kernel)
theorem kl_X7_107 : Cond.methodLink RX7 107 yX7_here ∈ fm_TBL := fm_tab 663 (by decide +kernel) (by decide +kernel)
theorem kl_X7_114 : Cond.methodLink RX7 114 yX7_readsRow ∈ fm_TBL := fm_tab 667 (by decide +kernel) (by decide +kernel)
theorem kl_X7_111 : Cond.methodLink RX7 111 yX7_readsCell ∈ fm_TBL := fm_tab 671 (by decide +kernel) (by decide +kernel)
theorem kl_X7_117 : Cond.methodLink RX7 117 yX7_exchange ∈ fm_TBL := fm_tab 675 (by decide +kernel) (by decide +kernel)
theorem kl_X7_120 : Cond.methodLink RX7 120 yX7_isScout ∈ fm_TBL := fm_tab 687 (by decide +kernel) (by decide +kernel)
theorem kl_X7_123 : Cond.methodLink RX7 123 yX7_remembered ∈ fm_TBL := fm_tab 691 (by decide +kernel) (by decide +kernel)
theorem kl_X7_86 : Cond.methodLink RX7 86 yX7_memory ∈ fm_TBL := fm_tab 695 (by decide +kernel) (by decide +kernel)
theorem kl_X7_126 : Cond.methodLink RX7 126 yX7_remove ∈ fm_TBL := fm_tab 703 (by decide +kernel) (by decide +kernel)
theorem kl_X7_130 : Cond.methodLink RX7 130 yX7_isLight ∈ fm_TBL := fm_tab 715 (by decide +kernel) (by decide +kernel)
theorem kl_X7_133 : Cond.methodLink RX7 133 yX7_turn ∈ fm_TBL := fm_tab 731 (by decide +kernel) (by decide +kernel)
theorem kl_X7_136 : Cond.methodLink RX7 136 yX7_burning ∈ fm_TBL := fm_tab 743 (by decide +kernel) (by decide +kernel)
theorem kl_X7_139 : Cond.methodLink RX7 139 yX7_lit ∈ fm_TBL := fm_tab 747 (by decide +kernel) (by decide +kernel)
theorem kl_X7_142 : Cond.methodLink RX7 142 yX7_seenBy ∈ fm_TBL := fm_tab 751 (by decide +kernel) (by decide +kernel)
theorem kl_X7_145 : Cond.methodLink RX7 145 yX7_seenFrom ∈ fm_TBL := fm_tab 763 (by decide +kernel) (by decide +kernel)
theorem kl_X7_151 : Cond.methodLink RX7 151 yX7_findSteps ∈ fm_TBL := fm_tab 783 (by decide +kernel) (by decide +kernel)
theorem kl_X7_148 : Cond.methodLink RX7 148 yX7_isKnownStep ∈ fm_TBL := fm_tab 787 (by decide +kernel) (by decide +kernel)
theorem kw_arr : Cond.arrayClass .int ∈ fm_TBL := fm_tab 54 (by decide +kernel) (by decide +kernel)
theorem kw_nat : Cond.native arraycopyName ∈ fm_TBL := fm_tab 228 (by decide +kernel) (by decide +kernel)
theorem kw_ast : Cond.static arraycopyName ∈ fm_TBL := fm_tab 227 (by decide +kernel) (by decide +kernel)
theorem kw_oi : Cond.instanceMethod objectInit ∈ fm_TBL := fm_tab 18 (by decide +kernel) (by decide +kernel)
theorem kw_oc : Cond.code objectInit ⟨#[0xb1]⟩ 1 none ∈ fm_TBL := fm_tab 19 (by decide +kernel) (by decide +kernel)
theorem ko_X1 : Cond.arrayOver (.object RX1) ∈ lw_tbl := List.mem_append_right _ (List.mem_of_getElem? (i := 27) (by decide +kernel))
theorem ko_X3 : Cond.arrayOver (.object RX3) ∈ lw_tbl := List.mem_append_right _ (List.mem_of_getElem? (i := 137) (by decide +kernel))
end
section
theorem dX0_init_0 : decode cX0_init 0 = .ok (.aload_n 0, 1) := by decide +kernel
theorem dX0_init_1 : decode cX0_init 1 = .ok (.invokespecial 3, 3) := by decide +kernel
theorem dX0_init_4 : decode cX0_init 4 = .ok (.aload_n 0, 1) := by decide +kernel
theorem dX0_init_5 : decode cX0_init 5 = .ok (.iconst 5, 1) := by decide +kernel
theorem dX0_init_6 : decode cX0_init 6 = .ok (.anewarray 9, 3) := by decide +kernel
theorem dX0_init_9 : decode cX0_init 9 = .ok (.putfield 11, 3) := by decide +kernel
theorem dX0_init_12 : decode cX0_init 12 = .ok (.aload_n 0, 1) := by decide +kernel
theorem dX0_init_13 : decode cX0_init 13 = .ok (.iconst 0, 1) := by decide +kernel
theorem dX0_init_14 : decode cX0_init 14 = .ok (.putfield 17, 3) := by decide +kernel
theorem dX0_init_17 : decode cX0_init 17 = .ok (.aload_n 0, 1) := by decide +kernel
theorem dX0_init_18 : decode cX0_init 18 = .ok (.iconst 0, 1) := by decide +kernel
theorem dX0_init_19 : decode cX0_init 19 = .ok (.putfield 21, 3) := by decide +kernel
theorem dX0_init_22 : decode cX0_init 22 = .ok (.iconst 0, 1) := by decide +kernel
theorem dX0_init_23 : decode cX0_init 23 = .ok (.istore_n 1, 1) := by decide +kernel
theorem dX0_init_24 : decode cX0_init 24 = .ok (.iload_n 1, 1) := by decide +kernel
theorem dX0_init_25 : decode cX0_init 25 = .ok (.iconst 5, 1) := by decide +kernel
theorem dX0_init_26 : decode cX0_init 26 = .ok (.if_icmp .ge 22, 3) := by decide +kernel
theorem dX0_init_29 : decode cX0_init 29 = .ok (.aload_n 0, 1) := by decide +kernel
theorem dX0_init_30 : decode cX0_init 30 = .ok (.getfield 11, 3) := by decide +kernel
theorem dX0_init_33 : decode cX0_init 33 = .ok (.iload_n 1, 1) := by decide +kernel
theorem dX0_init_34 : decode cX0_init 34 = .ok (.new 9, 3) := by decide +kernel
theorem dX0_init_37 : decode cX0_init 37 = .ok (.dup, 1) := by decide +kernel
theorem dX0_init_38 : decode cX0_init 38 = .ok (.invokespecial 24, 3) := by decide +kernel
theorem dX0_init_41 : decode cX0_init 41 = .ok (.aastore, 1) := by decide +kernel
theorem dX0_init_42 : decode cX0_init 42 = .ok (.iinc 1 1, 3) := by decide +kernel
theorem dX0_init_45 : decode cX0_init 45 = .ok (.goto (-21), 3) := by decide +kernel
theorem dX0_init_48 : decode cX0_init 48 = .ok (.return_, 1) := by decide +kernel
theorem dX0_keep_0 : decode cX0_keep 0 = .ok (.aload_n 0, 1) := by decide +kernel
theorem dX0_keep_1 : decode cX0_keep 1 = .ok (.getfield 11, 3) := by decide +kernel
theorem dX0_keep_4 : decode cX0_keep 4 = .ok (.aload_n 0, 1) := by decide +kernel
theorem dX0_keep_5 : decode cX0_keep 5 = .ok (.getfield 21, 3) := by decide +kernel
theorem dX0_keep_8 : decode cX0_keep 8 = .ok (.aaload, 1) := by decide +kernel
theorem dX0_keep_9 : decode cX0_keep 9 = .ok (.aload_n 1, 1) := by decide +kernel
theorem dX0_keep_10 : decode cX0_keep 10 = .ok (.invokevirtual 25, 3) := by decide +kernel
theorem dX0_keep_13 : decode cX0_keep 13 = .ok (.aload_n 0, 1) := by decide +kernel
theorem dX0_keep_14 : decode cX0_keep 14 = .ok (.aload_n 0, 1) := by decide +kernel
theorem dX0_keep_15 : decode cX0_keep 15 = .ok (.getfield 21, 3) := by decide +kernel
theorem dX0_keep_18 : decode cX0_keep 18 = .ok (.iconst 1, 1) := by decide +kernel
theorem dX0_keep_19 : decode cX0_keep 19 = .ok (.iadd, 1) := by decide +kernel
theorem dX0_keep_20 : decode cX0_keep 20 = .ok (.iconst 5, 1) := by decide +kernel
theorem dX0_keep_21 : decode cX0_keep 21 = .ok (.irem, 1) := by decide +kernel
theorem dX0_keep_22 : decode cX0_keep 22 = .ok (.putfield 21, 3) := by decide +kernel
theorem dX0_keep_25 : decode cX0_keep 25 = .ok (.aload_n 0, 1) := by decide +kernel
theorem dX0_keep_26 : decode cX0_keep 26 = .ok (.aload_n 0, 1) := by decide +kernel
theorem dX0_keep_27 : decode cX0_keep 27 = .ok (.getfield 17, 3) := by decide +kernel
theorem dX0_keep_30 : decode cX0_keep 30 = .ok (.iconst 1, 1) := by decide +kernel
theorem dX0_keep_31 : decode cX0_keep 31 = .ok (.iadd, 1) := by decide +kernel
theorem dX0_keep_32 : decode cX0_keep 32 = .ok (.iconst 5, 1) := by decide +kernel
theorem dX0_keep_33 : decode cX0_keep 33 = .ok (.invokestatic 29, 3) := by decide +kernel
theorem dX0_keep_36 : decode cX0_keep 36 = .ok (.putfield 17, 3) := by decide +kernel
theorem dX0_keep_39 : decode cX0_keep 39 = .ok (.return_, 1) := by decide +kernel
theorem dX0_restore_0 : decode cX0_restore 0 = .ok (.aload_n 0, 1) := by decide +kernel
theorem dX0_restore_1 : decode cX0_restore 1 = .ok (.aload_n 0, 1) := by decide +kernel
theorem dX0_restore_2 : decode cX0_restore 2 = .ok (.getfield 21, 3) := by decide +kernel
theorem dX0_restore_5 : decode cX0_restore 5 = .ok (.iconst 5, 1) := by decide +kernel
theorem dX0_restore_6 : decode cX0_restore 6 = .ok (.iadd, 1) := by decide +kernel
theorem dX0_restore_7 : decode cX0_restore 7 = .ok (.iconst 1, 1) := by decide +kernel
theorem dX0_restore_8 : decode cX0_restore 8 = .ok (.isub, 1) := by decide +kernel
theorem dX0_restore_9 : decode cX0_restore 9 = .ok (.iconst 5, 1) := by decide +kernel
theorem dX0_restore_10 : decode cX0_restore 10 = .ok (.irem, 1) := by decide +kernel
theorem dX0_restore_11 : decode cX0_restore 11 = .ok (.putfield 21, 3) := by decide +kernel
theorem dX0_restore_14 : decode cX0_restore 14 = .ok (.aload_n 0, 1) := by decide +kernel
theorem dX0_restore_15 : decode cX0_restore 15 = .ok (.dup, 1) := by decide +kernel
theorem dX0_restore_16 : decode cX0_restore 16 = .ok (.getfield 17, 3) := by decide +kernel
theorem dX0_restore_19 : decode cX0_restore 19 = .ok (.iconst 1, 1) := by decide +kernel
theorem dX0_restore_20 : decode cX0_restore 20 = .ok (.isub, 1) := by decide +kernel
theorem dX0_restore_21 : decode cX0_restore 21 = .ok (.putfield 17, 3) := by decide +kernel
theorem dX0_restore_24 : decode cX0_restore 24 = .ok (.aload_n 1, 1) := by decide +kernel
theorem dX0_restore_25 : decode cX0_restore 25 = .ok (.aload_n 0, 1) := by decide +kernel
theorem dX0_restore_26 : decode cX0_restore 26 = .ok (.getfield 11, 3) := by decide +kernel
theorem dX0_restore_29 : decode cX0_restore 29 = .ok (.aload_n 0, 1) := by decide +kernel
theorem dX0_restore_30 : decode cX0_restore 30 = .ok (.getfield 21, 3) := by decide +kernel
theorem dX0_restore_33 : decode cX0_restore 33 = .ok (.aaload, 1) := by decide +kernel
theorem dX0_restore_34 : decode cX0_restore 34 = .ok (.invokevirtual 25, 3) := by decide +kernel
theorem dX0_restore_37 : decode cX0_restore 37 = .ok (.return_, 1) := by decide +kernel
theorem dX1_init_0 : decode cX1_init 0 = .ok (.aload_n 0, 1) := by decide +kernel
theorem dX1_init_1 : decode cX1_init 1 = .ok (.invokespecial 3, 3) := by decide +kernel
theorem dX1_init_4 : decode cX1_init 4 = .ok (.aload_n 0, 1) := by decide +kernel
theorem dX1_init_5 : decode cX1_init 5 = .ok (.bipush 120, 2) := by decide +kernel
theorem dX1_init_7 : decode cX1_init 7 = .ok (.newarray .int, 2) := by decide +kernel
theorem dX1_init_9 : decode cX1_init 9 = .ok (.putfield 9, 3) := by decide +kernel
theorem dX1_init_12 : decode cX1_init 12 = .ok (.aload_n 0, 1) := by decide +kernel
theorem dX1_init_13 : decode cX1_init 13 = .ok (.bipush 120, 2) := by decide +kernel
theorem dX1_init_15 : decode cX1_init 15 = .ok (.newarray .int, 2) := by decide +kernel
theorem dX1_init_17 : decode cX1_init 17 = .ok (.putfield 15, 3) := by decide +kernel
theorem dX1_init_20 : decode cX1_init 20 = .ok (.aload_n 0, 1) := by decide +kernel
theorem dX1_init_21 : decode cX1_init 21 = .ok (.bipush 120, 2) := by decide +kernel
theorem dX1_init_23 : decode cX1_init 23 = .ok (.newarray .int, 2) := by decide +kernel
theorem dX1_init_25 : decode cX1_init 25 = .ok (.putfield 18, 3) := by decide +kernel
theorem dX1_init_28 : decode cX1_init 28 = .ok (.aload_n 0, 1) := by decide +kernel
theorem dX1_init_29 : decode cX1_init 29 = .ok (.bipush 120, 2) := by decide +kernel
theorem dX1_init_31 : decode cX1_init 31 = .ok (.newarray .int, 2) := by decide +kernel
theorem dX1_init_33 : decode cX1_init 33 = .ok (.putfield 21, 3) := by decide +kernel
theorem dX1_init_36 : decode cX1_init 36 = .ok (.return_, 1) := by decide +kernel
theorem dX1_copyFrom_0 : decode cX1_copyFrom 0 = .ok (.aload_n 1, 1) := by decide +kernel
theorem dX1_copyFrom_1 : decode cX1_copyFrom 1 = .ok (.getfield 9, 3) := by decide +kernel
theorem dX1_copyFrom_4 : decode cX1_copyFrom 4 = .ok (.aload_n 0, 1) := by decide +kernel
theorem dX1_copyFrom_5 : decode cX1_copyFrom 5 = .ok (.getfield 9, 3) := by decide +kernel
theorem dX1_copyFrom_8 : decode cX1_copyFrom 8 = .ok (.invokestatic 24, 3) := by decide +kernel
theorem dX1_copyFrom_11 : decode cX1_copyFrom 11 = .ok (.aload_n 1, 1) := by decide +kernel
theorem dX1_copyFrom_12 : decode cX1_copyFrom 12 = .ok (.getfield 15, 3) := by decide +kernel
theorem dX1_copyFrom_15 : decode cX1_copyFrom 15 = .ok (.aload_n 0, 1) := by decide +kernel
theorem dX1_copyFrom_16 : decode cX1_copyFrom 16 = .ok (.getfield 15, 3) := by decide +kernel
theorem dX1_copyFrom_19 : decode cX1_copyFrom 19 = .ok (.invokestatic 24, 3) := by decide +kernel
theorem dX1_copyFrom_22 : decode cX1_copyFrom 22 = .ok (.aload_n 1, 1) := by decide +kernel
theorem dX1_copyFrom_23 : decode cX1_copyFrom 23 = .ok (.getfield 18, 3) := by decide +kernel
theorem dX1_copyFrom_26 : decode cX1_copyFrom 26 = .ok (.aload_n 0, 1) := by decide +kernel
theorem dX1_copyFrom_27 : decode cX1_copyFrom 27 = .ok (.getfield 18, 3) := by decide +kernel
theorem dX1_copyFrom_30 : decode cX1_copyFrom 30 = .ok (.invokestatic 24, 3) := by decide +kernel
theorem dX1_copyFrom_33 : decode cX1_copyFrom 33 = .ok (.aload_n 1, 1) := by decide +kernel
theorem dX1_copyFrom_34 : decode cX1_copyFrom 34 = .ok (.getfield 21, 3) := by decide +kernel
theorem dX1_copyFrom_37 : decode cX1_copyFrom 37 = .ok (.aload_n 0, 1) := by decide +kernel
theorem dX1_copyFrom_38 : decode cX1_copyFrom 38 = .ok (.getfield 21, 3) := by decide +kernel
theorem dX1_copyFrom_41 : decode cX1_copyFrom 41 = .ok (.invokestatic 24, 3) := by decide +kernel
theorem dX1_copyFrom_44 : decode cX1_copyFrom 44 = .ok (.return_, 1) := by decide +kernel
theorem dX1_fade_0 : decode cX1_fade 0 = .ok (.iconst 0, 1) := by decide +kernel
theorem dX1_fade_1 : decode cX1_fade 1 = .ok (.istore_n 1, 1) := by decide +kernel
theorem dX1_fade_2 : decode cX1_fade 2 = .ok (.iload_n 1, 1) := by decide +kernel
theorem dX1_fade_3 : decode cX1_fade 3 = .ok (.bipush 120, 2) := by decide +kernel
theorem dX1_fade_5 : decode cX1_fade 5 = .ok (.if_icmp .ge 27, 3) := by decide +kernel
theorem dX1_fade_8 : decode cX1_fade 8 = .ok (.aload_n 0, 1) := by decide +kernel
theorem dX1_fade_9 : decode cX1_fade 9 = .ok (.getfield 9, 3) := by decide +kernel
theorem dX1_fade_12 : decode cX1_fade 12 = .ok (.iload_n 1, 1) := by decide +kernel
theorem dX1_fade_13 : decode cX1_fade 13 = .ok (.iconst 0, 1) := by decide +kernel
theorem dX1_fade_14 : decode cX1_fade 14 = .ok (.aload_n 0, 1) := by decide +kernel
theorem dX1_fade_15 : decode cX1_fade 15 = .ok (.getfield 9, 3) := by decide +kernel
theorem dX1_fade_18 : decode cX1_fade 18 = .ok (.iload_n 1, 1) := by decide +kernel
theorem dX1_fade_19 : decode cX1_fade 19 = .ok (.iaload, 1) := by decide +kernel
theorem dX1_fade_20 : decode cX1_fade 20 = .ok (.iconst 1, 1) := by decide +kernel
theorem dX1_fade_21 : decode cX1_fade 21 = .ok (.isub, 1) := by decide +kernel
theorem dX1_fade_22 : decode cX1_fade 22 = .ok (.invokestatic 28, 3) := by decide +kernel
theorem dX1_fade_25 : decode cX1_fade 25 = .ok (.iastore, 1) := by decide +kernel
theorem dX1_fade_26 : decode cX1_fade 26 = .ok (.iinc 1 1, 3) := by decide +kernel
theorem dX1_fade_29 : decode cX1_fade 29 = .ok (.goto (-27), 3) := by decide +kernel
theorem dX1_fade_32 : decode cX1_fade 32 = .ok (.return_, 1) := by decide +kernel
theorem dX1_limit_0 : decode cX1_limit 0 = .ok (.iconst 0, 1) := by decide +kernel
theorem dX1_limit_1 : decode cX1_limit 1 = .ok (.istore_n 2, 1) := by decide +kernel
theorem dX1_limit_2 : decode cX1_limit 2 = .ok (.iload_n 2, 1) := by decide +kernel
theorem dX1_limit_3 : decode cX1_limit 3 = .ok (.bipush 120, 2) := by decide +kernel
theorem dX1_limit_5 : decode cX1_limit 5 = .ok (.if_icmp .ge 25, 3) := by decide +kernel
theorem dX1_limit_8 : decode cX1_limit 8 = .ok (.aload_n 0, 1) := by decide +kernel
theorem dX1_limit_9 : decode cX1_limit 9 = .ok (.getfield 9, 3) := by decide +kernel
theorem dX1_limit_12 : decode cX1_limit 12 = .ok (.iload_n 2, 1) := by decide +kernel
theorem dX1_limit_13 : decode cX1_limit 13 = .ok (.aload_n 0, 1) := by decide +kernel
theorem dX1_limit_14 : decode cX1_limit 14 = .ok (.getfield 9, 3) := by decide +kernel
theorem dX1_limit_17 : decode cX1_limit 17 = .ok (.iload_n 2, 1) := by decide +kernel
theorem dX1_limit_18 : decode cX1_limit 18 = .ok (.iaload, 1) := by decide +kernel
theorem dX1_limit_19 : decode cX1_limit 19 = .ok (.iload_n 1, 1) := by decide +kernel
theorem dX1_limit_20 : decode cX1_limit 20 = .ok (.invokestatic 34, 3) := by decide +kernel
theorem dX1_limit_23 : decode cX1_limit 23 = .ok (.iastore, 1) := by decide +kernel
theorem dX1_limit_24 : decode cX1_limit 24 = .ok (.iinc 2 1, 3) := by decide +kernel
theorem dX1_limit_27 : decode cX1_limit 27 = .ok (.goto (-25), 3) := by decide +kernel
theorem dX1_limit_30 : decode cX1_limit 30 = .ok (.return_, 1) := by decide +kernel
theorem dX1_countNotFogged_0 : decode cX1_countNotFogged 0 = .ok (.iconst 0, 1) := by decide +kernel
theorem dX1_countNotFogged_1 : decode cX1_countNotFogged 1 = .ok (.istore_n 1, 1) := by decide +kernel
theorem dX1_countNotFogged_2 : decode cX1_countNotFogged 2 = .ok (.iconst 0, 1) := by decide +kernel
theorem dX1_countNotFogged_3 : decode cX1_countNotFogged 3 = .ok (.istore_n 2, 1) := by decide +kernel
theorem dX1_countNotFogged_4 : decode cX1_countNotFogged 4 = .ok (.iload_n 2, 1) := by decide +kernel
theorem dX1_countNotFogged_5 : decode cX1_countNotFogged 5 = .ok (.bipush 120, 2) := by decide +kernel
theorem dX1_countNotFogged_7 : decode cX1_countNotFogged 7 = .ok (.if_icmp .ge 21, 3) := by decide +kernel
theorem dX1_countNotFogged_10 : decode cX1_countNotFogged 10 = .ok (.aload_n 0, 1) := by decide +kernel
theorem dX1_countNotFogged_11 : decode cX1_countNotFogged 11 = .ok (.getfield 9, 3) := by decide +kernel
theorem dX1_countNotFogged_14 : decode cX1_countNotFogged 14 = .ok (.iload_n 2, 1) := by decide +kernel
theorem dX1_countNotFogged_15 : decode cX1_countNotFogged 15 = .ok (.iaload, 1) := by decide +kernel
theorem dX1_countNotFogged_16 : decode cX1_countNotFogged 16 = .ok (.ifCond .le 6, 3) := by decide +kernel
theorem dX1_countNotFogged_19 : decode cX1_countNotFogged 19 = .ok (.iinc 1 1, 3) := by decide +kernel
theorem dX1_countNotFogged_22 : decode cX1_countNotFogged 22 = .ok (.iinc 2 1, 3) := by decide +kernel
theorem dX1_countNotFogged_25 : decode cX1_countNotFogged 25 = .ok (.goto (-21), 3) := by decide +kernel
theorem dX1_countNotFogged_28 : decode cX1_countNotFogged 28 = .ok (.iload_n 1, 1) := by decide +kernel
theorem dX1_countNotFogged_29 : decode cX1_countNotFogged 29 = .ok (.ireturn, 1) := by decide +kernel
theorem dX1_canStep_0 : decode cX1_canStep 0 = .ok (.aload_n 0, 1) := by decide +kernel
theorem dX1_canStep_1 : decode cX1_canStep 1 = .ok (.getfield 9, 3) := by decide +kernel
theorem dX1_canStep_4 : decode cX1_canStep 4 = .ok (.iload_n 2, 1) := by decide +kernel
theorem dX1_canStep_5 : decode cX1_canStep 5 = .ok (.iaload, 1) := by decide +kernel
theorem dX1_canStep_6 : decode cX1_canStep 6 = .ok (.ifCond .le 45, 3) := by decide +kernel
theorem dX1_canStep_9 : decode cX1_canStep 9 = .ok (.aload_n 0, 1) := by decide +kernel
theorem dX1_canStep_10 : decode cX1_canStep 10 = .ok (.getfield 18, 3) := by decide +kernel
theorem dX1_canStep_13 : decode cX1_canStep 13 = .ok (.iload_n 2, 1) := by decide +kernel
theorem dX1_canStep_14 : decode cX1_canStep 14 = .ok (.iaload, 1) := by decide +kernel
theorem dX1_canStep_15 : decode cX1_canStep 15 = .ok (.ifCond .ne 36, 3) := by decide +kernel
theorem dX1_canStep_18 : decode cX1_canStep 18 = .ok (.aload_n 0, 1) := by decide +kernel
theorem dX1_canStep_19 : decode cX1_canStep 19 = .ok (.getfield 21, 3) := by decide +kernel
theorem dX1_canStep_22 : decode cX1_canStep 22 = .ok (.iload_n 2, 1) := by decide +kernel
theorem dX1_canStep_23 : decode cX1_canStep 23 = .ok (.iaload, 1) := by decide +kernel
theorem dX1_canStep_24 : decode cX1_canStep 24 = .ok (.ifCond .ne 27, 3) := by decide +kernel
theorem dX1_canStep_27 : decode cX1_canStep 27 = .ok (.aload_n 0, 1) := by decide +kernel
theorem dX1_canStep_28 : decode cX1_canStep 28 = .ok (.getfield 15, 3) := by decide +kernel
theorem dX1_canStep_31 : decode cX1_canStep 31 = .ok (.iload_n 1, 1) := by decide +kernel
theorem dX1_canStep_32 : decode cX1_canStep 32 = .ok (.iaload, 1) := by decide +kernel
theorem dX1_canStep_33 : decode cX1_canStep 33 = .ok (.aload_n 0, 1) := by decide +kernel
theorem dX1_canStep_34 : decode cX1_canStep 34 = .ok (.getfield 15, 3) := by decide +kernel
theorem dX1_canStep_37 : decode cX1_canStep 37 = .ok (.iload_n 2, 1) := by decide +kernel
theorem dX1_canStep_38 : decode cX1_canStep 38 = .ok (.iaload, 1) := by decide +kernel
theorem dX1_canStep_39 : decode cX1_canStep 39 = .ok (.isub, 1) := by decide +kernel
theorem dX1_canStep_40 : decode cX1_canStep 40 = .ok (.invokestatic 37, 3) := by decide +kernel
theorem dX1_canStep_43 : decode cX1_canStep 43 = .ok (.iconst 2, 1) := by decide +kernel
theorem dX1_canStep_44 : decode cX1_canStep 44 = .ok (.if_icmp .gt 7, 3) := by decide +kernel
theorem dX1_canStep_47 : decode cX1_canStep 47 = .ok (.iconst 1, 1) := by decide +kernel
theorem dX1_canStep_48 : decode cX1_canStep 48 = .ok (.goto 4, 3) := by decide +kernel
theorem dX1_canStep_51 : decode cX1_canStep 51 = .ok (.iconst 0, 1) := by decide +kernel
theorem dX1_canStep_52 : decode cX1_canStep 52 = .ok (.ireturn, 1) := by decide +kernel
theorem dX2_init_0 : decode cX2_init 0 = .ok (.aload_n 0, 1) := by decide +kernel
theorem dX2_init_1 : decode cX2_init 1 = .ok (.invokespecial 3, 3) := by decide +kernel
theorem dX2_init_4 : decode cX2_init 4 = .ok (.aload_n 0, 1) := by decide +kernel
theorem dX2_init_5 : decode cX2_init 5 = .ok (.bipush 120, 2) := by decide +kernel
theorem dX2_init_7 : decode cX2_init 7 = .ok (.newarray .int, 2) := by decide +kernel
theorem dX2_init_9 : decode cX2_init 9 = .ok (.putfield 9, 3) := by decide +kernel
theorem dX2_init_12 : decode cX2_init 12 = .ok (.aload_n 0, 1) := by decide +kernel
theorem dX2_init_13 : decode cX2_init 13 = .ok (.bipush 120, 2) := by decide +kernel
theorem dX2_init_15 : decode cX2_init 15 = .ok (.newarray .int, 2) := by decide +kernel
theorem dX2_init_17 : decode cX2_init 17 = .ok (.putfield 15, 3) := by decide +kernel
theorem dX2_init_20 : decode cX2_init 20 = .ok (.return_, 1) := by decide +kernel
theorem dX2_refresh_0 : decode cX2_refresh 0 = .ok (.iconst 0, 1) := by decide +kernel
theorem dX2_refresh_1 : decode cX2_refresh 1 = .ok (.istore_n 2, 1) := by decide +kernel
theorem dX2_refresh_2 : decode cX2_refresh 2 = .ok (.iload_n 2, 1) := by decide +kernel
theorem dX2_refresh_3 : decode cX2_refresh 3 = .ok (.bipush 120, 2) := by decide +kernel
theorem dX2_refresh_5 : decode cX2_refresh 5 = .ok (.if_icmp .ge 85, 3) := by decide +kernel
theorem dX2_refresh_8 : decode cX2_refresh 8 = .ok (.aload_n 0, 1) := by decide +kernel
theorem dX2_refresh_9 : decode cX2_refresh 9 = .ok (.getfield 9, 3) := by decide +kernel
theorem dX2_refresh_12 : decode cX2_refresh 12 = .ok (.iload_n 2, 1) := by decide +kernel
theorem dX2_refresh_13 : decode cX2_refresh 13 = .ok (.aload_n 1, 1) := by decide +kernel
theorem dX2_refresh_14 : decode cX2_refresh 14 = .ok (.iload_n 2, 1) := by decide +kernel
theorem dX2_refresh_15 : decode cX2_refresh 15 = .ok (.invokevirtual 18, 3) := by decide +kernel
theorem dX2_refresh_18 : decode cX2_refresh 18 = .ok (.ifCond .eq 7, 3) := by decide +kernel
theorem dX2_refresh_21 : decode cX2_refresh 21 = .ok (.iconst 1, 1) := by decide +kernel
theorem dX2_refresh_22 : decode cX2_refresh 22 = .ok (.goto 4, 3) := by decide +kernel
theorem dX2_refresh_25 : decode cX2_refresh 25 = .ok (.iconst 0, 1) := by decide +kernel
theorem dX2_refresh_26 : decode cX2_refresh 26 = .ok (.iastore, 1) := by decide +kernel
theorem dX2_refresh_27 : decode cX2_refresh 27 = .ok (.aload_n 0, 1) := by decide +kernel
theorem dX2_refresh_28 : decode cX2_refresh 28 = .ok (.getfield 15, 3) := by decide +kernel
theorem dX2_refresh_31 : decode cX2_refresh 31 = .ok (.iload_n 2, 1) := by decide +kernel
theorem dX2_refresh_32 : decode cX2_refresh 32 = .ok (.iconst 0, 1) := by decide +kernel
theorem dX2_refresh_33 : decode cX2_refresh 33 = .ok (.iastore, 1) := by decide +kernel
theorem dX2_refresh_34 : decode cX2_refresh 34 = .ok (.iconst 0, 1) := by decide +kernel
theorem dX2_refresh_35 : decode cX2_refresh 35 = .ok (.istore_n 3, 1) := by decide +kernel
theorem dX2_refresh_36 : decode cX2_refresh 36 = .ok (.iload_n 3, 1) := by decide +kernel
theorem dX2_refresh_37 : decode cX2_refresh 37 = .ok (.aload_n 1, 1) := by decide +kernel
theorem dX2_refresh_38 : decode cX2_refresh 38 = .ok (.getfield 24, 3) := by decide +kernel
theorem dX2_refresh_41 : decode cX2_refresh 41 = .ok (.if_icmp .ge 43, 3) := by decide +kernel
theorem dX2_refresh_44 : decode cX2_refresh 44 = .ok (.aload_n 0, 1) := by decide +kernel
theorem dX2_refresh_45 : decode cX2_refresh 45 = .ok (.aload_n 1, 1) := by decide +kernel
theorem dX2_refresh_46 : decode cX2_refresh 46 = .ok (.aload_n 1, 1) := by decide +kernel
theorem dX2_refresh_47 : decode cX2_refresh 47 = .ok (.getfield 28, 3) := by decide +kernel
theorem dX2_refresh_50 : decode cX2_refresh 50 = .ok (.iload_n 3, 1) := by decide +kernel
theorem dX2_refresh_51 : decode cX2_refresh 51 = .ok (.iaload, 1) := by decide +kernel
theorem dX2_refresh_52 : decode cX2_refresh 52 = .ok (.aload_n 1, 1) := by decide +kernel
theorem dX2_refresh_53 : decode cX2_refresh 53 = .ok (.getfield 31, 3) := by decide +kernel
theorem dX2_refresh_56 : decode cX2_refresh 56 = .ok (.iload_n 3, 1) := by decide +kernel
theorem dX2_refresh_57 : decode cX2_refresh 57 = .ok (.iaload, 1) := by decide +kernel
theorem dX2_refresh_58 : decode cX2_refresh 58 = .ok (.iload_n 2, 1) := by decide +kernel
theorem dX2_refresh_59 : decode cX2_refresh 59 = .ok (.invokevirtual 34, 3) := by decide +kernel
theorem dX2_refresh_62 : decode cX2_refresh 62 = .ok (.ifCond .eq 16, 3) := by decide +kernel
theorem dX2_refresh_65 : decode cX2_refresh 65 = .ok (.aload_n 0, 1) := by decide +kernel
theorem dX2_refresh_66 : decode cX2_refresh 66 = .ok (.getfield 15, 3) := by decide +kernel
theorem dX2_refresh_69 : decode cX2_refresh 69 = .ok (.iload_n 2, 1) := by decide +kernel
theorem dX2_refresh_70 : decode cX2_refresh 70 = .ok (.dup2, 1) := by decide +kernel
theorem dX2_refresh_71 : decode cX2_refresh 71 = .ok (.iaload, 1) := by decide +kernel
theorem dX2_refresh_72 : decode cX2_refresh 72 = .ok (.iload_n 3, 1) := by decide +kernel
theorem dX2_refresh_73 : decode cX2_refresh 73 = .ok (.invokestatic 38, 3) := by decide +kernel
theorem dX2_refresh_76 : decode cX2_refresh 76 = .ok (.ior, 1) := by decide +kernel
theorem dX2_refresh_77 : decode cX2_refresh 77 = .ok (.iastore, 1) := by decide +kernel
theorem dX2_refresh_78 : decode cX2_refresh 78 = .ok (.iinc 3 1, 3) := by decide +kernel
theorem dX2_refresh_81 : decode cX2_refresh 81 = .ok (.goto (-45), 3) := by decide +kernel
theorem dX2_refresh_84 : decode cX2_refresh 84 = .ok (.iinc 2 1, 3) := by decide +kernel
theorem dX2_refresh_87 : decode cX2_refresh 87 = .ok (.goto (-85), 3) := by decide +kernel
theorem dX2_refresh_90 : decode cX2_refresh 90 = .ok (.return_, 1) := by decide +kernel
theorem dX2_canSee_0 : decode cX2_canSee 0 = .ok (.aload_n 0, 1) := by decide +kernel
theorem dX2_canSee_1 : decode cX2_canSee 1 = .ok (.getfield 9, 3) := by decide +kernel
theorem dX2_canSee_4 : decode cX2_canSee 4 = .ok (.iload 4, 2) := by decide +kernel
theorem dX2_canSee_6 : decode cX2_canSee 6 = .ok (.iaload, 1) := by decide +kernel
theorem dX2_canSee_7 : decode cX2_canSee 7 = .ok (.iconst 1, 1) := by decide +kernel
theorem dX2_canSee_8 : decode cX2_canSee 8 = .ok (.if_icmp .ne 9, 3) := by decide +kernel
theorem dX2_canSee_11 : decode cX2_canSee 11 = .ok (.iconst 2, 1) := by decide +kernel
theorem dX2_canSee_12 : decode cX2_canSee 12 = .ok (.iload_n 3, 1) := by decide +kernel
theorem dX2_canSee_13 : decode cX2_canSee 13 = .ok (.imul, 1) := by decide +kernel
theorem dX2_canSee_14 : decode cX2_canSee 14 = .ok (.goto 4, 3) := by decide +kernel
theorem dX2_canSee_17 : decode cX2_canSee 17 = .ok (.iload_n 3, 1) := by decide +kernel
theorem dX2_canSee_18 : decode cX2_canSee 18 = .ok (.istore 5, 2) := by decide +kernel
theorem dX2_canSee_20 : decode cX2_canSee 20 = .ok (.iload_n 2, 1) := by decide +kernel
theorem dX2_canSee_21 : decode cX2_canSee 21 = .ok (.iload 4, 2) := by decide +kernel
theorem dX2_canSee_23 : decode cX2_canSee 23 = .ok (.invokestatic 42, 3) := by decide +kernel
theorem dX2_canSee_26 : decode cX2_canSee 26 = .ok (.iload 5, 2) := by decide +kernel
theorem dX2_canSee_28 : decode cX2_canSee 28 = .ok (.if_icmp .gt 17, 3) := by decide +kernel
theorem dX2_canSee_31 : decode cX2_canSee 31 = .ok (.aload_n 1, 1) := by decide +kernel
theorem dX2_canSee_32 : decode cX2_canSee 32 = .ok (.iload_n 2, 1) := by decide +kernel
theorem dX2_canSee_33 : decode cX2_canSee 33 = .ok (.iload 4, 2) := by decide +kernel
theorem dX2_canSee_35 : decode cX2_canSee 35 = .ok (.invokestatic 46, 3) := by decide +kernel
theorem dX2_canSee_38 : decode cX2_canSee 38 = .ok (.ifCond .eq 7, 3) := by decide +kernel
theorem dX2_canSee_41 : decode cX2_canSee 41 = .ok (.iconst 1, 1) := by decide +kernel
theorem dX2_canSee_42 : decode cX2_canSee 42 = .ok (.goto 4, 3) := by decide +kernel
theorem dX2_canSee_45 : decode cX2_canSee 45 = .ok (.iconst 0, 1) := by decide +kernel
theorem dX2_canSee_46 : decode cX2_canSee 46 = .ok (.ireturn, 1) := by decide +kernel
theorem dX2_countSeenFrom_0 : decode cX2_countSeenFrom 0 = .ok (.iconst 0, 1) := by decide +kernel
theorem dX2_countSeenFrom_1 : decode cX2_countSeenFrom 1 = .ok (.istore 4, 2) := by decide +kernel
theorem dX2_countSeenFrom_3 : decode cX2_countSeenFrom 3 = .ok (.iconst 0, 1) := by decide +kernel
theorem dX2_countSeenFrom_4 : decode cX2_countSeenFrom 4 = .ok (.istore 5, 2) := by decide +kernel
theorem dX2_countSeenFrom_6 : decode cX2_countSeenFrom 6 = .ok (.iload 5, 2) := by decide +kernel
theorem dX2_countSeenFrom_8 : decode cX2_countSeenFrom 8 = .ok (.bipush 120, 2) := by decide +kernel
theorem dX2_countSeenFrom_10 : decode cX2_countSeenFrom 10 = .ok (.if_icmp .ge 24, 3) := by decide +kernel
theorem dX2_countSeenFrom_13 : decode cX2_countSeenFrom 13 = .ok (.aload_n 0, 1) := by decide +kernel
theorem dX2_countSeenFrom_14 : decode cX2_countSeenFrom 14 = .ok (.aload_n 1, 1) := by decide +kernel
theorem dX2_countSeenFrom_15 : decode cX2_countSeenFrom 15 = .ok (.iload_n 2, 1) := by decide +kernel
theorem dX2_countSeenFrom_16 : decode cX2_countSeenFrom 16 = .ok (.iload_n 3, 1) := by decide +kernel
theorem dX2_countSeenFrom_17 : decode cX2_countSeenFrom 17 = .ok (.iload 5, 2) := by decide +kernel
theorem dX2_countSeenFrom_19 : decode cX2_countSeenFrom 19 = .ok (.invokevirtual 34, 3) := by decide +kernel
theorem dX2_countSeenFrom_22 : decode cX2_countSeenFrom 22 = .ok (.ifCond .eq 6, 3) := by decide +kernel
theorem dX2_countSeenFrom_25 : decode cX2_countSeenFrom 25 = .ok (.iinc 4 1, 3) := by decide +kernel
theorem dX2_countSeenFrom_28 : decode cX2_countSeenFrom 28 = .ok (.iinc 5 1, 3) := by decide +kernel
theorem dX2_countSeenFrom_31 : decode cX2_countSeenFrom 31 = .ok (.goto (-25), 3) := by decide +kernel
theorem dX2_countSeenFrom_34 : decode cX2_countSeenFrom 34 = .ok (.iload 4, 2) := by decide +kernel
theorem dX2_countSeenFrom_36 : decode cX2_countSeenFrom 36 = .ok (.ireturn, 1) := by decide +kernel
theorem dX2_isSeen_0 : decode cX2_isSeen 0 = .ok (.aload_n 0, 1) := by decide +kernel
theorem dX2_isSeen_1 : decode cX2_isSeen 1 = .ok (.getfield 15, 3) := by decide +kernel
theorem dX2_isSeen_4 : decode cX2_isSeen 4 = .ok (.iload_n 1, 1) := by decide +kernel
theorem dX2_isSeen_5 : decode cX2_isSeen 5 = .ok (.iaload, 1) := by decide +kernel
theorem dX2_isSeen_6 : decode cX2_isSeen 6 = .ok (.iload_n 2, 1) := by decide +kernel
theorem dX2_isSeen_7 : decode cX2_isSeen 7 = .ok (.iand, 1) := by decide +kernel
theorem dX2_isSeen_8 : decode cX2_isSeen 8 = .ok (.ifCond .eq 7, 3) := by decide +kernel
theorem dX2_isSeen_11 : decode cX2_isSeen 11 = .ok (.iconst 1, 1) := by decide +kernel
theorem dX2_isSeen_12 : decode cX2_isSeen 12 = .ok (.goto 4, 3) := by decide +kernel
theorem dX2_isSeen_15 : decode cX2_isSeen 15 = .ok (.iconst 0, 1) := by decide +kernel
theorem dX2_isSeen_16 : decode cX2_isSeen 16 = .ok (.ireturn, 1) := by decide +kernel
theorem dX2_countSeen_0 : decode cX2_countSeen 0 = .ok (.iconst 0, 1) := by decide +kernel
theorem dX2_countSeen_1 : decode cX2_countSeen 1 = .ok (.istore_n 2, 1) := by decide +kernel
theorem dX2_countSeen_2 : decode cX2_countSeen 2 = .ok (.iconst 0, 1) := by decide +kernel
theorem dX2_countSeen_3 : decode cX2_countSeen 3 = .ok (.istore_n 3, 1) := by decide +kernel
theorem dX2_countSeen_4 : decode cX2_countSeen 4 = .ok (.iload_n 3, 1) := by decide +kernel
theorem dX2_countSeen_5 : decode cX2_countSeen 5 = .ok (.bipush 120, 2) := by decide +kernel
theorem dX2_countSeen_7 : decode cX2_countSeen 7 = .ok (.if_icmp .ge 21, 3) := by decide +kernel
theorem dX2_countSeen_10 : decode cX2_countSeen 10 = .ok (.aload_n 0, 1) := by decide +kernel
theorem dX2_countSeen_11 : decode cX2_countSeen 11 = .ok (.iload_n 3, 1) := by decide +kernel
theorem dX2_countSeen_12 : decode cX2_countSeen 12 = .ok (.iload_n 1, 1) := by decide +kernel
theorem dX2_countSeen_13 : decode cX2_countSeen 13 = .ok (.invokevirtual 50, 3) := by decide +kernel
theorem dX2_countSeen_16 : decode cX2_countSeen 16 = .ok (.ifCond .eq 6, 3) := by decide +kernel
theorem dX2_countSeen_19 : decode cX2_countSeen 19 = .ok (.iinc 2 1, 3) := by decide +kernel
theorem dX2_countSeen_22 : decode cX2_countSeen 22 = .ok (.iinc 3 1, 3) := by decide +kernel
theorem dX2_countSeen_25 : decode cX2_countSeen 25 = .ok (.goto (-21), 3) := by decide +kernel
theorem dX2_countSeen_28 : decode cX2_countSeen 28 = .ok (.iload_n 2, 1) := by decide +kernel
theorem dX2_countSeen_29 : decode cX2_countSeen 29 = .ok (.ireturn, 1) := by decide +kernel
theorem dX2_countLit_0 : decode cX2_countLit 0 = .ok (.iconst 0, 1) := by decide +kernel
theorem dX2_countLit_1 : decode cX2_countLit 1 = .ok (.istore_n 1, 1) := by decide +kernel
theorem dX2_countLit_2 : decode cX2_countLit 2 = .ok (.iconst 0, 1) := by decide +kernel
theorem dX2_countLit_3 : decode cX2_countLit 3 = .ok (.istore_n 2, 1) := by decide +kernel
theorem dX2_countLit_4 : decode cX2_countLit 4 = .ok (.iload_n 2, 1) := by decide +kernel
theorem dX2_countLit_5 : decode cX2_countLit 5 = .ok (.bipush 120, 2) := by decide +kernel
theorem dX2_countLit_7 : decode cX2_countLit 7 = .ok (.if_icmp .ge 18, 3) := by decide +kernel
theorem dX2_countLit_10 : decode cX2_countLit 10 = .ok (.iload_n 1, 1) := by decide +kernel
theorem dX2_countLit_11 : decode cX2_countLit 11 = .ok (.aload_n 0, 1) := by decide +kernel
theorem dX2_countLit_12 : decode cX2_countLit 12 = .ok (.getfield 9, 3) := by decide +kernel
theorem dX2_countLit_15 : decode cX2_countLit 15 = .ok (.iload_n 2, 1) := by decide +kernel
theorem dX2_countLit_16 : decode cX2_countLit 16 = .ok (.iaload, 1) := by decide +kernel
theorem dX2_countLit_17 : decode cX2_countLit 17 = .ok (.iadd, 1) := by decide +kernel
theorem dX2_countLit_18 : decode cX2_countLit 18 = .ok (.istore_n 1, 1) := by decide +kernel
theorem dX2_countLit_19 : decode cX2_countLit 19 = .ok (.iinc 2 1, 3) := by decide +kernel
theorem dX2_countLit_22 : decode cX2_countLit 22 = .ok (.goto (-18), 3) := by decide +kernel
theorem dX2_countLit_25 : decode cX2_countLit 25 = .ok (.iload_n 1, 1) := by decide +kernel
theorem dX2_countLit_26 : decode cX2_countLit 26 = .ok (.ireturn, 1) := by decide +kernel
theorem dX2_isViewFree_0 : decode cX2_isViewFree 0 = .ok (.iload_n 1, 1) := by decide +kernel
theorem dX2_isViewFree_1 : decode cX2_isViewFree 1 = .ok (.iload_n 2, 1) := by decide +kernel
theorem dX2_isViewFree_2 : decode cX2_isViewFree 2 = .ok (.invokestatic 42, 3) := by decide +kernel
theorem dX2_isViewFree_5 : decode cX2_isViewFree 5 = .ok (.istore_n 3, 1) := by decide +kernel
theorem dX2_isViewFree_6 : decode cX2_isViewFree 6 = .ok (.iconst 2, 1) := by decide +kernel
theorem dX2_isViewFree_7 : decode cX2_isViewFree 7 = .ok (.aload_n 0, 1) := by decide +kernel
theorem dX2_isViewFree_8 : decode cX2_isViewFree 8 = .ok (.getfield 54, 3) := by decide +kernel
theorem dX2_isViewFree_11 : decode cX2_isViewFree 11 = .ok (.iload_n 1, 1) := by decide +kernel
theorem dX2_isViewFree_12 : decode cX2_isViewFree 12 = .ok (.iaload, 1) := by decide +kernel
theorem dX2_isViewFree_13 : decode cX2_isViewFree 13 = .ok (.imul, 1) := by decide +kernel
theorem dX2_isViewFree_14 : decode cX2_isViewFree 14 = .ok (.iconst 1, 1) := by decide +kernel
theorem dX2_isViewFree_15 : decode cX2_isViewFree 15 = .ok (.iadd, 1) := by decide +kernel
theorem dX2_isViewFree_16 : decode cX2_isViewFree 16 = .ok (.istore 4, 2) := by decide +kernel
theorem dX2_isViewFree_18 : decode cX2_isViewFree 18 = .ok (.iconst 2, 1) := by decide +kernel
theorem dX2_isViewFree_19 : decode cX2_isViewFree 19 = .ok (.aload_n 0, 1) := by decide +kernel
theorem dX2_isViewFree_20 : decode cX2_isViewFree 20 = .ok (.getfield 54, 3) := by decide +kernel
theorem dX2_isViewFree_23 : decode cX2_isViewFree 23 = .ok (.iload_n 2, 1) := by decide +kernel
theorem dX2_isViewFree_24 : decode cX2_isViewFree 24 = .ok (.iaload, 1) := by decide +kernel
theorem dX2_isViewFree_25 : decode cX2_isViewFree 25 = .ok (.imul, 1) := by decide +kernel
theorem dX2_isViewFree_26 : decode cX2_isViewFree 26 = .ok (.iconst 1, 1) := by decide +kernel
theorem dX2_isViewFree_27 : decode cX2_isViewFree 27 = .ok (.iadd, 1) := by decide +kernel
theorem dX2_isViewFree_28 : decode cX2_isViewFree 28 = .ok (.istore 5, 2) := by decide +kernel
theorem dX2_isViewFree_30 : decode cX2_isViewFree 30 = .ok (.iconst 1, 1) := by decide +kernel
theorem dX2_isViewFree_31 : decode cX2_isViewFree 31 = .ok (.istore 6, 2) := by decide +kernel
theorem dX2_isViewFree_33 : decode cX2_isViewFree 33 = .ok (.iload 6, 2) := by decide +kernel
theorem dX2_isViewFree_35 : decode cX2_isViewFree 35 = .ok (.iload_n 3, 1) := by decide +kernel
theorem dX2_isViewFree_36 : decode cX2_isViewFree 36 = .ok (.if_icmp .ge 67, 3) := by decide +kernel
theorem dX2_isViewFree_39 : decode cX2_isViewFree 39 = .ok (.iload_n 1, 1) := by decide +kernel
theorem dX2_isViewFree_40 : decode cX2_isViewFree 40 = .ok (.iload_n 2, 1) := by decide +kernel
theorem dX2_isViewFree_41 : decode cX2_isViewFree 41 = .ok (.iload_n 3, 1) := by decide +kernel
theorem dX2_isViewFree_42 : decode cX2_isViewFree 42 = .ok (.iload 6, 2) := by decide +kernel
theorem dX2_isViewFree_44 : decode cX2_isViewFree 44 = .ok (.invokestatic 57, 3) := by decide +kernel
theorem dX2_isViewFree_47 : decode cX2_isViewFree 47 = .ok (.istore 7, 2) := by decide +kernel
theorem dX2_isViewFree_49 : decode cX2_isViewFree 49 = .ok (.iconst 2, 1) := by decide +kernel
theorem dX2_isViewFree_50 : decode cX2_isViewFree 50 = .ok (.aload_n 0, 1) := by decide +kernel
theorem dX2_isViewFree_51 : decode cX2_isViewFree 51 = .ok (.getfield 54, 3) := by decide +kernel
theorem dX2_isViewFree_54 : decode cX2_isViewFree 54 = .ok (.iload 7, 2) := by decide +kernel
theorem dX2_isViewFree_56 : decode cX2_isViewFree 56 = .ok (.iaload, 1) := by decide +kernel
theorem dX2_isViewFree_57 : decode cX2_isViewFree 57 = .ok (.imul, 1) := by decide +kernel
theorem dX2_isViewFree_58 : decode cX2_isViewFree 58 = .ok (.bipush 100, 2) := by decide +kernel
theorem dX2_isViewFree_60 : decode cX2_isViewFree 60 = .ok (.aload_n 0, 1) := by decide +kernel
theorem dX2_isViewFree_61 : decode cX2_isViewFree 61 = .ok (.getfield 61, 3) := by decide +kernel
theorem dX2_isViewFree_64 : decode cX2_isViewFree 64 = .ok (.iload 7, 2) := by decide +kernel
theorem dX2_isViewFree_66 : decode cX2_isViewFree 66 = .ok (.iaload, 1) := by decide +kernel
theorem dX2_isViewFree_67 : decode cX2_isViewFree 67 = .ok (.imul, 1) := by decide +kernel
theorem dX2_isViewFree_68 : decode cX2_isViewFree 68 = .ok (.iadd, 1) := by decide +kernel
theorem dX2_isViewFree_69 : decode cX2_isViewFree 69 = .ok (.istore 8, 2) := by decide +kernel
theorem dX2_isViewFree_71 : decode cX2_isViewFree 71 = .ok (.iload 4, 2) := by decide +kernel
theorem dX2_isViewFree_73 : decode cX2_isViewFree 73 = .ok (.iload_n 3, 1) := by decide +kernel
theorem dX2_isViewFree_74 : decode cX2_isViewFree 74 = .ok (.iload 6, 2) := by decide +kernel
theorem dX2_isViewFree_76 : decode cX2_isViewFree 76 = .ok (.isub, 1) := by decide +kernel
theorem dX2_isViewFree_77 : decode cX2_isViewFree 77 = .ok (.imul, 1) := by decide +kernel
theorem dX2_isViewFree_78 : decode cX2_isViewFree 78 = .ok (.iload 5, 2) := by decide +kernel
theorem dX2_isViewFree_80 : decode cX2_isViewFree 80 = .ok (.iload 6, 2) := by decide +kernel
theorem dX2_isViewFree_82 : decode cX2_isViewFree 82 = .ok (.imul, 1) := by decide +kernel
theorem dX2_isViewFree_83 : decode cX2_isViewFree 83 = .ok (.iadd, 1) := by decide +kernel
theorem dX2_isViewFree_84 : decode cX2_isViewFree 84 = .ok (.iload_n 3, 1) := by decide +kernel
theorem dX2_isViewFree_85 : decode cX2_isViewFree 85 = .ok (.idiv, 1) := by decide +kernel
theorem dX2_isViewFree_86 : decode cX2_isViewFree 86 = .ok (.istore 9, 2) := by decide +kernel
theorem dX2_isViewFree_88 : decode cX2_isViewFree 88 = .ok (.iload 8, 2) := by decide +kernel
theorem dX2_isViewFree_90 : decode cX2_isViewFree 90 = .ok (.iload 9, 2) := by decide +kernel
theorem dX2_isViewFree_92 : decode cX2_isViewFree 92 = .ok (.if_icmp .le 5, 3) := by decide +kernel
theorem dX2_isViewFree_95 : decode cX2_isViewFree 95 = .ok (.iconst 0, 1) := by decide +kernel
theorem dX2_isViewFree_96 : decode cX2_isViewFree 96 = .ok (.ireturn, 1) := by decide +kernel
theorem dX2_isViewFree_97 : decode cX2_isViewFree 97 = .ok (.iinc 6 1, 3) := by decide +kernel
theorem dX2_isViewFree_100 : decode cX2_isViewFree 100 = .ok (.goto (-67), 3) := by decide +kernel
theorem dX2_isViewFree_103 : decode cX2_isViewFree 103 = .ok (.iconst 1, 1) := by decide +kernel
theorem dX2_isViewFree_104 : decode cX2_isViewFree 104 = .ok (.ireturn, 1) := by decide +kernel
theorem dX2_innerCell_0 : decode cX2_innerCell 0 = .ok (.iload_n 3, 1) := by decide +kernel
theorem dX2_innerCell_1 : decode cX2_innerCell 1 = .ok (.iload_n 1, 1) := by decide +kernel
theorem dX2_innerCell_2 : decode cX2_innerCell 2 = .ok (.invokestatic 64, 3) := by decide +kernel
theorem dX2_innerCell_5 : decode cX2_innerCell 5 = .ok (.iload_n 0, 1) := by decide +kernel
theorem dX2_innerCell_6 : decode cX2_innerCell 6 = .ok (.invokestatic 64, 3) := by decide +kernel
theorem dX2_innerCell_9 : decode cX2_innerCell 9 = .ok (.isub, 1) := by decide +kernel
theorem dX2_innerCell_10 : decode cX2_innerCell 10 = .ok (.imul, 1) := by decide +kernel
theorem dX2_innerCell_11 : decode cX2_innerCell 11 = .ok (.iload_n 2, 1) := by decide +kernel
theorem dX2_innerCell_12 : decode cX2_innerCell 12 = .ok (.invokestatic 67, 3) := by decide +kernel
theorem dX2_innerCell_15 : decode cX2_innerCell 15 = .ok (.istore 4, 2) := by decide +kernel
theorem dX2_innerCell_17 : decode cX2_innerCell 17 = .ok (.iload_n 3, 1) := by decide +kernel
theorem dX2_innerCell_18 : decode cX2_innerCell 18 = .ok (.iload_n 1, 1) := by decide +kernel
theorem dX2_innerCell_19 : decode cX2_innerCell 19 = .ok (.invokestatic 70, 3) := by decide +kernel
theorem dX2_innerCell_22 : decode cX2_innerCell 22 = .ok (.iload_n 0, 1) := by decide +kernel
theorem dX2_innerCell_23 : decode cX2_innerCell 23 = .ok (.invokestatic 70, 3) := by decide +kernel
theorem dX2_innerCell_26 : decode cX2_innerCell 26 = .ok (.isub, 1) := by decide +kernel
theorem dX2_innerCell_27 : decode cX2_innerCell 27 = .ok (.imul, 1) := by decide +kernel
theorem dX2_innerCell_28 : decode cX2_innerCell 28 = .ok (.iload_n 2, 1) := by decide +kernel
theorem dX2_innerCell_29 : decode cX2_innerCell 29 = .ok (.invokestatic 67, 3) := by decide +kernel
theorem dX2_innerCell_32 : decode cX2_innerCell 32 = .ok (.istore 5, 2) := by decide +kernel
theorem dX2_innerCell_34 : decode cX2_innerCell 34 = .ok (.iload_n 0, 1) := by decide +kernel
theorem dX2_innerCell_35 : decode cX2_innerCell 35 = .ok (.invokestatic 64, 3) := by decide +kernel
theorem dX2_innerCell_38 : decode cX2_innerCell 38 = .ok (.iload 4, 2) := by decide +kernel
theorem dX2_innerCell_40 : decode cX2_innerCell 40 = .ok (.iadd, 1) := by decide +kernel
theorem dX2_innerCell_41 : decode cX2_innerCell 41 = .ok (.iload_n 0, 1) := by decide +kernel
theorem dX2_innerCell_42 : decode cX2_innerCell 42 = .ok (.invokestatic 70, 3) := by decide +kernel
theorem dX2_innerCell_45 : decode cX2_innerCell 45 = .ok (.iload 5, 2) := by decide +kernel
theorem dX2_innerCell_47 : decode cX2_innerCell 47 = .ok (.iadd, 1) := by decide +kernel
theorem dX2_innerCell_48 : decode cX2_innerCell 48 = .ok (.invokestatic 73, 3) := by decide +kernel
theorem dX2_innerCell_51 : decode cX2_innerCell 51 = .ok (.ireturn, 1) := by decide +kernel
theorem dX2_part_0 : decode cX2_part 0 = .ok (.iconst 2, 1) := by decide +kernel
theorem dX2_part_1 : decode cX2_part 1 = .ok (.iload_n 0, 1) := by decide +kernel
theorem dX2_part_2 : decode cX2_part 2 = .ok (.imul, 1) := by decide +kernel
theorem dX2_part_3 : decode cX2_part 3 = .ok (.iload_n 1, 1) := by decide +kernel
theorem dX2_part_4 : decode cX2_part 4 = .ok (.iadd, 1) := by decide +kernel
theorem dX2_part_5 : decode cX2_part 5 = .ok (.iconst 2, 1) := by decide +kernel
theorem dX2_part_6 : decode cX2_part 6 = .ok (.iload_n 1, 1) := by decide +kernel
theorem dX2_part_7 : decode cX2_part 7 = .ok (.imul, 1) := by decide +kernel
theorem dX2_part_8 : decode cX2_part 8 = .ok (.invokestatic 76, 3) := by decide +kernel
theorem dX2_part_11 : decode cX2_part 11 = .ok (.ireturn, 1) := by decide +kernel
theorem dX3_init_0 : decode cX3_init 0 = .ok (.aload_n 0, 1) := by decide +kernel
theorem dX3_init_1 : decode cX3_init 1 = .ok (.invokespecial 3, 3) := by decide +kernel
theorem dX3_init_4 : decode cX3_init 4 = .ok (.aload_n 0, 1) := by decide +kernel
theorem dX3_init_5 : decode cX3_init 5 = .ok (.bipush 120, 2) := by decide +kernel
theorem dX3_init_7 : decode cX3_init 7 = .ok (.newarray .int, 2) := by decide +kernel
theorem dX3_init_9 : decode cX3_init 9 = .ok (.putfield 9, 3) := by decide +kernel
theorem dX3_init_12 : decode cX3_init 12 = .ok (.aload_n 0, 1) := by decide +kernel
theorem dX3_init_13 : decode cX3_init 13 = .ok (.bipush 120, 2) := by decide +kernel
theorem dX3_init_15 : decode cX3_init 15 = .ok (.newarray .int, 2) := by decide +kernel
theorem dX3_init_17 : decode cX3_init 17 = .ok (.putfield 15, 3) := by decide +kernel
theorem dX3_init_20 : decode cX3_init 20 = .ok (.aload_n 0, 1) := by decide +kernel
theorem dX3_init_21 : decode cX3_init 21 = .ok (.iconst 0, 1) := by decide +kernel
theorem dX3_init_22 : decode cX3_init 22 = .ok (.putfield 18, 3) := by decide +kernel
theorem dX3_init_25 : decode cX3_init 25 = .ok (.aload_n 0, 1) := by decide +kernel
theorem dX3_init_26 : decode cX3_init 26 = .ok (.bipush 10, 2) := by decide +kernel
theorem dX3_init_28 : decode cX3_init 28 = .ok (.newarray .int, 2) := by decide +kernel
theorem dX3_init_30 : decode cX3_init 30 = .ok (.putfield 22, 3) := by decide +kernel
theorem dX3_init_33 : decode cX3_init 33 = .ok (.aload_n 0, 1) := by decide +kernel
theorem dX3_init_34 : decode cX3_init 34 = .ok (.bipush 10, 2) := by decide +kernel
theorem dX3_init_36 : decode cX3_init 36 = .ok (.newarray .int, 2) := by decide +kernel
theorem dX3_init_38 : decode cX3_init 38 = .ok (.putfield 25, 3) := by decide +kernel
theorem dX3_init_41 : decode cX3_init 41 = .ok (.aload_n 0, 1) := by decide +kernel
theorem dX3_init_42 : decode cX3_init 42 = .ok (.bipush 10, 2) := by decide +kernel
theorem dX3_init_44 : decode cX3_init 44 = .ok (.newarray .int, 2) := by decide +kernel
theorem dX3_init_46 : decode cX3_init 46 = .ok (.putfield 28, 3) := by decide +kernel
theorem dX3_init_49 : decode cX3_init 49 = .ok (.aload_n 0, 1) := by decide +kernel
theorem dX3_init_50 : decode cX3_init 50 = .ok (.iconst 0, 1) := by decide +kernel
theorem dX3_init_51 : decode cX3_init 51 = .ok (.putfield 31, 3) := by decide +kernel
theorem dX3_init_54 : decode cX3_init 54 = .ok (.aload_n 0, 1) := by decide +kernel
theorem dX3_init_55 : decode cX3_init 55 = .ok (.bipush 6, 2) := by decide +kernel
theorem dX3_init_57 : decode cX3_init 57 = .ok (.newarray .int, 2) := by decide +kernel
theorem dX3_init_59 : decode cX3_init 59 = .ok (.putfield 34, 3) := by decide +kernel
theorem dX3_init_62 : decode cX3_init 62 = .ok (.aload_n 0, 1) := by decide +kernel
theorem dX3_init_63 : decode cX3_init 63 = .ok (.bipush 6, 2) := by decide +kernel
theorem dX3_init_65 : decode cX3_init 65 = .ok (.newarray .int, 2) := by decide +kernel
theorem dX3_init_67 : decode cX3_init 67 = .ok (.putfield 37, 3) := by decide +kernel
theorem dX3_init_70 : decode cX3_init 70 = .ok (.aload_n 0, 1) := by decide +kernel
theorem dX3_init_71 : decode cX3_init 71 = .ok (.bipush 6, 2) := by decide +kernel
theorem dX3_init_73 : decode cX3_init 73 = .ok (.newarray .int, 2) := by decide +kernel
theorem dX3_init_75 : decode cX3_init 75 = .ok (.putfield 40, 3) := by decide +kernel
theorem dX3_init_78 : decode cX3_init 78 = .ok (.aload_n 0, 1) := by decide +kernel
theorem dX3_init_79 : decode cX3_init 79 = .ok (.bipush 10, 2) := by decide +kernel
theorem dX3_init_81 : decode cX3_init 81 = .ok (.putfield 43, 3) := by decide +kernel
theorem dX3_init_84 : decode cX3_init 84 = .ok (.aload_n 0, 1) := by decide +kernel
theorem dX3_init_85 : decode cX3_init 85 = .ok (.iconst 0, 1) := by decide +kernel
theorem dX3_init_86 : decode cX3_init 86 = .ok (.putfield 46, 3) := by decide +kernel
theorem dX3_init_89 : decode cX3_init 89 = .ok (.aload_n 0, 1) := by decide +kernel
theorem dX3_init_90 : decode cX3_init 90 = .ok (.iconst 2, 1) := by decide +kernel
theorem dX3_init_91 : decode cX3_init 91 = .ok (.anewarray 49, 3) := by decide +kernel
theorem dX3_init_94 : decode cX3_init 94 = .ok (.dup, 1) := by decide +kernel
theorem dX3_init_95 : decode cX3_init 95 = .ok (.iconst 0, 1) := by decide +kernel
theorem dX3_init_96 : decode cX3_init 96 = .ok (.new 49, 3) := by decide +kernel
theorem dX3_init_99 : decode cX3_init 99 = .ok (.dup, 1) := by decide +kernel
theorem dX3_init_100 : decode cX3_init 100 = .ok (.invokespecial 51, 3) := by decide +kernel
theorem dX3_init_103 : decode cX3_init 103 = .ok (.aastore, 1) := by decide +kernel
theorem dX3_init_104 : decode cX3_init 104 = .ok (.dup, 1) := by decide +kernel
theorem dX3_init_105 : decode cX3_init 105 = .ok (.iconst 1, 1) := by decide +kernel
theorem dX3_init_106 : decode cX3_init 106 = .ok (.new 49, 3) := by decide +kernel
theorem dX3_init_109 : decode cX3_init 109 = .ok (.dup, 1) := by decide +kernel
theorem dX3_init_110 : decode cX3_init 110 = .ok (.invokespecial 51, 3) := by decide +kernel
theorem dX3_init_113 : decode cX3_init 113 = .ok (.aastore, 1) := by decide +kernel
theorem dX3_init_114 : decode cX3_init 114 = .ok (.putfield 52, 3) := by decide +kernel
theorem dX3_init_117 : decode cX3_init 117 = .ok (.return_, 1) := by decide +kernel
theorem dX3_copyFrom_0 : decode cX3_copyFrom 0 = .ok (.aload_n 1, 1) := by decide +kernel
theorem dX3_copyFrom_1 : decode cX3_copyFrom 1 = .ok (.getfield 9, 3) := by decide +kernel
theorem dX3_copyFrom_4 : decode cX3_copyFrom 4 = .ok (.aload_n 0, 1) := by decide +kernel
theorem dX3_copyFrom_5 : decode cX3_copyFrom 5 = .ok (.getfield 9, 3) := by decide +kernel
theorem dX3_copyFrom_8 : decode cX3_copyFrom 8 = .ok (.invokestatic 56, 3) := by decide +kernel
theorem dX3_copyFrom_11 : decode cX3_copyFrom 11 = .ok (.aload_n 1, 1) := by decide +kernel
theorem dX3_copyFrom_12 : decode cX3_copyFrom 12 = .ok (.getfield 15, 3) := by decide +kernel
theorem dX3_copyFrom_15 : decode cX3_copyFrom 15 = .ok (.aload_n 0, 1) := by decide +kernel
theorem dX3_copyFrom_16 : decode cX3_copyFrom 16 = .ok (.getfield 15, 3) := by decide +kernel
theorem dX3_copyFrom_19 : decode cX3_copyFrom 19 = .ok (.invokestatic 56, 3) := by decide +kernel
theorem dX3_copyFrom_22 : decode cX3_copyFrom 22 = .ok (.aload_n 0, 1) := by decide +kernel
theorem dX3_copyFrom_23 : decode cX3_copyFrom 23 = .ok (.aload_n 1, 1) := by decide +kernel
theorem dX3_copyFrom_24 : decode cX3_copyFrom 24 = .ok (.getfield 18, 3) := by decide +kernel
theorem dX3_copyFrom_27 : decode cX3_copyFrom 27 = .ok (.putfield 18, 3) := by decide +kernel
theorem dX3_copyFrom_30 : decode cX3_copyFrom 30 = .ok (.aload_n 1, 1) := by decide +kernel
theorem dX3_copyFrom_31 : decode cX3_copyFrom 31 = .ok (.getfield 22, 3) := by decide +kernel
theorem dX3_copyFrom_34 : decode cX3_copyFrom 34 = .ok (.aload_n 0, 1) := by decide +kernel
theorem dX3_copyFrom_35 : decode cX3_copyFrom 35 = .ok (.getfield 22, 3) := by decide +kernel
theorem dX3_copyFrom_38 : decode cX3_copyFrom 38 = .ok (.invokestatic 56, 3) := by decide +kernel
theorem dX3_copyFrom_41 : decode cX3_copyFrom 41 = .ok (.aload_n 1, 1) := by decide +kernel
theorem dX3_copyFrom_42 : decode cX3_copyFrom 42 = .ok (.getfield 25, 3) := by decide +kernel
theorem dX3_copyFrom_45 : decode cX3_copyFrom 45 = .ok (.aload_n 0, 1) := by decide +kernel
theorem dX3_copyFrom_46 : decode cX3_copyFrom 46 = .ok (.getfield 25, 3) := by decide +kernel
theorem dX3_copyFrom_49 : decode cX3_copyFrom 49 = .ok (.invokestatic 56, 3) := by decide +kernel
theorem dX3_copyFrom_52 : decode cX3_copyFrom 52 = .ok (.aload_n 1, 1) := by decide +kernel
theorem dX3_copyFrom_53 : decode cX3_copyFrom 53 = .ok (.getfield 28, 3) := by decide +kernel
theorem dX3_copyFrom_56 : decode cX3_copyFrom 56 = .ok (.aload_n 0, 1) := by decide +kernel
theorem dX3_copyFrom_57 : decode cX3_copyFrom 57 = .ok (.getfield 28, 3) := by decide +kernel
theorem dX3_copyFrom_60 : decode cX3_copyFrom 60 = .ok (.invokestatic 56, 3) := by decide +kernel
theorem dX3_copyFrom_63 : decode cX3_copyFrom 63 = .ok (.aload_n 0, 1) := by decide +kernel
theorem dX3_copyFrom_64 : decode cX3_copyFrom 64 = .ok (.aload_n 1, 1) := by decide +kernel
theorem dX3_copyFrom_65 : decode cX3_copyFrom 65 = .ok (.getfield 31, 3) := by decide +kernel
theorem dX3_copyFrom_68 : decode cX3_copyFrom 68 = .ok (.putfield 31, 3) := by decide +kernel
theorem dX3_copyFrom_71 : decode cX3_copyFrom 71 = .ok (.aload_n 1, 1) := by decide +kernel
theorem dX3_copyFrom_72 : decode cX3_copyFrom 72 = .ok (.getfield 34, 3) := by decide +kernel
theorem dX3_copyFrom_75 : decode cX3_copyFrom 75 = .ok (.aload_n 0, 1) := by decide +kernel
theorem dX3_copyFrom_76 : decode cX3_copyFrom 76 = .ok (.getfield 34, 3) := by decide +kernel
theorem dX3_copyFrom_79 : decode cX3_copyFrom 79 = .ok (.invokestatic 56, 3) := by decide +kernel
theorem dX3_copyFrom_82 : decode cX3_copyFrom 82 = .ok (.aload_n 1, 1) := by decide +kernel
theorem dX3_copyFrom_83 : decode cX3_copyFrom 83 = .ok (.getfield 37, 3) := by decide +kernel
theorem dX3_copyFrom_86 : decode cX3_copyFrom 86 = .ok (.aload_n 0, 1) := by decide +kernel
theorem dX3_copyFrom_87 : decode cX3_copyFrom 87 = .ok (.getfield 37, 3) := by decide +kernel
theorem dX3_copyFrom_90 : decode cX3_copyFrom 90 = .ok (.invokestatic 56, 3) := by decide +kernel
theorem dX3_copyFrom_93 : decode cX3_copyFrom 93 = .ok (.aload_n 1, 1) := by decide +kernel
theorem dX3_copyFrom_94 : decode cX3_copyFrom 94 = .ok (.getfield 40, 3) := by decide +kernel
theorem dX3_copyFrom_97 : decode cX3_copyFrom 97 = .ok (.aload_n 0, 1) := by decide +kernel
theorem dX3_copyFrom_98 : decode cX3_copyFrom 98 = .ok (.getfield 40, 3) := by decide +kernel
theorem dX3_copyFrom_101 : decode cX3_copyFrom 101 = .ok (.invokestatic 56, 3) := by decide +kernel
theorem dX3_copyFrom_104 : decode cX3_copyFrom 104 = .ok (.aload_n 0, 1) := by decide +kernel
theorem dX3_copyFrom_105 : decode cX3_copyFrom 105 = .ok (.aload_n 1, 1) := by decide +kernel
theorem dX3_copyFrom_106 : decode cX3_copyFrom 106 = .ok (.getfield 43, 3) := by decide +kernel
theorem dX3_copyFrom_109 : decode cX3_copyFrom 109 = .ok (.putfield 43, 3) := by decide +kernel
theorem dX3_copyFrom_112 : decode cX3_copyFrom 112 = .ok (.aload_n 0, 1) := by decide +kernel
theorem dX3_copyFrom_113 : decode cX3_copyFrom 113 = .ok (.aload_n 1, 1) := by decide +kernel
theorem dX3_copyFrom_114 : decode cX3_copyFrom 114 = .ok (.getfield 46, 3) := by decide +kernel
theorem dX3_copyFrom_117 : decode cX3_copyFrom 117 = .ok (.putfield 46, 3) := by decide +kernel
theorem dX3_copyFrom_120 : decode cX3_copyFrom 120 = .ok (.iconst 0, 1) := by decide +kernel
theorem dX3_copyFrom_121 : decode cX3_copyFrom 121 = .ok (.istore_n 2, 1) := by decide +kernel
theorem dX3_copyFrom_122 : decode cX3_copyFrom 122 = .ok (.iload_n 2, 1) := by decide +kernel
theorem dX3_copyFrom_123 : decode cX3_copyFrom 123 = .ok (.iconst 2, 1) := by decide +kernel
theorem dX3_copyFrom_124 : decode cX3_copyFrom 124 = .ok (.if_icmp .ge 24, 3) := by decide +kernel
theorem dX3_copyFrom_127 : decode cX3_copyFrom 127 = .ok (.aload_n 0, 1) := by decide +kernel
theorem dX3_copyFrom_128 : decode cX3_copyFrom 128 = .ok (.getfield 52, 3) := by decide +kernel
theorem dX3_copyFrom_131 : decode cX3_copyFrom 131 = .ok (.iload_n 2, 1) := by decide +kernel
theorem dX3_copyFrom_132 : decode cX3_copyFrom 132 = .ok (.aaload, 1) := by decide +kernel
theorem dX3_copyFrom_133 : decode cX3_copyFrom 133 = .ok (.aload_n 1, 1) := by decide +kernel
theorem dX3_copyFrom_134 : decode cX3_copyFrom 134 = .ok (.getfield 52, 3) := by decide +kernel
theorem dX3_copyFrom_137 : decode cX3_copyFrom 137 = .ok (.iload_n 2, 1) := by decide +kernel
theorem dX3_copyFrom_138 : decode cX3_copyFrom 138 = .ok (.aaload, 1) := by decide +kernel
theorem dX3_copyFrom_139 : decode cX3_copyFrom 139 = .ok (.invokevirtual 60, 3) := by decide +kernel
theorem dX3_copyFrom_142 : decode cX3_copyFrom 142 = .ok (.iinc 2 1, 3) := by decide +kernel
theorem dX3_copyFrom_145 : decode cX3_copyFrom 145 = .ok (.goto (-23), 3) := by decide +kernel
theorem dX3_copyFrom_148 : decode cX3_copyFrom 148 = .ok (.return_, 1) := by decide +kernel
theorem dX3_scoutIn_0 : decode cX3_scoutIn 0 = .ok (.iconst 0, 1) := by decide +kernel
theorem dX3_scoutIn_1 : decode cX3_scoutIn 1 = .ok (.istore_n 2, 1) := by decide +kernel
theorem dX3_scoutIn_2 : decode cX3_scoutIn 2 = .ok (.iload_n 2, 1) := by decide +kernel
theorem dX3_scoutIn_3 : decode cX3_scoutIn 3 = .ok (.aload_n 0, 1) := by decide +kernel
theorem dX3_scoutIn_4 : decode cX3_scoutIn 4 = .ok (.getfield 18, 3) := by decide +kernel
theorem dX3_scoutIn_7 : decode cX3_scoutIn 7 = .ok (.if_icmp .ge 21, 3) := by decide +kernel
theorem dX3_scoutIn_10 : decode cX3_scoutIn 10 = .ok (.aload_n 0, 1) := by decide +kernel
theorem dX3_scoutIn_11 : decode cX3_scoutIn 11 = .ok (.getfield 25, 3) := by decide +kernel
theorem dX3_scoutIn_14 : decode cX3_scoutIn 14 = .ok (.iload_n 2, 1) := by decide +kernel
theorem dX3_scoutIn_15 : decode cX3_scoutIn 15 = .ok (.iaload, 1) := by decide +kernel
theorem dX3_scoutIn_16 : decode cX3_scoutIn 16 = .ok (.iload_n 1, 1) := by decide +kernel
theorem dX3_scoutIn_17 : decode cX3_scoutIn 17 = .ok (.if_icmp .ne 5, 3) := by decide +kernel
theorem dX3_scoutIn_20 : decode cX3_scoutIn 20 = .ok (.iload_n 2, 1) := by decide +kernel
theorem dX3_scoutIn_21 : decode cX3_scoutIn 21 = .ok (.ireturn, 1) := by decide +kernel
theorem dX3_scoutIn_22 : decode cX3_scoutIn 22 = .ok (.iinc 2 1, 3) := by decide +kernel
theorem dX3_scoutIn_25 : decode cX3_scoutIn 25 = .ok (.goto (-23), 3) := by decide +kernel
theorem dX3_scoutIn_28 : decode cX3_scoutIn 28 = .ok (.bipush (-19), 2) := by decide +kernel
theorem dX3_scoutIn_30 : decode cX3_scoutIn 30 = .ok (.ireturn, 1) := by decide +kernel
theorem dX3_isFree_0 : decode cX3_isFree 0 = .ok (.aload_n 0, 1) := by decide +kernel
theorem dX3_isFree_1 : decode cX3_isFree 1 = .ok (.getfield 15, 3) := by decide +kernel
theorem dX3_isFree_4 : decode cX3_isFree 4 = .ok (.iload_n 1, 1) := by decide +kernel
theorem dX3_isFree_5 : decode cX3_isFree 5 = .ok (.iaload, 1) := by decide +kernel
theorem dX3_isFree_6 : decode cX3_isFree 6 = .ok (.ifCond .ne 17, 3) := by decide +kernel
theorem dX3_isFree_9 : decode cX3_isFree 9 = .ok (.aload_n 0, 1) := by decide +kernel
theorem dX3_isFree_10 : decode cX3_isFree 10 = .ok (.iload_n 1, 1) := by decide +kernel
theorem dX3_isFree_11 : decode cX3_isFree 11 = .ok (.invokevirtual 64, 3) := by decide +kernel
theorem dX3_isFree_14 : decode cX3_isFree 14 = .ok (.bipush (-19), 2) := by decide +kernel
theorem dX3_isFree_16 : decode cX3_isFree 16 = .ok (.if_icmp .ne 7, 3) := by decide +kernel
theorem dX3_isFree_19 : decode cX3_isFree 19 = .ok (.iconst 1, 1) := by decide +kernel
theorem dX3_isFree_20 : decode cX3_isFree 20 = .ok (.goto 4, 3) := by decide +kernel
theorem dX3_isFree_23 : decode cX3_isFree 23 = .ok (.iconst 0, 1) := by decide +kernel
theorem dX3_isFree_24 : decode cX3_isFree 24 = .ok (.ireturn, 1) := by decide +kernel
theorem dX3_scoutsOf_0 : decode cX3_scoutsOf 0 = .ok (.iconst 0, 1) := by decide +kernel
theorem dX3_scoutsOf_1 : decode cX3_scoutsOf 1 = .ok (.istore_n 2, 1) := by decide +kernel
theorem dX3_scoutsOf_2 : decode cX3_scoutsOf 2 = .ok (.iconst 0, 1) := by decide +kernel
theorem dX3_scoutsOf_3 : decode cX3_scoutsOf 3 = .ok (.istore_n 3, 1) := by decide +kernel
theorem dX3_scoutsOf_4 : decode cX3_scoutsOf 4 = .ok (.iload_n 3, 1) := by decide +kernel
theorem dX3_scoutsOf_5 : decode cX3_scoutsOf 5 = .ok (.aload_n 0, 1) := by decide +kernel
theorem dX3_scoutsOf_6 : decode cX3_scoutsOf 6 = .ok (.getfield 18, 3) := by decide +kernel
theorem dX3_scoutsOf_9 : decode cX3_scoutsOf 9 = .ok (.if_icmp .ge 26, 3) := by decide +kernel
theorem dX3_scoutsOf_12 : decode cX3_scoutsOf 12 = .ok (.aload_n 0, 1) := by decide +kernel
theorem dX3_scoutsOf_13 : decode cX3_scoutsOf 13 = .ok (.getfield 22, 3) := by decide +kernel
theorem dX3_scoutsOf_16 : decode cX3_scoutsOf 16 = .ok (.iload_n 3, 1) := by decide +kernel
theorem dX3_scoutsOf_17 : decode cX3_scoutsOf 17 = .ok (.iaload, 1) := by decide +kernel
theorem dX3_scoutsOf_18 : decode cX3_scoutsOf 18 = .ok (.iload_n 1, 1) := by decide +kernel
theorem dX3_scoutsOf_19 : decode cX3_scoutsOf 19 = .ok (.if_icmp .ne 10, 3) := by decide +kernel
theorem dX3_scoutsOf_22 : decode cX3_scoutsOf 22 = .ok (.iload_n 2, 1) := by decide +kernel
theorem dX3_scoutsOf_23 : decode cX3_scoutsOf 23 = .ok (.iload_n 3, 1) := by decide +kernel
theorem dX3_scoutsOf_24 : decode cX3_scoutsOf 24 = .ok (.invokestatic 68, 3) := by decide +kernel
theorem dX3_scoutsOf_27 : decode cX3_scoutsOf 27 = .ok (.ior, 1) := by decide +kernel
theorem dX3_scoutsOf_28 : decode cX3_scoutsOf 28 = .ok (.istore_n 2, 1) := by decide +kernel
theorem dX3_scoutsOf_29 : decode cX3_scoutsOf 29 = .ok (.iinc 3 1, 3) := by decide +kernel
theorem dX3_scoutsOf_32 : decode cX3_scoutsOf 32 = .ok (.goto (-28), 3) := by decide +kernel
theorem dX3_scoutsOf_35 : decode cX3_scoutsOf 35 = .ok (.iload_n 2, 1) := by decide +kernel
theorem dX3_scoutsOf_36 : decode cX3_scoutsOf 36 = .ok (.ireturn, 1) := by decide +kernel
theorem dX3_putScout_0 : decode cX3_putScout 0 = .ok (.aload_n 0, 1) := by decide +kernel
theorem dX3_putScout_1 : decode cX3_putScout 1 = .ok (.getfield 22, 3) := by decide +kernel
theorem dX3_putScout_4 : decode cX3_putScout 4 = .ok (.aload_n 0, 1) := by decide +kernel
theorem dX3_putScout_5 : decode cX3_putScout 5 = .ok (.getfield 18, 3) := by decide +kernel
theorem dX3_putScout_8 : decode cX3_putScout 8 = .ok (.iload_n 1, 1) := by decide +kernel
theorem dX3_putScout_9 : decode cX3_putScout 9 = .ok (.iastore, 1) := by decide +kernel
theorem dX3_putScout_10 : decode cX3_putScout 10 = .ok (.aload_n 0, 1) := by decide +kernel
theorem dX3_putScout_11 : decode cX3_putScout 11 = .ok (.getfield 25, 3) := by decide +kernel
theorem dX3_putScout_14 : decode cX3_putScout 14 = .ok (.aload_n 0, 1) := by decide +kernel
theorem dX3_putScout_15 : decode cX3_putScout 15 = .ok (.getfield 18, 3) := by decide +kernel
theorem dX3_putScout_18 : decode cX3_putScout 18 = .ok (.iload_n 2, 1) := by decide +kernel
theorem dX3_putScout_19 : decode cX3_putScout 19 = .ok (.iastore, 1) := by decide +kernel
theorem dX3_putScout_20 : decode cX3_putScout 20 = .ok (.aload_n 0, 1) := by decide +kernel
theorem dX3_putScout_21 : decode cX3_putScout 21 = .ok (.getfield 28, 3) := by decide +kernel
theorem dX3_putScout_24 : decode cX3_putScout 24 = .ok (.aload_n 0, 1) := by decide +kernel
theorem dX3_putScout_25 : decode cX3_putScout 25 = .ok (.getfield 18, 3) := by decide +kernel
theorem dX3_putScout_28 : decode cX3_putScout 28 = .ok (.iload_n 3, 1) := by decide +kernel
theorem dX3_putScout_29 : decode cX3_putScout 29 = .ok (.iastore, 1) := by decide +kernel
theorem dX3_putScout_30 : decode cX3_putScout 30 = .ok (.aload_n 0, 1) := by decide +kernel
theorem dX3_putScout_31 : decode cX3_putScout 31 = .ok (.dup, 1) := by decide +kernel
theorem dX3_putScout_32 : decode cX3_putScout 32 = .ok (.getfield 18, 3) := by decide +kernel
theorem dX3_putScout_35 : decode cX3_putScout 35 = .ok (.iconst 1, 1) := by decide +kernel
theorem dX3_putScout_36 : decode cX3_putScout 36 = .ok (.iadd, 1) := by decide +kernel
theorem dX3_putScout_37 : decode cX3_putScout 37 = .ok (.putfield 18, 3) := by decide +kernel
theorem dX3_putScout_40 : decode cX3_putScout 40 = .ok (.return_, 1) := by decide +kernel
theorem dX3_dropScout_0 : decode cX3_dropScout 0 = .ok (.aload_n 0, 1) := by decide +kernel
theorem dX3_dropScout_1 : decode cX3_dropScout 1 = .ok (.getfield 22, 3) := by decide +kernel
theorem dX3_dropScout_4 : decode cX3_dropScout 4 = .ok (.iload_n 1, 1) := by decide +kernel
theorem dX3_dropScout_5 : decode cX3_dropScout 5 = .ok (.aload_n 0, 1) := by decide +kernel
theorem dX3_dropScout_6 : decode cX3_dropScout 6 = .ok (.getfield 18, 3) := by decide +kernel
theorem dX3_dropScout_9 : decode cX3_dropScout 9 = .ok (.invokestatic 71, 3) := by decide +kernel
theorem dX3_dropScout_12 : decode cX3_dropScout 12 = .ok (.aload_n 0, 1) := by decide +kernel
theorem dX3_dropScout_13 : decode cX3_dropScout 13 = .ok (.getfield 25, 3) := by decide +kernel
theorem dX3_dropScout_16 : decode cX3_dropScout 16 = .ok (.iload_n 1, 1) := by decide +kernel
theorem dX3_dropScout_17 : decode cX3_dropScout 17 = .ok (.aload_n 0, 1) := by decide +kernel
theorem dX3_dropScout_18 : decode cX3_dropScout 18 = .ok (.getfield 18, 3) := by decide +kernel
theorem dX3_dropScout_21 : decode cX3_dropScout 21 = .ok (.invokestatic 71, 3) := by decide +kernel
theorem dX3_dropScout_24 : decode cX3_dropScout 24 = .ok (.aload_n 0, 1) := by decide +kernel
theorem dX3_dropScout_25 : decode cX3_dropScout 25 = .ok (.getfield 28, 3) := by decide +kernel
theorem dX3_dropScout_28 : decode cX3_dropScout 28 = .ok (.iload_n 1, 1) := by decide +kernel
theorem dX3_dropScout_29 : decode cX3_dropScout 29 = .ok (.aload_n 0, 1) := by decide +kernel
theorem dX3_dropScout_30 : decode cX3_dropScout 30 = .ok (.getfield 18, 3) := by decide +kernel
theorem dX3_dropScout_33 : decode cX3_dropScout 33 = .ok (.invokestatic 71, 3) := by decide +kernel
theorem dX3_dropScout_36 : decode cX3_dropScout 36 = .ok (.aload_n 0, 1) := by decide +kernel
theorem dX3_dropScout_37 : decode cX3_dropScout 37 = .ok (.dup, 1) := by decide +kernel
theorem dX3_dropScout_38 : decode cX3_dropScout 38 = .ok (.getfield 18, 3) := by decide +kernel
theorem dX3_dropScout_41 : decode cX3_dropScout 41 = .ok (.iconst 1, 1) := by decide +kernel
theorem dX3_dropScout_42 : decode cX3_dropScout 42 = .ok (.isub, 1) := by decide +kernel
theorem dX3_dropScout_43 : decode cX3_dropScout 43 = .ok (.putfield 18, 3) := by decide +kernel
theorem dX3_dropScout_46 : decode cX3_dropScout 46 = .ok (.return_, 1) := by decide +kernel
theorem dX3_putLight_0 : decode cX3_putLight 0 = .ok (.aload_n 0, 1) := by decide +kernel
theorem dX3_putLight_1 : decode cX3_putLight 1 = .ok (.getfield 34, 3) := by decide +kernel
theorem dX3_putLight_4 : decode cX3_putLight 4 = .ok (.aload_n 0, 1) := by decide +kernel
theorem dX3_putLight_5 : decode cX3_putLight 5 = .ok (.getfield 31, 3) := by decide +kernel
theorem dX3_putLight_8 : decode cX3_putLight 8 = .ok (.iload_n 1, 1) := by decide +kernel
theorem dX3_putLight_9 : decode cX3_putLight 9 = .ok (.iastore, 1) := by decide +kernel
theorem dX3_putLight_10 : decode cX3_putLight 10 = .ok (.aload_n 0, 1) := by decide +kernel
theorem dX3_putLight_11 : decode cX3_putLight 11 = .ok (.getfield 37, 3) := by decide +kernel
theorem dX3_putLight_14 : decode cX3_putLight 14 = .ok (.aload_n 0, 1) := by decide +kernel
theorem dX3_putLight_15 : decode cX3_putLight 15 = .ok (.getfield 31, 3) := by decide +kernel
theorem dX3_putLight_18 : decode cX3_putLight 18 = .ok (.iload_n 2, 1) := by decide +kernel
theorem dX3_putLight_19 : decode cX3_putLight 19 = .ok (.iastore, 1) := by decide +kernel
theorem dX3_putLight_20 : decode cX3_putLight 20 = .ok (.aload_n 0, 1) := by decide +kernel
theorem dX3_putLight_21 : decode cX3_putLight 21 = .ok (.getfield 40, 3) := by decide +kernel
theorem dX3_putLight_24 : decode cX3_putLight 24 = .ok (.aload_n 0, 1) := by decide +kernel
theorem dX3_putLight_25 : decode cX3_putLight 25 = .ok (.getfield 31, 3) := by decide +kernel
theorem dX3_putLight_28 : decode cX3_putLight 28 = .ok (.iload_n 3, 1) := by decide +kernel
theorem dX3_putLight_29 : decode cX3_putLight 29 = .ok (.iastore, 1) := by decide +kernel
theorem dX3_putLight_30 : decode cX3_putLight 30 = .ok (.aload_n 0, 1) := by decide +kernel
theorem dX3_putLight_31 : decode cX3_putLight 31 = .ok (.dup, 1) := by decide +kernel
theorem dX3_putLight_32 : decode cX3_putLight 32 = .ok (.getfield 31, 3) := by decide +kernel
theorem dX3_putLight_35 : decode cX3_putLight 35 = .ok (.iconst 1, 1) := by decide +kernel
theorem dX3_putLight_36 : decode cX3_putLight 36 = .ok (.iadd, 1) := by decide +kernel
theorem dX3_putLight_37 : decode cX3_putLight 37 = .ok (.putfield 31, 3) := by decide +kernel
theorem dX3_putLight_40 : decode cX3_putLight 40 = .ok (.return_, 1) := by decide +kernel
theorem dX3_dropLight_0 : decode cX3_dropLight 0 = .ok (.aload_n 0, 1) := by decide +kernel
theorem dX3_dropLight_1 : decode cX3_dropLight 1 = .ok (.getfield 34, 3) := by decide +kernel
theorem dX3_dropLight_4 : decode cX3_dropLight 4 = .ok (.iload_n 1, 1) := by decide +kernel
theorem dX3_dropLight_5 : decode cX3_dropLight 5 = .ok (.aload_n 0, 1) := by decide +kernel
theorem dX3_dropLight_6 : decode cX3_dropLight 6 = .ok (.getfield 31, 3) := by decide +kernel
theorem dX3_dropLight_9 : decode cX3_dropLight 9 = .ok (.invokestatic 71, 3) := by decide +kernel
theorem dX3_dropLight_12 : decode cX3_dropLight 12 = .ok (.aload_n 0, 1) := by decide +kernel
theorem dX3_dropLight_13 : decode cX3_dropLight 13 = .ok (.getfield 37, 3) := by decide +kernel
theorem dX3_dropLight_16 : decode cX3_dropLight 16 = .ok (.iload_n 1, 1) := by decide +kernel
theorem dX3_dropLight_17 : decode cX3_dropLight 17 = .ok (.aload_n 0, 1) := by decide +kernel
theorem dX3_dropLight_18 : decode cX3_dropLight 18 = .ok (.getfield 31, 3) := by decide +kernel
theorem dX3_dropLight_21 : decode cX3_dropLight 21 = .ok (.invokestatic 71, 3) := by decide +kernel
theorem dX3_dropLight_24 : decode cX3_dropLight 24 = .ok (.aload_n 0, 1) := by decide +kernel
theorem dX3_dropLight_25 : decode cX3_dropLight 25 = .ok (.getfield 40, 3) := by decide +kernel
theorem dX3_dropLight_28 : decode cX3_dropLight 28 = .ok (.iload_n 1, 1) := by decide +kernel
theorem dX3_dropLight_29 : decode cX3_dropLight 29 = .ok (.aload_n 0, 1) := by decide +kernel
theorem dX3_dropLight_30 : decode cX3_dropLight 30 = .ok (.getfield 31, 3) := by decide +kernel
theorem dX3_dropLight_33 : decode cX3_dropLight 33 = .ok (.invokestatic 71, 3) := by decide +kernel
theorem dX3_dropLight_36 : decode cX3_dropLight 36 = .ok (.aload_n 0, 1) := by decide +kernel
theorem dX3_dropLight_37 : decode cX3_dropLight 37 = .ok (.dup, 1) := by decide +kernel
theorem dX3_dropLight_38 : decode cX3_dropLight 38 = .ok (.getfield 31, 3) := by decide +kernel
theorem dX3_dropLight_41 : decode cX3_dropLight 41 = .ok (.iconst 1, 1) := by decide +kernel
theorem dX3_dropLight_42 : decode cX3_dropLight 42 = .ok (.isub, 1) := by decide +kernel
theorem dX3_dropLight_43 : decode cX3_dropLight 43 = .ok (.putfield 31, 3) := by decide +kernel
theorem dX3_dropLight_46 : decode cX3_dropLight 46 = .ok (.return_, 1) := by decide +kernel
theorem dX3_countBurning_0 : decode cX3_countBurning 0 = .ok (.iconst 0, 1) := by decide +kernel
theorem dX3_countBurning_1 : decode cX3_countBurning 1 = .ok (.istore_n 1, 1) := by decide +kernel
theorem dX3_countBurning_2 : decode cX3_countBurning 2 = .ok (.iconst 0, 1) := by decide +kernel
theorem dX3_countBurning_3 : decode cX3_countBurning 3 = .ok (.istore_n 2, 1) := by decide +kernel
theorem dX3_countBurning_4 : decode cX3_countBurning 4 = .ok (.iload_n 2, 1) := by decide +kernel
theorem dX3_countBurning_5 : decode cX3_countBurning 5 = .ok (.aload_n 0, 1) := by decide +kernel
theorem dX3_countBurning_6 : decode cX3_countBurning 6 = .ok (.getfield 31, 3) := by decide +kernel
theorem dX3_countBurning_9 : decode cX3_countBurning 9 = .ok (.if_icmp .ge 21, 3) := by decide +kernel
theorem dX3_countBurning_12 : decode cX3_countBurning 12 = .ok (.aload_n 0, 1) := by decide +kernel
theorem dX3_countBurning_13 : decode cX3_countBurning 13 = .ok (.getfield 40, 3) := by decide +kernel
theorem dX3_countBurning_16 : decode cX3_countBurning 16 = .ok (.iload_n 2, 1) := by decide +kernel
theorem dX3_countBurning_17 : decode cX3_countBurning 17 = .ok (.iaload, 1) := by decide +kernel
theorem dX3_countBurning_18 : decode cX3_countBurning 18 = .ok (.ifCond .le 6, 3) := by decide +kernel
theorem dX3_countBurning_21 : decode cX3_countBurning 21 = .ok (.iinc 1 1, 3) := by decide +kernel
theorem dX3_countBurning_24 : decode cX3_countBurning 24 = .ok (.iinc 2 1, 3) := by decide +kernel
theorem dX3_countBurning_27 : decode cX3_countBurning 27 = .ok (.goto (-23), 3) := by decide +kernel
theorem dX3_countBurning_30 : decode cX3_countBurning 30 = .ok (.iload_n 1, 1) := by decide +kernel
theorem dX3_countBurning_31 : decode cX3_countBurning 31 = .ok (.ireturn, 1) := by decide +kernel
theorem dX3_burn_0 : decode cX3_burn 0 = .ok (.aload_n 0, 1) := by decide +kernel
theorem dX3_burn_1 : decode cX3_burn 1 = .ok (.invokevirtual 75, 3) := by decide +kernel
theorem dX3_burn_4 : decode cX3_burn 4 = .ok (.istore_n 1, 1) := by decide +kernel
theorem dX3_burn_5 : decode cX3_burn 5 = .ok (.iconst 0, 1) := by decide +kernel
theorem dX3_burn_6 : decode cX3_burn 6 = .ok (.istore_n 2, 1) := by decide +kernel
theorem dX3_burn_7 : decode cX3_burn 7 = .ok (.iload_n 2, 1) := by decide +kernel
theorem dX3_burn_8 : decode cX3_burn 8 = .ok (.aload_n 0, 1) := by decide +kernel
theorem dX3_burn_9 : decode cX3_burn 9 = .ok (.getfield 31, 3) := by decide +kernel
theorem dX3_burn_12 : decode cX3_burn 12 = .ok (.if_icmp .ge 28, 3) := by decide +kernel
theorem dX3_burn_15 : decode cX3_burn 15 = .ok (.aload_n 0, 1) := by decide +kernel
theorem dX3_burn_16 : decode cX3_burn 16 = .ok (.getfield 40, 3) := by decide +kernel
theorem dX3_burn_19 : decode cX3_burn 19 = .ok (.iload_n 2, 1) := by decide +kernel
theorem dX3_burn_20 : decode cX3_burn 20 = .ok (.iaload, 1) := by decide +kernel
theorem dX3_burn_21 : decode cX3_burn 21 = .ok (.ifCond .le 13, 3) := by decide +kernel
theorem dX3_burn_24 : decode cX3_burn 24 = .ok (.aload_n 0, 1) := by decide +kernel
theorem dX3_burn_25 : decode cX3_burn 25 = .ok (.getfield 40, 3) := by decide +kernel
theorem dX3_burn_28 : decode cX3_burn 28 = .ok (.iload_n 2, 1) := by decide +kernel
theorem dX3_burn_29 : decode cX3_burn 29 = .ok (.dup2, 1) := by decide +kernel
theorem dX3_burn_30 : decode cX3_burn 30 = .ok (.iaload, 1) := by decide +kernel
theorem dX3_burn_31 : decode cX3_burn 31 = .ok (.iconst 1, 1) := by decide +kernel
theorem dX3_burn_32 : decode cX3_burn 32 = .ok (.isub, 1) := by decide +kernel
theorem dX3_burn_33 : decode cX3_burn 33 = .ok (.iastore, 1) := by decide +kernel
theorem dX3_burn_34 : decode cX3_burn 34 = .ok (.iinc 2 1, 3) := by decide +kernel
theorem dX3_burn_37 : decode cX3_burn 37 = .ok (.goto (-30), 3) := by decide +kernel
theorem dX3_burn_40 : decode cX3_burn 40 = .ok (.iload_n 1, 1) := by decide +kernel
theorem dX3_burn_41 : decode cX3_burn 41 = .ok (.aload_n 0, 1) := by decide +kernel
theorem dX3_burn_42 : decode cX3_burn 42 = .ok (.invokevirtual 75, 3) := by decide +kernel
theorem dX3_burn_45 : decode cX3_burn 45 = .ok (.isub, 1) := by decide +kernel
theorem dX3_burn_46 : decode cX3_burn 46 = .ok (.ireturn, 1) := by decide +kernel
theorem dX3_isLit_0 : decode cX3_isLit 0 = .ok (.iconst 0, 1) := by decide +kernel
theorem dX3_isLit_1 : decode cX3_isLit 1 = .ok (.istore_n 2, 1) := by decide +kernel
theorem dX3_isLit_2 : decode cX3_isLit 2 = .ok (.iload_n 2, 1) := by decide +kernel
theorem dX3_isLit_3 : decode cX3_isLit 3 = .ok (.aload_n 0, 1) := by decide +kernel
theorem dX3_isLit_4 : decode cX3_isLit 4 = .ok (.getfield 31, 3) := by decide +kernel
theorem dX3_isLit_7 : decode cX3_isLit 7 = .ok (.if_icmp .ge 39, 3) := by decide +kernel
theorem dX3_isLit_10 : decode cX3_isLit 10 = .ok (.aload_n 0, 1) := by decide +kernel
theorem dX3_isLit_11 : decode cX3_isLit 11 = .ok (.getfield 40, 3) := by decide +kernel
theorem dX3_isLit_14 : decode cX3_isLit 14 = .ok (.iload_n 2, 1) := by decide +kernel
theorem dX3_isLit_15 : decode cX3_isLit 15 = .ok (.iaload, 1) := by decide +kernel
theorem dX3_isLit_16 : decode cX3_isLit 16 = .ok (.ifCond .le 24, 3) := by decide +kernel
theorem dX3_isLit_19 : decode cX3_isLit 19 = .ok (.aload_n 0, 1) := by decide +kernel
theorem dX3_isLit_20 : decode cX3_isLit 20 = .ok (.getfield 34, 3) := by decide +kernel
theorem dX3_isLit_23 : decode cX3_isLit 23 = .ok (.iload_n 2, 1) := by decide +kernel
theorem dX3_isLit_24 : decode cX3_isLit 24 = .ok (.iaload, 1) := by decide +kernel
theorem dX3_isLit_25 : decode cX3_isLit 25 = .ok (.iload_n 1, 1) := by decide +kernel
theorem dX3_isLit_26 : decode cX3_isLit 26 = .ok (.invokestatic 79, 3) := by decide +kernel
theorem dX3_isLit_29 : decode cX3_isLit 29 = .ok (.aload_n 0, 1) := by decide +kernel
theorem dX3_isLit_30 : decode cX3_isLit 30 = .ok (.getfield 37, 3) := by decide +kernel
theorem dX3_isLit_33 : decode cX3_isLit 33 = .ok (.iload_n 2, 1) := by decide +kernel
theorem dX3_isLit_34 : decode cX3_isLit 34 = .ok (.iaload, 1) := by decide +kernel
theorem dX3_isLit_35 : decode cX3_isLit 35 = .ok (.if_icmp .gt 5, 3) := by decide +kernel
theorem dX3_isLit_38 : decode cX3_isLit 38 = .ok (.iconst 1, 1) := by decide +kernel
theorem dX3_isLit_39 : decode cX3_isLit 39 = .ok (.ireturn, 1) := by decide +kernel
theorem dX3_isLit_40 : decode cX3_isLit 40 = .ok (.iinc 2 1, 3) := by decide +kernel
theorem dX3_isLit_43 : decode cX3_isLit 43 = .ok (.goto (-41), 3) := by decide +kernel
theorem dX3_isLit_46 : decode cX3_isLit 46 = .ok (.iconst 0, 1) := by decide +kernel
theorem dX3_isLit_47 : decode cX3_isLit 47 = .ok (.ireturn, 1) := by decide +kernel
theorem dX3_fade_0 : decode cX3_fade 0 = .ok (.iconst 0, 1) := by decide +kernel
theorem dX3_fade_1 : decode cX3_fade 1 = .ok (.istore_n 1, 1) := by decide +kernel
theorem dX3_fade_2 : decode cX3_fade 2 = .ok (.iload_n 1, 1) := by decide +kernel
theorem dX3_fade_3 : decode cX3_fade 3 = .ok (.iconst 2, 1) := by decide +kernel
theorem dX3_fade_4 : decode cX3_fade 4 = .ok (.if_icmp .ge 18, 3) := by decide +kernel
theorem dX3_fade_7 : decode cX3_fade 7 = .ok (.aload_n 0, 1) := by decide +kernel
theorem dX3_fade_8 : decode cX3_fade 8 = .ok (.getfield 52, 3) := by decide +kernel
theorem dX3_fade_11 : decode cX3_fade 11 = .ok (.iload_n 1, 1) := by decide +kernel
theorem dX3_fade_12 : decode cX3_fade 12 = .ok (.aaload, 1) := by decide +kernel
theorem dX3_fade_13 : decode cX3_fade 13 = .ok (.invokevirtual 83, 3) := by decide +kernel
theorem dX3_fade_16 : decode cX3_fade 16 = .ok (.iinc 1 1, 3) := by decide +kernel
theorem dX3_fade_19 : decode cX3_fade 19 = .ok (.goto (-17), 3) := by decide +kernel
theorem dX3_fade_22 : decode cX3_fade 22 = .ok (.return_, 1) := by decide +kernel
theorem dX3_changeFogTime_0 : decode cX3_changeFogTime 0 = .ok (.aload_n 0, 1) := by decide +kernel
theorem dX3_changeFogTime_1 : decode cX3_changeFogTime 1 = .ok (.iload_n 1, 1) := by decide +kernel
theorem dX3_changeFogTime_2 : decode cX3_changeFogTime 2 = .ok (.putfield 43, 3) := by decide +kernel
theorem dX3_changeFogTime_5 : decode cX3_changeFogTime 5 = .ok (.iconst 0, 1) := by decide +kernel
theorem dX3_changeFogTime_6 : decode cX3_changeFogTime 6 = .ok (.istore_n 2, 1) := by decide +kernel
theorem dX3_changeFogTime_7 : decode cX3_changeFogTime 7 = .ok (.iload_n 2, 1) := by decide +kernel
theorem dX3_changeFogTime_8 : decode cX3_changeFogTime 8 = .ok (.iconst 2, 1) := by decide +kernel
theorem dX3_changeFogTime_9 : decode cX3_changeFogTime 9 = .ok (.if_icmp .ge 19, 3) := by decide +kernel
theorem dX3_changeFogTime_12 : decode cX3_changeFogTime 12 = .ok (.aload_n 0, 1) := by decide +kernel
theorem dX3_changeFogTime_13 : decode cX3_changeFogTime 13 = .ok (.getfield 52, 3) := by decide +kernel
theorem dX3_changeFogTime_16 : decode cX3_changeFogTime 16 = .ok (.iload_n 2, 1) := by decide +kernel
theorem dX3_changeFogTime_17 : decode cX3_changeFogTime 17 = .ok (.aaload, 1) := by decide +kernel
theorem dX3_changeFogTime_18 : decode cX3_changeFogTime 18 = .ok (.iload_n 1, 1) := by decide +kernel
theorem dX3_changeFogTime_19 : decode cX3_changeFogTime 19 = .ok (.invokevirtual 86, 3) := by decide +kernel
theorem dX3_changeFogTime_22 : decode cX3_changeFogTime 22 = .ok (.iinc 2 1, 3) := by decide +kernel
theorem dX3_changeFogTime_25 : decode cX3_changeFogTime 25 = .ok (.goto (-18), 3) := by decide +kernel
theorem dX3_changeFogTime_28 : decode cX3_changeFogTime 28 = .ok (.return_, 1) := by decide +kernel
theorem dX3_remember_0 : decode cX3_remember 0 = .ok (.iconst 0, 1) := by decide +kernel
theorem dX3_remember_1 : decode cX3_remember 1 = .ok (.istore_n 2, 1) := by decide +kernel
theorem dX3_remember_2 : decode cX3_remember 2 = .ok (.iload_n 2, 1) := by decide +kernel
theorem dX3_remember_3 : decode cX3_remember 3 = .ok (.iconst 2, 1) := by decide +kernel
theorem dX3_remember_4 : decode cX3_remember 4 = .ok (.if_icmp .ge 48, 3) := by decide +kernel
theorem dX3_remember_7 : decode cX3_remember 7 = .ok (.aload_n 0, 1) := by decide +kernel
theorem dX3_remember_8 : decode cX3_remember 8 = .ok (.iload_n 2, 1) := by decide +kernel
theorem dX3_remember_9 : decode cX3_remember 9 = .ok (.invokevirtual 90, 3) := by decide +kernel
theorem dX3_remember_12 : decode cX3_remember 12 = .ok (.istore_n 3, 1) := by decide +kernel
theorem dX3_remember_13 : decode cX3_remember 13 = .ok (.iconst 0, 1) := by decide +kernel
theorem dX3_remember_14 : decode cX3_remember 14 = .ok (.istore 4, 2) := by decide +kernel
theorem dX3_remember_16 : decode cX3_remember 16 = .ok (.iload 4, 2) := by decide +kernel
theorem dX3_remember_18 : decode cX3_remember 18 = .ok (.bipush 120, 2) := by decide +kernel
theorem dX3_remember_20 : decode cX3_remember 20 = .ok (.if_icmp .ge 26, 3) := by decide +kernel
theorem dX3_remember_23 : decode cX3_remember 23 = .ok (.aload_n 1, 1) := by decide +kernel
theorem dX3_remember_24 : decode cX3_remember 24 = .ok (.iload 4, 2) := by decide +kernel
theorem dX3_remember_26 : decode cX3_remember 26 = .ok (.iload_n 3, 1) := by decide +kernel
theorem dX3_remember_27 : decode cX3_remember 27 = .ok (.invokevirtual 93, 3) := by decide +kernel
theorem dX3_remember_30 : decode cX3_remember 30 = .ok (.ifCond .eq 10, 3) := by decide +kernel
theorem dX3_remember_33 : decode cX3_remember 33 = .ok (.aload_n 0, 1) := by decide +kernel
theorem dX3_remember_34 : decode cX3_remember 34 = .ok (.iload_n 2, 1) := by decide +kernel
theorem dX3_remember_35 : decode cX3_remember 35 = .ok (.iload 4, 2) := by decide +kernel
theorem dX3_remember_37 : decode cX3_remember 37 = .ok (.invokevirtual 99, 3) := by decide +kernel
theorem dX3_remember_40 : decode cX3_remember 40 = .ok (.iinc 4 1, 3) := by decide +kernel
theorem dX3_remember_43 : decode cX3_remember 43 = .ok (.goto (-27), 3) := by decide +kernel
theorem dX3_remember_46 : decode cX3_remember 46 = .ok (.iinc 2 1, 3) := by decide +kernel
theorem dX3_remember_49 : decode cX3_remember 49 = .ok (.goto (-47), 3) := by decide +kernel
theorem dX3_remember_52 : decode cX3_remember 52 = .ok (.return_, 1) := by decide +kernel
theorem dX3_rememberCell_0 : decode cX3_rememberCell 0 = .ok (.aload_n 0, 1) := by decide +kernel
theorem dX3_rememberCell_1 : decode cX3_rememberCell 1 = .ok (.getfield 52, 3) := by decide +kernel
theorem dX3_rememberCell_4 : decode cX3_rememberCell 4 = .ok (.iload_n 1, 1) := by decide +kernel
theorem dX3_rememberCell_5 : decode cX3_rememberCell 5 = .ok (.aaload, 1) := by decide +kernel
theorem dX3_rememberCell_6 : decode cX3_rememberCell 6 = .ok (.astore_n 3, 1) := by decide +kernel
theorem dX3_rememberCell_7 : decode cX3_rememberCell 7 = .ok (.aload_n 0, 1) := by decide +kernel
theorem dX3_rememberCell_8 : decode cX3_rememberCell 8 = .ok (.iload_n 2, 1) := by decide +kernel
theorem dX3_rememberCell_9 : decode cX3_rememberCell 9 = .ok (.invokevirtual 64, 3) := by decide +kernel
theorem dX3_rememberCell_12 : decode cX3_rememberCell 12 = .ok (.istore 4, 2) := by decide +kernel
theorem dX3_rememberCell_14 : decode cX3_rememberCell 14 = .ok (.aload_n 3, 1) := by decide +kernel
theorem dX3_rememberCell_15 : decode cX3_rememberCell 15 = .ok (.getfield 103, 3) := by decide +kernel
theorem dX3_rememberCell_18 : decode cX3_rememberCell 18 = .ok (.iload_n 2, 1) := by decide +kernel
theorem dX3_rememberCell_19 : decode cX3_rememberCell 19 = .ok (.aload_n 0, 1) := by decide +kernel
theorem dX3_rememberCell_20 : decode cX3_rememberCell 20 = .ok (.getfield 43, 3) := by decide +kernel
theorem dX3_rememberCell_23 : decode cX3_rememberCell 23 = .ok (.iastore, 1) := by decide +kernel
theorem dX3_rememberCell_24 : decode cX3_rememberCell 24 = .ok (.aload_n 3, 1) := by decide +kernel
theorem dX3_rememberCell_25 : decode cX3_rememberCell 25 = .ok (.getfield 106, 3) := by decide +kernel
theorem dX3_rememberCell_28 : decode cX3_rememberCell 28 = .ok (.iload_n 2, 1) := by decide +kernel
theorem dX3_rememberCell_29 : decode cX3_rememberCell 29 = .ok (.aload_n 0, 1) := by decide +kernel
theorem dX3_rememberCell_30 : decode cX3_rememberCell 30 = .ok (.getfield 9, 3) := by decide +kernel
theorem dX3_rememberCell_33 : decode cX3_rememberCell 33 = .ok (.iload_n 2, 1) := by decide +kernel
theorem dX3_rememberCell_34 : decode cX3_rememberCell 34 = .ok (.iaload, 1) := by decide +kernel
theorem dX3_rememberCell_35 : decode cX3_rememberCell 35 = .ok (.iastore, 1) := by decide +kernel
theorem dX3_rememberCell_36 : decode cX3_rememberCell 36 = .ok (.aload_n 3, 1) := by decide +kernel
theorem dX3_rememberCell_37 : decode cX3_rememberCell 37 = .ok (.getfield 107, 3) := by decide +kernel
theorem dX3_rememberCell_40 : decode cX3_rememberCell 40 = .ok (.iload_n 2, 1) := by decide +kernel
theorem dX3_rememberCell_41 : decode cX3_rememberCell 41 = .ok (.aload_n 0, 1) := by decide +kernel
theorem dX3_rememberCell_42 : decode cX3_rememberCell 42 = .ok (.getfield 15, 3) := by decide +kernel
theorem dX3_rememberCell_45 : decode cX3_rememberCell 45 = .ok (.iload_n 2, 1) := by decide +kernel
theorem dX3_rememberCell_46 : decode cX3_rememberCell 46 = .ok (.iaload, 1) := by decide +kernel
theorem dX3_rememberCell_47 : decode cX3_rememberCell 47 = .ok (.iastore, 1) := by decide +kernel
theorem dX3_rememberCell_48 : decode cX3_rememberCell 48 = .ok (.aload_n 3, 1) := by decide +kernel
theorem dX3_rememberCell_49 : decode cX3_rememberCell 49 = .ok (.getfield 108, 3) := by decide +kernel
theorem dX3_rememberCell_52 : decode cX3_rememberCell 52 = .ok (.iload_n 2, 1) := by decide +kernel
theorem dX3_rememberCell_53 : decode cX3_rememberCell 53 = .ok (.iload 4, 2) := by decide +kernel
theorem dX3_rememberCell_55 : decode cX3_rememberCell 55 = .ok (.bipush (-19), 2) := by decide +kernel
theorem dX3_rememberCell_57 : decode cX3_rememberCell 57 = .ok (.if_icmp .eq 18, 3) := by decide +kernel
theorem dX3_rememberCell_60 : decode cX3_rememberCell 60 = .ok (.aload_n 0, 1) := by decide +kernel
theorem dX3_rememberCell_61 : decode cX3_rememberCell 61 = .ok (.getfield 22, 3) := by decide +kernel
theorem dX3_rememberCell_64 : decode cX3_rememberCell 64 = .ok (.iload 4, 2) := by decide +kernel
theorem dX3_rememberCell_66 : decode cX3_rememberCell 66 = .ok (.iaload, 1) := by decide +kernel
theorem dX3_rememberCell_67 : decode cX3_rememberCell 67 = .ok (.iload_n 1, 1) := by decide +kernel
theorem dX3_rememberCell_68 : decode cX3_rememberCell 68 = .ok (.if_icmp .eq 7, 3) := by decide +kernel
theorem dX3_rememberCell_71 : decode cX3_rememberCell 71 = .ok (.iconst 1, 1) := by decide +kernel
theorem dX3_rememberCell_72 : decode cX3_rememberCell 72 = .ok (.goto 4, 3) := by decide +kernel
theorem dX3_rememberCell_75 : decode cX3_rememberCell 75 = .ok (.iconst 0, 1) := by decide +kernel
theorem dX3_rememberCell_76 : decode cX3_rememberCell 76 = .ok (.iastore, 1) := by decide +kernel
theorem dX3_rememberCell_77 : decode cX3_rememberCell 77 = .ok (.return_, 1) := by decide +kernel
theorem dX4_init_0 : decode cX4_init 0 = .ok (.aload_n 0, 1) := by decide +kernel
theorem dX4_init_1 : decode cX4_init 1 = .ok (.invokespecial 3, 3) := by decide +kernel
theorem dX4_init_4 : decode cX4_init 4 = .ok (.aload_n 0, 1) := by decide +kernel
theorem dX4_init_5 : decode cX4_init 5 = .ok (.bipush 120, 2) := by decide +kernel
theorem dX4_init_7 : decode cX4_init 7 = .ok (.newarray .int, 2) := by decide +kernel
theorem dX4_init_9 : decode cX4_init 9 = .ok (.putfield 9, 3) := by decide +kernel
theorem dX4_init_12 : decode cX4_init 12 = .ok (.aload_n 0, 1) := by decide +kernel
theorem dX4_init_13 : decode cX4_init 13 = .ok (.iconst 0, 1) := by decide +kernel
theorem dX4_init_14 : decode cX4_init 14 = .ok (.putfield 15, 3) := by decide +kernel
theorem dX4_init_17 : decode cX4_init 17 = .ok (.aload_n 0, 1) := by decide +kernel
theorem dX4_init_18 : decode cX4_init 18 = .ok (.bipush 120, 2) := by decide +kernel
theorem dX4_init_20 : decode cX4_init 20 = .ok (.newarray .int, 2) := by decide +kernel
theorem dX4_init_22 : decode cX4_init 22 = .ok (.putfield 19, 3) := by decide +kernel
theorem dX4_init_25 : decode cX4_init 25 = .ok (.return_, 1) := by decide +kernel
theorem dX4_put_0 : decode cX4_put 0 = .ok (.aload_n 0, 1) := by decide +kernel
theorem dX4_put_1 : decode cX4_put 1 = .ok (.getfield 9, 3) := by decide +kernel
theorem dX4_put_4 : decode cX4_put 4 = .ok (.aload_n 0, 1) := by decide +kernel
theorem dX4_put_5 : decode cX4_put 5 = .ok (.getfield 15, 3) := by decide +kernel
theorem dX4_put_8 : decode cX4_put 8 = .ok (.iload_n 1, 1) := by decide +kernel
theorem dX4_put_9 : decode cX4_put 9 = .ok (.iastore, 1) := by decide +kernel
theorem dX4_put_10 : decode cX4_put 10 = .ok (.aload_n 0, 1) := by decide +kernel
theorem dX4_put_11 : decode cX4_put 11 = .ok (.dup, 1) := by decide +kernel
theorem dX4_put_12 : decode cX4_put 12 = .ok (.getfield 15, 3) := by decide +kernel
theorem dX4_put_15 : decode cX4_put 15 = .ok (.iconst 1, 1) := by decide +kernel
theorem dX4_put_16 : decode cX4_put 16 = .ok (.iadd, 1) := by decide +kernel
theorem dX4_put_17 : decode cX4_put 17 = .ok (.putfield 15, 3) := by decide +kernel
theorem dX4_put_20 : decode cX4_put 20 = .ok (.return_, 1) := by decide +kernel
theorem dX4_read_0 : decode cX4_read 0 = .ok (.aload_n 0, 1) := by decide +kernel
theorem dX4_read_1 : decode cX4_read 1 = .ok (.getfield 19, 3) := by decide +kernel
theorem dX4_read_4 : decode cX4_read 4 = .ok (.iconst (-1), 1) := by decide +kernel
theorem dX4_read_5 : decode cX4_read 5 = .ok (.invokestatic 22, 3) := by decide +kernel
theorem dX4_read_8 : decode cX4_read 8 = .ok (.iconst 0, 1) := by decide +kernel
theorem dX4_read_9 : decode cX4_read 9 = .ok (.istore_n 2, 1) := by decide +kernel
theorem dX4_read_10 : decode cX4_read 10 = .ok (.iconst 0, 1) := by decide +kernel
theorem dX4_read_11 : decode cX4_read 11 = .ok (.istore_n 3, 1) := by decide +kernel
theorem dX4_read_12 : decode cX4_read 12 = .ok (.iconst 0, 1) := by decide +kernel
theorem dX4_read_13 : decode cX4_read 13 = .ok (.istore 4, 2) := by decide +kernel
theorem dX4_read_15 : decode cX4_read 15 = .ok (.iload 4, 2) := by decide +kernel
theorem dX4_read_17 : decode cX4_read 17 = .ok (.aload_n 0, 1) := by decide +kernel
theorem dX4_read_18 : decode cX4_read 18 = .ok (.getfield 15, 3) := by decide +kernel
theorem dX4_read_21 : decode cX4_read 21 = .ok (.if_icmp .ge 104, 3) := by decide +kernel
theorem dX4_read_24 : decode cX4_read 24 = .ok (.aload_n 0, 1) := by decide +kernel
theorem dX4_read_25 : decode cX4_read 25 = .ok (.getfield 9, 3) := by decide +kernel
theorem dX4_read_28 : decode cX4_read 28 = .ok (.iload 4, 2) := by decide +kernel
theorem dX4_read_30 : decode cX4_read 30 = .ok (.iaload, 1) := by decide +kernel
theorem dX4_read_31 : decode cX4_read 31 = .ok (.istore 5, 2) := by decide +kernel
theorem dX4_read_33 : decode cX4_read 33 = .ok (.iload 5, 2) := by decide +kernel
theorem dX4_read_35 : decode cX4_read 35 = .ok (.bipush 32, 2) := by decide +kernel
theorem dX4_read_37 : decode cX4_read 37 = .ok (.if_icmp .ne 6, 3) := by decide +kernel
theorem dX4_read_40 : decode cX4_read 40 = .ok (.goto 79, 3) := by decide +kernel
theorem dX4_read_43 : decode cX4_read 43 = .ok (.iload_n 3, 1) := by decide +kernel
theorem dX4_read_44 : decode cX4_read 44 = .ok (.bipush 10, 2) := by decide +kernel
theorem dX4_read_46 : decode cX4_read 46 = .ok (.if_icmp .lt 10, 3) := by decide +kernel
theorem dX4_read_49 : decode cX4_read 49 = .ok (.sipush (-1000), 3) := by decide +kernel
theorem dX4_read_52 : decode cX4_read 52 = .ok (.iload 4, 2) := by decide +kernel
theorem dX4_read_54 : decode cX4_read 54 = .ok (.isub, 1) := by decide +kernel
theorem dX4_read_55 : decode cX4_read 55 = .ok (.ireturn, 1) := by decide +kernel
theorem dX4_read_56 : decode cX4_read 56 = .ok (.iload 5, 2) := by decide +kernel
theorem dX4_read_58 : decode cX4_read 58 = .ok (.bipush 59, 2) := by decide +kernel
theorem dX4_read_60 : decode cX4_read 60 = .ok (.if_icmp .ne 11, 3) := by decide +kernel
theorem dX4_read_63 : decode cX4_read 63 = .ok (.iinc 3 1, 3) := by decide +kernel
theorem dX4_read_66 : decode cX4_read 66 = .ok (.iconst 0, 1) := by decide +kernel
theorem dX4_read_67 : decode cX4_read 67 = .ok (.istore_n 2, 1) := by decide +kernel
theorem dX4_read_68 : decode cX4_read 68 = .ok (.goto 51, 3) := by decide +kernel
theorem dX4_read_71 : decode cX4_read 71 = .ok (.aload_n 1, 1) := by decide +kernel
theorem dX4_read_72 : decode cX4_read 72 = .ok (.iload 5, 2) := by decide +kernel
theorem dX4_read_74 : decode cX4_read 74 = .ok (.iload_n 2, 1) := by decide +kernel
theorem dX4_read_75 : decode cX4_read 75 = .ok (.iload_n 3, 1) := by decide +kernel
theorem dX4_read_76 : decode cX4_read 76 = .ok (.invokestatic 28, 3) := by decide +kernel
theorem dX4_read_79 : decode cX4_read 79 = .ok (.ifCond .ne 10, 3) := by decide +kernel
theorem dX4_read_82 : decode cX4_read 82 = .ok (.sipush (-1000), 3) := by decide +kernel
theorem dX4_read_85 : decode cX4_read 85 = .ok (.iload 4, 2) := by decide +kernel
theorem dX4_read_87 : decode cX4_read 87 = .ok (.isub, 1) := by decide +kernel
theorem dX4_read_88 : decode cX4_read 88 = .ok (.ireturn, 1) := by decide +kernel
theorem dX4_read_89 : decode cX4_read 89 = .ok (.aload_n 0, 1) := by decide +kernel
theorem dX4_read_90 : decode cX4_read 90 = .ok (.getfield 19, 3) := by decide +kernel
theorem dX4_read_93 : decode cX4_read 93 = .ok (.iload_n 2, 1) := by decide +kernel
theorem dX4_read_94 : decode cX4_read 94 = .ok (.iload_n 3, 1) := by decide +kernel
theorem dX4_read_95 : decode cX4_read 95 = .ok (.invokestatic 32, 3) := by decide +kernel
theorem dX4_read_98 : decode cX4_read 98 = .ok (.iload 5, 2) := by decide +kernel
theorem dX4_read_100 : decode cX4_read 100 = .ok (.bipush 35, 2) := by decide +kernel
theorem dX4_read_102 : decode cX4_read 102 = .ok (.if_icmp .ne 8, 3) := by decide +kernel
theorem dX4_read_105 : decode cX4_read 105 = .ok (.bipush 10, 2) := by decide +kernel
theorem dX4_read_107 : decode cX4_read 107 = .ok (.goto 8, 3) := by decide +kernel
theorem dX4_read_110 : decode cX4_read 110 = .ok (.iload 5, 2) := by decide +kernel
theorem dX4_read_112 : decode cX4_read 112 = .ok (.bipush 48, 2) := by decide +kernel
theorem dX4_read_114 : decode cX4_read 114 = .ok (.isub, 1) := by decide +kernel
theorem dX4_read_115 : decode cX4_read 115 = .ok (.iastore, 1) := by decide +kernel
theorem dX4_read_116 : decode cX4_read 116 = .ok (.iinc 2 1, 3) := by decide +kernel
theorem dX4_read_119 : decode cX4_read 119 = .ok (.iinc 4 1, 3) := by decide +kernel
theorem dX4_read_122 : decode cX4_read 122 = .ok (.goto (-107), 3) := by decide +kernel
theorem dX4_read_125 : decode cX4_read 125 = .ok (.iload_n 2, 1) := by decide +kernel
theorem dX4_read_126 : decode cX4_read 126 = .ok (.ifCond .le 14, 3) := by decide +kernel
theorem dX4_read_129 : decode cX4_read 129 = .ok (.sipush (-1000), 3) := by decide +kernel
theorem dX4_read_132 : decode cX4_read 132 = .ok (.aload_n 0, 1) := by decide +kernel
theorem dX4_read_133 : decode cX4_read 133 = .ok (.getfield 15, 3) := by decide +kernel
theorem dX4_read_136 : decode cX4_read 136 = .ok (.isub, 1) := by decide +kernel
theorem dX4_read_137 : decode cX4_read 137 = .ok (.goto 4, 3) := by decide +kernel
theorem dX4_read_140 : decode cX4_read 140 = .ok (.iload_n 3, 1) := by decide +kernel
theorem dX4_read_141 : decode cX4_read 141 = .ok (.ireturn, 1) := by decide +kernel
theorem dX4_isAllowed_0 : decode cX4_isAllowed 0 = .ok (.iload_n 2, 1) := by decide +kernel
theorem dX4_isAllowed_1 : decode cX4_isAllowed 1 = .ok (.bipush 12, 2) := by decide +kernel
theorem dX4_isAllowed_3 : decode cX4_isAllowed 3 = .ok (.if_icmp .lt 5, 3) := by decide +kernel
theorem dX4_isAllowed_6 : decode cX4_isAllowed 6 = .ok (.iconst 0, 1) := by decide +kernel
theorem dX4_isAllowed_7 : decode cX4_isAllowed 7 = .ok (.ireturn, 1) := by decide +kernel
theorem dX4_isAllowed_8 : decode cX4_isAllowed 8 = .ok (.iload_n 1, 1) := by decide +kernel
theorem dX4_isAllowed_9 : decode cX4_isAllowed 9 = .ok (.bipush 35, 2) := by decide +kernel
theorem dX4_isAllowed_11 : decode cX4_isAllowed 11 = .ok (.if_icmp .ne 23, 3) := by decide +kernel
theorem dX4_isAllowed_14 : decode cX4_isAllowed 14 = .ok (.aload_n 0, 1) := by decide +kernel
theorem dX4_isAllowed_15 : decode cX4_isAllowed 15 = .ok (.iload_n 2, 1) := by decide +kernel
theorem dX4_isAllowed_16 : decode cX4_isAllowed 16 = .ok (.iload_n 3, 1) := by decide +kernel
theorem dX4_isAllowed_17 : decode cX4_isAllowed 17 = .ok (.invokestatic 32, 3) := by decide +kernel
theorem dX4_isAllowed_20 : decode cX4_isAllowed 20 = .ok (.invokevirtual 36, 3) := by decide +kernel
theorem dX4_isAllowed_23 : decode cX4_isAllowed 23 = .ok (.bipush (-19), 2) := by decide +kernel
theorem dX4_isAllowed_25 : decode cX4_isAllowed 25 = .ok (.if_icmp .ne 7, 3) := by decide +kernel
theorem dX4_isAllowed_28 : decode cX4_isAllowed 28 = .ok (.iconst 1, 1) := by decide +kernel
theorem dX4_isAllowed_29 : decode cX4_isAllowed 29 = .ok (.goto 4, 3) := by decide +kernel
theorem dX4_isAllowed_32 : decode cX4_isAllowed 32 = .ok (.iconst 0, 1) := by decide +kernel
theorem dX4_isAllowed_33 : decode cX4_isAllowed 33 = .ok (.ireturn, 1) := by decide +kernel
theorem dX4_isAllowed_34 : decode cX4_isAllowed 34 = .ok (.iload_n 1, 1) := by decide +kernel
theorem dX4_isAllowed_35 : decode cX4_isAllowed 35 = .ok (.bipush 48, 2) := by decide +kernel
theorem dX4_isAllowed_37 : decode cX4_isAllowed 37 = .ok (.bipush 57, 2) := by decide +kernel
theorem dX4_isAllowed_39 : decode cX4_isAllowed 39 = .ok (.invokestatic 42, 3) := by decide +kernel
theorem dX4_isAllowed_42 : decode cX4_isAllowed 42 = .ok (.ireturn, 1) := by decide +kernel
theorem dX4_tellTo_0 : decode cX4_tellTo 0 = .ok (.iconst 0, 1) := by decide +kernel
theorem dX4_tellTo_1 : decode cX4_tellTo 1 = .ok (.istore_n 2, 1) := by decide +kernel
theorem dX4_tellTo_2 : decode cX4_tellTo 2 = .ok (.iload_n 2, 1) := by decide +kernel
theorem dX4_tellTo_3 : decode cX4_tellTo 3 = .ok (.bipush 120, 2) := by decide +kernel
theorem dX4_tellTo_5 : decode cX4_tellTo 5 = .ok (.if_icmp .ge 59, 3) := by decide +kernel
theorem dX4_tellTo_8 : decode cX4_tellTo 8 = .ok (.aload_n 0, 1) := by decide +kernel
theorem dX4_tellTo_9 : decode cX4_tellTo 9 = .ok (.getfield 19, 3) := by decide +kernel
theorem dX4_tellTo_12 : decode cX4_tellTo 12 = .ok (.iload_n 2, 1) := by decide +kernel
theorem dX4_tellTo_13 : decode cX4_tellTo 13 = .ok (.iaload, 1) := by decide +kernel
theorem dX4_tellTo_14 : decode cX4_tellTo 14 = .ok (.bipush 10, 2) := by decide +kernel
theorem dX4_tellTo_16 : decode cX4_tellTo 16 = .ok (.if_icmp .ne 13, 3) := by decide +kernel
theorem dX4_tellTo_19 : decode cX4_tellTo 19 = .ok (.aload_n 1, 1) := by decide +kernel
theorem dX4_tellTo_20 : decode cX4_tellTo 20 = .ok (.getfield 46, 3) := by decide +kernel
theorem dX4_tellTo_23 : decode cX4_tellTo 23 = .ok (.iload_n 2, 1) := by decide +kernel
theorem dX4_tellTo_24 : decode cX4_tellTo 24 = .ok (.iconst 1, 1) := by decide +kernel
theorem dX4_tellTo_25 : decode cX4_tellTo 25 = .ok (.iastore, 1) := by decide +kernel
theorem dX4_tellTo_26 : decode cX4_tellTo 26 = .ok (.goto 32, 3) := by decide +kernel
theorem dX4_tellTo_29 : decode cX4_tellTo 29 = .ok (.aload_n 0, 1) := by decide +kernel
theorem dX4_tellTo_30 : decode cX4_tellTo 30 = .ok (.getfield 19, 3) := by decide +kernel
theorem dX4_tellTo_33 : decode cX4_tellTo 33 = .ok (.iload_n 2, 1) := by decide +kernel
theorem dX4_tellTo_34 : decode cX4_tellTo 34 = .ok (.iaload, 1) := by decide +kernel
theorem dX4_tellTo_35 : decode cX4_tellTo 35 = .ok (.iconst (-1), 1) := by decide +kernel
theorem dX4_tellTo_36 : decode cX4_tellTo 36 = .ok (.if_icmp .eq 22, 3) := by decide +kernel
theorem dX4_tellTo_39 : decode cX4_tellTo 39 = .ok (.aload_n 1, 1) := by decide +kernel
theorem dX4_tellTo_40 : decode cX4_tellTo 40 = .ok (.getfield 46, 3) := by decide +kernel
theorem dX4_tellTo_43 : decode cX4_tellTo 43 = .ok (.iload_n 2, 1) := by decide +kernel
theorem dX4_tellTo_44 : decode cX4_tellTo 44 = .ok (.iconst 0, 1) := by decide +kernel
theorem dX4_tellTo_45 : decode cX4_tellTo 45 = .ok (.iastore, 1) := by decide +kernel
theorem dX4_tellTo_46 : decode cX4_tellTo 46 = .ok (.aload_n 1, 1) := by decide +kernel
theorem dX4_tellTo_47 : decode cX4_tellTo 47 = .ok (.getfield 49, 3) := by decide +kernel
theorem dX4_tellTo_50 : decode cX4_tellTo 50 = .ok (.iload_n 2, 1) := by decide +kernel
theorem dX4_tellTo_51 : decode cX4_tellTo 51 = .ok (.aload_n 0, 1) := by decide +kernel
theorem dX4_tellTo_52 : decode cX4_tellTo 52 = .ok (.getfield 19, 3) := by decide +kernel
theorem dX4_tellTo_55 : decode cX4_tellTo 55 = .ok (.iload_n 2, 1) := by decide +kernel
theorem dX4_tellTo_56 : decode cX4_tellTo 56 = .ok (.iaload, 1) := by decide +kernel
theorem dX4_tellTo_57 : decode cX4_tellTo 57 = .ok (.iastore, 1) := by decide +kernel
theorem dX4_tellTo_58 : decode cX4_tellTo 58 = .ok (.iinc 2 1, 3) := by decide +kernel
theorem dX4_tellTo_61 : decode cX4_tellTo 61 = .ok (.goto (-59), 3) := by decide +kernel
theorem dX4_tellTo_64 : decode cX4_tellTo 64 = .ok (.return_, 1) := by decide +kernel
theorem dX5_init_0 : decode cX5_init 0 = .ok (.aload_n 0, 1) := by decide +kernel
theorem dX5_init_1 : decode cX5_init 1 = .ok (.invokespecial 3, 3) := by decide +kernel
theorem dX5_init_4 : decode cX5_init 4 = .ok (.aload_n 0, 1) := by decide +kernel
theorem dX5_init_5 : decode cX5_init 5 = .ok (.bipush 120, 2) := by decide +kernel
theorem dX5_init_7 : decode cX5_init 7 = .ok (.newarray .int, 2) := by decide +kernel
theorem dX5_init_9 : decode cX5_init 9 = .ok (.putfield 9, 3) := by decide +kernel
theorem dX5_init_12 : decode cX5_init 12 = .ok (.aload_n 0, 1) := by decide +kernel
theorem dX5_init_13 : decode cX5_init 13 = .ok (.bipush 120, 2) := by decide +kernel
theorem dX5_init_15 : decode cX5_init 15 = .ok (.newarray .int, 2) := by decide +kernel
theorem dX5_init_17 : decode cX5_init 17 = .ok (.putfield 15, 3) := by decide +kernel
theorem dX5_init_20 : decode cX5_init 20 = .ok (.aload_n 0, 1) := by decide +kernel
theorem dX5_init_21 : decode cX5_init 21 = .ok (.iconst 0, 1) := by decide +kernel
theorem dX5_init_22 : decode cX5_init 22 = .ok (.putfield 18, 3) := by decide +kernel
theorem dX5_init_25 : decode cX5_init 25 = .ok (.return_, 1) := by decide +kernel
theorem dX5_shortest_0 : decode cX5_shortest 0 = .ok (.aload_n 0, 1) := by decide +kernel
theorem dX5_shortest_1 : decode cX5_shortest 1 = .ok (.getfield 9, 3) := by decide +kernel
theorem dX5_shortest_4 : decode cX5_shortest 4 = .ok (.iconst (-1), 1) := by decide +kernel
theorem dX5_shortest_5 : decode cX5_shortest 5 = .ok (.invokestatic 22, 3) := by decide +kernel
theorem dX5_shortest_8 : decode cX5_shortest 8 = .ok (.aload_n 0, 1) := by decide +kernel
theorem dX5_shortest_9 : decode cX5_shortest 9 = .ok (.iconst 0, 1) := by decide +kernel
theorem dX5_shortest_10 : decode cX5_shortest 10 = .ok (.putfield 18, 3) := by decide +kernel
theorem dX5_shortest_13 : decode cX5_shortest 13 = .ok (.aload_n 0, 1) := by decide +kernel
theorem dX5_shortest_14 : decode cX5_shortest 14 = .ok (.iload_n 2, 1) := by decide +kernel
theorem dX5_shortest_15 : decode cX5_shortest 15 = .ok (.iconst 0, 1) := by decide +kernel
theorem dX5_shortest_16 : decode cX5_shortest 16 = .ok (.invokevirtual 28, 3) := by decide +kernel
theorem dX5_shortest_19 : decode cX5_shortest 19 = .ok (.iconst 0, 1) := by decide +kernel
theorem dX5_shortest_20 : decode cX5_shortest 20 = .ok (.istore 4, 2) := by decide +kernel
theorem dX5_shortest_22 : decode cX5_shortest 22 = .ok (.iload 4, 2) := by decide +kernel
theorem dX5_shortest_24 : decode cX5_shortest 24 = .ok (.bipush 120, 2) := by decide +kernel
theorem dX5_shortest_26 : decode cX5_shortest 26 = .ok (.if_icmp .ge 43, 3) := by decide +kernel
theorem dX5_shortest_29 : decode cX5_shortest 29 = .ok (.aload_n 0, 1) := by decide +kernel
theorem dX5_shortest_30 : decode cX5_shortest 30 = .ok (.getfield 9, 3) := by decide +kernel
theorem dX5_shortest_33 : decode cX5_shortest 33 = .ok (.iload_n 3, 1) := by decide +kernel
theorem dX5_shortest_34 : decode cX5_shortest 34 = .ok (.iaload, 1) := by decide +kernel
theorem dX5_shortest_35 : decode cX5_shortest 35 = .ok (.iconst (-1), 1) := by decide +kernel
theorem dX5_shortest_36 : decode cX5_shortest 36 = .ok (.if_icmp .ne 33, 3) := by decide +kernel
theorem dX5_shortest_39 : decode cX5_shortest 39 = .ok (.iload 4, 2) := by decide +kernel
theorem dX5_shortest_41 : decode cX5_shortest 41 = .ok (.aload_n 0, 1) := by decide +kernel
theorem dX5_shortest_42 : decode cX5_shortest 42 = .ok (.getfield 18, 3) := by decide +kernel
theorem dX5_shortest_45 : decode cX5_shortest 45 = .ok (.if_icmp .lt 6, 3) := by decide +kernel
theorem dX5_shortest_48 : decode cX5_shortest 48 = .ok (.bipush (-19), 2) := by decide +kernel
theorem dX5_shortest_50 : decode cX5_shortest 50 = .ok (.ireturn, 1) := by decide +kernel
theorem dX5_shortest_51 : decode cX5_shortest 51 = .ok (.aload_n 0, 1) := by decide +kernel
theorem dX5_shortest_52 : decode cX5_shortest 52 = .ok (.aload_n 1, 1) := by decide +kernel
theorem dX5_shortest_53 : decode cX5_shortest 53 = .ok (.aload_n 0, 1) := by decide +kernel
theorem dX5_shortest_54 : decode cX5_shortest 54 = .ok (.getfield 15, 3) := by decide +kernel
theorem dX5_shortest_57 : decode cX5_shortest 57 = .ok (.iload 4, 2) := by decide +kernel
theorem dX5_shortest_59 : decode cX5_shortest 59 = .ok (.iaload, 1) := by decide +kernel
theorem dX5_shortest_60 : decode cX5_shortest 60 = .ok (.invokevirtual 32, 3) := by decide +kernel
theorem dX5_shortest_63 : decode cX5_shortest 63 = .ok (.iinc 4 1, 3) := by decide +kernel
theorem dX5_shortest_66 : decode cX5_shortest 66 = .ok (.goto (-44), 3) := by decide +kernel
theorem dX5_shortest_69 : decode cX5_shortest 69 = .ok (.aload_n 0, 1) := by decide +kernel
theorem dX5_shortest_70 : decode cX5_shortest 70 = .ok (.getfield 9, 3) := by decide +kernel
theorem dX5_shortest_73 : decode cX5_shortest 73 = .ok (.iload_n 3, 1) := by decide +kernel
theorem dX5_shortest_74 : decode cX5_shortest 74 = .ok (.iaload, 1) := by decide +kernel
theorem dX5_shortest_75 : decode cX5_shortest 75 = .ok (.iconst (-1), 1) := by decide +kernel
theorem dX5_shortest_76 : decode cX5_shortest 76 = .ok (.if_icmp .ne 8, 3) := by decide +kernel
theorem dX5_shortest_79 : decode cX5_shortest 79 = .ok (.bipush (-19), 2) := by decide +kernel
theorem dX5_shortest_81 : decode cX5_shortest 81 = .ok (.goto 9, 3) := by decide +kernel
theorem dX5_shortest_84 : decode cX5_shortest 84 = .ok (.aload_n 0, 1) := by decide +kernel
theorem dX5_shortest_85 : decode cX5_shortest 85 = .ok (.getfield 9, 3) := by decide +kernel
theorem dX5_shortest_88 : decode cX5_shortest 88 = .ok (.iload_n 3, 1) := by decide +kernel
theorem dX5_shortest_89 : decode cX5_shortest 89 = .ok (.iaload, 1) := by decide +kernel
theorem dX5_shortest_90 : decode cX5_shortest 90 = .ok (.ireturn, 1) := by decide +kernel
theorem dX5_reachNeighbors_0 : decode cX5_reachNeighbors 0 = .ok (.iconst (-1), 1) := by decide +kernel
theorem dX5_reachNeighbors_1 : decode cX5_reachNeighbors 1 = .ok (.istore_n 3, 1) := by decide +kernel
theorem dX5_reachNeighbors_2 : decode cX5_reachNeighbors 2 = .ok (.iload_n 3, 1) := by decide +kernel
theorem dX5_reachNeighbors_3 : decode cX5_reachNeighbors 3 = .ok (.iconst 1, 1) := by decide +kernel
theorem dX5_reachNeighbors_4 : decode cX5_reachNeighbors 4 = .ok (.if_icmp .gt 85, 3) := by decide +kernel
theorem dX5_reachNeighbors_7 : decode cX5_reachNeighbors 7 = .ok (.iconst (-1), 1) := by decide +kernel
theorem dX5_reachNeighbors_8 : decode cX5_reachNeighbors 8 = .ok (.istore 4, 2) := by decide +kernel
theorem dX5_reachNeighbors_10 : decode cX5_reachNeighbors 10 = .ok (.iload 4, 2) := by decide +kernel
theorem dX5_reachNeighbors_12 : decode cX5_reachNeighbors 12 = .ok (.iconst 1, 1) := by decide +kernel
theorem dX5_reachNeighbors_13 : decode cX5_reachNeighbors 13 = .ok (.if_icmp .gt 70, 3) := by decide +kernel
theorem dX5_reachNeighbors_16 : decode cX5_reachNeighbors 16 = .ok (.iload_n 2, 1) := by decide +kernel
theorem dX5_reachNeighbors_17 : decode cX5_reachNeighbors 17 = .ok (.invokestatic 36, 3) := by decide +kernel
theorem dX5_reachNeighbors_20 : decode cX5_reachNeighbors 20 = .ok (.iload 4, 2) := by decide +kernel
theorem dX5_reachNeighbors_22 : decode cX5_reachNeighbors 22 = .ok (.iadd, 1) := by decide +kernel
theorem dX5_reachNeighbors_23 : decode cX5_reachNeighbors 23 = .ok (.istore 5, 2) := by decide +kernel
theorem dX5_reachNeighbors_25 : decode cX5_reachNeighbors 25 = .ok (.iload_n 2, 1) := by decide +kernel
theorem dX5_reachNeighbors_26 : decode cX5_reachNeighbors 26 = .ok (.invokestatic 40, 3) := by decide +kernel
theorem dX5_reachNeighbors_29 : decode cX5_reachNeighbors 29 = .ok (.iload_n 3, 1) := by decide +kernel
theorem dX5_reachNeighbors_30 : decode cX5_reachNeighbors 30 = .ok (.iadd, 1) := by decide +kernel
theorem dX5_reachNeighbors_31 : decode cX5_reachNeighbors 31 = .ok (.istore 6, 2) := by decide +kernel
theorem dX5_reachNeighbors_33 : decode cX5_reachNeighbors 33 = .ok (.iload 5, 2) := by decide +kernel
theorem dX5_reachNeighbors_35 : decode cX5_reachNeighbors 35 = .ok (.iload 6, 2) := by decide +kernel
theorem dX5_reachNeighbors_37 : decode cX5_reachNeighbors 37 = .ok (.invokestatic 43, 3) := by decide +kernel
theorem dX5_reachNeighbors_40 : decode cX5_reachNeighbors 40 = .ok (.ifCond .eq 37, 3) := by decide +kernel
theorem dX5_reachNeighbors_43 : decode cX5_reachNeighbors 43 = .ok (.aload_n 1, 1) := by decide +kernel
theorem dX5_reachNeighbors_44 : decode cX5_reachNeighbors 44 = .ok (.iload_n 2, 1) := by decide +kernel
theorem dX5_reachNeighbors_45 : decode cX5_reachNeighbors 45 = .ok (.iload 5, 2) := by decide +kernel
theorem dX5_reachNeighbors_47 : decode cX5_reachNeighbors 47 = .ok (.iload 6, 2) := by decide +kernel
theorem dX5_reachNeighbors_49 : decode cX5_reachNeighbors 49 = .ok (.invokestatic 47, 3) := by decide +kernel
theorem dX5_reachNeighbors_52 : decode cX5_reachNeighbors 52 = .ok (.invokevirtual 51, 3) := by decide +kernel
theorem dX5_reachNeighbors_55 : decode cX5_reachNeighbors 55 = .ok (.ifCond .eq 22, 3) := by decide +kernel
theorem dX5_reachNeighbors_58 : decode cX5_reachNeighbors 58 = .ok (.aload_n 0, 1) := by decide +kernel
theorem dX5_reachNeighbors_59 : decode cX5_reachNeighbors 59 = .ok (.iload 5, 2) := by decide +kernel
theorem dX5_reachNeighbors_61 : decode cX5_reachNeighbors 61 = .ok (.iload 6, 2) := by decide +kernel
theorem dX5_reachNeighbors_63 : decode cX5_reachNeighbors 63 = .ok (.invokestatic 47, 3) := by decide +kernel
theorem dX5_reachNeighbors_66 : decode cX5_reachNeighbors 66 = .ok (.aload_n 0, 1) := by decide +kernel
theorem dX5_reachNeighbors_67 : decode cX5_reachNeighbors 67 = .ok (.getfield 9, 3) := by decide +kernel
theorem dX5_reachNeighbors_70 : decode cX5_reachNeighbors 70 = .ok (.iload_n 2, 1) := by decide +kernel
theorem dX5_reachNeighbors_71 : decode cX5_reachNeighbors 71 = .ok (.iaload, 1) := by decide +kernel
theorem dX5_reachNeighbors_72 : decode cX5_reachNeighbors 72 = .ok (.iconst 1, 1) := by decide +kernel
theorem dX5_reachNeighbors_73 : decode cX5_reachNeighbors 73 = .ok (.iadd, 1) := by decide +kernel
theorem dX5_reachNeighbors_74 : decode cX5_reachNeighbors 74 = .ok (.invokevirtual 28, 3) := by decide +kernel
theorem dX5_reachNeighbors_77 : decode cX5_reachNeighbors 77 = .ok (.iinc 4 1, 3) := by decide +kernel
theorem dX5_reachNeighbors_80 : decode cX5_reachNeighbors 80 = .ok (.goto (-70), 3) := by decide +kernel
theorem dX5_reachNeighbors_83 : decode cX5_reachNeighbors 83 = .ok (.iinc 3 1, 3) := by decide +kernel
theorem dX5_reachNeighbors_86 : decode cX5_reachNeighbors 86 = .ok (.goto (-84), 3) := by decide +kernel
theorem dX5_reachNeighbors_89 : decode cX5_reachNeighbors 89 = .ok (.return_, 1) := by decide +kernel
theorem dX5_reach_0 : decode cX5_reach 0 = .ok (.aload_n 0, 1) := by decide +kernel
theorem dX5_reach_1 : decode cX5_reach 1 = .ok (.getfield 9, 3) := by decide +kernel
theorem dX5_reach_4 : decode cX5_reach 4 = .ok (.iload_n 1, 1) := by decide +kernel
theorem dX5_reach_5 : decode cX5_reach 5 = .ok (.iaload, 1) := by decide +kernel
theorem dX5_reach_6 : decode cX5_reach 6 = .ok (.iconst (-1), 1) := by decide +kernel
theorem dX5_reach_7 : decode cX5_reach 7 = .ok (.if_icmp .ne 39, 3) := by decide +kernel
theorem dX5_reach_10 : decode cX5_reach 10 = .ok (.aload_n 0, 1) := by decide +kernel
theorem dX5_reach_11 : decode cX5_reach 11 = .ok (.getfield 18, 3) := by decide +kernel
theorem dX5_reach_14 : decode cX5_reach 14 = .ok (.bipush 120, 2) := by decide +kernel
theorem dX5_reach_16 : decode cX5_reach 16 = .ok (.if_icmp .ge 30, 3) := by decide +kernel
theorem dX5_reach_19 : decode cX5_reach 19 = .ok (.aload_n 0, 1) := by decide +kernel
theorem dX5_reach_20 : decode cX5_reach 20 = .ok (.getfield 9, 3) := by decide +kernel
theorem dX5_reach_23 : decode cX5_reach 23 = .ok (.iload_n 1, 1) := by decide +kernel
theorem dX5_reach_24 : decode cX5_reach 24 = .ok (.iload_n 2, 1) := by decide +kernel
theorem dX5_reach_25 : decode cX5_reach 25 = .ok (.iastore, 1) := by decide +kernel
theorem dX5_reach_26 : decode cX5_reach 26 = .ok (.aload_n 0, 1) := by decide +kernel
theorem dX5_reach_27 : decode cX5_reach 27 = .ok (.getfield 15, 3) := by decide +kernel
theorem dX5_reach_30 : decode cX5_reach 30 = .ok (.aload_n 0, 1) := by decide +kernel
theorem dX5_reach_31 : decode cX5_reach 31 = .ok (.getfield 18, 3) := by decide +kernel
theorem dX5_reach_34 : decode cX5_reach 34 = .ok (.iload_n 1, 1) := by decide +kernel
theorem dX5_reach_35 : decode cX5_reach 35 = .ok (.iastore, 1) := by decide +kernel
theorem dX5_reach_36 : decode cX5_reach 36 = .ok (.aload_n 0, 1) := by decide +kernel
theorem dX5_reach_37 : decode cX5_reach 37 = .ok (.dup, 1) := by decide +kernel
theorem dX5_reach_38 : decode cX5_reach 38 = .ok (.getfield 18, 3) := by decide +kernel
theorem dX5_reach_41 : decode cX5_reach 41 = .ok (.iconst 1, 1) := by decide +kernel
theorem dX5_reach_42 : decode cX5_reach 42 = .ok (.iadd, 1) := by decide +kernel
theorem dX5_reach_43 : decode cX5_reach 43 = .ok (.putfield 18, 3) := by decide +kernel
theorem dX5_reach_46 : decode cX5_reach 46 = .ok (.return_, 1) := by decide +kernel
theorem dX6_init_0 : decode cX6_init 0 = .ok (.aload_n 0, 1) := by decide +kernel
theorem dX6_init_1 : decode cX6_init 1 = .ok (.invokespecial 3, 3) := by decide +kernel
theorem dX6_init_4 : decode cX6_init 4 = .ok (.aload_n 0, 1) := by decide +kernel
theorem dX6_init_5 : decode cX6_init 5 = .ok (.new 9, 3) := by decide +kernel
theorem dX6_init_8 : decode cX6_init 8 = .ok (.dup, 1) := by decide +kernel
theorem dX6_init_9 : decode cX6_init 9 = .ok (.invokespecial 11, 3) := by decide +kernel
theorem dX6_init_12 : decode cX6_init 12 = .ok (.putfield 12, 3) := by decide +kernel
theorem dX6_init_15 : decode cX6_init 15 = .ok (.aload_n 0, 1) := by decide +kernel
theorem dX6_init_16 : decode cX6_init 16 = .ok (.new 16, 3) := by decide +kernel
theorem dX6_init_19 : decode cX6_init 19 = .ok (.dup, 1) := by decide +kernel
theorem dX6_init_20 : decode cX6_init 20 = .ok (.invokespecial 18, 3) := by decide +kernel
theorem dX6_init_23 : decode cX6_init 23 = .ok (.putfield 19, 3) := by decide +kernel
theorem dX6_init_26 : decode cX6_init 26 = .ok (.aload_n 0, 1) := by decide +kernel
theorem dX6_init_27 : decode cX6_init 27 = .ok (.new 23, 3) := by decide +kernel
theorem dX6_init_30 : decode cX6_init 30 = .ok (.dup, 1) := by decide +kernel
theorem dX6_init_31 : decode cX6_init 31 = .ok (.invokespecial 25, 3) := by decide +kernel
theorem dX6_init_34 : decode cX6_init 34 = .ok (.putfield 26, 3) := by decide +kernel
theorem dX6_init_37 : decode cX6_init 37 = .ok (.aload_n 0, 1) := by decide +kernel
theorem dX6_init_38 : decode cX6_init 38 = .ok (.new 30, 3) := by decide +kernel
theorem dX6_init_41 : decode cX6_init 41 = .ok (.dup, 1) := by decide +kernel
theorem dX6_init_42 : decode cX6_init 42 = .ok (.invokespecial 32, 3) := by decide +kernel
theorem dX6_init_45 : decode cX6_init 45 = .ok (.putfield 33, 3) := by decide +kernel
theorem dX6_init_48 : decode cX6_init 48 = .ok (.aload_n 0, 1) := by decide +kernel
theorem dX6_init_49 : decode cX6_init 49 = .ok (.new 37, 3) := by decide +kernel
theorem dX6_init_52 : decode cX6_init 52 = .ok (.dup, 1) := by decide +kernel
theorem dX6_init_53 : decode cX6_init 53 = .ok (.invokespecial 39, 3) := by decide +kernel
theorem dX6_init_56 : decode cX6_init 56 = .ok (.putfield 40, 3) := by decide +kernel
theorem dX6_init_59 : decode cX6_init 59 = .ok (.return_, 1) := by decide +kernel
theorem dX6_setHeight_0 : decode cX6_setHeight 0 = .ok (.iload_n 1, 1) := by decide +kernel
theorem dX6_setHeight_1 : decode cX6_setHeight 1 = .ok (.iload_n 2, 1) := by decide +kernel
theorem dX6_setHeight_2 : decode cX6_setHeight 2 = .ok (.invokestatic 44, 3) := by decide +kernel
theorem dX6_setHeight_5 : decode cX6_setHeight 5 = .ok (.ifCond .eq 13, 3) := by decide +kernel
theorem dX6_setHeight_8 : decode cX6_setHeight 8 = .ok (.iload_n 3, 1) := by decide +kernel
theorem dX6_setHeight_9 : decode cX6_setHeight 9 = .ok (.iconst 0, 1) := by decide +kernel
theorem dX6_setHeight_10 : decode cX6_setHeight 10 = .ok (.bipush 9, 2) := by decide +kernel
theorem dX6_setHeight_12 : decode cX6_setHeight 12 = .ok (.invokestatic 48, 3) := by decide +kernel
theorem dX6_setHeight_15 : decode cX6_setHeight 15 = .ok (.ifCond .ne 6, 3) := by decide +kernel
theorem dX6_setHeight_18 : decode cX6_setHeight 18 = .ok (.bipush (-11), 2) := by decide +kernel
theorem dX6_setHeight_20 : decode cX6_setHeight 20 = .ok (.ireturn, 1) := by decide +kernel
theorem dX6_setHeight_21 : decode cX6_setHeight 21 = .ok (.iload_n 1, 1) := by decide +kernel
theorem dX6_setHeight_22 : decode cX6_setHeight 22 = .ok (.iload_n 2, 1) := by decide +kernel
theorem dX6_setHeight_23 : decode cX6_setHeight 23 = .ok (.invokestatic 52, 3) := by decide +kernel
theorem dX6_setHeight_26 : decode cX6_setHeight 26 = .ok (.istore 4, 2) := by decide +kernel
theorem dX6_setHeight_28 : decode cX6_setHeight 28 = .ok (.aload_n 0, 1) := by decide +kernel
theorem dX6_setHeight_29 : decode cX6_setHeight 29 = .ok (.getfield 12, 3) := by decide +kernel
theorem dX6_setHeight_32 : decode cX6_setHeight 32 = .ok (.getfield 56, 3) := by decide +kernel
theorem dX6_setHeight_35 : decode cX6_setHeight 35 = .ok (.iload 4, 2) := by decide +kernel
theorem dX6_setHeight_37 : decode cX6_setHeight 37 = .ok (.iaload, 1) := by decide +kernel
theorem dX6_setHeight_38 : decode cX6_setHeight 38 = .ok (.istore 5, 2) := by decide +kernel
theorem dX6_setHeight_40 : decode cX6_setHeight 40 = .ok (.aload_n 0, 1) := by decide +kernel
theorem dX6_setHeight_41 : decode cX6_setHeight 41 = .ok (.getfield 26, 3) := by decide +kernel
theorem dX6_setHeight_44 : decode cX6_setHeight 44 = .ok (.aload_n 0, 1) := by decide +kernel
theorem dX6_setHeight_45 : decode cX6_setHeight 45 = .ok (.getfield 12, 3) := by decide +kernel
theorem dX6_setHeight_48 : decode cX6_setHeight 48 = .ok (.invokevirtual 60, 3) := by decide +kernel
theorem dX6_setHeight_51 : decode cX6_setHeight 51 = .ok (.aload_n 0, 1) := by decide +kernel
theorem dX6_setHeight_52 : decode cX6_setHeight 52 = .ok (.getfield 12, 3) := by decide +kernel
theorem dX6_setHeight_55 : decode cX6_setHeight 55 = .ok (.getfield 56, 3) := by decide +kernel
theorem dX6_setHeight_58 : decode cX6_setHeight 58 = .ok (.iload 4, 2) := by decide +kernel
theorem dX6_setHeight_60 : decode cX6_setHeight 60 = .ok (.iload_n 3, 1) := by decide +kernel
theorem dX6_setHeight_61 : decode cX6_setHeight 61 = .ok (.iastore, 1) := by decide +kernel
theorem dX6_setHeight_62 : decode cX6_setHeight 62 = .ok (.aload_n 0, 1) := by decide +kernel
theorem dX6_setHeight_63 : decode cX6_setHeight 63 = .ok (.invokevirtual 64, 3) := by decide +kernel
theorem dX6_setHeight_66 : decode cX6_setHeight 66 = .ok (.iload 5, 2) := by decide +kernel
theorem dX6_setHeight_68 : decode cX6_setHeight 68 = .ok (.ireturn, 1) := by decide +kernel
theorem dX6_setWall_0 : decode cX6_setWall 0 = .ok (.iload_n 1, 1) := by decide +kernel
theorem dX6_setWall_1 : decode cX6_setWall 1 = .ok (.iload_n 2, 1) := by decide +kernel
theorem dX6_setWall_2 : decode cX6_setWall 2 = .ok (.invokestatic 44, 3) := by decide +kernel
theorem dX6_setWall_5 : decode cX6_setWall 5 = .ok (.ifCond .eq 12, 3) := by decide +kernel
theorem dX6_setWall_8 : decode cX6_setWall 8 = .ok (.iload_n 3, 1) := by decide +kernel
theorem dX6_setWall_9 : decode cX6_setWall 9 = .ok (.iconst 0, 1) := by decide +kernel
theorem dX6_setWall_10 : decode cX6_setWall 10 = .ok (.iconst 1, 1) := by decide +kernel
theorem dX6_setWall_11 : decode cX6_setWall 11 = .ok (.invokestatic 48, 3) := by decide +kernel
theorem dX6_setWall_14 : decode cX6_setWall 14 = .ok (.ifCond .ne 6, 3) := by decide +kernel
theorem dX6_setWall_17 : decode cX6_setWall 17 = .ok (.bipush (-11), 2) := by decide +kernel
theorem dX6_setWall_19 : decode cX6_setWall 19 = .ok (.ireturn, 1) := by decide +kernel
theorem dX6_setWall_20 : decode cX6_setWall 20 = .ok (.iload_n 1, 1) := by decide +kernel
theorem dX6_setWall_21 : decode cX6_setWall 21 = .ok (.iload_n 2, 1) := by decide +kernel
theorem dX6_setWall_22 : decode cX6_setWall 22 = .ok (.invokestatic 52, 3) := by decide +kernel
theorem dX6_setWall_25 : decode cX6_setWall 25 = .ok (.istore 4, 2) := by decide +kernel
theorem dX6_setWall_27 : decode cX6_setWall 27 = .ok (.iload_n 3, 1) := by decide +kernel
theorem dX6_setWall_28 : decode cX6_setWall 28 = .ok (.iconst 1, 1) := by decide +kernel
theorem dX6_setWall_29 : decode cX6_setWall 29 = .ok (.if_icmp .ne 20, 3) := by decide +kernel
theorem dX6_setWall_32 : decode cX6_setWall 32 = .ok (.aload_n 0, 1) := by decide +kernel
theorem dX6_setWall_33 : decode cX6_setWall 33 = .ok (.getfield 12, 3) := by decide +kernel
theorem dX6_setWall_36 : decode cX6_setWall 36 = .ok (.iload 4, 2) := by decide +kernel
theorem dX6_setWall_38 : decode cX6_setWall 38 = .ok (.invokevirtual 67, 3) := by decide +kernel
theorem dX6_setWall_41 : decode cX6_setWall 41 = .ok (.bipush (-19), 2) := by decide +kernel
theorem dX6_setWall_43 : decode cX6_setWall 43 = .ok (.if_icmp .eq 6, 3) := by decide +kernel
theorem dX6_setWall_46 : decode cX6_setWall 46 = .ok (.bipush (-12), 2) := by decide +kernel
theorem dX6_setWall_48 : decode cX6_setWall 48 = .ok (.ireturn, 1) := by decide +kernel
theorem dX6_setWall_49 : decode cX6_setWall 49 = .ok (.aload_n 0, 1) := by decide +kernel
theorem dX6_setWall_50 : decode cX6_setWall 50 = .ok (.getfield 12, 3) := by decide +kernel
theorem dX6_setWall_53 : decode cX6_setWall 53 = .ok (.getfield 71, 3) := by decide +kernel
theorem dX6_setWall_56 : decode cX6_setWall 56 = .ok (.iload 4, 2) := by decide +kernel
theorem dX6_setWall_58 : decode cX6_setWall 58 = .ok (.iaload, 1) := by decide +kernel
theorem dX6_setWall_59 : decode cX6_setWall 59 = .ok (.istore 5, 2) := by decide +kernel
theorem dX6_setWall_61 : decode cX6_setWall 61 = .ok (.aload_n 0, 1) := by decide +kernel
theorem dX6_setWall_62 : decode cX6_setWall 62 = .ok (.getfield 26, 3) := by decide +kernel
theorem dX6_setWall_65 : decode cX6_setWall 65 = .ok (.aload_n 0, 1) := by decide +kernel
theorem dX6_setWall_66 : decode cX6_setWall 66 = .ok (.getfield 12, 3) := by decide +kernel
theorem dX6_setWall_69 : decode cX6_setWall 69 = .ok (.invokevirtual 60, 3) := by decide +kernel
theorem dX6_setWall_72 : decode cX6_setWall 72 = .ok (.aload_n 0, 1) := by decide +kernel
theorem dX6_setWall_73 : decode cX6_setWall 73 = .ok (.getfield 12, 3) := by decide +kernel
theorem dX6_setWall_76 : decode cX6_setWall 76 = .ok (.getfield 71, 3) := by decide +kernel
theorem dX6_setWall_79 : decode cX6_setWall 79 = .ok (.iload 4, 2) := by decide +kernel
theorem dX6_setWall_81 : decode cX6_setWall 81 = .ok (.iload_n 3, 1) := by decide +kernel
theorem dX6_setWall_82 : decode cX6_setWall 82 = .ok (.iastore, 1) := by decide +kernel
theorem dX6_setWall_83 : decode cX6_setWall 83 = .ok (.aload_n 0, 1) := by decide +kernel
theorem dX6_setWall_84 : decode cX6_setWall 84 = .ok (.invokevirtual 64, 3) := by decide +kernel
theorem dX6_setWall_87 : decode cX6_setWall 87 = .ok (.iload 5, 2) := by decide +kernel
theorem dX6_setWall_89 : decode cX6_setWall 89 = .ok (.ireturn, 1) := by decide +kernel
theorem dX6_append_0 : decode cX6_append 0 = .ok (.iload_n 1, 1) := by decide +kernel
theorem dX6_append_1 : decode cX6_append 1 = .ok (.iconst 1, 1) := by decide +kernel
theorem dX6_append_2 : decode cX6_append 2 = .ok (.sipush 255, 3) := by decide +kernel
theorem dX6_append_5 : decode cX6_append 5 = .ok (.invokestatic 48, 3) := by decide +kernel
theorem dX6_append_8 : decode cX6_append 8 = .ok (.ifCond .ne 6, 3) := by decide +kernel
theorem dX6_append_11 : decode cX6_append 11 = .ok (.bipush (-11), 2) := by decide +kernel
theorem dX6_append_13 : decode cX6_append 13 = .ok (.ireturn, 1) := by decide +kernel
theorem dX6_append_14 : decode cX6_append 14 = .ok (.aload_n 0, 1) := by decide +kernel
theorem dX6_append_15 : decode cX6_append 15 = .ok (.getfield 33, 3) := by decide +kernel
theorem dX6_append_18 : decode cX6_append 18 = .ok (.getfield 74, 3) := by decide +kernel
theorem dX6_append_21 : decode cX6_append 21 = .ok (.bipush 120, 2) := by decide +kernel
theorem dX6_append_23 : decode cX6_append 23 = .ok (.if_icmp .lt 6, 3) := by decide +kernel
theorem dX6_append_26 : decode cX6_append 26 = .ok (.bipush (-13), 2) := by decide +kernel
theorem dX6_append_28 : decode cX6_append 28 = .ok (.ireturn, 1) := by decide +kernel
theorem dX6_append_29 : decode cX6_append 29 = .ok (.aload_n 0, 1) := by decide +kernel
theorem dX6_append_30 : decode cX6_append 30 = .ok (.getfield 33, 3) := by decide +kernel
theorem dX6_append_33 : decode cX6_append 33 = .ok (.iload_n 1, 1) := by decide +kernel
theorem dX6_append_34 : decode cX6_append 34 = .ok (.invokevirtual 78, 3) := by decide +kernel
theorem dX6_append_37 : decode cX6_append 37 = .ok (.aload_n 0, 1) := by decide +kernel
theorem dX6_append_38 : decode cX6_append 38 = .ok (.getfield 33, 3) := by decide +kernel
theorem dX6_append_41 : decode cX6_append 41 = .ok (.getfield 74, 3) := by decide +kernel
theorem dX6_append_44 : decode cX6_append 44 = .ok (.ireturn, 1) := by decide +kernel
theorem dX6_clearText_0 : decode cX6_clearText 0 = .ok (.aload_n 0, 1) := by decide +kernel
theorem dX6_clearText_1 : decode cX6_clearText 1 = .ok (.getfield 33, 3) := by decide +kernel
theorem dX6_clearText_4 : decode cX6_clearText 4 = .ok (.getfield 74, 3) := by decide +kernel
theorem dX6_clearText_7 : decode cX6_clearText 7 = .ok (.istore_n 1, 1) := by decide +kernel
theorem dX6_clearText_8 : decode cX6_clearText 8 = .ok (.aload_n 0, 1) := by decide +kernel
theorem dX6_clearText_9 : decode cX6_clearText 9 = .ok (.getfield 33, 3) := by decide +kernel
theorem dX6_clearText_12 : decode cX6_clearText 12 = .ok (.iconst 0, 1) := by decide +kernel
theorem dX6_clearText_13 : decode cX6_clearText 13 = .ok (.putfield 74, 3) := by decide +kernel
theorem dX6_clearText_16 : decode cX6_clearText 16 = .ok (.iload_n 1, 1) := by decide +kernel
theorem dX6_clearText_17 : decode cX6_clearText 17 = .ok (.ireturn, 1) := by decide +kernel
theorem dX6_load_0 : decode cX6_load 0 = .ok (.aload_n 0, 1) := by decide +kernel
theorem dX6_load_1 : decode cX6_load 1 = .ok (.getfield 33, 3) := by decide +kernel
theorem dX6_load_4 : decode cX6_load 4 = .ok (.aload_n 0, 1) := by decide +kernel
theorem dX6_load_5 : decode cX6_load 5 = .ok (.getfield 12, 3) := by decide +kernel
theorem dX6_load_8 : decode cX6_load 8 = .ok (.invokevirtual 82, 3) := by decide +kernel
theorem dX6_load_11 : decode cX6_load 11 = .ok (.istore_n 1, 1) := by decide +kernel
theorem dX6_load_12 : decode cX6_load 12 = .ok (.iload_n 1, 1) := by decide +kernel
theorem dX6_load_13 : decode cX6_load 13 = .ok (.ifCond .ge 5, 3) := by decide +kernel
theorem dX6_load_16 : decode cX6_load 16 = .ok (.iload_n 1, 1) := by decide +kernel
theorem dX6_load_17 : decode cX6_load 17 = .ok (.ireturn, 1) := by decide +kernel
theorem dX6_load_18 : decode cX6_load 18 = .ok (.aload_n 0, 1) := by decide +kernel
theorem dX6_load_19 : decode cX6_load 19 = .ok (.getfield 26, 3) := by decide +kernel
theorem dX6_load_22 : decode cX6_load 22 = .ok (.aload_n 0, 1) := by decide +kernel
theorem dX6_load_23 : decode cX6_load 23 = .ok (.getfield 12, 3) := by decide +kernel
theorem dX6_load_26 : decode cX6_load 26 = .ok (.invokevirtual 60, 3) := by decide +kernel
theorem dX6_load_29 : decode cX6_load 29 = .ok (.aload_n 0, 1) := by decide +kernel
theorem dX6_load_30 : decode cX6_load 30 = .ok (.getfield 33, 3) := by decide +kernel
theorem dX6_load_33 : decode cX6_load 33 = .ok (.aload_n 0, 1) := by decide +kernel
theorem dX6_load_34 : decode cX6_load 34 = .ok (.getfield 12, 3) := by decide +kernel
theorem dX6_load_37 : decode cX6_load 37 = .ok (.invokevirtual 86, 3) := by decide +kernel
theorem dX6_load_40 : decode cX6_load 40 = .ok (.aload_n 0, 1) := by decide +kernel
theorem dX6_load_41 : decode cX6_load 41 = .ok (.getfield 33, 3) := by decide +kernel
theorem dX6_load_44 : decode cX6_load 44 = .ok (.iconst 0, 1) := by decide +kernel
theorem dX6_load_45 : decode cX6_load 45 = .ok (.putfield 74, 3) := by decide +kernel
theorem dX6_load_48 : decode cX6_load 48 = .ok (.aload_n 0, 1) := by decide +kernel
theorem dX6_load_49 : decode cX6_load 49 = .ok (.invokevirtual 64, 3) := by decide +kernel
theorem dX6_load_52 : decode cX6_load 52 = .ok (.iload_n 1, 1) := by decide +kernel
theorem dX6_load_53 : decode cX6_load 53 = .ok (.ireturn, 1) := by decide +kernel
theorem dX6_addScout_0 : decode cX6_addScout 0 = .ok (.iload_n 1, 1) := by decide +kernel
theorem dX6_addScout_1 : decode cX6_addScout 1 = .ok (.iconst 0, 1) := by decide +kernel
theorem dX6_addScout_2 : decode cX6_addScout 2 = .ok (.iconst 1, 1) := by decide +kernel
theorem dX6_addScout_3 : decode cX6_addScout 3 = .ok (.invokestatic 48, 3) := by decide +kernel
theorem dX6_addScout_6 : decode cX6_addScout 6 = .ok (.ifCond .eq 22, 3) := by decide +kernel
theorem dX6_addScout_9 : decode cX6_addScout 9 = .ok (.iload_n 2, 1) := by decide +kernel
theorem dX6_addScout_10 : decode cX6_addScout 10 = .ok (.iload_n 3, 1) := by decide +kernel
theorem dX6_addScout_11 : decode cX6_addScout 11 = .ok (.invokestatic 44, 3) := by decide +kernel
theorem dX6_addScout_14 : decode cX6_addScout 14 = .ok (.ifCond .eq 14, 3) := by decide +kernel
theorem dX6_addScout_17 : decode cX6_addScout 17 = .ok (.iload 4, 2) := by decide +kernel
theorem dX6_addScout_19 : decode cX6_addScout 19 = .ok (.iconst 1, 1) := by decide +kernel
theorem dX6_addScout_20 : decode cX6_addScout 20 = .ok (.bipush 8, 2) := by decide +kernel
theorem dX6_addScout_22 : decode cX6_addScout 22 = .ok (.invokestatic 48, 3) := by decide +kernel
theorem dX6_addScout_25 : decode cX6_addScout 25 = .ok (.ifCond .ne 6, 3) := by decide +kernel
theorem dX6_addScout_28 : decode cX6_addScout 28 = .ok (.bipush (-11), 2) := by decide +kernel
theorem dX6_addScout_30 : decode cX6_addScout 30 = .ok (.ireturn, 1) := by decide +kernel
theorem dX6_addScout_31 : decode cX6_addScout 31 = .ok (.iload_n 2, 1) := by decide +kernel
theorem dX6_addScout_32 : decode cX6_addScout 32 = .ok (.iload_n 3, 1) := by decide +kernel
theorem dX6_addScout_33 : decode cX6_addScout 33 = .ok (.invokestatic 52, 3) := by decide +kernel
theorem dX6_addScout_36 : decode cX6_addScout 36 = .ok (.istore 5, 2) := by decide +kernel
theorem dX6_addScout_38 : decode cX6_addScout 38 = .ok (.aload_n 0, 1) := by decide +kernel
theorem dX6_addScout_39 : decode cX6_addScout 39 = .ok (.getfield 12, 3) := by decide +kernel
theorem dX6_addScout_42 : decode cX6_addScout 42 = .ok (.iload 5, 2) := by decide +kernel
theorem dX6_addScout_44 : decode cX6_addScout 44 = .ok (.invokevirtual 89, 3) := by decide +kernel
theorem dX6_addScout_47 : decode cX6_addScout 47 = .ok (.ifCond .ne 6, 3) := by decide +kernel
theorem dX6_addScout_50 : decode cX6_addScout 50 = .ok (.bipush (-12), 2) := by decide +kernel
theorem dX6_addScout_52 : decode cX6_addScout 52 = .ok (.ireturn, 1) := by decide +kernel
theorem dX6_addScout_53 : decode cX6_addScout 53 = .ok (.aload_n 0, 1) := by decide +kernel
theorem dX6_addScout_54 : decode cX6_addScout 54 = .ok (.getfield 12, 3) := by decide +kernel
theorem dX6_addScout_57 : decode cX6_addScout 57 = .ok (.getfield 93, 3) := by decide +kernel
theorem dX6_addScout_60 : decode cX6_addScout 60 = .ok (.bipush 10, 2) := by decide +kernel
theorem dX6_addScout_62 : decode cX6_addScout 62 = .ok (.if_icmp .lt 6, 3) := by decide +kernel
theorem dX6_addScout_65 : decode cX6_addScout 65 = .ok (.bipush (-13), 2) := by decide +kernel
theorem dX6_addScout_67 : decode cX6_addScout 67 = .ok (.ireturn, 1) := by decide +kernel
theorem dX6_addScout_68 : decode cX6_addScout 68 = .ok (.aload_n 0, 1) := by decide +kernel
theorem dX6_addScout_69 : decode cX6_addScout 69 = .ok (.getfield 26, 3) := by decide +kernel
theorem dX6_addScout_72 : decode cX6_addScout 72 = .ok (.aload_n 0, 1) := by decide +kernel
theorem dX6_addScout_73 : decode cX6_addScout 73 = .ok (.getfield 12, 3) := by decide +kernel
theorem dX6_addScout_76 : decode cX6_addScout 76 = .ok (.invokevirtual 60, 3) := by decide +kernel
theorem dX6_addScout_79 : decode cX6_addScout 79 = .ok (.aload_n 0, 1) := by decide +kernel
theorem dX6_addScout_80 : decode cX6_addScout 80 = .ok (.getfield 12, 3) := by decide +kernel
theorem dX6_addScout_83 : decode cX6_addScout 83 = .ok (.iload_n 1, 1) := by decide +kernel
theorem dX6_addScout_84 : decode cX6_addScout 84 = .ok (.iload 5, 2) := by decide +kernel
theorem dX6_addScout_86 : decode cX6_addScout 86 = .ok (.iload 4, 2) := by decide +kernel
theorem dX6_addScout_88 : decode cX6_addScout 88 = .ok (.invokevirtual 96, 3) := by decide +kernel
theorem dX6_addScout_91 : decode cX6_addScout 91 = .ok (.aload_n 0, 1) := by decide +kernel
theorem dX6_addScout_92 : decode cX6_addScout 92 = .ok (.invokevirtual 64, 3) := by decide +kernel
theorem dX6_addScout_95 : decode cX6_addScout 95 = .ok (.aload_n 0, 1) := by decide +kernel
theorem dX6_addScout_96 : decode cX6_addScout 96 = .ok (.getfield 12, 3) := by decide +kernel
theorem dX6_addScout_99 : decode cX6_addScout 99 = .ok (.getfield 93, 3) := by decide +kernel
theorem dX6_addScout_102 : decode cX6_addScout 102 = .ok (.iconst 1, 1) := by decide +kernel
theorem dX6_addScout_103 : decode cX6_addScout 103 = .ok (.isub, 1) := by decide +kernel
theorem dX6_addScout_104 : decode cX6_addScout 104 = .ok (.ireturn, 1) := by decide +kernel
theorem dX6_step_0 : decode cX6_step 0 = .ok (.aload_n 0, 1) := by decide +kernel
theorem dX6_step_1 : decode cX6_step 1 = .ok (.iload_n 1, 1) := by decide +kernel
theorem dX6_step_2 : decode cX6_step 2 = .ok (.invokevirtual 100, 3) := by decide +kernel
theorem dX6_step_5 : decode cX6_step 5 = .ok (.ifCond .eq 21, 3) := by decide +kernel
theorem dX6_step_8 : decode cX6_step 8 = .ok (.iload_n 2, 1) := by decide +kernel
theorem dX6_step_9 : decode cX6_step 9 = .ok (.iconst (-1), 1) := by decide +kernel
theorem dX6_step_10 : decode cX6_step 10 = .ok (.iconst 1, 1) := by decide +kernel
theorem dX6_step_11 : decode cX6_step 11 = .ok (.invokestatic 48, 3) := by decide +kernel
theorem dX6_step_14 : decode cX6_step 14 = .ok (.ifCond .eq 12, 3) := by decide +kernel
theorem dX6_step_17 : decode cX6_step 17 = .ok (.iload_n 3, 1) := by decide +kernel
theorem dX6_step_18 : decode cX6_step 18 = .ok (.iconst (-1), 1) := by decide +kernel
theorem dX6_step_19 : decode cX6_step 19 = .ok (.iconst 1, 1) := by decide +kernel
theorem dX6_step_20 : decode cX6_step 20 = .ok (.invokestatic 48, 3) := by decide +kernel
theorem dX6_step_23 : decode cX6_step 23 = .ok (.ifCond .ne 6, 3) := by decide +kernel
theorem dX6_step_26 : decode cX6_step 26 = .ok (.bipush (-11), 2) := by decide +kernel
theorem dX6_step_28 : decode cX6_step 28 = .ok (.ireturn, 1) := by decide +kernel
theorem dX6_step_29 : decode cX6_step 29 = .ok (.iload_n 2, 1) := by decide +kernel
theorem dX6_step_30 : decode cX6_step 30 = .ok (.ifCond .ne 10, 3) := by decide +kernel
theorem dX6_step_33 : decode cX6_step 33 = .ok (.iload_n 3, 1) := by decide +kernel
theorem dX6_step_34 : decode cX6_step 34 = .ok (.ifCond .ne 6, 3) := by decide +kernel
theorem dX6_step_37 : decode cX6_step 37 = .ok (.bipush (-11), 2) := by decide +kernel
theorem dX6_step_39 : decode cX6_step 39 = .ok (.ireturn, 1) := by decide +kernel
theorem dX6_step_40 : decode cX6_step 40 = .ok (.aload_n 0, 1) := by decide +kernel
theorem dX6_step_41 : decode cX6_step 41 = .ok (.getfield 12, 3) := by decide +kernel
theorem dX6_step_44 : decode cX6_step 44 = .ok (.getfield 103, 3) := by decide +kernel
theorem dX6_step_47 : decode cX6_step 47 = .ok (.iload_n 1, 1) := by decide +kernel
theorem dX6_step_48 : decode cX6_step 48 = .ok (.iaload, 1) := by decide +kernel
theorem dX6_step_49 : decode cX6_step 49 = .ok (.istore 4, 2) := by decide +kernel
theorem dX6_step_51 : decode cX6_step 51 = .ok (.iload 4, 2) := by decide +kernel
theorem dX6_step_53 : decode cX6_step 53 = .ok (.invokestatic 106, 3) := by decide +kernel
theorem dX6_step_56 : decode cX6_step 56 = .ok (.iload_n 2, 1) := by decide +kernel
theorem dX6_step_57 : decode cX6_step 57 = .ok (.iadd, 1) := by decide +kernel
theorem dX6_step_58 : decode cX6_step 58 = .ok (.istore 5, 2) := by decide +kernel
theorem dX6_step_60 : decode cX6_step 60 = .ok (.iload 4, 2) := by decide +kernel
theorem dX6_step_62 : decode cX6_step 62 = .ok (.invokestatic 109, 3) := by decide +kernel
theorem dX6_step_65 : decode cX6_step 65 = .ok (.iload_n 3, 1) := by decide +kernel
theorem dX6_step_66 : decode cX6_step 66 = .ok (.iadd, 1) := by decide +kernel
theorem dX6_step_67 : decode cX6_step 67 = .ok (.istore 6, 2) := by decide +kernel
theorem dX6_step_69 : decode cX6_step 69 = .ok (.iload 5, 2) := by decide +kernel
theorem dX6_step_71 : decode cX6_step 71 = .ok (.iload 6, 2) := by decide +kernel
theorem dX6_step_73 : decode cX6_step 73 = .ok (.invokestatic 44, 3) := by decide +kernel
theorem dX6_step_76 : decode cX6_step 76 = .ok (.ifCond .eq 19, 3) := by decide +kernel
theorem dX6_step_79 : decode cX6_step 79 = .ok (.aload_n 0, 1) := by decide +kernel
theorem dX6_step_80 : decode cX6_step 80 = .ok (.iload 4, 2) := by decide +kernel
theorem dX6_step_82 : decode cX6_step 82 = .ok (.iload 5, 2) := by decide +kernel
theorem dX6_step_84 : decode cX6_step 84 = .ok (.iload 6, 2) := by decide +kernel
theorem dX6_step_86 : decode cX6_step 86 = .ok (.invokestatic 52, 3) := by decide +kernel
theorem dX6_step_89 : decode cX6_step 89 = .ok (.invokevirtual 112, 3) := by decide +kernel
theorem dX6_step_92 : decode cX6_step 92 = .ok (.ifCond .ne 6, 3) := by decide +kernel
theorem dX6_step_95 : decode cX6_step 95 = .ok (.bipush (-12), 2) := by decide +kernel
theorem dX6_step_97 : decode cX6_step 97 = .ok (.ireturn, 1) := by decide +kernel
theorem dX6_step_98 : decode cX6_step 98 = .ok (.aload_n 0, 1) := by decide +kernel
theorem dX6_step_99 : decode cX6_step 99 = .ok (.getfield 26, 3) := by decide +kernel
theorem dX6_step_102 : decode cX6_step 102 = .ok (.aload_n 0, 1) := by decide +kernel
theorem dX6_step_103 : decode cX6_step 103 = .ok (.getfield 12, 3) := by decide +kernel
theorem dX6_step_106 : decode cX6_step 106 = .ok (.invokevirtual 60, 3) := by decide +kernel
theorem dX6_step_109 : decode cX6_step 109 = .ok (.aload_n 0, 1) := by decide +kernel
theorem dX6_step_110 : decode cX6_step 110 = .ok (.getfield 12, 3) := by decide +kernel
theorem dX6_step_113 : decode cX6_step 113 = .ok (.getfield 103, 3) := by decide +kernel
theorem dX6_step_116 : decode cX6_step 116 = .ok (.iload_n 1, 1) := by decide +kernel
theorem dX6_step_117 : decode cX6_step 117 = .ok (.iload 5, 2) := by decide +kernel
theorem dX6_step_119 : decode cX6_step 119 = .ok (.iload 6, 2) := by decide +kernel
theorem dX6_step_121 : decode cX6_step 121 = .ok (.invokestatic 52, 3) := by decide +kernel
theorem dX6_step_124 : decode cX6_step 124 = .ok (.iastore, 1) := by decide +kernel
theorem dX6_step_125 : decode cX6_step 125 = .ok (.aload_n 0, 1) := by decide +kernel
theorem dX6_step_126 : decode cX6_step 126 = .ok (.getfield 19, 3) := by decide +kernel
theorem dX6_step_129 : decode cX6_step 129 = .ok (.aload_n 0, 1) := by decide +kernel
theorem dX6_step_130 : decode cX6_step 130 = .ok (.getfield 12, 3) := by decide +kernel
theorem dX6_step_133 : decode cX6_step 133 = .ok (.invokevirtual 115, 3) := by decide +kernel
theorem dX6_step_136 : decode cX6_step 136 = .ok (.aload_n 0, 1) := by decide +kernel
theorem dX6_step_137 : decode cX6_step 137 = .ok (.aload_n 0, 1) := by decide +kernel
theorem dX6_step_138 : decode cX6_step 138 = .ok (.getfield 12, 3) := by decide +kernel
theorem dX6_step_141 : decode cX6_step 141 = .ok (.getfield 118, 3) := by decide +kernel
theorem dX6_step_144 : decode cX6_step 144 = .ok (.iload_n 1, 1) := by decide +kernel
theorem dX6_step_145 : decode cX6_step 145 = .ok (.iaload, 1) := by decide +kernel
theorem dX6_step_146 : decode cX6_step 146 = .ok (.invokevirtual 121, 3) := by decide +kernel
theorem dX6_step_149 : decode cX6_step 149 = .ok (.istore 7, 2) := by decide +kernel
theorem dX6_step_151 : decode cX6_step 151 = .ok (.aload_n 0, 1) := by decide +kernel
theorem dX6_step_152 : decode cX6_step 152 = .ok (.getfield 12, 3) := by decide +kernel
theorem dX6_step_155 : decode cX6_step 155 = .ok (.aload_n 0, 1) := by decide +kernel
theorem dX6_step_156 : decode cX6_step 156 = .ok (.getfield 19, 3) := by decide +kernel
theorem dX6_step_159 : decode cX6_step 159 = .ok (.invokevirtual 124, 3) := by decide +kernel
theorem dX6_step_162 : decode cX6_step 162 = .ok (.iload 7, 2) := by decide +kernel
theorem dX6_step_164 : decode cX6_step 164 = .ok (.ireturn, 1) := by decide +kernel
theorem dX6_removeScout_0 : decode cX6_removeScout 0 = .ok (.aload_n 0, 1) := by decide +kernel
theorem dX6_removeScout_1 : decode cX6_removeScout 1 = .ok (.iload_n 1, 1) := by decide +kernel
theorem dX6_removeScout_2 : decode cX6_removeScout 2 = .ok (.invokevirtual 100, 3) := by decide +kernel
theorem dX6_removeScout_5 : decode cX6_removeScout 5 = .ok (.ifCond .ne 6, 3) := by decide +kernel
theorem dX6_removeScout_8 : decode cX6_removeScout 8 = .ok (.bipush (-11), 2) := by decide +kernel
theorem dX6_removeScout_10 : decode cX6_removeScout 10 = .ok (.ireturn, 1) := by decide +kernel
theorem dX6_removeScout_11 : decode cX6_removeScout 11 = .ok (.aload_n 0, 1) := by decide +kernel
theorem dX6_removeScout_12 : decode cX6_removeScout 12 = .ok (.getfield 26, 3) := by decide +kernel
theorem dX6_removeScout_15 : decode cX6_removeScout 15 = .ok (.aload_n 0, 1) := by decide +kernel
theorem dX6_removeScout_16 : decode cX6_removeScout 16 = .ok (.getfield 12, 3) := by decide +kernel
theorem dX6_removeScout_19 : decode cX6_removeScout 19 = .ok (.invokevirtual 60, 3) := by decide +kernel
theorem dX6_removeScout_22 : decode cX6_removeScout 22 = .ok (.aload_n 0, 1) := by decide +kernel
theorem dX6_removeScout_23 : decode cX6_removeScout 23 = .ok (.getfield 12, 3) := by decide +kernel
theorem dX6_removeScout_26 : decode cX6_removeScout 26 = .ok (.iload_n 1, 1) := by decide +kernel
theorem dX6_removeScout_27 : decode cX6_removeScout 27 = .ok (.invokevirtual 128, 3) := by decide +kernel
theorem dX6_removeScout_30 : decode cX6_removeScout 30 = .ok (.aload_n 0, 1) := by decide +kernel
theorem dX6_removeScout_31 : decode cX6_removeScout 31 = .ok (.invokevirtual 64, 3) := by decide +kernel
theorem dX6_removeScout_34 : decode cX6_removeScout 34 = .ok (.aload_n 0, 1) := by decide +kernel
theorem dX6_removeScout_35 : decode cX6_removeScout 35 = .ok (.getfield 12, 3) := by decide +kernel
theorem dX6_removeScout_38 : decode cX6_removeScout 38 = .ok (.getfield 93, 3) := by decide +kernel
theorem dX6_removeScout_41 : decode cX6_removeScout 41 = .ok (.ireturn, 1) := by decide +kernel
theorem dX6_addLight_0 : decode cX6_addLight 0 = .ok (.iload_n 1, 1) := by decide +kernel
theorem dX6_addLight_1 : decode cX6_addLight 1 = .ok (.iload_n 2, 1) := by decide +kernel
theorem dX6_addLight_2 : decode cX6_addLight 2 = .ok (.invokestatic 44, 3) := by decide +kernel
theorem dX6_addLight_5 : decode cX6_addLight 5 = .ok (.ifCond .eq 23, 3) := by decide +kernel
theorem dX6_addLight_8 : decode cX6_addLight 8 = .ok (.iload_n 3, 1) := by decide +kernel
theorem dX6_addLight_9 : decode cX6_addLight 9 = .ok (.iconst 0, 1) := by decide +kernel
theorem dX6_addLight_10 : decode cX6_addLight 10 = .ok (.iconst 4, 1) := by decide +kernel
theorem dX6_addLight_11 : decode cX6_addLight 11 = .ok (.invokestatic 48, 3) := by decide +kernel
theorem dX6_addLight_14 : decode cX6_addLight 14 = .ok (.ifCond .eq 14, 3) := by decide +kernel
theorem dX6_addLight_17 : decode cX6_addLight 17 = .ok (.iload 4, 2) := by decide +kernel
theorem dX6_addLight_19 : decode cX6_addLight 19 = .ok (.iconst 0, 1) := by decide +kernel
theorem dX6_addLight_20 : decode cX6_addLight 20 = .ok (.bipush 50, 2) := by decide +kernel
theorem dX6_addLight_22 : decode cX6_addLight 22 = .ok (.invokestatic 48, 3) := by decide +kernel
theorem dX6_addLight_25 : decode cX6_addLight 25 = .ok (.ifCond .ne 6, 3) := by decide +kernel
theorem dX6_addLight_28 : decode cX6_addLight 28 = .ok (.bipush (-11), 2) := by decide +kernel
theorem dX6_addLight_30 : decode cX6_addLight 30 = .ok (.ireturn, 1) := by decide +kernel
theorem dX6_addLight_31 : decode cX6_addLight 31 = .ok (.aload_n 0, 1) := by decide +kernel
theorem dX6_addLight_32 : decode cX6_addLight 32 = .ok (.getfield 12, 3) := by decide +kernel
theorem dX6_addLight_35 : decode cX6_addLight 35 = .ok (.getfield 131, 3) := by decide +kernel
theorem dX6_addLight_38 : decode cX6_addLight 38 = .ok (.bipush 6, 2) := by decide +kernel
theorem dX6_addLight_40 : decode cX6_addLight 40 = .ok (.if_icmp .lt 6, 3) := by decide +kernel
theorem dX6_addLight_43 : decode cX6_addLight 43 = .ok (.bipush (-13), 2) := by decide +kernel
theorem dX6_addLight_45 : decode cX6_addLight 45 = .ok (.ireturn, 1) := by decide +kernel
theorem dX6_addLight_46 : decode cX6_addLight 46 = .ok (.aload_n 0, 1) := by decide +kernel
theorem dX6_addLight_47 : decode cX6_addLight 47 = .ok (.getfield 26, 3) := by decide +kernel
theorem dX6_addLight_50 : decode cX6_addLight 50 = .ok (.aload_n 0, 1) := by decide +kernel
theorem dX6_addLight_51 : decode cX6_addLight 51 = .ok (.getfield 12, 3) := by decide +kernel
theorem dX6_addLight_54 : decode cX6_addLight 54 = .ok (.invokevirtual 60, 3) := by decide +kernel
theorem dX6_addLight_57 : decode cX6_addLight 57 = .ok (.aload_n 0, 1) := by decide +kernel
theorem dX6_addLight_58 : decode cX6_addLight 58 = .ok (.getfield 12, 3) := by decide +kernel
theorem dX6_addLight_61 : decode cX6_addLight 61 = .ok (.iload_n 1, 1) := by decide +kernel
theorem dX6_addLight_62 : decode cX6_addLight 62 = .ok (.iload_n 2, 1) := by decide +kernel
theorem dX6_addLight_63 : decode cX6_addLight 63 = .ok (.invokestatic 52, 3) := by decide +kernel
theorem dX6_addLight_66 : decode cX6_addLight 66 = .ok (.iload_n 3, 1) := by decide +kernel
theorem dX6_addLight_67 : decode cX6_addLight 67 = .ok (.iload 4, 2) := by decide +kernel
theorem dX6_addLight_69 : decode cX6_addLight 69 = .ok (.invokevirtual 134, 3) := by decide +kernel
theorem dX6_addLight_72 : decode cX6_addLight 72 = .ok (.aload_n 0, 1) := by decide +kernel
theorem dX6_addLight_73 : decode cX6_addLight 73 = .ok (.invokevirtual 64, 3) := by decide +kernel
theorem dX6_addLight_76 : decode cX6_addLight 76 = .ok (.aload_n 0, 1) := by decide +kernel
theorem dX6_addLight_77 : decode cX6_addLight 77 = .ok (.getfield 12, 3) := by decide +kernel
theorem dX6_addLight_80 : decode cX6_addLight 80 = .ok (.getfield 131, 3) := by decide +kernel
theorem dX6_addLight_83 : decode cX6_addLight 83 = .ok (.iconst 1, 1) := by decide +kernel
theorem dX6_addLight_84 : decode cX6_addLight 84 = .ok (.isub, 1) := by decide +kernel
theorem dX6_addLight_85 : decode cX6_addLight 85 = .ok (.ireturn, 1) := by decide +kernel
theorem dX6_setOil_0 : decode cX6_setOil 0 = .ok (.aload_n 0, 1) := by decide +kernel
theorem dX6_setOil_1 : decode cX6_setOil 1 = .ok (.iload_n 1, 1) := by decide +kernel
theorem dX6_setOil_2 : decode cX6_setOil 2 = .ok (.invokevirtual 137, 3) := by decide +kernel
theorem dX6_setOil_5 : decode cX6_setOil 5 = .ok (.ifCond .eq 13, 3) := by decide +kernel
theorem dX6_setOil_8 : decode cX6_setOil 8 = .ok (.iload_n 2, 1) := by decide +kernel
theorem dX6_setOil_9 : decode cX6_setOil 9 = .ok (.iconst 0, 1) := by decide +kernel
theorem dX6_setOil_10 : decode cX6_setOil 10 = .ok (.bipush 50, 2) := by decide +kernel
theorem dX6_setOil_12 : decode cX6_setOil 12 = .ok (.invokestatic 48, 3) := by decide +kernel
theorem dX6_setOil_15 : decode cX6_setOil 15 = .ok (.ifCond .ne 6, 3) := by decide +kernel
theorem dX6_setOil_18 : decode cX6_setOil 18 = .ok (.bipush (-11), 2) := by decide +kernel
theorem dX6_setOil_20 : decode cX6_setOil 20 = .ok (.ireturn, 1) := by decide +kernel
theorem dX6_setOil_21 : decode cX6_setOil 21 = .ok (.aload_n 0, 1) := by decide +kernel
theorem dX6_setOil_22 : decode cX6_setOil 22 = .ok (.getfield 12, 3) := by decide +kernel
theorem dX6_setOil_25 : decode cX6_setOil 25 = .ok (.getfield 140, 3) := by decide +kernel
theorem dX6_setOil_28 : decode cX6_setOil 28 = .ok (.iload_n 1, 1) := by decide +kernel
theorem dX6_setOil_29 : decode cX6_setOil 29 = .ok (.iaload, 1) := by decide +kernel
theorem dX6_setOil_30 : decode cX6_setOil 30 = .ok (.istore_n 3, 1) := by decide +kernel
theorem dX6_setOil_31 : decode cX6_setOil 31 = .ok (.aload_n 0, 1) := by decide +kernel
theorem dX6_setOil_32 : decode cX6_setOil 32 = .ok (.getfield 26, 3) := by decide +kernel
theorem dX6_setOil_35 : decode cX6_setOil 35 = .ok (.aload_n 0, 1) := by decide +kernel
theorem dX6_setOil_36 : decode cX6_setOil 36 = .ok (.getfield 12, 3) := by decide +kernel
theorem dX6_setOil_39 : decode cX6_setOil 39 = .ok (.invokevirtual 60, 3) := by decide +kernel
theorem dX6_setOil_42 : decode cX6_setOil 42 = .ok (.aload_n 0, 1) := by decide +kernel
theorem dX6_setOil_43 : decode cX6_setOil 43 = .ok (.getfield 12, 3) := by decide +kernel
theorem dX6_setOil_46 : decode cX6_setOil 46 = .ok (.getfield 140, 3) := by decide +kernel
theorem dX6_setOil_49 : decode cX6_setOil 49 = .ok (.iload_n 1, 1) := by decide +kernel
theorem dX6_setOil_50 : decode cX6_setOil 50 = .ok (.iload_n 2, 1) := by decide +kernel
theorem dX6_setOil_51 : decode cX6_setOil 51 = .ok (.iastore, 1) := by decide +kernel
theorem dX6_setOil_52 : decode cX6_setOil 52 = .ok (.aload_n 0, 1) := by decide +kernel
theorem dX6_setOil_53 : decode cX6_setOil 53 = .ok (.invokevirtual 64, 3) := by decide +kernel
theorem dX6_setOil_56 : decode cX6_setOil 56 = .ok (.iload_n 3, 1) := by decide +kernel
theorem dX6_setOil_57 : decode cX6_setOil 57 = .ok (.ireturn, 1) := by decide +kernel
theorem dX6_removeLight_0 : decode cX6_removeLight 0 = .ok (.aload_n 0, 1) := by decide +kernel
theorem dX6_removeLight_1 : decode cX6_removeLight 1 = .ok (.iload_n 1, 1) := by decide +kernel
theorem dX6_removeLight_2 : decode cX6_removeLight 2 = .ok (.invokevirtual 137, 3) := by decide +kernel
theorem dX6_removeLight_5 : decode cX6_removeLight 5 = .ok (.ifCond .ne 6, 3) := by decide +kernel
theorem dX6_removeLight_8 : decode cX6_removeLight 8 = .ok (.bipush (-11), 2) := by decide +kernel
theorem dX6_removeLight_10 : decode cX6_removeLight 10 = .ok (.ireturn, 1) := by decide +kernel
theorem dX6_removeLight_11 : decode cX6_removeLight 11 = .ok (.aload_n 0, 1) := by decide +kernel
theorem dX6_removeLight_12 : decode cX6_removeLight 12 = .ok (.getfield 26, 3) := by decide +kernel
theorem dX6_removeLight_15 : decode cX6_removeLight 15 = .ok (.aload_n 0, 1) := by decide +kernel
theorem dX6_removeLight_16 : decode cX6_removeLight 16 = .ok (.getfield 12, 3) := by decide +kernel
theorem dX6_removeLight_19 : decode cX6_removeLight 19 = .ok (.invokevirtual 60, 3) := by decide +kernel
theorem dX6_removeLight_22 : decode cX6_removeLight 22 = .ok (.aload_n 0, 1) := by decide +kernel
theorem dX6_removeLight_23 : decode cX6_removeLight 23 = .ok (.getfield 12, 3) := by decide +kernel
theorem dX6_removeLight_26 : decode cX6_removeLight 26 = .ok (.iload_n 1, 1) := by decide +kernel
theorem dX6_removeLight_27 : decode cX6_removeLight 27 = .ok (.invokevirtual 143, 3) := by decide +kernel
theorem dX6_removeLight_30 : decode cX6_removeLight 30 = .ok (.aload_n 0, 1) := by decide +kernel
theorem dX6_removeLight_31 : decode cX6_removeLight 31 = .ok (.invokevirtual 64, 3) := by decide +kernel
theorem dX6_removeLight_34 : decode cX6_removeLight 34 = .ok (.aload_n 0, 1) := by decide +kernel
theorem dX6_removeLight_35 : decode cX6_removeLight 35 = .ok (.getfield 12, 3) := by decide +kernel
theorem dX6_removeLight_38 : decode cX6_removeLight 38 = .ok (.getfield 131, 3) := by decide +kernel
theorem dX6_removeLight_41 : decode cX6_removeLight 41 = .ok (.ireturn, 1) := by decide +kernel
theorem dX6_setFogTime_0 : decode cX6_setFogTime 0 = .ok (.iload_n 1, 1) := by decide +kernel
theorem dX6_setFogTime_1 : decode cX6_setFogTime 1 = .ok (.iconst 1, 1) := by decide +kernel
theorem dX6_setFogTime_2 : decode cX6_setFogTime 2 = .ok (.bipush 99, 2) := by decide +kernel
theorem dX6_setFogTime_4 : decode cX6_setFogTime 4 = .ok (.invokestatic 48, 3) := by decide +kernel
theorem dX6_setFogTime_7 : decode cX6_setFogTime 7 = .ok (.ifCond .ne 6, 3) := by decide +kernel
theorem dX6_setFogTime_10 : decode cX6_setFogTime 10 = .ok (.bipush (-11), 2) := by decide +kernel
theorem dX6_setFogTime_12 : decode cX6_setFogTime 12 = .ok (.ireturn, 1) := by decide +kernel
theorem dX6_setFogTime_13 : decode cX6_setFogTime 13 = .ok (.aload_n 0, 1) := by decide +kernel
theorem dX6_setFogTime_14 : decode cX6_setFogTime 14 = .ok (.getfield 12, 3) := by decide +kernel
theorem dX6_setFogTime_17 : decode cX6_setFogTime 17 = .ok (.getfield 146, 3) := by decide +kernel
theorem dX6_setFogTime_20 : decode cX6_setFogTime 20 = .ok (.istore_n 2, 1) := by decide +kernel
theorem dX6_setFogTime_21 : decode cX6_setFogTime 21 = .ok (.aload_n 0, 1) := by decide +kernel
theorem dX6_setFogTime_22 : decode cX6_setFogTime 22 = .ok (.getfield 26, 3) := by decide +kernel
theorem dX6_setFogTime_25 : decode cX6_setFogTime 25 = .ok (.aload_n 0, 1) := by decide +kernel
theorem dX6_setFogTime_26 : decode cX6_setFogTime 26 = .ok (.getfield 12, 3) := by decide +kernel
theorem dX6_setFogTime_29 : decode cX6_setFogTime 29 = .ok (.invokevirtual 60, 3) := by decide +kernel
theorem dX6_setFogTime_32 : decode cX6_setFogTime 32 = .ok (.aload_n 0, 1) := by decide +kernel
theorem dX6_setFogTime_33 : decode cX6_setFogTime 33 = .ok (.getfield 12, 3) := by decide +kernel
theorem dX6_setFogTime_36 : decode cX6_setFogTime 36 = .ok (.iload_n 1, 1) := by decide +kernel
theorem dX6_setFogTime_37 : decode cX6_setFogTime 37 = .ok (.invokevirtual 149, 3) := by decide +kernel
theorem dX6_setFogTime_40 : decode cX6_setFogTime 40 = .ok (.aload_n 0, 1) := by decide +kernel
theorem dX6_setFogTime_41 : decode cX6_setFogTime 41 = .ok (.invokevirtual 64, 3) := by decide +kernel
theorem dX6_setFogTime_44 : decode cX6_setFogTime 44 = .ok (.iload_n 2, 1) := by decide +kernel
theorem dX6_setFogTime_45 : decode cX6_setFogTime 45 = .ok (.ireturn, 1) := by decide +kernel
theorem dX6_pass_0 : decode cX6_pass 0 = .ok (.iload_n 1, 1) := by decide +kernel
theorem dX6_pass_1 : decode cX6_pass 1 = .ok (.iconst 1, 1) := by decide +kernel
theorem dX6_pass_2 : decode cX6_pass 2 = .ok (.bipush 99, 2) := by decide +kernel
theorem dX6_pass_4 : decode cX6_pass 4 = .ok (.invokestatic 48, 3) := by decide +kernel
theorem dX6_pass_7 : decode cX6_pass 7 = .ok (.ifCond .ne 6, 3) := by decide +kernel
theorem dX6_pass_10 : decode cX6_pass 10 = .ok (.bipush (-11), 2) := by decide +kernel
theorem dX6_pass_12 : decode cX6_pass 12 = .ok (.ireturn, 1) := by decide +kernel
theorem dX6_pass_13 : decode cX6_pass 13 = .ok (.aload_n 0, 1) := by decide +kernel
theorem dX6_pass_14 : decode cX6_pass 14 = .ok (.getfield 26, 3) := by decide +kernel
theorem dX6_pass_17 : decode cX6_pass 17 = .ok (.aload_n 0, 1) := by decide +kernel
theorem dX6_pass_18 : decode cX6_pass 18 = .ok (.getfield 12, 3) := by decide +kernel
theorem dX6_pass_21 : decode cX6_pass 21 = .ok (.invokevirtual 60, 3) := by decide +kernel
theorem dX6_pass_24 : decode cX6_pass 24 = .ok (.iconst 0, 1) := by decide +kernel
theorem dX6_pass_25 : decode cX6_pass 25 = .ok (.istore_n 2, 1) := by decide +kernel
theorem dX6_pass_26 : decode cX6_pass 26 = .ok (.iconst 0, 1) := by decide +kernel
theorem dX6_pass_27 : decode cX6_pass 27 = .ok (.istore_n 3, 1) := by decide +kernel
theorem dX6_pass_28 : decode cX6_pass 28 = .ok (.iload_n 3, 1) := by decide +kernel
theorem dX6_pass_29 : decode cX6_pass 29 = .ok (.iload_n 1, 1) := by decide +kernel
theorem dX6_pass_30 : decode cX6_pass 30 = .ok (.if_icmp .ge 16, 3) := by decide +kernel
theorem dX6_pass_33 : decode cX6_pass 33 = .ok (.iload_n 2, 1) := by decide +kernel
theorem dX6_pass_34 : decode cX6_pass 34 = .ok (.aload_n 0, 1) := by decide +kernel
theorem dX6_pass_35 : decode cX6_pass 35 = .ok (.invokevirtual 152, 3) := by decide +kernel
theorem dX6_pass_38 : decode cX6_pass 38 = .ok (.iadd, 1) := by decide +kernel
theorem dX6_pass_39 : decode cX6_pass 39 = .ok (.istore_n 2, 1) := by decide +kernel
theorem dX6_pass_40 : decode cX6_pass 40 = .ok (.iinc 3 1, 3) := by decide +kernel
theorem dX6_pass_43 : decode cX6_pass 43 = .ok (.goto (-15), 3) := by decide +kernel
theorem dX6_pass_46 : decode cX6_pass 46 = .ok (.iload_n 2, 1) := by decide +kernel
theorem dX6_pass_47 : decode cX6_pass 47 = .ok (.ireturn, 1) := by decide +kernel
theorem dX6_undo_0 : decode cX6_undo 0 = .ok (.aload_n 0, 1) := by decide +kernel
theorem dX6_undo_1 : decode cX6_undo 1 = .ok (.getfield 26, 3) := by decide +kernel
theorem dX6_undo_4 : decode cX6_undo 4 = .ok (.getfield 156, 3) := by decide +kernel
theorem dX6_undo_7 : decode cX6_undo 7 = .ok (.ifCond .ne 6, 3) := by decide +kernel
theorem dX6_undo_10 : decode cX6_undo 10 = .ok (.bipush (-12), 2) := by decide +kernel
theorem dX6_undo_12 : decode cX6_undo 12 = .ok (.ireturn, 1) := by decide +kernel
theorem dX6_undo_13 : decode cX6_undo 13 = .ok (.aload_n 0, 1) := by decide +kernel
theorem dX6_undo_14 : decode cX6_undo 14 = .ok (.getfield 26, 3) := by decide +kernel
theorem dX6_undo_17 : decode cX6_undo 17 = .ok (.aload_n 0, 1) := by decide +kernel
theorem dX6_undo_18 : decode cX6_undo 18 = .ok (.getfield 12, 3) := by decide +kernel
theorem dX6_undo_21 : decode cX6_undo 21 = .ok (.invokevirtual 159, 3) := by decide +kernel
theorem dX6_undo_24 : decode cX6_undo 24 = .ok (.aload_n 0, 1) := by decide +kernel
theorem dX6_undo_25 : decode cX6_undo 25 = .ok (.getfield 19, 3) := by decide +kernel
theorem dX6_undo_28 : decode cX6_undo 28 = .ok (.aload_n 0, 1) := by decide +kernel
theorem dX6_undo_29 : decode cX6_undo 29 = .ok (.getfield 12, 3) := by decide +kernel
theorem dX6_undo_32 : decode cX6_undo 32 = .ok (.invokevirtual 115, 3) := by decide +kernel
theorem dX6_undo_35 : decode cX6_undo 35 = .ok (.aload_n 0, 1) := by decide +kernel
theorem dX6_undo_36 : decode cX6_undo 36 = .ok (.getfield 26, 3) := by decide +kernel
theorem dX6_undo_39 : decode cX6_undo 39 = .ok (.getfield 156, 3) := by decide +kernel
theorem dX6_undo_42 : decode cX6_undo 42 = .ok (.ireturn, 1) := by decide +kernel
theorem dX6_count_0 : decode cX6_count 0 = .ok (.iload_n 1, 1) := by decide +kernel
theorem dX6_count_1 : decode cX6_count 1 = .ok (.tableswitch 185 0 11 #[63, 71, 79, 87, 95, 103, 111, 127, 143, 156, 169, 177], 63) := by decide +kernel
theorem dX6_count_64 : decode cX6_count 64 = .ok (.aload_n 0, 1) := by decide +kernel
theorem dX6_count_65 : decode cX6_count 65 = .ok (.getfield 12, 3) := by decide +kernel
theorem dX6_count_68 : decode cX6_count 68 = .ok (.getfield 93, 3) := by decide +kernel
theorem dX6_count_71 : decode cX6_count 71 = .ok (.ireturn, 1) := by decide +kernel
theorem dX6_count_72 : decode cX6_count 72 = .ok (.aload_n 0, 1) := by decide +kernel
theorem dX6_count_73 : decode cX6_count 73 = .ok (.getfield 12, 3) := by decide +kernel
theorem dX6_count_76 : decode cX6_count 76 = .ok (.getfield 131, 3) := by decide +kernel
theorem dX6_count_79 : decode cX6_count 79 = .ok (.ireturn, 1) := by decide +kernel
theorem dX6_count_80 : decode cX6_count 80 = .ok (.aload_n 0, 1) := by decide +kernel
theorem dX6_count_81 : decode cX6_count 81 = .ok (.getfield 12, 3) := by decide +kernel
theorem dX6_count_84 : decode cX6_count 84 = .ok (.invokevirtual 162, 3) := by decide +kernel
theorem dX6_count_87 : decode cX6_count 87 = .ok (.ireturn, 1) := by decide +kernel
theorem dX6_count_88 : decode cX6_count 88 = .ok (.aload_n 0, 1) := by decide +kernel
theorem dX6_count_89 : decode cX6_count 89 = .ok (.getfield 19, 3) := by decide +kernel
theorem dX6_count_92 : decode cX6_count 92 = .ok (.invokevirtual 165, 3) := by decide +kernel
theorem dX6_count_95 : decode cX6_count 95 = .ok (.ireturn, 1) := by decide +kernel
theorem dX6_count_96 : decode cX6_count 96 = .ok (.aload_n 0, 1) := by decide +kernel
theorem dX6_count_97 : decode cX6_count 97 = .ok (.getfield 12, 3) := by decide +kernel
theorem dX6_count_100 : decode cX6_count 100 = .ok (.getfield 146, 3) := by decide +kernel
theorem dX6_count_103 : decode cX6_count 103 = .ok (.ireturn, 1) := by decide +kernel
theorem dX6_count_104 : decode cX6_count 104 = .ok (.aload_n 0, 1) := by decide +kernel
theorem dX6_count_105 : decode cX6_count 105 = .ok (.getfield 12, 3) := by decide +kernel
theorem dX6_count_108 : decode cX6_count 108 = .ok (.getfield 168, 3) := by decide +kernel
theorem dX6_count_111 : decode cX6_count 111 = .ok (.ireturn, 1) := by decide +kernel
theorem dX6_count_112 : decode cX6_count 112 = .ok (.aload_n 0, 1) := by decide +kernel
theorem dX6_count_113 : decode cX6_count 113 = .ok (.getfield 19, 3) := by decide +kernel
theorem dX6_count_116 : decode cX6_count 116 = .ok (.aload_n 0, 1) := by decide +kernel
theorem dX6_count_117 : decode cX6_count 117 = .ok (.getfield 12, 3) := by decide +kernel
theorem dX6_count_120 : decode cX6_count 120 = .ok (.iconst 0, 1) := by decide +kernel
theorem dX6_count_121 : decode cX6_count 121 = .ok (.invokevirtual 171, 3) := by decide +kernel
theorem dX6_count_124 : decode cX6_count 124 = .ok (.invokevirtual 174, 3) := by decide +kernel
theorem dX6_count_127 : decode cX6_count 127 = .ok (.ireturn, 1) := by decide +kernel
theorem dX6_count_128 : decode cX6_count 128 = .ok (.aload_n 0, 1) := by decide +kernel
theorem dX6_count_129 : decode cX6_count 129 = .ok (.getfield 19, 3) := by decide +kernel
theorem dX6_count_132 : decode cX6_count 132 = .ok (.aload_n 0, 1) := by decide +kernel
theorem dX6_count_133 : decode cX6_count 133 = .ok (.getfield 12, 3) := by decide +kernel
theorem dX6_count_136 : decode cX6_count 136 = .ok (.iconst 1, 1) := by decide +kernel
theorem dX6_count_137 : decode cX6_count 137 = .ok (.invokevirtual 171, 3) := by decide +kernel
theorem dX6_count_140 : decode cX6_count 140 = .ok (.invokevirtual 174, 3) := by decide +kernel
theorem dX6_count_143 : decode cX6_count 143 = .ok (.ireturn, 1) := by decide +kernel
theorem dX6_count_144 : decode cX6_count 144 = .ok (.aload_n 0, 1) := by decide +kernel
theorem dX6_count_145 : decode cX6_count 145 = .ok (.getfield 12, 3) := by decide +kernel
theorem dX6_count_148 : decode cX6_count 148 = .ok (.getfield 177, 3) := by decide +kernel
theorem dX6_count_151 : decode cX6_count 151 = .ok (.iconst 0, 1) := by decide +kernel
theorem dX6_count_152 : decode cX6_count 152 = .ok (.aaload, 1) := by decide +kernel
theorem dX6_count_153 : decode cX6_count 153 = .ok (.invokevirtual 181, 3) := by decide +kernel
theorem dX6_count_156 : decode cX6_count 156 = .ok (.ireturn, 1) := by decide +kernel
theorem dX6_count_157 : decode cX6_count 157 = .ok (.aload_n 0, 1) := by decide +kernel
theorem dX6_count_158 : decode cX6_count 158 = .ok (.getfield 12, 3) := by decide +kernel
theorem dX6_count_161 : decode cX6_count 161 = .ok (.getfield 177, 3) := by decide +kernel
theorem dX6_count_164 : decode cX6_count 164 = .ok (.iconst 1, 1) := by decide +kernel
theorem dX6_count_165 : decode cX6_count 165 = .ok (.aaload, 1) := by decide +kernel
theorem dX6_count_166 : decode cX6_count 166 = .ok (.invokevirtual 181, 3) := by decide +kernel
theorem dX6_count_169 : decode cX6_count 169 = .ok (.ireturn, 1) := by decide +kernel
theorem dX6_count_170 : decode cX6_count 170 = .ok (.aload_n 0, 1) := by decide +kernel
theorem dX6_count_171 : decode cX6_count 171 = .ok (.getfield 26, 3) := by decide +kernel
theorem dX6_count_174 : decode cX6_count 174 = .ok (.getfield 156, 3) := by decide +kernel
theorem dX6_count_177 : decode cX6_count 177 = .ok (.ireturn, 1) := by decide +kernel
theorem dX6_count_178 : decode cX6_count 178 = .ok (.aload_n 0, 1) := by decide +kernel
theorem dX6_count_179 : decode cX6_count 179 = .ok (.getfield 33, 3) := by decide +kernel
theorem dX6_count_182 : decode cX6_count 182 = .ok (.getfield 74, 3) := by decide +kernel
theorem dX6_count_185 : decode cX6_count 185 = .ok (.ireturn, 1) := by decide +kernel
theorem dX6_count_186 : decode cX6_count 186 = .ok (.bipush (-11), 2) := by decide +kernel
theorem dX6_count_188 : decode cX6_count 188 = .ok (.ireturn, 1) := by decide +kernel
theorem dX6_cell_0 : decode cX6_cell 0 = .ok (.iload_n 1, 1) := by decide +kernel
theorem dX6_cell_1 : decode cX6_cell 1 = .ok (.iload_n 2, 1) := by decide +kernel
theorem dX6_cell_2 : decode cX6_cell 2 = .ok (.invokestatic 44, 3) := by decide +kernel
theorem dX6_cell_5 : decode cX6_cell 5 = .ok (.ifCond .ne 6, 3) := by decide +kernel
theorem dX6_cell_8 : decode cX6_cell 8 = .ok (.bipush (-11), 2) := by decide +kernel
theorem dX6_cell_10 : decode cX6_cell 10 = .ok (.ireturn, 1) := by decide +kernel
theorem dX6_cell_11 : decode cX6_cell 11 = .ok (.iload_n 1, 1) := by decide +kernel
theorem dX6_cell_12 : decode cX6_cell 12 = .ok (.iload_n 2, 1) := by decide +kernel
theorem dX6_cell_13 : decode cX6_cell 13 = .ok (.invokestatic 52, 3) := by decide +kernel
theorem dX6_cell_16 : decode cX6_cell 16 = .ok (.istore 4, 2) := by decide +kernel
theorem dX6_cell_18 : decode cX6_cell 18 = .ok (.iload_n 3, 1) := by decide +kernel
theorem dX6_cell_19 : decode cX6_cell 19 = .ok (.tableswitch 72 0 3 #[29, 40, 51, 62], 29) := by decide +kernel
theorem dX6_cell_48 : decode cX6_cell 48 = .ok (.aload_n 0, 1) := by decide +kernel
theorem dX6_cell_49 : decode cX6_cell 49 = .ok (.getfield 12, 3) := by decide +kernel
theorem dX6_cell_52 : decode cX6_cell 52 = .ok (.getfield 56, 3) := by decide +kernel
theorem dX6_cell_55 : decode cX6_cell 55 = .ok (.iload 4, 2) := by decide +kernel
theorem dX6_cell_57 : decode cX6_cell 57 = .ok (.iaload, 1) := by decide +kernel
theorem dX6_cell_58 : decode cX6_cell 58 = .ok (.ireturn, 1) := by decide +kernel
theorem dX6_cell_59 : decode cX6_cell 59 = .ok (.aload_n 0, 1) := by decide +kernel
theorem dX6_cell_60 : decode cX6_cell 60 = .ok (.getfield 12, 3) := by decide +kernel
theorem dX6_cell_63 : decode cX6_cell 63 = .ok (.getfield 71, 3) := by decide +kernel
theorem dX6_cell_66 : decode cX6_cell 66 = .ok (.iload 4, 2) := by decide +kernel
theorem dX6_cell_68 : decode cX6_cell 68 = .ok (.iaload, 1) := by decide +kernel
theorem dX6_cell_69 : decode cX6_cell 69 = .ok (.ireturn, 1) := by decide +kernel
theorem dX6_cell_70 : decode cX6_cell 70 = .ok (.aload_n 0, 1) := by decide +kernel
theorem dX6_cell_71 : decode cX6_cell 71 = .ok (.getfield 19, 3) := by decide +kernel
theorem dX6_cell_74 : decode cX6_cell 74 = .ok (.getfield 186, 3) := by decide +kernel
theorem dX6_cell_77 : decode cX6_cell 77 = .ok (.iload 4, 2) := by decide +kernel
theorem dX6_cell_79 : decode cX6_cell 79 = .ok (.iaload, 1) := by decide +kernel
theorem dX6_cell_80 : decode cX6_cell 80 = .ok (.ireturn, 1) := by decide +kernel
theorem dX6_cell_81 : decode cX6_cell 81 = .ok (.aload_n 0, 1) := by decide +kernel
theorem dX6_cell_82 : decode cX6_cell 82 = .ok (.getfield 12, 3) := by decide +kernel
theorem dX6_cell_85 : decode cX6_cell 85 = .ok (.iload 4, 2) := by decide +kernel
theorem dX6_cell_87 : decode cX6_cell 87 = .ok (.invokevirtual 67, 3) := by decide +kernel
theorem dX6_cell_90 : decode cX6_cell 90 = .ok (.ireturn, 1) := by decide +kernel
theorem dX6_cell_91 : decode cX6_cell 91 = .ok (.bipush (-11), 2) := by decide +kernel
theorem dX6_cell_93 : decode cX6_cell 93 = .ok (.ireturn, 1) := by decide +kernel
theorem dX6_scout_0 : decode cX6_scout 0 = .ok (.aload_n 0, 1) := by decide +kernel
theorem dX6_scout_1 : decode cX6_scout 1 = .ok (.iload_n 1, 1) := by decide +kernel
theorem dX6_scout_2 : decode cX6_scout 2 = .ok (.invokevirtual 100, 3) := by decide +kernel
theorem dX6_scout_5 : decode cX6_scout 5 = .ok (.ifCond .ne 6, 3) := by decide +kernel
theorem dX6_scout_8 : decode cX6_scout 8 = .ok (.bipush (-11), 2) := by decide +kernel
theorem dX6_scout_10 : decode cX6_scout 10 = .ok (.ireturn, 1) := by decide +kernel
theorem dX6_scout_11 : decode cX6_scout 11 = .ok (.aload_n 0, 1) := by decide +kernel
theorem dX6_scout_12 : decode cX6_scout 12 = .ok (.getfield 12, 3) := by decide +kernel
theorem dX6_scout_15 : decode cX6_scout 15 = .ok (.getfield 103, 3) := by decide +kernel
theorem dX6_scout_18 : decode cX6_scout 18 = .ok (.iload_n 1, 1) := by decide +kernel
theorem dX6_scout_19 : decode cX6_scout 19 = .ok (.iaload, 1) := by decide +kernel
theorem dX6_scout_20 : decode cX6_scout 20 = .ok (.istore_n 3, 1) := by decide +kernel
theorem dX6_scout_21 : decode cX6_scout 21 = .ok (.aload_n 0, 1) := by decide +kernel
theorem dX6_scout_22 : decode cX6_scout 22 = .ok (.getfield 12, 3) := by decide +kernel
theorem dX6_scout_25 : decode cX6_scout 25 = .ok (.getfield 118, 3) := by decide +kernel
theorem dX6_scout_28 : decode cX6_scout 28 = .ok (.iload_n 1, 1) := by decide +kernel
theorem dX6_scout_29 : decode cX6_scout 29 = .ok (.iaload, 1) := by decide +kernel
theorem dX6_scout_30 : decode cX6_scout 30 = .ok (.istore 4, 2) := by decide +kernel
theorem dX6_scout_32 : decode cX6_scout 32 = .ok (.iload_n 2, 1) := by decide +kernel
theorem dX6_scout_33 : decode cX6_scout 33 = .ok (.tableswitch 103 0 5 #[39, 42, 47, 52, 62, 74], 39) := by decide +kernel
theorem dX6_scout_72 : decode cX6_scout 72 = .ok (.iload 4, 2) := by decide +kernel
theorem dX6_scout_74 : decode cX6_scout 74 = .ok (.ireturn, 1) := by decide +kernel
theorem dX6_scout_75 : decode cX6_scout 75 = .ok (.iload_n 3, 1) := by decide +kernel
theorem dX6_scout_76 : decode cX6_scout 76 = .ok (.invokestatic 106, 3) := by decide +kernel
theorem dX6_scout_79 : decode cX6_scout 79 = .ok (.ireturn, 1) := by decide +kernel
theorem dX6_scout_80 : decode cX6_scout 80 = .ok (.iload_n 3, 1) := by decide +kernel
theorem dX6_scout_81 : decode cX6_scout 81 = .ok (.invokestatic 109, 3) := by decide +kernel
theorem dX6_scout_84 : decode cX6_scout 84 = .ok (.ireturn, 1) := by decide +kernel
theorem dX6_scout_85 : decode cX6_scout 85 = .ok (.aload_n 0, 1) := by decide +kernel
theorem dX6_scout_86 : decode cX6_scout 86 = .ok (.getfield 12, 3) := by decide +kernel
theorem dX6_scout_89 : decode cX6_scout 89 = .ok (.getfield 189, 3) := by decide +kernel
theorem dX6_scout_92 : decode cX6_scout 92 = .ok (.iload_n 1, 1) := by decide +kernel
theorem dX6_scout_93 : decode cX6_scout 93 = .ok (.iaload, 1) := by decide +kernel
theorem dX6_scout_94 : decode cX6_scout 94 = .ok (.ireturn, 1) := by decide +kernel
theorem dX6_scout_95 : decode cX6_scout 95 = .ok (.aload_n 0, 1) := by decide +kernel
theorem dX6_scout_96 : decode cX6_scout 96 = .ok (.getfield 19, 3) := by decide +kernel
theorem dX6_scout_99 : decode cX6_scout 99 = .ok (.iload_n 1, 1) := by decide +kernel
theorem dX6_scout_100 : decode cX6_scout 100 = .ok (.invokestatic 192, 3) := by decide +kernel
theorem dX6_scout_103 : decode cX6_scout 103 = .ok (.invokevirtual 174, 3) := by decide +kernel
theorem dX6_scout_106 : decode cX6_scout 106 = .ok (.ireturn, 1) := by decide +kernel
theorem dX6_scout_107 : decode cX6_scout 107 = .ok (.aload_n 0, 1) := by decide +kernel
theorem dX6_scout_108 : decode cX6_scout 108 = .ok (.getfield 19, 3) := by decide +kernel
theorem dX6_scout_111 : decode cX6_scout 111 = .ok (.iload_n 3, 1) := by decide +kernel
theorem dX6_scout_112 : decode cX6_scout 112 = .ok (.aload_n 0, 1) := by decide +kernel
theorem dX6_scout_113 : decode cX6_scout 113 = .ok (.getfield 12, 3) := by decide +kernel
theorem dX6_scout_116 : decode cX6_scout 116 = .ok (.iload 4, 2) := by decide +kernel
theorem dX6_scout_118 : decode cX6_scout 118 = .ok (.invokestatic 195, 3) := by decide +kernel
theorem dX6_scout_121 : decode cX6_scout 121 = .ok (.invokevirtual 171, 3) := by decide +kernel
theorem dX6_scout_124 : decode cX6_scout 124 = .ok (.invokevirtual 198, 3) := by decide +kernel
theorem dX6_scout_127 : decode cX6_scout 127 = .ok (.ifCond .eq 7, 3) := by decide +kernel
theorem dX6_scout_130 : decode cX6_scout 130 = .ok (.iconst 1, 1) := by decide +kernel
theorem dX6_scout_131 : decode cX6_scout 131 = .ok (.goto 4, 3) := by decide +kernel
theorem dX6_scout_134 : decode cX6_scout 134 = .ok (.iconst 0, 1) := by decide +kernel
theorem dX6_scout_135 : decode cX6_scout 135 = .ok (.ireturn, 1) := by decide +kernel
theorem dX6_scout_136 : decode cX6_scout 136 = .ok (.bipush (-11), 2) := by decide +kernel
theorem dX6_scout_138 : decode cX6_scout 138 = .ok (.ireturn, 1) := by decide +kernel
theorem dX6_light_0 : decode cX6_light 0 = .ok (.aload_n 0, 1) := by decide +kernel
theorem dX6_light_1 : decode cX6_light 1 = .ok (.iload_n 1, 1) := by decide +kernel
theorem dX6_light_2 : decode cX6_light 2 = .ok (.invokevirtual 137, 3) := by decide +kernel
theorem dX6_light_5 : decode cX6_light 5 = .ok (.ifCond .ne 6, 3) := by decide +kernel
theorem dX6_light_8 : decode cX6_light 8 = .ok (.bipush (-11), 2) := by decide +kernel
theorem dX6_light_10 : decode cX6_light 10 = .ok (.ireturn, 1) := by decide +kernel
theorem dX6_light_11 : decode cX6_light 11 = .ok (.iload_n 2, 1) := by decide +kernel
theorem dX6_light_12 : decode cX6_light 12 = .ok (.tableswitch 78 0 3 #[32, 45, 58, 68], 32) := by decide +kernel
theorem dX6_light_44 : decode cX6_light 44 = .ok (.aload_n 0, 1) := by decide +kernel
theorem dX6_light_45 : decode cX6_light 45 = .ok (.getfield 12, 3) := by decide +kernel
theorem dX6_light_48 : decode cX6_light 48 = .ok (.getfield 201, 3) := by decide +kernel
theorem dX6_light_51 : decode cX6_light 51 = .ok (.iload_n 1, 1) := by decide +kernel
theorem dX6_light_52 : decode cX6_light 52 = .ok (.iaload, 1) := by decide +kernel
theorem dX6_light_53 : decode cX6_light 53 = .ok (.invokestatic 106, 3) := by decide +kernel
theorem dX6_light_56 : decode cX6_light 56 = .ok (.ireturn, 1) := by decide +kernel
theorem dX6_light_57 : decode cX6_light 57 = .ok (.aload_n 0, 1) := by decide +kernel
theorem dX6_light_58 : decode cX6_light 58 = .ok (.getfield 12, 3) := by decide +kernel
theorem dX6_light_61 : decode cX6_light 61 = .ok (.getfield 201, 3) := by decide +kernel
theorem dX6_light_64 : decode cX6_light 64 = .ok (.iload_n 1, 1) := by decide +kernel
theorem dX6_light_65 : decode cX6_light 65 = .ok (.iaload, 1) := by decide +kernel
theorem dX6_light_66 : decode cX6_light 66 = .ok (.invokestatic 109, 3) := by decide +kernel
theorem dX6_light_69 : decode cX6_light 69 = .ok (.ireturn, 1) := by decide +kernel
theorem dX6_light_70 : decode cX6_light 70 = .ok (.aload_n 0, 1) := by decide +kernel
theorem dX6_light_71 : decode cX6_light 71 = .ok (.getfield 12, 3) := by decide +kernel
theorem dX6_light_74 : decode cX6_light 74 = .ok (.getfield 204, 3) := by decide +kernel
theorem dX6_light_77 : decode cX6_light 77 = .ok (.iload_n 1, 1) := by decide +kernel
theorem dX6_light_78 : decode cX6_light 78 = .ok (.iaload, 1) := by decide +kernel
theorem dX6_light_79 : decode cX6_light 79 = .ok (.ireturn, 1) := by decide +kernel
theorem dX6_light_80 : decode cX6_light 80 = .ok (.aload_n 0, 1) := by decide +kernel
theorem dX6_light_81 : decode cX6_light 81 = .ok (.getfield 12, 3) := by decide +kernel
theorem dX6_light_84 : decode cX6_light 84 = .ok (.getfield 140, 3) := by decide +kernel
theorem dX6_light_87 : decode cX6_light 87 = .ok (.iload_n 1, 1) := by decide +kernel
theorem dX6_light_88 : decode cX6_light 88 = .ok (.iaload, 1) := by decide +kernel
theorem dX6_light_89 : decode cX6_light 89 = .ok (.ireturn, 1) := by decide +kernel
theorem dX6_light_90 : decode cX6_light 90 = .ok (.bipush (-11), 2) := by decide +kernel
theorem dX6_light_92 : decode cX6_light 92 = .ok (.ireturn, 1) := by decide +kernel
theorem dX6_known_0 : decode cX6_known 0 = .ok (.iload_n 1, 1) := by decide +kernel
theorem dX6_known_1 : decode cX6_known 1 = .ok (.iconst 0, 1) := by decide +kernel
theorem dX6_known_2 : decode cX6_known 2 = .ok (.iconst 1, 1) := by decide +kernel
theorem dX6_known_3 : decode cX6_known 3 = .ok (.invokestatic 48, 3) := by decide +kernel
theorem dX6_known_6 : decode cX6_known 6 = .ok (.ifCond .eq 11, 3) := by decide +kernel
theorem dX6_known_9 : decode cX6_known 9 = .ok (.iload_n 2, 1) := by decide +kernel
theorem dX6_known_10 : decode cX6_known 10 = .ok (.iload_n 3, 1) := by decide +kernel
theorem dX6_known_11 : decode cX6_known 11 = .ok (.invokestatic 44, 3) := by decide +kernel
theorem dX6_known_14 : decode cX6_known 14 = .ok (.ifCond .ne 6, 3) := by decide +kernel
theorem dX6_known_17 : decode cX6_known 17 = .ok (.bipush (-11), 2) := by decide +kernel
theorem dX6_known_19 : decode cX6_known 19 = .ok (.ireturn, 1) := by decide +kernel
theorem dX6_known_20 : decode cX6_known 20 = .ok (.iload_n 2, 1) := by decide +kernel
theorem dX6_known_21 : decode cX6_known 21 = .ok (.iload_n 3, 1) := by decide +kernel
theorem dX6_known_22 : decode cX6_known 22 = .ok (.invokestatic 52, 3) := by decide +kernel
theorem dX6_known_25 : decode cX6_known 25 = .ok (.istore 5, 2) := by decide +kernel
theorem dX6_known_27 : decode cX6_known 27 = .ok (.aload_n 0, 1) := by decide +kernel
theorem dX6_known_28 : decode cX6_known 28 = .ok (.getfield 12, 3) := by decide +kernel
theorem dX6_known_31 : decode cX6_known 31 = .ok (.getfield 177, 3) := by decide +kernel
theorem dX6_known_34 : decode cX6_known 34 = .ok (.iload_n 1, 1) := by decide +kernel
theorem dX6_known_35 : decode cX6_known 35 = .ok (.aaload, 1) := by decide +kernel
theorem dX6_known_36 : decode cX6_known 36 = .ok (.astore 6, 2) := by decide +kernel
theorem dX6_known_38 : decode cX6_known 38 = .ok (.aload 6, 2) := by decide +kernel
theorem dX6_known_40 : decode cX6_known 40 = .ok (.getfield 207, 3) := by decide +kernel
theorem dX6_known_43 : decode cX6_known 43 = .ok (.iload 5, 2) := by decide +kernel
theorem dX6_known_45 : decode cX6_known 45 = .ok (.iaload, 1) := by decide +kernel
theorem dX6_known_46 : decode cX6_known 46 = .ok (.ifCond .ne 7, 3) := by decide +kernel
theorem dX6_known_49 : decode cX6_known 49 = .ok (.iconst 1, 1) := by decide +kernel
theorem dX6_known_50 : decode cX6_known 50 = .ok (.goto 4, 3) := by decide +kernel
theorem dX6_known_53 : decode cX6_known 53 = .ok (.iconst 0, 1) := by decide +kernel
theorem dX6_known_54 : decode cX6_known 54 = .ok (.istore 7, 2) := by decide +kernel
theorem dX6_known_56 : decode cX6_known 56 = .ok (.iload 4, 2) := by decide +kernel
theorem dX6_known_58 : decode cX6_known 58 = .ok (.tableswitch 126 0 4 #[34, 43, 62, 81, 100], 34) := by decide +kernel
theorem dX6_known_92 : decode cX6_known 92 = .ok (.aload 6, 2) := by decide +kernel
theorem dX6_known_94 : decode cX6_known 94 = .ok (.getfield 207, 3) := by decide +kernel
theorem dX6_known_97 : decode cX6_known 97 = .ok (.iload 5, 2) := by decide +kernel
theorem dX6_known_99 : decode cX6_known 99 = .ok (.iaload, 1) := by decide +kernel
theorem dX6_known_100 : decode cX6_known 100 = .ok (.ireturn, 1) := by decide +kernel
theorem dX6_known_101 : decode cX6_known 101 = .ok (.iload 7, 2) := by decide +kernel
theorem dX6_known_103 : decode cX6_known 103 = .ok (.ifCond .eq 8, 3) := by decide +kernel
theorem dX6_known_106 : decode cX6_known 106 = .ok (.bipush (-19), 2) := by decide +kernel
theorem dX6_known_108 : decode cX6_known 108 = .ok (.goto 11, 3) := by decide +kernel
theorem dX6_known_111 : decode cX6_known 111 = .ok (.aload 6, 2) := by decide +kernel
theorem dX6_known_113 : decode cX6_known 113 = .ok (.getfield 210, 3) := by decide +kernel
theorem dX6_known_116 : decode cX6_known 116 = .ok (.iload 5, 2) := by decide +kernel
theorem dX6_known_118 : decode cX6_known 118 = .ok (.iaload, 1) := by decide +kernel
theorem dX6_known_119 : decode cX6_known 119 = .ok (.ireturn, 1) := by decide +kernel
theorem dX6_known_120 : decode cX6_known 120 = .ok (.iload 7, 2) := by decide +kernel
theorem dX6_known_122 : decode cX6_known 122 = .ok (.ifCond .eq 8, 3) := by decide +kernel
theorem dX6_known_125 : decode cX6_known 125 = .ok (.bipush (-19), 2) := by decide +kernel
theorem dX6_known_127 : decode cX6_known 127 = .ok (.goto 11, 3) := by decide +kernel
theorem dX6_known_130 : decode cX6_known 130 = .ok (.aload 6, 2) := by decide +kernel
theorem dX6_known_132 : decode cX6_known 132 = .ok (.getfield 211, 3) := by decide +kernel
theorem dX6_known_135 : decode cX6_known 135 = .ok (.iload 5, 2) := by decide +kernel
theorem dX6_known_137 : decode cX6_known 137 = .ok (.iaload, 1) := by decide +kernel
theorem dX6_known_138 : decode cX6_known 138 = .ok (.ireturn, 1) := by decide +kernel
theorem dX6_known_139 : decode cX6_known 139 = .ok (.iload 7, 2) := by decide +kernel
theorem dX6_known_141 : decode cX6_known 141 = .ok (.ifCond .eq 8, 3) := by decide +kernel
theorem dX6_known_144 : decode cX6_known 144 = .ok (.bipush (-19), 2) := by decide +kernel
theorem dX6_known_146 : decode cX6_known 146 = .ok (.goto 11, 3) := by decide +kernel
theorem dX6_known_149 : decode cX6_known 149 = .ok (.aload 6, 2) := by decide +kernel
theorem dX6_known_151 : decode cX6_known 151 = .ok (.getfield 212, 3) := by decide +kernel
theorem dX6_known_154 : decode cX6_known 154 = .ok (.iload 5, 2) := by decide +kernel
theorem dX6_known_156 : decode cX6_known 156 = .ok (.iaload, 1) := by decide +kernel
theorem dX6_known_157 : decode cX6_known 157 = .ok (.ireturn, 1) := by decide +kernel
theorem dX6_known_158 : decode cX6_known 158 = .ok (.aload_n 0, 1) := by decide +kernel
theorem dX6_known_159 : decode cX6_known 159 = .ok (.getfield 19, 3) := by decide +kernel
theorem dX6_known_162 : decode cX6_known 162 = .ok (.iload 5, 2) := by decide +kernel
theorem dX6_known_164 : decode cX6_known 164 = .ok (.aload_n 0, 1) := by decide +kernel
theorem dX6_known_165 : decode cX6_known 165 = .ok (.getfield 12, 3) := by decide +kernel
theorem dX6_known_168 : decode cX6_known 168 = .ok (.iload_n 1, 1) := by decide +kernel
theorem dX6_known_169 : decode cX6_known 169 = .ok (.invokevirtual 171, 3) := by decide +kernel
theorem dX6_known_172 : decode cX6_known 172 = .ok (.invokevirtual 198, 3) := by decide +kernel
theorem dX6_known_175 : decode cX6_known 175 = .ok (.ifCond .eq 7, 3) := by decide +kernel
theorem dX6_known_178 : decode cX6_known 178 = .ok (.iconst 1, 1) := by decide +kernel
theorem dX6_known_179 : decode cX6_known 179 = .ok (.goto 4, 3) := by decide +kernel
theorem dX6_known_182 : decode cX6_known 182 = .ok (.iconst 0, 1) := by decide +kernel
theorem dX6_known_183 : decode cX6_known 183 = .ok (.ireturn, 1) := by decide +kernel
theorem dX6_known_184 : decode cX6_known 184 = .ok (.bipush (-11), 2) := by decide +kernel
theorem dX6_known_186 : decode cX6_known 186 = .ok (.ireturn, 1) := by decide +kernel
theorem dX6_view_0 : decode cX6_view 0 = .ok (.iload_n 1, 1) := by decide +kernel
theorem dX6_view_1 : decode cX6_view 1 = .ok (.iload_n 2, 1) := by decide +kernel
theorem dX6_view_2 : decode cX6_view 2 = .ok (.invokestatic 44, 3) := by decide +kernel
theorem dX6_view_5 : decode cX6_view 5 = .ok (.ifCond .eq 12, 3) := by decide +kernel
theorem dX6_view_8 : decode cX6_view 8 = .ok (.iload_n 3, 1) := by decide +kernel
theorem dX6_view_9 : decode cX6_view 9 = .ok (.iload 4, 2) := by decide +kernel
theorem dX6_view_11 : decode cX6_view 11 = .ok (.invokestatic 44, 3) := by decide +kernel
theorem dX6_view_14 : decode cX6_view 14 = .ok (.ifCond .ne 6, 3) := by decide +kernel
theorem dX6_view_17 : decode cX6_view 17 = .ok (.bipush (-11), 2) := by decide +kernel
theorem dX6_view_19 : decode cX6_view 19 = .ok (.ireturn, 1) := by decide +kernel
theorem dX6_view_20 : decode cX6_view 20 = .ok (.aload_n 0, 1) := by decide +kernel
theorem dX6_view_21 : decode cX6_view 21 = .ok (.getfield 12, 3) := by decide +kernel
theorem dX6_view_24 : decode cX6_view 24 = .ok (.iload_n 1, 1) := by decide +kernel
theorem dX6_view_25 : decode cX6_view 25 = .ok (.iload_n 2, 1) := by decide +kernel
theorem dX6_view_26 : decode cX6_view 26 = .ok (.invokestatic 52, 3) := by decide +kernel
theorem dX6_view_29 : decode cX6_view 29 = .ok (.iload_n 3, 1) := by decide +kernel
theorem dX6_view_30 : decode cX6_view 30 = .ok (.iload 4, 2) := by decide +kernel
theorem dX6_view_32 : decode cX6_view 32 = .ok (.invokestatic 52, 3) := by decide +kernel
theorem dX6_view_35 : decode cX6_view 35 = .ok (.invokestatic 215, 3) := by decide +kernel
theorem dX6_view_38 : decode cX6_view 38 = .ok (.ifCond .eq 7, 3) := by decide +kernel
theorem dX6_view_41 : decode cX6_view 41 = .ok (.iconst 1, 1) := by decide +kernel
theorem dX6_view_42 : decode cX6_view 42 = .ok (.goto 4, 3) := by decide +kernel
theorem dX6_view_45 : decode cX6_view 45 = .ok (.iconst 0, 1) := by decide +kernel
theorem dX6_view_46 : decode cX6_view 46 = .ok (.ireturn, 1) := by decide +kernel
theorem dX6_way_0 : decode cX6_way 0 = .ok (.aload_n 0, 1) := by decide +kernel
theorem dX6_way_1 : decode cX6_way 1 = .ok (.iload_n 1, 1) := by decide +kernel
theorem dX6_way_2 : decode cX6_way 2 = .ok (.invokevirtual 100, 3) := by decide +kernel
theorem dX6_way_5 : decode cX6_way 5 = .ok (.ifCond .eq 11, 3) := by decide +kernel
theorem dX6_way_8 : decode cX6_way 8 = .ok (.iload_n 2, 1) := by decide +kernel
theorem dX6_way_9 : decode cX6_way 9 = .ok (.iload_n 3, 1) := by decide +kernel
theorem dX6_way_10 : decode cX6_way 10 = .ok (.invokestatic 44, 3) := by decide +kernel
theorem dX6_way_13 : decode cX6_way 13 = .ok (.ifCond .ne 6, 3) := by decide +kernel
theorem dX6_way_16 : decode cX6_way 16 = .ok (.bipush (-11), 2) := by decide +kernel
theorem dX6_way_18 : decode cX6_way 18 = .ok (.ireturn, 1) := by decide +kernel
theorem dX6_way_19 : decode cX6_way 19 = .ok (.aload_n 0, 1) := by decide +kernel
theorem dX6_way_20 : decode cX6_way 20 = .ok (.getfield 12, 3) := by decide +kernel
theorem dX6_way_23 : decode cX6_way 23 = .ok (.getfield 177, 3) := by decide +kernel
theorem dX6_way_26 : decode cX6_way 26 = .ok (.aload_n 0, 1) := by decide +kernel
theorem dX6_way_27 : decode cX6_way 27 = .ok (.getfield 12, 3) := by decide +kernel
theorem dX6_way_30 : decode cX6_way 30 = .ok (.getfield 118, 3) := by decide +kernel
theorem dX6_way_33 : decode cX6_way 33 = .ok (.iload_n 1, 1) := by decide +kernel
theorem dX6_way_34 : decode cX6_way 34 = .ok (.iaload, 1) := by decide +kernel
theorem dX6_way_35 : decode cX6_way 35 = .ok (.aaload, 1) := by decide +kernel
theorem dX6_way_36 : decode cX6_way 36 = .ok (.astore 4, 2) := by decide +kernel
theorem dX6_way_38 : decode cX6_way 38 = .ok (.aload_n 0, 1) := by decide +kernel
theorem dX6_way_39 : decode cX6_way 39 = .ok (.getfield 40, 3) := by decide +kernel
theorem dX6_way_42 : decode cX6_way 42 = .ok (.aload 4, 2) := by decide +kernel
theorem dX6_way_44 : decode cX6_way 44 = .ok (.aload_n 0, 1) := by decide +kernel
theorem dX6_way_45 : decode cX6_way 45 = .ok (.getfield 12, 3) := by decide +kernel
theorem dX6_way_48 : decode cX6_way 48 = .ok (.getfield 103, 3) := by decide +kernel
theorem dX6_way_51 : decode cX6_way 51 = .ok (.iload_n 1, 1) := by decide +kernel
theorem dX6_way_52 : decode cX6_way 52 = .ok (.iaload, 1) := by decide +kernel
theorem dX6_way_53 : decode cX6_way 53 = .ok (.iload_n 2, 1) := by decide +kernel
theorem dX6_way_54 : decode cX6_way 54 = .ok (.iload_n 3, 1) := by decide +kernel
theorem dX6_way_55 : decode cX6_way 55 = .ok (.invokestatic 52, 3) := by decide +kernel
theorem dX6_way_58 : decode cX6_way 58 = .ok (.invokevirtual 219, 3) := by decide +kernel
theorem dX6_way_61 : decode cX6_way 61 = .ok (.ireturn, 1) := by decide +kernel
theorem dX6_lookout_0 : decode cX6_lookout 0 = .ok (.aload_n 0, 1) := by decide +kernel
theorem dX6_lookout_1 : decode cX6_lookout 1 = .ok (.iload_n 1, 1) := by decide +kernel
theorem dX6_lookout_2 : decode cX6_lookout 2 = .ok (.invokevirtual 100, 3) := by decide +kernel
theorem dX6_lookout_5 : decode cX6_lookout 5 = .ok (.ifCond .eq 13, 3) := by decide +kernel
theorem dX6_lookout_8 : decode cX6_lookout 8 = .ok (.iload_n 2, 1) := by decide +kernel
theorem dX6_lookout_9 : decode cX6_lookout 9 = .ok (.iconst 0, 1) := by decide +kernel
theorem dX6_lookout_10 : decode cX6_lookout 10 = .ok (.bipush 11, 2) := by decide +kernel
theorem dX6_lookout_12 : decode cX6_lookout 12 = .ok (.invokestatic 48, 3) := by decide +kernel
theorem dX6_lookout_15 : decode cX6_lookout 15 = .ok (.ifCond .ne 6, 3) := by decide +kernel
theorem dX6_lookout_18 : decode cX6_lookout 18 = .ok (.bipush (-11), 2) := by decide +kernel
theorem dX6_lookout_20 : decode cX6_lookout 20 = .ok (.ireturn, 1) := by decide +kernel
theorem dX6_lookout_21 : decode cX6_lookout 21 = .ok (.aload_n 0, 1) := by decide +kernel
theorem dX6_lookout_22 : decode cX6_lookout 22 = .ok (.getfield 12, 3) := by decide +kernel
theorem dX6_lookout_25 : decode cX6_lookout 25 = .ok (.getfield 103, 3) := by decide +kernel
theorem dX6_lookout_28 : decode cX6_lookout 28 = .ok (.iload_n 1, 1) := by decide +kernel
theorem dX6_lookout_29 : decode cX6_lookout 29 = .ok (.iaload, 1) := by decide +kernel
theorem dX6_lookout_30 : decode cX6_lookout 30 = .ok (.istore_n 3, 1) := by decide +kernel
theorem dX6_lookout_31 : decode cX6_lookout 31 = .ok (.iload_n 3, 1) := by decide +kernel
theorem dX6_lookout_32 : decode cX6_lookout 32 = .ok (.istore 4, 2) := by decide +kernel
theorem dX6_lookout_34 : decode cX6_lookout 34 = .ok (.iconst 0, 1) := by decide +kernel
theorem dX6_lookout_35 : decode cX6_lookout 35 = .ok (.istore 5, 2) := by decide +kernel
theorem dX6_lookout_37 : decode cX6_lookout 37 = .ok (.iconst 0, 1) := by decide +kernel
theorem dX6_lookout_38 : decode cX6_lookout 38 = .ok (.istore 6, 2) := by decide +kernel
theorem dX6_lookout_40 : decode cX6_lookout 40 = .ok (.iload 6, 2) := by decide +kernel
theorem dX6_lookout_42 : decode cX6_lookout 42 = .ok (.bipush 12, 2) := by decide +kernel
theorem dX6_lookout_44 : decode cX6_lookout 44 = .ok (.if_icmp .ge 101, 3) := by decide +kernel
theorem dX6_lookout_47 : decode cX6_lookout 47 = .ok (.iconst 0, 1) := by decide +kernel
theorem dX6_lookout_48 : decode cX6_lookout 48 = .ok (.istore 7, 2) := by decide +kernel
theorem dX6_lookout_50 : decode cX6_lookout 50 = .ok (.iload 7, 2) := by decide +kernel
theorem dX6_lookout_52 : decode cX6_lookout 52 = .ok (.bipush 10, 2) := by decide +kernel
theorem dX6_lookout_54 : decode cX6_lookout 54 = .ok (.if_icmp .ge 85, 3) := by decide +kernel
theorem dX6_lookout_57 : decode cX6_lookout 57 = .ok (.iload 6, 2) := by decide +kernel
theorem dX6_lookout_59 : decode cX6_lookout 59 = .ok (.iload 7, 2) := by decide +kernel
theorem dX6_lookout_61 : decode cX6_lookout 61 = .ok (.invokestatic 52, 3) := by decide +kernel
theorem dX6_lookout_64 : decode cX6_lookout 64 = .ok (.istore 8, 2) := by decide +kernel
theorem dX6_lookout_66 : decode cX6_lookout 66 = .ok (.iload_n 3, 1) := by decide +kernel
theorem dX6_lookout_67 : decode cX6_lookout 67 = .ok (.iload 8, 2) := by decide +kernel
theorem dX6_lookout_69 : decode cX6_lookout 69 = .ok (.invokestatic 223, 3) := by decide +kernel
theorem dX6_lookout_72 : decode cX6_lookout 72 = .ok (.iload_n 2, 1) := by decide +kernel
theorem dX6_lookout_73 : decode cX6_lookout 73 = .ok (.if_icmp .gt 60, 3) := by decide +kernel
theorem dX6_lookout_76 : decode cX6_lookout 76 = .ok (.iload 8, 2) := by decide +kernel
theorem dX6_lookout_78 : decode cX6_lookout 78 = .ok (.iload_n 3, 1) := by decide +kernel
theorem dX6_lookout_79 : decode cX6_lookout 79 = .ok (.if_icmp .eq 15, 3) := by decide +kernel
theorem dX6_lookout_82 : decode cX6_lookout 82 = .ok (.aload_n 0, 1) := by decide +kernel
theorem dX6_lookout_83 : decode cX6_lookout 83 = .ok (.getfield 12, 3) := by decide +kernel
theorem dX6_lookout_86 : decode cX6_lookout 86 = .ok (.iload 8, 2) := by decide +kernel
theorem dX6_lookout_88 : decode cX6_lookout 88 = .ok (.invokevirtual 89, 3) := by decide +kernel
theorem dX6_lookout_91 : decode cX6_lookout 91 = .ok (.ifCond .eq 42, 3) := by decide +kernel
theorem dX6_lookout_94 : decode cX6_lookout 94 = .ok (.aload_n 0, 1) := by decide +kernel
theorem dX6_lookout_95 : decode cX6_lookout 95 = .ok (.getfield 19, 3) := by decide +kernel
theorem dX6_lookout_98 : decode cX6_lookout 98 = .ok (.aload_n 0, 1) := by decide +kernel
theorem dX6_lookout_99 : decode cX6_lookout 99 = .ok (.getfield 12, 3) := by decide +kernel
theorem dX6_lookout_102 : decode cX6_lookout 102 = .ok (.iload 8, 2) := by decide +kernel
theorem dX6_lookout_104 : decode cX6_lookout 104 = .ok (.aload_n 0, 1) := by decide +kernel
theorem dX6_lookout_105 : decode cX6_lookout 105 = .ok (.getfield 12, 3) := by decide +kernel
theorem dX6_lookout_108 : decode cX6_lookout 108 = .ok (.getfield 189, 3) := by decide +kernel
theorem dX6_lookout_111 : decode cX6_lookout 111 = .ok (.iload_n 1, 1) := by decide +kernel
theorem dX6_lookout_112 : decode cX6_lookout 112 = .ok (.iaload, 1) := by decide +kernel
theorem dX6_lookout_113 : decode cX6_lookout 113 = .ok (.invokevirtual 226, 3) := by decide +kernel
theorem dX6_lookout_116 : decode cX6_lookout 116 = .ok (.istore 9, 2) := by decide +kernel
theorem dX6_lookout_118 : decode cX6_lookout 118 = .ok (.iload 9, 2) := by decide +kernel
theorem dX6_lookout_120 : decode cX6_lookout 120 = .ok (.iload 5, 2) := by decide +kernel
theorem dX6_lookout_122 : decode cX6_lookout 122 = .ok (.if_icmp .le 11, 3) := by decide +kernel
theorem dX6_lookout_125 : decode cX6_lookout 125 = .ok (.iload 9, 2) := by decide +kernel
theorem dX6_lookout_127 : decode cX6_lookout 127 = .ok (.istore 5, 2) := by decide +kernel
theorem dX6_lookout_129 : decode cX6_lookout 129 = .ok (.iload 8, 2) := by decide +kernel
theorem dX6_lookout_131 : decode cX6_lookout 131 = .ok (.istore 4, 2) := by decide +kernel
theorem dX6_lookout_133 : decode cX6_lookout 133 = .ok (.iinc 7 1, 3) := by decide +kernel
theorem dX6_lookout_136 : decode cX6_lookout 136 = .ok (.goto (-86), 3) := by decide +kernel
theorem dX6_lookout_139 : decode cX6_lookout 139 = .ok (.iinc 6 1, 3) := by decide +kernel
theorem dX6_lookout_142 : decode cX6_lookout 142 = .ok (.goto (-102), 3) := by decide +kernel
theorem dX6_lookout_145 : decode cX6_lookout 145 = .ok (.bipush 100, 2) := by decide +kernel
theorem dX6_lookout_147 : decode cX6_lookout 147 = .ok (.iload 4, 2) := by decide +kernel
theorem dX6_lookout_149 : decode cX6_lookout 149 = .ok (.invokestatic 106, 3) := by decide +kernel
theorem dX6_lookout_152 : decode cX6_lookout 152 = .ok (.imul, 1) := by decide +kernel
theorem dX6_lookout_153 : decode cX6_lookout 153 = .ok (.iload 4, 2) := by decide +kernel
theorem dX6_lookout_155 : decode cX6_lookout 155 = .ok (.invokestatic 109, 3) := by decide +kernel
theorem dX6_lookout_158 : decode cX6_lookout 158 = .ok (.iadd, 1) := by decide +kernel
theorem dX6_lookout_159 : decode cX6_lookout 159 = .ok (.ireturn, 1) := by decide +kernel
theorem dX6_alone_0 : decode cX6_alone 0 = .ok (.aload_n 0, 1) := by decide +kernel
theorem dX6_alone_1 : decode cX6_alone 1 = .ok (.iload_n 1, 1) := by decide +kernel
theorem dX6_alone_2 : decode cX6_alone 2 = .ok (.invokevirtual 100, 3) := by decide +kernel
theorem dX6_alone_5 : decode cX6_alone 5 = .ok (.ifCond .ne 6, 3) := by decide +kernel
theorem dX6_alone_8 : decode cX6_alone 8 = .ok (.bipush (-11), 2) := by decide +kernel
theorem dX6_alone_10 : decode cX6_alone 10 = .ok (.ireturn, 1) := by decide +kernel
theorem dX6_alone_11 : decode cX6_alone 11 = .ok (.aload_n 0, 1) := by decide +kernel
theorem dX6_alone_12 : decode cX6_alone 12 = .ok (.getfield 12, 3) := by decide +kernel
theorem dX6_alone_15 : decode cX6_alone 15 = .ok (.aload_n 0, 1) := by decide +kernel
theorem dX6_alone_16 : decode cX6_alone 16 = .ok (.getfield 12, 3) := by decide +kernel
theorem dX6_alone_19 : decode cX6_alone 19 = .ok (.getfield 118, 3) := by decide +kernel
theorem dX6_alone_22 : decode cX6_alone 22 = .ok (.iload_n 1, 1) := by decide +kernel
theorem dX6_alone_23 : decode cX6_alone 23 = .ok (.iaload, 1) := by decide +kernel
theorem dX6_alone_24 : decode cX6_alone 24 = .ok (.invokevirtual 171, 3) := by decide +kernel
theorem dX6_alone_27 : decode cX6_alone 27 = .ok (.istore_n 2, 1) := by decide +kernel
theorem dX6_alone_28 : decode cX6_alone 28 = .ok (.iconst 0, 1) := by decide +kernel
theorem dX6_alone_29 : decode cX6_alone 29 = .ok (.istore_n 3, 1) := by decide +kernel
theorem dX6_alone_30 : decode cX6_alone 30 = .ok (.iconst 0, 1) := by decide +kernel
theorem dX6_alone_31 : decode cX6_alone 31 = .ok (.istore 4, 2) := by decide +kernel
theorem dX6_alone_33 : decode cX6_alone 33 = .ok (.iload 4, 2) := by decide +kernel
theorem dX6_alone_35 : decode cX6_alone 35 = .ok (.bipush 120, 2) := by decide +kernel
theorem dX6_alone_37 : decode cX6_alone 37 = .ok (.if_icmp .ge 31, 3) := by decide +kernel
theorem dX6_alone_40 : decode cX6_alone 40 = .ok (.aload_n 0, 1) := by decide +kernel
theorem dX6_alone_41 : decode cX6_alone 41 = .ok (.getfield 19, 3) := by decide +kernel
theorem dX6_alone_44 : decode cX6_alone 44 = .ok (.getfield 230, 3) := by decide +kernel
theorem dX6_alone_47 : decode cX6_alone 47 = .ok (.iload 4, 2) := by decide +kernel
theorem dX6_alone_49 : decode cX6_alone 49 = .ok (.iaload, 1) := by decide +kernel
theorem dX6_alone_50 : decode cX6_alone 50 = .ok (.iload_n 2, 1) := by decide +kernel
theorem dX6_alone_51 : decode cX6_alone 51 = .ok (.iand, 1) := by decide +kernel
theorem dX6_alone_52 : decode cX6_alone 52 = .ok (.iload_n 1, 1) := by decide +kernel
theorem dX6_alone_53 : decode cX6_alone 53 = .ok (.invokestatic 192, 3) := by decide +kernel
theorem dX6_alone_56 : decode cX6_alone 56 = .ok (.if_icmp .ne 6, 3) := by decide +kernel
theorem dX6_alone_59 : decode cX6_alone 59 = .ok (.iinc 3 1, 3) := by decide +kernel
theorem dX6_alone_62 : decode cX6_alone 62 = .ok (.iinc 4 1, 3) := by decide +kernel
theorem dX6_alone_65 : decode cX6_alone 65 = .ok (.goto (-32), 3) := by decide +kernel
theorem dX6_alone_68 : decode cX6_alone 68 = .ok (.iload_n 3, 1) := by decide +kernel
theorem dX6_alone_69 : decode cX6_alone 69 = .ok (.ireturn, 1) := by decide +kernel
theorem dX6_look_0 : decode cX6_look 0 = .ok (.aload_n 0, 1) := by decide +kernel
theorem dX6_look_1 : decode cX6_look 1 = .ok (.getfield 19, 3) := by decide +kernel
theorem dX6_look_4 : decode cX6_look 4 = .ok (.aload_n 0, 1) := by decide +kernel
theorem dX6_look_5 : decode cX6_look 5 = .ok (.getfield 12, 3) := by decide +kernel
theorem dX6_look_8 : decode cX6_look 8 = .ok (.invokevirtual 115, 3) := by decide +kernel
theorem dX6_look_11 : decode cX6_look 11 = .ok (.aload_n 0, 1) := by decide +kernel
theorem dX6_look_12 : decode cX6_look 12 = .ok (.getfield 12, 3) := by decide +kernel
theorem dX6_look_15 : decode cX6_look 15 = .ok (.aload_n 0, 1) := by decide +kernel
theorem dX6_look_16 : decode cX6_look 16 = .ok (.getfield 19, 3) := by decide +kernel
theorem dX6_look_19 : decode cX6_look 19 = .ok (.invokevirtual 124, 3) := by decide +kernel
theorem dX6_look_22 : decode cX6_look 22 = .ok (.return_, 1) := by decide +kernel
theorem dX6_passTurn_0 : decode cX6_passTurn 0 = .ok (.aload_n 0, 1) := by decide +kernel
theorem dX6_passTurn_1 : decode cX6_passTurn 1 = .ok (.getfield 12, 3) := by decide +kernel
theorem dX6_passTurn_4 : decode cX6_passTurn 4 = .ok (.invokevirtual 233, 3) := by decide +kernel
theorem dX6_passTurn_7 : decode cX6_passTurn 7 = .ok (.istore_n 1, 1) := by decide +kernel
theorem dX6_passTurn_8 : decode cX6_passTurn 8 = .ok (.aload_n 0, 1) := by decide +kernel
theorem dX6_passTurn_9 : decode cX6_passTurn 9 = .ok (.getfield 12, 3) := by decide +kernel
theorem dX6_passTurn_12 : decode cX6_passTurn 12 = .ok (.dup, 1) := by decide +kernel
theorem dX6_passTurn_13 : decode cX6_passTurn 13 = .ok (.getfield 168, 3) := by decide +kernel
theorem dX6_passTurn_16 : decode cX6_passTurn 16 = .ok (.iconst 1, 1) := by decide +kernel
theorem dX6_passTurn_17 : decode cX6_passTurn 17 = .ok (.iadd, 1) := by decide +kernel
theorem dX6_passTurn_18 : decode cX6_passTurn 18 = .ok (.putfield 168, 3) := by decide +kernel
theorem dX6_passTurn_21 : decode cX6_passTurn 21 = .ok (.aload_n 0, 1) := by decide +kernel
theorem dX6_passTurn_22 : decode cX6_passTurn 22 = .ok (.getfield 12, 3) := by decide +kernel
theorem dX6_passTurn_25 : decode cX6_passTurn 25 = .ok (.invokevirtual 236, 3) := by decide +kernel
theorem dX6_passTurn_28 : decode cX6_passTurn 28 = .ok (.iload_n 1, 1) := by decide +kernel
theorem dX6_passTurn_29 : decode cX6_passTurn 29 = .ok (.ifCond .le 14, 3) := by decide +kernel
theorem dX6_passTurn_32 : decode cX6_passTurn 32 = .ok (.aload_n 0, 1) := by decide +kernel
theorem dX6_passTurn_33 : decode cX6_passTurn 33 = .ok (.getfield 19, 3) := by decide +kernel
theorem dX6_passTurn_36 : decode cX6_passTurn 36 = .ok (.aload_n 0, 1) := by decide +kernel
theorem dX6_passTurn_37 : decode cX6_passTurn 37 = .ok (.getfield 12, 3) := by decide +kernel
theorem dX6_passTurn_40 : decode cX6_passTurn 40 = .ok (.invokevirtual 115, 3) := by decide +kernel
theorem dX6_passTurn_43 : decode cX6_passTurn 43 = .ok (.aload_n 0, 1) := by decide +kernel
theorem dX6_passTurn_44 : decode cX6_passTurn 44 = .ok (.getfield 12, 3) := by decide +kernel
theorem dX6_passTurn_47 : decode cX6_passTurn 47 = .ok (.aload_n 0, 1) := by decide +kernel
theorem dX6_passTurn_48 : decode cX6_passTurn 48 = .ok (.getfield 19, 3) := by decide +kernel
theorem dX6_passTurn_51 : decode cX6_passTurn 51 = .ok (.invokevirtual 124, 3) := by decide +kernel
theorem dX6_passTurn_54 : decode cX6_passTurn 54 = .ok (.iload_n 1, 1) := by decide +kernel
theorem dX6_passTurn_55 : decode cX6_passTurn 55 = .ok (.ireturn, 1) := by decide +kernel
theorem dX6_canStep_0 : decode cX6_canStep 0 = .ok (.aload_n 0, 1) := by decide +kernel
theorem dX6_canStep_1 : decode cX6_canStep 1 = .ok (.getfield 12, 3) := by decide +kernel
theorem dX6_canStep_4 : decode cX6_canStep 4 = .ok (.iload_n 2, 1) := by decide +kernel
theorem dX6_canStep_5 : decode cX6_canStep 5 = .ok (.invokevirtual 89, 3) := by decide +kernel
theorem dX6_canStep_8 : decode cX6_canStep 8 = .ok (.ifCond .eq 33, 3) := by decide +kernel
theorem dX6_canStep_11 : decode cX6_canStep 11 = .ok (.aload_n 0, 1) := by decide +kernel
theorem dX6_canStep_12 : decode cX6_canStep 12 = .ok (.getfield 12, 3) := by decide +kernel
theorem dX6_canStep_15 : decode cX6_canStep 15 = .ok (.getfield 56, 3) := by decide +kernel
theorem dX6_canStep_18 : decode cX6_canStep 18 = .ok (.iload_n 1, 1) := by decide +kernel
theorem dX6_canStep_19 : decode cX6_canStep 19 = .ok (.iaload, 1) := by decide +kernel
theorem dX6_canStep_20 : decode cX6_canStep 20 = .ok (.aload_n 0, 1) := by decide +kernel
theorem dX6_canStep_21 : decode cX6_canStep 21 = .ok (.getfield 12, 3) := by decide +kernel
theorem dX6_canStep_24 : decode cX6_canStep 24 = .ok (.getfield 56, 3) := by decide +kernel
theorem dX6_canStep_27 : decode cX6_canStep 27 = .ok (.iload_n 2, 1) := by decide +kernel
theorem dX6_canStep_28 : decode cX6_canStep 28 = .ok (.iaload, 1) := by decide +kernel
theorem dX6_canStep_29 : decode cX6_canStep 29 = .ok (.isub, 1) := by decide +kernel
theorem dX6_canStep_30 : decode cX6_canStep 30 = .ok (.invokestatic 239, 3) := by decide +kernel
theorem dX6_canStep_33 : decode cX6_canStep 33 = .ok (.iconst 2, 1) := by decide +kernel
theorem dX6_canStep_34 : decode cX6_canStep 34 = .ok (.if_icmp .gt 7, 3) := by decide +kernel
theorem dX6_canStep_37 : decode cX6_canStep 37 = .ok (.iconst 1, 1) := by decide +kernel
theorem dX6_canStep_38 : decode cX6_canStep 38 = .ok (.goto 4, 3) := by decide +kernel
theorem dX6_canStep_41 : decode cX6_canStep 41 = .ok (.iconst 0, 1) := by decide +kernel
theorem dX6_canStep_42 : decode cX6_canStep 42 = .ok (.ireturn, 1) := by decide +kernel
theorem dX6_countUncovered_0 : decode cX6_countUncovered 0 = .ok (.aload_n 0, 1) := by decide +kernel
theorem dX6_countUncovered_1 : decode cX6_countUncovered 1 = .ok (.getfield 12, 3) := by decide +kernel
theorem dX6_countUncovered_4 : decode cX6_countUncovered 4 = .ok (.iload_n 1, 1) := by decide +kernel
theorem dX6_countUncovered_5 : decode cX6_countUncovered 5 = .ok (.invokevirtual 171, 3) := by decide +kernel
theorem dX6_countUncovered_8 : decode cX6_countUncovered 8 = .ok (.istore_n 2, 1) := by decide +kernel
theorem dX6_countUncovered_9 : decode cX6_countUncovered 9 = .ok (.iconst 0, 1) := by decide +kernel
theorem dX6_countUncovered_10 : decode cX6_countUncovered 10 = .ok (.istore_n 3, 1) := by decide +kernel
theorem dX6_countUncovered_11 : decode cX6_countUncovered 11 = .ok (.iconst 0, 1) := by decide +kernel
theorem dX6_countUncovered_12 : decode cX6_countUncovered 12 = .ok (.istore 4, 2) := by decide +kernel
theorem dX6_countUncovered_14 : decode cX6_countUncovered 14 = .ok (.iload 4, 2) := by decide +kernel
theorem dX6_countUncovered_16 : decode cX6_countUncovered 16 = .ok (.bipush 120, 2) := by decide +kernel
theorem dX6_countUncovered_18 : decode cX6_countUncovered 18 = .ok (.if_icmp .ge 43, 3) := by decide +kernel
theorem dX6_countUncovered_21 : decode cX6_countUncovered 21 = .ok (.aload_n 0, 1) := by decide +kernel
theorem dX6_countUncovered_22 : decode cX6_countUncovered 22 = .ok (.getfield 19, 3) := by decide +kernel
theorem dX6_countUncovered_25 : decode cX6_countUncovered 25 = .ok (.iload 4, 2) := by decide +kernel
theorem dX6_countUncovered_27 : decode cX6_countUncovered 27 = .ok (.iload_n 2, 1) := by decide +kernel
theorem dX6_countUncovered_28 : decode cX6_countUncovered 28 = .ok (.invokevirtual 198, 3) := by decide +kernel
theorem dX6_countUncovered_31 : decode cX6_countUncovered 31 = .ok (.ifCond .eq 24, 3) := by decide +kernel
theorem dX6_countUncovered_34 : decode cX6_countUncovered 34 = .ok (.aload_n 0, 1) := by decide +kernel
theorem dX6_countUncovered_35 : decode cX6_countUncovered 35 = .ok (.getfield 12, 3) := by decide +kernel
theorem dX6_countUncovered_38 : decode cX6_countUncovered 38 = .ok (.getfield 177, 3) := by decide +kernel
theorem dX6_countUncovered_41 : decode cX6_countUncovered 41 = .ok (.iload_n 1, 1) := by decide +kernel
theorem dX6_countUncovered_42 : decode cX6_countUncovered 42 = .ok (.aaload, 1) := by decide +kernel
theorem dX6_countUncovered_43 : decode cX6_countUncovered 43 = .ok (.getfield 207, 3) := by decide +kernel
theorem dX6_countUncovered_46 : decode cX6_countUncovered 46 = .ok (.iload 4, 2) := by decide +kernel
theorem dX6_countUncovered_48 : decode cX6_countUncovered 48 = .ok (.iaload, 1) := by decide +kernel
theorem dX6_countUncovered_49 : decode cX6_countUncovered 49 = .ok (.ifCond .ne 6, 3) := by decide +kernel
theorem dX6_countUncovered_52 : decode cX6_countUncovered 52 = .ok (.iinc 3 1, 3) := by decide +kernel
theorem dX6_countUncovered_55 : decode cX6_countUncovered 55 = .ok (.iinc 4 1, 3) := by decide +kernel
theorem dX6_countUncovered_58 : decode cX6_countUncovered 58 = .ok (.goto (-44), 3) := by decide +kernel
theorem dX6_countUncovered_61 : decode cX6_countUncovered 61 = .ok (.iload_n 3, 1) := by decide +kernel
theorem dX6_countUncovered_62 : decode cX6_countUncovered 62 = .ok (.ireturn, 1) := by decide +kernel
theorem dX6_isScout_0 : decode cX6_isScout 0 = .ok (.iload_n 1, 1) := by decide +kernel
theorem dX6_isScout_1 : decode cX6_isScout 1 = .ok (.iconst 0, 1) := by decide +kernel
theorem dX6_isScout_2 : decode cX6_isScout 2 = .ok (.aload_n 0, 1) := by decide +kernel
theorem dX6_isScout_3 : decode cX6_isScout 3 = .ok (.getfield 12, 3) := by decide +kernel
theorem dX6_isScout_6 : decode cX6_isScout 6 = .ok (.getfield 93, 3) := by decide +kernel
theorem dX6_isScout_9 : decode cX6_isScout 9 = .ok (.iconst 1, 1) := by decide +kernel
theorem dX6_isScout_10 : decode cX6_isScout 10 = .ok (.isub, 1) := by decide +kernel
theorem dX6_isScout_11 : decode cX6_isScout 11 = .ok (.invokestatic 48, 3) := by decide +kernel
theorem dX6_isScout_14 : decode cX6_isScout 14 = .ok (.ireturn, 1) := by decide +kernel
theorem dX6_isLight_0 : decode cX6_isLight 0 = .ok (.iload_n 1, 1) := by decide +kernel
theorem dX6_isLight_1 : decode cX6_isLight 1 = .ok (.iconst 0, 1) := by decide +kernel
theorem dX6_isLight_2 : decode cX6_isLight 2 = .ok (.aload_n 0, 1) := by decide +kernel
theorem dX6_isLight_3 : decode cX6_isLight 3 = .ok (.getfield 12, 3) := by decide +kernel
theorem dX6_isLight_6 : decode cX6_isLight 6 = .ok (.getfield 131, 3) := by decide +kernel
theorem dX6_isLight_9 : decode cX6_isLight 9 = .ok (.iconst 1, 1) := by decide +kernel
theorem dX6_isLight_10 : decode cX6_isLight 10 = .ok (.isub, 1) := by decide +kernel
theorem dX6_isLight_11 : decode cX6_isLight 11 = .ok (.invokestatic 48, 3) := by decide +kernel
theorem dX6_isLight_14 : decode cX6_isLight 14 = .ok (.ireturn, 1) := by decide +kernel
theorem dX6_isWithin_0 : decode cX6_isWithin 0 = .ok (.iload_n 0, 1) := by decide +kernel
theorem dX6_isWithin_1 : decode cX6_isWithin 1 = .ok (.iload_n 1, 1) := by decide +kernel
theorem dX6_isWithin_2 : decode cX6_isWithin 2 = .ok (.if_icmp .lt 12, 3) := by decide +kernel
theorem dX6_isWithin_5 : decode cX6_isWithin 5 = .ok (.iload_n 0, 1) := by decide +kernel
theorem dX6_isWithin_6 : decode cX6_isWithin 6 = .ok (.iload_n 2, 1) := by decide +kernel
theorem dX6_isWithin_7 : decode cX6_isWithin 7 = .ok (.if_icmp .gt 7, 3) := by decide +kernel
theorem dX6_isWithin_10 : decode cX6_isWithin 10 = .ok (.iconst 1, 1) := by decide +kernel
theorem dX6_isWithin_11 : decode cX6_isWithin 11 = .ok (.goto 4, 3) := by decide +kernel
theorem dX6_isWithin_14 : decode cX6_isWithin 14 = .ok (.iconst 0, 1) := by decide +kernel
theorem dX6_isWithin_15 : decode cX6_isWithin 15 = .ok (.ireturn, 1) := by decide +kernel
theorem dX6_isCell_0 : decode cX6_isCell 0 = .ok (.iload_n 0, 1) := by decide +kernel
theorem dX6_isCell_1 : decode cX6_isCell 1 = .ok (.iconst 0, 1) := by decide +kernel
theorem dX6_isCell_2 : decode cX6_isCell 2 = .ok (.bipush 11, 2) := by decide +kernel
theorem dX6_isCell_4 : decode cX6_isCell 4 = .ok (.invokestatic 48, 3) := by decide +kernel
theorem dX6_isCell_7 : decode cX6_isCell 7 = .ok (.ifCond .eq 17, 3) := by decide +kernel
theorem dX6_isCell_10 : decode cX6_isCell 10 = .ok (.iload_n 1, 1) := by decide +kernel
theorem dX6_isCell_11 : decode cX6_isCell 11 = .ok (.iconst 0, 1) := by decide +kernel
theorem dX6_isCell_12 : decode cX6_isCell 12 = .ok (.bipush 9, 2) := by decide +kernel
theorem dX6_isCell_14 : decode cX6_isCell 14 = .ok (.invokestatic 48, 3) := by decide +kernel
theorem dX6_isCell_17 : decode cX6_isCell 17 = .ok (.ifCond .eq 7, 3) := by decide +kernel
theorem dX6_isCell_20 : decode cX6_isCell 20 = .ok (.iconst 1, 1) := by decide +kernel
theorem dX6_isCell_21 : decode cX6_isCell 21 = .ok (.goto 4, 3) := by decide +kernel
theorem dX6_isCell_24 : decode cX6_isCell 24 = .ok (.iconst 0, 1) := by decide +kernel
theorem dX6_isCell_25 : decode cX6_isCell 25 = .ok (.ireturn, 1) := by decide +kernel
theorem dX6_cellAt_0 : decode cX6_cellAt 0 = .ok (.iload_n 1, 1) := by decide +kernel
theorem dX6_cellAt_1 : decode cX6_cellAt 1 = .ok (.bipush 12, 2) := by decide +kernel
theorem dX6_cellAt_3 : decode cX6_cellAt 3 = .ok (.imul, 1) := by decide +kernel
theorem dX6_cellAt_4 : decode cX6_cellAt 4 = .ok (.iload_n 0, 1) := by decide +kernel
theorem dX6_cellAt_5 : decode cX6_cellAt 5 = .ok (.iadd, 1) := by decide +kernel
theorem dX6_cellAt_6 : decode cX6_cellAt 6 = .ok (.ireturn, 1) := by decide +kernel
theorem dX6_columnOf_0 : decode cX6_columnOf 0 = .ok (.iload_n 0, 1) := by decide +kernel
theorem dX6_columnOf_1 : decode cX6_columnOf 1 = .ok (.bipush 12, 2) := by decide +kernel
theorem dX6_columnOf_3 : decode cX6_columnOf 3 = .ok (.irem, 1) := by decide +kernel
theorem dX6_columnOf_4 : decode cX6_columnOf 4 = .ok (.ireturn, 1) := by decide +kernel
theorem dX6_rowOf_0 : decode cX6_rowOf 0 = .ok (.iload_n 0, 1) := by decide +kernel
theorem dX6_rowOf_1 : decode cX6_rowOf 1 = .ok (.bipush 12, 2) := by decide +kernel
theorem dX6_rowOf_3 : decode cX6_rowOf 3 = .ok (.idiv, 1) := by decide +kernel
theorem dX6_rowOf_4 : decode cX6_rowOf 4 = .ok (.ireturn, 1) := by decide +kernel
theorem dX6_distanceOf_0 : decode cX6_distanceOf 0 = .ok (.iload_n 0, 1) := by decide +kernel
theorem dX6_distanceOf_1 : decode cX6_distanceOf 1 = .ok (.invokestatic 106, 3) := by decide +kernel
theorem dX6_distanceOf_4 : decode cX6_distanceOf 4 = .ok (.iload_n 1, 1) := by decide +kernel
theorem dX6_distanceOf_5 : decode cX6_distanceOf 5 = .ok (.invokestatic 106, 3) := by decide +kernel
theorem dX6_distanceOf_8 : decode cX6_distanceOf 8 = .ok (.isub, 1) := by decide +kernel
theorem dX6_distanceOf_9 : decode cX6_distanceOf 9 = .ok (.invokestatic 239, 3) := by decide +kernel
theorem dX6_distanceOf_12 : decode cX6_distanceOf 12 = .ok (.istore_n 2, 1) := by decide +kernel
theorem dX6_distanceOf_13 : decode cX6_distanceOf 13 = .ok (.iload_n 0, 1) := by decide +kernel
theorem dX6_distanceOf_14 : decode cX6_distanceOf 14 = .ok (.invokestatic 109, 3) := by decide +kernel
theorem dX6_distanceOf_17 : decode cX6_distanceOf 17 = .ok (.iload_n 1, 1) := by decide +kernel
theorem dX6_distanceOf_18 : decode cX6_distanceOf 18 = .ok (.invokestatic 109, 3) := by decide +kernel
theorem dX6_distanceOf_21 : decode cX6_distanceOf 21 = .ok (.isub, 1) := by decide +kernel
theorem dX6_distanceOf_22 : decode cX6_distanceOf 22 = .ok (.invokestatic 239, 3) := by decide +kernel
theorem dX6_distanceOf_25 : decode cX6_distanceOf 25 = .ok (.istore_n 3, 1) := by decide +kernel
theorem dX6_distanceOf_26 : decode cX6_distanceOf 26 = .ok (.iload_n 2, 1) := by decide +kernel
theorem dX6_distanceOf_27 : decode cX6_distanceOf 27 = .ok (.iload_n 3, 1) := by decide +kernel
theorem dX6_distanceOf_28 : decode cX6_distanceOf 28 = .ok (.invokestatic 244, 3) := by decide +kernel
theorem dX6_distanceOf_31 : decode cX6_distanceOf 31 = .ok (.ireturn, 1) := by decide +kernel
theorem dX6_otherSide_0 : decode cX6_otherSide 0 = .ok (.iconst 1, 1) := by decide +kernel
theorem dX6_otherSide_1 : decode cX6_otherSide 1 = .ok (.iload_n 0, 1) := by decide +kernel
theorem dX6_otherSide_2 : decode cX6_otherSide 2 = .ok (.isub, 1) := by decide +kernel
theorem dX6_otherSide_3 : decode cX6_otherSide 3 = .ok (.ireturn, 1) := by decide +kernel
theorem dX6_bitOf_0 : decode cX6_bitOf 0 = .ok (.iconst 1, 1) := by decide +kernel
theorem dX6_bitOf_1 : decode cX6_bitOf 1 = .ok (.iload_n 0, 1) := by decide +kernel
theorem dX6_bitOf_2 : decode cX6_bitOf 2 = .ok (.ishl, 1) := by decide +kernel
theorem dX6_bitOf_3 : decode cX6_bitOf 3 = .ok (.ireturn, 1) := by decide +kernel
theorem dX6_copy_0 : decode cX6_copy 0 = .ok (.aload_n 0, 1) := by decide +kernel
theorem dX6_copy_1 : decode cX6_copy 1 = .ok (.iconst 0, 1) := by decide +kernel
theorem dX6_copy_2 : decode cX6_copy 2 = .ok (.aload_n 1, 1) := by decide +kernel
theorem dX6_copy_3 : decode cX6_copy 3 = .ok (.iconst 0, 1) := by decide +kernel
theorem dX6_copy_4 : decode cX6_copy 4 = .ok (.aload_n 0, 1) := by decide +kernel
theorem dX6_copy_5 : decode cX6_copy 5 = .ok (.arraylength, 1) := by decide +kernel
theorem dX6_copy_6 : decode cX6_copy 6 = .ok (.aload_n 1, 1) := by decide +kernel
theorem dX6_copy_7 : decode cX6_copy 7 = .ok (.arraylength, 1) := by decide +kernel
theorem dX6_copy_8 : decode cX6_copy 8 = .ok (.invokestatic 247, 3) := by decide +kernel
theorem dX6_copy_11 : decode cX6_copy 11 = .ok (.invokestatic 250, 3) := by decide +kernel
theorem dX6_copy_14 : decode cX6_copy 14 = .ok (.return_, 1) := by decide +kernel
theorem dX6_closeGap_0 : decode cX6_closeGap 0 = .ok (.iload_n 1, 1) := by decide +kernel
theorem dX6_closeGap_1 : decode cX6_closeGap 1 = .ok (.istore_n 3, 1) := by decide +kernel
theorem dX6_closeGap_2 : decode cX6_closeGap 2 = .ok (.iload_n 3, 1) := by decide +kernel
theorem dX6_closeGap_3 : decode cX6_closeGap 3 = .ok (.iconst 1, 1) := by decide +kernel
theorem dX6_closeGap_4 : decode cX6_closeGap 4 = .ok (.iadd, 1) := by decide +kernel
theorem dX6_closeGap_5 : decode cX6_closeGap 5 = .ok (.iload_n 2, 1) := by decide +kernel
theorem dX6_closeGap_6 : decode cX6_closeGap 6 = .ok (.if_icmp .ge 17, 3) := by decide +kernel
theorem dX6_closeGap_9 : decode cX6_closeGap 9 = .ok (.aload_n 0, 1) := by decide +kernel
theorem dX6_closeGap_10 : decode cX6_closeGap 10 = .ok (.iload_n 3, 1) := by decide +kernel
theorem dX6_closeGap_11 : decode cX6_closeGap 11 = .ok (.aload_n 0, 1) := by decide +kernel
theorem dX6_closeGap_12 : decode cX6_closeGap 12 = .ok (.iload_n 3, 1) := by decide +kernel
theorem dX6_closeGap_13 : decode cX6_closeGap 13 = .ok (.iconst 1, 1) := by decide +kernel
theorem dX6_closeGap_14 : decode cX6_closeGap 14 = .ok (.iadd, 1) := by decide +kernel
theorem dX6_closeGap_15 : decode cX6_closeGap 15 = .ok (.iaload, 1) := by decide +kernel
theorem dX6_closeGap_16 : decode cX6_closeGap 16 = .ok (.iastore, 1) := by decide +kernel
theorem dX6_closeGap_17 : decode cX6_closeGap 17 = .ok (.iinc 3 1, 3) := by decide +kernel
theorem dX6_closeGap_20 : decode cX6_closeGap 20 = .ok (.goto (-18), 3) := by decide +kernel
theorem dX6_closeGap_23 : decode cX6_closeGap 23 = .ok (.return_, 1) := by decide +kernel
theorem dX7_init_0 : decode cX7_init 0 = .ok (.aload_n 0, 1) := by decide +kernel
theorem dX7_init_1 : decode cX7_init 1 = .ok (.invokespecial 1, 3) := by decide +kernel
theorem dX7_init_4 : decode cX7_init 4 = .ok (.aload_n 0, 1) := by decide +kernel
theorem dX7_init_5 : decode cX7_init 5 = .ok (.sipush 1268, 3) := by decide +kernel
theorem dX7_init_8 : decode cX7_init 8 = .ok (.newarray .int, 2) := by decide +kernel
theorem dX7_init_10 : decode cX7_init 10 = .ok (.putfield 7, 3) := by decide +kernel
theorem dX7_init_13 : decode cX7_init 13 = .ok (.aload_n 0, 1) := by decide +kernel
theorem dX7_init_14 : decode cX7_init 14 = .ok (.sipush 1268, 3) := by decide +kernel
theorem dX7_init_17 : decode cX7_init 17 = .ok (.newarray .int, 2) := by decide +kernel
theorem dX7_init_19 : decode cX7_init 19 = .ok (.putfield 13, 3) := by decide +kernel
theorem dX7_init_22 : decode cX7_init 22 = .ok (.aload_n 0, 1) := by decide +kernel
theorem dX7_init_23 : decode cX7_init 23 = .ok (.sipush 6340, 3) := by decide +kernel
theorem dX7_init_26 : decode cX7_init 26 = .ok (.newarray .int, 2) := by decide +kernel
theorem dX7_init_28 : decode cX7_init 28 = .ok (.putfield 16, 3) := by decide +kernel
theorem dX7_init_31 : decode cX7_init 31 = .ok (.aload_n 0, 1) := by decide +kernel
theorem dX7_init_32 : decode cX7_init 32 = .ok (.bipush 120, 2) := by decide +kernel
theorem dX7_init_34 : decode cX7_init 34 = .ok (.newarray .int, 2) := by decide +kernel
theorem dX7_init_36 : decode cX7_init 36 = .ok (.putfield 19, 3) := by decide +kernel
theorem dX7_init_39 : decode cX7_init 39 = .ok (.aload_n 0, 1) := by decide +kernel
theorem dX7_init_40 : decode cX7_init 40 = .ok (.bipush 120, 2) := by decide +kernel
theorem dX7_init_42 : decode cX7_init 42 = .ok (.newarray .int, 2) := by decide +kernel
theorem dX7_init_44 : decode cX7_init 44 = .ok (.putfield 22, 3) := by decide +kernel
theorem dX7_init_47 : decode cX7_init 47 = .ok (.aload_n 0, 1) := by decide +kernel
theorem dX7_init_48 : decode cX7_init 48 = .ok (.iconst 0, 1) := by decide +kernel
theorem dX7_init_49 : decode cX7_init 49 = .ok (.putfield 25, 3) := by decide +kernel
theorem dX7_init_52 : decode cX7_init 52 = .ok (.aload_n 0, 1) := by decide +kernel
theorem dX7_init_53 : decode cX7_init 53 = .ok (.getfield 7, 3) := by decide +kernel
theorem dX7_init_56 : decode cX7_init 56 = .ok (.iconst 2, 1) := by decide +kernel
theorem dX7_init_57 : decode cX7_init 57 = .ok (.bipush 10, 2) := by decide +kernel
theorem dX7_init_59 : decode cX7_init 59 = .ok (.iastore, 1) := by decide +kernel
theorem dX7_init_60 : decode cX7_init 60 = .ok (.return_, 1) := by decide +kernel
theorem dX7_in_0 : decode cX7_in 0 = .ok (.iload_n 0, 1) := by decide +kernel
theorem dX7_in_1 : decode cX7_in 1 = .ok (.iload_n 1, 1) := by decide +kernel
theorem dX7_in_2 : decode cX7_in 2 = .ok (.if_icmp .lt 12, 3) := by decide +kernel
theorem dX7_in_5 : decode cX7_in 5 = .ok (.iload_n 0, 1) := by decide +kernel
theorem dX7_in_6 : decode cX7_in 6 = .ok (.iload_n 2, 1) := by decide +kernel
theorem dX7_in_7 : decode cX7_in 7 = .ok (.if_icmp .gt 7, 3) := by decide +kernel
theorem dX7_in_10 : decode cX7_in 10 = .ok (.iconst 1, 1) := by decide +kernel
theorem dX7_in_11 : decode cX7_in 11 = .ok (.goto 4, 3) := by decide +kernel
theorem dX7_in_14 : decode cX7_in 14 = .ok (.iconst 0, 1) := by decide +kernel
theorem dX7_in_15 : decode cX7_in 15 = .ok (.ireturn, 1) := by decide +kernel
theorem dX7_apart_0 : decode cX7_apart 0 = .ok (.iload_n 0, 1) := by decide +kernel
theorem dX7_apart_1 : decode cX7_apart 1 = .ok (.iload_n 1, 1) := by decide +kernel
theorem dX7_apart_2 : decode cX7_apart 2 = .ok (.if_icmp .ge 9, 3) := by decide +kernel
theorem dX7_apart_5 : decode cX7_apart 5 = .ok (.iload_n 1, 1) := by decide +kernel
theorem dX7_apart_6 : decode cX7_apart 6 = .ok (.iload_n 0, 1) := by decide +kernel
theorem dX7_apart_7 : decode cX7_apart 7 = .ok (.isub, 1) := by decide +kernel
theorem dX7_apart_8 : decode cX7_apart 8 = .ok (.goto 6, 3) := by decide +kernel
theorem dX7_apart_11 : decode cX7_apart 11 = .ok (.iload_n 0, 1) := by decide +kernel
theorem dX7_apart_12 : decode cX7_apart 12 = .ok (.iload_n 1, 1) := by decide +kernel
theorem dX7_apart_13 : decode cX7_apart 13 = .ok (.isub, 1) := by decide +kernel
theorem dX7_apart_14 : decode cX7_apart 14 = .ok (.ireturn, 1) := by decide +kernel
theorem dX7_more_0 : decode cX7_more 0 = .ok (.iload_n 0, 1) := by decide +kernel
theorem dX7_more_1 : decode cX7_more 1 = .ok (.iload_n 1, 1) := by decide +kernel
theorem dX7_more_2 : decode cX7_more 2 = .ok (.if_icmp .le 7, 3) := by decide +kernel
theorem dX7_more_5 : decode cX7_more 5 = .ok (.iload_n 0, 1) := by decide +kernel
theorem dX7_more_6 : decode cX7_more 6 = .ok (.goto 4, 3) := by decide +kernel
theorem dX7_more_9 : decode cX7_more 9 = .ok (.iload_n 1, 1) := by decide +kernel
theorem dX7_more_10 : decode cX7_more 10 = .ok (.ireturn, 1) := by decide +kernel
theorem dX7_act_0 : decode cX7_act 0 = .ok (.aload_n 0, 1) := by decide +kernel
theorem dX7_act_1 : decode cX7_act 1 = .ok (.getfield 29, 3) := by decide +kernel
theorem dX7_act_4 : decode cX7_act 4 = .ok (.iconst 5, 1) := by decide +kernel
theorem dX7_act_5 : decode cX7_act 5 = .ok (.if_icmp .ne 44, 3) := by decide +kernel
theorem dX7_act_8 : decode cX7_act 8 = .ok (.iconst 0, 1) := by decide +kernel
theorem dX7_act_9 : decode cX7_act 9 = .ok (.istore_n 1, 1) := by decide +kernel
theorem dX7_act_10 : decode cX7_act 10 = .ok (.iload_n 1, 1) := by decide +kernel
theorem dX7_act_11 : decode cX7_act 11 = .ok (.sipush 5072, 3) := by decide +kernel
theorem dX7_act_14 : decode cX7_act 14 = .ok (.if_icmp .ge 25, 3) := by decide +kernel
theorem dX7_act_17 : decode cX7_act 17 = .ok (.aload_n 0, 1) := by decide +kernel
theorem dX7_act_18 : decode cX7_act 18 = .ok (.getfield 16, 3) := by decide +kernel
theorem dX7_act_21 : decode cX7_act 21 = .ok (.iload_n 1, 1) := by decide +kernel
theorem dX7_act_22 : decode cX7_act 22 = .ok (.aload_n 0, 1) := by decide +kernel
theorem dX7_act_23 : decode cX7_act 23 = .ok (.getfield 16, 3) := by decide +kernel
theorem dX7_act_26 : decode cX7_act 26 = .ok (.iload_n 1, 1) := by decide +kernel
theorem dX7_act_27 : decode cX7_act 27 = .ok (.sipush 1268, 3) := by decide +kernel
theorem dX7_act_30 : decode cX7_act 30 = .ok (.iadd, 1) := by decide +kernel
theorem dX7_act_31 : decode cX7_act 31 = .ok (.iaload, 1) := by decide +kernel
theorem dX7_act_32 : decode cX7_act 32 = .ok (.iastore, 1) := by decide +kernel
theorem dX7_act_33 : decode cX7_act 33 = .ok (.iinc 1 1, 3) := by decide +kernel
theorem dX7_act_36 : decode cX7_act 36 = .ok (.goto (-26), 3) := by decide +kernel
theorem dX7_act_39 : decode cX7_act 39 = .ok (.aload_n 0, 1) := by decide +kernel
theorem dX7_act_40 : decode cX7_act 40 = .ok (.dup, 1) := by decide +kernel
theorem dX7_act_41 : decode cX7_act 41 = .ok (.getfield 29, 3) := by decide +kernel
theorem dX7_act_44 : decode cX7_act 44 = .ok (.iconst 1, 1) := by decide +kernel
theorem dX7_act_45 : decode cX7_act 45 = .ok (.isub, 1) := by decide +kernel
theorem dX7_act_46 : decode cX7_act 46 = .ok (.putfield 29, 3) := by decide +kernel
theorem dX7_act_49 : decode cX7_act 49 = .ok (.iconst 0, 1) := by decide +kernel
theorem dX7_act_50 : decode cX7_act 50 = .ok (.istore_n 1, 1) := by decide +kernel
theorem dX7_act_51 : decode cX7_act 51 = .ok (.iload_n 1, 1) := by decide +kernel
theorem dX7_act_52 : decode cX7_act 52 = .ok (.sipush 1268, 3) := by decide +kernel
theorem dX7_act_55 : decode cX7_act 55 = .ok (.if_icmp .ge 30, 3) := by decide +kernel
theorem dX7_act_58 : decode cX7_act 58 = .ok (.aload_n 0, 1) := by decide +kernel
theorem dX7_act_59 : decode cX7_act 59 = .ok (.getfield 16, 3) := by decide +kernel
theorem dX7_act_62 : decode cX7_act 62 = .ok (.sipush 1268, 3) := by decide +kernel
theorem dX7_act_65 : decode cX7_act 65 = .ok (.aload_n 0, 1) := by decide +kernel
theorem dX7_act_66 : decode cX7_act 66 = .ok (.getfield 29, 3) := by decide +kernel
theorem dX7_act_69 : decode cX7_act 69 = .ok (.imul, 1) := by decide +kernel
theorem dX7_act_70 : decode cX7_act 70 = .ok (.iload_n 1, 1) := by decide +kernel
theorem dX7_act_71 : decode cX7_act 71 = .ok (.iadd, 1) := by decide +kernel
theorem dX7_act_72 : decode cX7_act 72 = .ok (.aload_n 0, 1) := by decide +kernel
theorem dX7_act_73 : decode cX7_act 73 = .ok (.getfield 7, 3) := by decide +kernel
theorem dX7_act_76 : decode cX7_act 76 = .ok (.iload_n 1, 1) := by decide +kernel
theorem dX7_act_77 : decode cX7_act 77 = .ok (.iaload, 1) := by decide +kernel
theorem dX7_act_78 : decode cX7_act 78 = .ok (.iastore, 1) := by decide +kernel
theorem dX7_act_79 : decode cX7_act 79 = .ok (.iinc 1 1, 3) := by decide +kernel
theorem dX7_act_82 : decode cX7_act 82 = .ok (.goto (-31), 3) := by decide +kernel
theorem dX7_act_85 : decode cX7_act 85 = .ok (.aload_n 0, 1) := by decide +kernel
theorem dX7_act_86 : decode cX7_act 86 = .ok (.dup, 1) := by decide +kernel
theorem dX7_act_87 : decode cX7_act 87 = .ok (.getfield 29, 3) := by decide +kernel
theorem dX7_act_90 : decode cX7_act 90 = .ok (.iconst 1, 1) := by decide +kernel
theorem dX7_act_91 : decode cX7_act 91 = .ok (.iadd, 1) := by decide +kernel
theorem dX7_act_92 : decode cX7_act 92 = .ok (.putfield 29, 3) := by decide +kernel
theorem dX7_act_95 : decode cX7_act 95 = .ok (.return_, 1) := by decide +kernel
theorem dX7_isCell_0 : decode cX7_isCell 0 = .ok (.iload_n 0, 1) := by decide +kernel
theorem dX7_isCell_1 : decode cX7_isCell 1 = .ok (.iconst 0, 1) := by decide +kernel
theorem dX7_isCell_2 : decode cX7_isCell 2 = .ok (.bipush 11, 2) := by decide +kernel
theorem dX7_isCell_4 : decode cX7_isCell 4 = .ok (.invokestatic 32, 3) := by decide +kernel
theorem dX7_isCell_7 : decode cX7_isCell 7 = .ok (.ifCond .eq 17, 3) := by decide +kernel
theorem dX7_isCell_10 : decode cX7_isCell 10 = .ok (.iload_n 1, 1) := by decide +kernel
theorem dX7_isCell_11 : decode cX7_isCell 11 = .ok (.iconst 0, 1) := by decide +kernel
theorem dX7_isCell_12 : decode cX7_isCell 12 = .ok (.bipush 9, 2) := by decide +kernel
theorem dX7_isCell_14 : decode cX7_isCell 14 = .ok (.invokestatic 32, 3) := by decide +kernel
theorem dX7_isCell_17 : decode cX7_isCell 17 = .ok (.ifCond .eq 7, 3) := by decide +kernel
theorem dX7_isCell_20 : decode cX7_isCell 20 = .ok (.iconst 1, 1) := by decide +kernel
theorem dX7_isCell_21 : decode cX7_isCell 21 = .ok (.goto 4, 3) := by decide +kernel
theorem dX7_isCell_24 : decode cX7_isCell 24 = .ok (.iconst 0, 1) := by decide +kernel
theorem dX7_isCell_25 : decode cX7_isCell 25 = .ok (.ireturn, 1) := by decide +kernel
theorem dX7_at_0 : decode cX7_at 0 = .ok (.bipush 12, 2) := by decide +kernel
theorem dX7_at_2 : decode cX7_at 2 = .ok (.iload_n 1, 1) := by decide +kernel
theorem dX7_at_3 : decode cX7_at 3 = .ok (.imul, 1) := by decide +kernel
theorem dX7_at_4 : decode cX7_at 4 = .ok (.iload_n 0, 1) := by decide +kernel
theorem dX7_at_5 : decode cX7_at 5 = .ok (.iadd, 1) := by decide +kernel
theorem dX7_at_6 : decode cX7_at 6 = .ok (.ireturn, 1) := by decide +kernel
theorem dX7_distance_0 : decode cX7_distance 0 = .ok (.iload_n 0, 1) := by decide +kernel
theorem dX7_distance_1 : decode cX7_distance 1 = .ok (.bipush 12, 2) := by decide +kernel
theorem dX7_distance_3 : decode cX7_distance 3 = .ok (.irem, 1) := by decide +kernel
theorem dX7_distance_4 : decode cX7_distance 4 = .ok (.iload_n 1, 1) := by decide +kernel
theorem dX7_distance_5 : decode cX7_distance 5 = .ok (.bipush 12, 2) := by decide +kernel
theorem dX7_distance_7 : decode cX7_distance 7 = .ok (.irem, 1) := by decide +kernel
theorem dX7_distance_8 : decode cX7_distance 8 = .ok (.invokestatic 36, 3) := by decide +kernel
theorem dX7_distance_11 : decode cX7_distance 11 = .ok (.iload_n 0, 1) := by decide +kernel
theorem dX7_distance_12 : decode cX7_distance 12 = .ok (.bipush 12, 2) := by decide +kernel
theorem dX7_distance_14 : decode cX7_distance 14 = .ok (.idiv, 1) := by decide +kernel
theorem dX7_distance_15 : decode cX7_distance 15 = .ok (.iload_n 1, 1) := by decide +kernel
theorem dX7_distance_16 : decode cX7_distance 16 = .ok (.bipush 12, 2) := by decide +kernel
theorem dX7_distance_18 : decode cX7_distance 18 = .ok (.idiv, 1) := by decide +kernel
theorem dX7_distance_19 : decode cX7_distance 19 = .ok (.invokestatic 36, 3) := by decide +kernel
theorem dX7_distance_22 : decode cX7_distance 22 = .ok (.invokestatic 40, 3) := by decide +kernel
theorem dX7_distance_25 : decode cX7_distance 25 = .ok (.ireturn, 1) := by decide +kernel
theorem dX7_isScout_0 : decode cX7_isScout 0 = .ok (.iload_n 1, 1) := by decide +kernel
theorem dX7_isScout_1 : decode cX7_isScout 1 = .ok (.iconst 0, 1) := by decide +kernel
theorem dX7_isScout_2 : decode cX7_isScout 2 = .ok (.aload_n 0, 1) := by decide +kernel
theorem dX7_isScout_3 : decode cX7_isScout 3 = .ok (.getfield 7, 3) := by decide +kernel
theorem dX7_isScout_6 : decode cX7_isScout 6 = .ok (.iconst 0, 1) := by decide +kernel
theorem dX7_isScout_7 : decode cX7_isScout 7 = .ok (.iaload, 1) := by decide +kernel
theorem dX7_isScout_8 : decode cX7_isScout 8 = .ok (.iconst 1, 1) := by decide +kernel
theorem dX7_isScout_9 : decode cX7_isScout 9 = .ok (.isub, 1) := by decide +kernel
theorem dX7_isScout_10 : decode cX7_isScout 10 = .ok (.invokestatic 32, 3) := by decide +kernel
theorem dX7_isScout_13 : decode cX7_isScout 13 = .ok (.ireturn, 1) := by decide +kernel
theorem dX7_isLight_0 : decode cX7_isLight 0 = .ok (.iload_n 1, 1) := by decide +kernel
theorem dX7_isLight_1 : decode cX7_isLight 1 = .ok (.iconst 0, 1) := by decide +kernel
theorem dX7_isLight_2 : decode cX7_isLight 2 = .ok (.aload_n 0, 1) := by decide +kernel
theorem dX7_isLight_3 : decode cX7_isLight 3 = .ok (.getfield 7, 3) := by decide +kernel
theorem dX7_isLight_6 : decode cX7_isLight 6 = .ok (.iconst 1, 1) := by decide +kernel
theorem dX7_isLight_7 : decode cX7_isLight 7 = .ok (.iaload, 1) := by decide +kernel
theorem dX7_isLight_8 : decode cX7_isLight 8 = .ok (.iconst 1, 1) := by decide +kernel
theorem dX7_isLight_9 : decode cX7_isLight 9 = .ok (.isub, 1) := by decide +kernel
theorem dX7_isLight_10 : decode cX7_isLight 10 = .ok (.invokestatic 32, 3) := by decide +kernel
theorem dX7_isLight_13 : decode cX7_isLight 13 = .ok (.ireturn, 1) := by decide +kernel
theorem dX7_ofScout_0 : decode cX7_ofScout 0 = .ok (.aload_n 0, 1) := by decide +kernel
theorem dX7_ofScout_1 : decode cX7_ofScout 1 = .ok (.getfield 7, 3) := by decide +kernel
theorem dX7_ofScout_4 : decode cX7_ofScout 4 = .ok (.iconst 4, 1) := by decide +kernel
theorem dX7_ofScout_5 : decode cX7_ofScout 5 = .ok (.iconst 4, 1) := by decide +kernel
theorem dX7_ofScout_6 : decode cX7_ofScout 6 = .ok (.iload_n 1, 1) := by decide +kernel
theorem dX7_ofScout_7 : decode cX7_ofScout 7 = .ok (.imul, 1) := by decide +kernel
theorem dX7_ofScout_8 : decode cX7_ofScout 8 = .ok (.iadd, 1) := by decide +kernel
theorem dX7_ofScout_9 : decode cX7_ofScout 9 = .ok (.iload_n 2, 1) := by decide +kernel
theorem dX7_ofScout_10 : decode cX7_ofScout 10 = .ok (.iadd, 1) := by decide +kernel
theorem dX7_ofScout_11 : decode cX7_ofScout 11 = .ok (.iaload, 1) := by decide +kernel
theorem dX7_ofScout_12 : decode cX7_ofScout 12 = .ok (.ireturn, 1) := by decide +kernel
theorem dX7_ofLight_0 : decode cX7_ofLight 0 = .ok (.aload_n 0, 1) := by decide +kernel
theorem dX7_ofLight_1 : decode cX7_ofLight 1 = .ok (.getfield 7, 3) := by decide +kernel
theorem dX7_ofLight_4 : decode cX7_ofLight 4 = .ok (.bipush 44, 2) := by decide +kernel
theorem dX7_ofLight_6 : decode cX7_ofLight 6 = .ok (.iconst 4, 1) := by decide +kernel
theorem dX7_ofLight_7 : decode cX7_ofLight 7 = .ok (.iload_n 1, 1) := by decide +kernel
theorem dX7_ofLight_8 : decode cX7_ofLight 8 = .ok (.imul, 1) := by decide +kernel
theorem dX7_ofLight_9 : decode cX7_ofLight 9 = .ok (.iadd, 1) := by decide +kernel
theorem dX7_ofLight_10 : decode cX7_ofLight 10 = .ok (.iload_n 2, 1) := by decide +kernel
theorem dX7_ofLight_11 : decode cX7_ofLight 11 = .ok (.iadd, 1) := by decide +kernel
theorem dX7_ofLight_12 : decode cX7_ofLight 12 = .ok (.iaload, 1) := by decide +kernel
theorem dX7_ofLight_13 : decode cX7_ofLight 13 = .ok (.ireturn, 1) := by decide +kernel
theorem dX7_cellOf_0 : decode cX7_cellOf 0 = .ok (.aload_n 0, 1) := by decide +kernel
theorem dX7_cellOf_1 : decode cX7_cellOf 1 = .ok (.iload_n 1, 1) := by decide +kernel
theorem dX7_cellOf_2 : decode cX7_cellOf 2 = .ok (.iconst 1, 1) := by decide +kernel
theorem dX7_cellOf_3 : decode cX7_cellOf 3 = .ok (.invokevirtual 43, 3) := by decide +kernel
theorem dX7_cellOf_6 : decode cX7_cellOf 6 = .ok (.aload_n 0, 1) := by decide +kernel
theorem dX7_cellOf_7 : decode cX7_cellOf 7 = .ok (.iload_n 1, 1) := by decide +kernel
theorem dX7_cellOf_8 : decode cX7_cellOf 8 = .ok (.iconst 2, 1) := by decide +kernel
theorem dX7_cellOf_9 : decode cX7_cellOf 9 = .ok (.invokevirtual 43, 3) := by decide +kernel
theorem dX7_cellOf_12 : decode cX7_cellOf 12 = .ok (.invokestatic 46, 3) := by decide +kernel
theorem dX7_cellOf_15 : decode cX7_cellOf 15 = .ok (.ireturn, 1) := by decide +kernel
theorem dX7_scoutIn_0 : decode cX7_scoutIn 0 = .ok (.iconst 0, 1) := by decide +kernel
theorem dX7_scoutIn_1 : decode cX7_scoutIn 1 = .ok (.istore_n 2, 1) := by decide +kernel
theorem dX7_scoutIn_2 : decode cX7_scoutIn 2 = .ok (.iload_n 2, 1) := by decide +kernel
theorem dX7_scoutIn_3 : decode cX7_scoutIn 3 = .ok (.aload_n 0, 1) := by decide +kernel
theorem dX7_scoutIn_4 : decode cX7_scoutIn 4 = .ok (.getfield 7, 3) := by decide +kernel
theorem dX7_scoutIn_7 : decode cX7_scoutIn 7 = .ok (.iconst 0, 1) := by decide +kernel
theorem dX7_scoutIn_8 : decode cX7_scoutIn 8 = .ok (.iaload, 1) := by decide +kernel
theorem dX7_scoutIn_9 : decode cX7_scoutIn 9 = .ok (.if_icmp .ge 20, 3) := by decide +kernel
theorem dX7_scoutIn_12 : decode cX7_scoutIn 12 = .ok (.aload_n 0, 1) := by decide +kernel
theorem dX7_scoutIn_13 : decode cX7_scoutIn 13 = .ok (.iload_n 2, 1) := by decide +kernel
theorem dX7_scoutIn_14 : decode cX7_scoutIn 14 = .ok (.invokevirtual 49, 3) := by decide +kernel
theorem dX7_scoutIn_17 : decode cX7_scoutIn 17 = .ok (.iload_n 1, 1) := by decide +kernel
theorem dX7_scoutIn_18 : decode cX7_scoutIn 18 = .ok (.if_icmp .ne 5, 3) := by decide +kernel
theorem dX7_scoutIn_21 : decode cX7_scoutIn 21 = .ok (.iload_n 2, 1) := by decide +kernel
theorem dX7_scoutIn_22 : decode cX7_scoutIn 22 = .ok (.ireturn, 1) := by decide +kernel
theorem dX7_scoutIn_23 : decode cX7_scoutIn 23 = .ok (.iinc 2 1, 3) := by decide +kernel
theorem dX7_scoutIn_26 : decode cX7_scoutIn 26 = .ok (.goto (-24), 3) := by decide +kernel
theorem dX7_scoutIn_29 : decode cX7_scoutIn 29 = .ok (.bipush (-19), 2) := by decide +kernel
theorem dX7_scoutIn_31 : decode cX7_scoutIn 31 = .ok (.ireturn, 1) := by decide +kernel
theorem dX7_isLit_0 : decode cX7_isLit 0 = .ok (.iconst 0, 1) := by decide +kernel
theorem dX7_isLit_1 : decode cX7_isLit 1 = .ok (.istore_n 2, 1) := by decide +kernel
theorem dX7_isLit_2 : decode cX7_isLit 2 = .ok (.iconst 0, 1) := by decide +kernel
theorem dX7_isLit_3 : decode cX7_isLit 3 = .ok (.istore_n 3, 1) := by decide +kernel
theorem dX7_isLit_4 : decode cX7_isLit 4 = .ok (.iload_n 3, 1) := by decide +kernel
theorem dX7_isLit_5 : decode cX7_isLit 5 = .ok (.aload_n 0, 1) := by decide +kernel
theorem dX7_isLit_6 : decode cX7_isLit 6 = .ok (.getfield 7, 3) := by decide +kernel
theorem dX7_isLit_9 : decode cX7_isLit 9 = .ok (.iconst 1, 1) := by decide +kernel
theorem dX7_isLit_10 : decode cX7_isLit 10 = .ok (.iaload, 1) := by decide +kernel
theorem dX7_isLit_11 : decode cX7_isLit 11 = .ok (.if_icmp .ge 56, 3) := by decide +kernel
theorem dX7_isLit_14 : decode cX7_isLit 14 = .ok (.iload_n 2, 1) := by decide +kernel
theorem dX7_isLit_15 : decode cX7_isLit 15 = .ok (.ifCond .ne 40, 3) := by decide +kernel
theorem dX7_isLit_18 : decode cX7_isLit 18 = .ok (.aload_n 0, 1) := by decide +kernel
theorem dX7_isLit_19 : decode cX7_isLit 19 = .ok (.iload_n 3, 1) := by decide +kernel
theorem dX7_isLit_20 : decode cX7_isLit 20 = .ok (.iconst 3, 1) := by decide +kernel
theorem dX7_isLit_21 : decode cX7_isLit 21 = .ok (.invokevirtual 53, 3) := by decide +kernel
theorem dX7_isLit_24 : decode cX7_isLit 24 = .ok (.ifCond .le 35, 3) := by decide +kernel
theorem dX7_isLit_27 : decode cX7_isLit 27 = .ok (.iload_n 1, 1) := by decide +kernel
theorem dX7_isLit_28 : decode cX7_isLit 28 = .ok (.aload_n 0, 1) := by decide +kernel
theorem dX7_isLit_29 : decode cX7_isLit 29 = .ok (.iload_n 3, 1) := by decide +kernel
theorem dX7_isLit_30 : decode cX7_isLit 30 = .ok (.iconst 0, 1) := by decide +kernel
theorem dX7_isLit_31 : decode cX7_isLit 31 = .ok (.invokevirtual 53, 3) := by decide +kernel
theorem dX7_isLit_34 : decode cX7_isLit 34 = .ok (.aload_n 0, 1) := by decide +kernel
theorem dX7_isLit_35 : decode cX7_isLit 35 = .ok (.iload_n 3, 1) := by decide +kernel
theorem dX7_isLit_36 : decode cX7_isLit 36 = .ok (.iconst 1, 1) := by decide +kernel
theorem dX7_isLit_37 : decode cX7_isLit 37 = .ok (.invokevirtual 53, 3) := by decide +kernel
theorem dX7_isLit_40 : decode cX7_isLit 40 = .ok (.invokestatic 46, 3) := by decide +kernel
theorem dX7_isLit_43 : decode cX7_isLit 43 = .ok (.invokestatic 56, 3) := by decide +kernel
theorem dX7_isLit_46 : decode cX7_isLit 46 = .ok (.aload_n 0, 1) := by decide +kernel
theorem dX7_isLit_47 : decode cX7_isLit 47 = .ok (.iload_n 3, 1) := by decide +kernel
theorem dX7_isLit_48 : decode cX7_isLit 48 = .ok (.iconst 2, 1) := by decide +kernel
theorem dX7_isLit_49 : decode cX7_isLit 49 = .ok (.invokevirtual 53, 3) := by decide +kernel
theorem dX7_isLit_52 : decode cX7_isLit 52 = .ok (.if_icmp .gt 7, 3) := by decide +kernel
theorem dX7_isLit_55 : decode cX7_isLit 55 = .ok (.iconst 1, 1) := by decide +kernel
theorem dX7_isLit_56 : decode cX7_isLit 56 = .ok (.goto 4, 3) := by decide +kernel
theorem dX7_isLit_59 : decode cX7_isLit 59 = .ok (.iconst 0, 1) := by decide +kernel
theorem dX7_isLit_60 : decode cX7_isLit 60 = .ok (.istore_n 2, 1) := by decide +kernel
theorem dX7_isLit_61 : decode cX7_isLit 61 = .ok (.iinc 3 1, 3) := by decide +kernel
theorem dX7_isLit_64 : decode cX7_isLit 64 = .ok (.goto (-60), 3) := by decide +kernel
theorem dX7_isLit_67 : decode cX7_isLit 67 = .ok (.iload_n 2, 1) := by decide +kernel
theorem dX7_isLit_68 : decode cX7_isLit 68 = .ok (.ireturn, 1) := by decide +kernel
theorem dX7_down_0 : decode cX7_down 0 = .ok (.iload_n 0, 1) := by decide +kernel
theorem dX7_down_1 : decode cX7_down 1 = .ok (.iload_n 1, 1) := by decide +kernel
theorem dX7_down_2 : decode cX7_down 2 = .ok (.idiv, 1) := by decide +kernel
theorem dX7_down_3 : decode cX7_down 3 = .ok (.istore_n 2, 1) := by decide +kernel
theorem dX7_down_4 : decode cX7_down 4 = .ok (.iload_n 0, 1) := by decide +kernel
theorem dX7_down_5 : decode cX7_down 5 = .ok (.iload_n 1, 1) := by decide +kernel
theorem dX7_down_6 : decode cX7_down 6 = .ok (.irem, 1) := by decide +kernel
theorem dX7_down_7 : decode cX7_down 7 = .ok (.ifCond .ge 9, 3) := by decide +kernel
theorem dX7_down_10 : decode cX7_down 10 = .ok (.iload_n 2, 1) := by decide +kernel
theorem dX7_down_11 : decode cX7_down 11 = .ok (.iconst 1, 1) := by decide +kernel
theorem dX7_down_12 : decode cX7_down 12 = .ok (.isub, 1) := by decide +kernel
theorem dX7_down_13 : decode cX7_down 13 = .ok (.goto 4, 3) := by decide +kernel
theorem dX7_down_16 : decode cX7_down 16 = .ok (.iload_n 2, 1) := by decide +kernel
theorem dX7_down_17 : decode cX7_down 17 = .ok (.ireturn, 1) := by decide +kernel
theorem dX7_inner_0 : decode cX7_inner 0 = .ok (.iload_n 0, 1) := by decide +kernel
theorem dX7_inner_1 : decode cX7_inner 1 = .ok (.iconst 2, 1) := by decide +kernel
theorem dX7_inner_2 : decode cX7_inner 2 = .ok (.iload_n 2, 1) := by decide +kernel
theorem dX7_inner_3 : decode cX7_inner 3 = .ok (.imul, 1) := by decide +kernel
theorem dX7_inner_4 : decode cX7_inner 4 = .ok (.iload_n 1, 1) := by decide +kernel
theorem dX7_inner_5 : decode cX7_inner 5 = .ok (.imul, 1) := by decide +kernel
theorem dX7_inner_6 : decode cX7_inner 6 = .ok (.iload_n 3, 1) := by decide +kernel
theorem dX7_inner_7 : decode cX7_inner 7 = .ok (.iadd, 1) := by decide +kernel
theorem dX7_inner_8 : decode cX7_inner 8 = .ok (.iconst 2, 1) := by decide +kernel
theorem dX7_inner_9 : decode cX7_inner 9 = .ok (.iload_n 3, 1) := by decide +kernel
theorem dX7_inner_10 : decode cX7_inner 10 = .ok (.imul, 1) := by decide +kernel
theorem dX7_inner_11 : decode cX7_inner 11 = .ok (.invokestatic 59, 3) := by decide +kernel
theorem dX7_inner_14 : decode cX7_inner 14 = .ok (.iadd, 1) := by decide +kernel
theorem dX7_inner_15 : decode cX7_inner 15 = .ok (.ireturn, 1) := by decide +kernel
theorem dX7_isFree_0 : decode cX7_isFree 0 = .ok (.iload_n 1, 1) := by decide +kernel
theorem dX7_isFree_1 : decode cX7_isFree 1 = .ok (.iload_n 2, 1) := by decide +kernel
theorem dX7_isFree_2 : decode cX7_isFree 2 = .ok (.invokestatic 56, 3) := by decide +kernel
theorem dX7_isFree_5 : decode cX7_isFree 5 = .ok (.istore_n 3, 1) := by decide +kernel
theorem dX7_isFree_6 : decode cX7_isFree 6 = .ok (.iload_n 1, 1) := by decide +kernel
theorem dX7_isFree_7 : decode cX7_isFree 7 = .ok (.bipush 12, 2) := by decide +kernel
theorem dX7_isFree_9 : decode cX7_isFree 9 = .ok (.irem, 1) := by decide +kernel
theorem dX7_isFree_10 : decode cX7_isFree 10 = .ok (.istore 4, 2) := by decide +kernel
theorem dX7_isFree_12 : decode cX7_isFree 12 = .ok (.iload_n 1, 1) := by decide +kernel
theorem dX7_isFree_13 : decode cX7_isFree 13 = .ok (.bipush 12, 2) := by decide +kernel
theorem dX7_isFree_15 : decode cX7_isFree 15 = .ok (.idiv, 1) := by decide +kernel
theorem dX7_isFree_16 : decode cX7_isFree 16 = .ok (.istore 5, 2) := by decide +kernel
theorem dX7_isFree_18 : decode cX7_isFree 18 = .ok (.iconst 2, 1) := by decide +kernel
theorem dX7_isFree_19 : decode cX7_isFree 19 = .ok (.aload_n 0, 1) := by decide +kernel
theorem dX7_isFree_20 : decode cX7_isFree 20 = .ok (.getfield 7, 3) := by decide +kernel
theorem dX7_isFree_23 : decode cX7_isFree 23 = .ok (.bipush 68, 2) := by decide +kernel
theorem dX7_isFree_25 : decode cX7_isFree 25 = .ok (.iload_n 1, 1) := by decide +kernel
theorem dX7_isFree_26 : decode cX7_isFree 26 = .ok (.iadd, 1) := by decide +kernel
theorem dX7_isFree_27 : decode cX7_isFree 27 = .ok (.iaload, 1) := by decide +kernel
theorem dX7_isFree_28 : decode cX7_isFree 28 = .ok (.imul, 1) := by decide +kernel
theorem dX7_isFree_29 : decode cX7_isFree 29 = .ok (.iconst 1, 1) := by decide +kernel
theorem dX7_isFree_30 : decode cX7_isFree 30 = .ok (.iadd, 1) := by decide +kernel
theorem dX7_isFree_31 : decode cX7_isFree 31 = .ok (.istore 6, 2) := by decide +kernel
theorem dX7_isFree_33 : decode cX7_isFree 33 = .ok (.iconst 2, 1) := by decide +kernel
theorem dX7_isFree_34 : decode cX7_isFree 34 = .ok (.aload_n 0, 1) := by decide +kernel
theorem dX7_isFree_35 : decode cX7_isFree 35 = .ok (.getfield 7, 3) := by decide +kernel
theorem dX7_isFree_38 : decode cX7_isFree 38 = .ok (.bipush 68, 2) := by decide +kernel
theorem dX7_isFree_40 : decode cX7_isFree 40 = .ok (.iload_n 2, 1) := by decide +kernel
theorem dX7_isFree_41 : decode cX7_isFree 41 = .ok (.iadd, 1) := by decide +kernel
theorem dX7_isFree_42 : decode cX7_isFree 42 = .ok (.iaload, 1) := by decide +kernel
theorem dX7_isFree_43 : decode cX7_isFree 43 = .ok (.imul, 1) := by decide +kernel
theorem dX7_isFree_44 : decode cX7_isFree 44 = .ok (.iconst 1, 1) := by decide +kernel
theorem dX7_isFree_45 : decode cX7_isFree 45 = .ok (.iadd, 1) := by decide +kernel
theorem dX7_isFree_46 : decode cX7_isFree 46 = .ok (.istore 7, 2) := by decide +kernel
theorem dX7_isFree_48 : decode cX7_isFree 48 = .ok (.iconst 1, 1) := by decide +kernel
theorem dX7_isFree_49 : decode cX7_isFree 49 = .ok (.istore 8, 2) := by decide +kernel
theorem dX7_isFree_51 : decode cX7_isFree 51 = .ok (.iconst 1, 1) := by decide +kernel
theorem dX7_isFree_52 : decode cX7_isFree 52 = .ok (.istore 9, 2) := by decide +kernel
theorem dX7_isFree_54 : decode cX7_isFree 54 = .ok (.iload 9, 2) := by decide +kernel
theorem dX7_isFree_56 : decode cX7_isFree 56 = .ok (.iload_n 3, 1) := by decide +kernel
theorem dX7_isFree_57 : decode cX7_isFree 57 = .ok (.if_icmp .ge 105, 3) := by decide +kernel
theorem dX7_isFree_60 : decode cX7_isFree 60 = .ok (.iload 8, 2) := by decide +kernel
theorem dX7_isFree_62 : decode cX7_isFree 62 = .ok (.ifCond .eq 100, 3) := by decide +kernel
theorem dX7_isFree_65 : decode cX7_isFree 65 = .ok (.iload 4, 2) := by decide +kernel
theorem dX7_isFree_67 : decode cX7_isFree 67 = .ok (.iload_n 2, 1) := by decide +kernel
theorem dX7_isFree_68 : decode cX7_isFree 68 = .ok (.bipush 12, 2) := by decide +kernel
theorem dX7_isFree_70 : decode cX7_isFree 70 = .ok (.irem, 1) := by decide +kernel
theorem dX7_isFree_71 : decode cX7_isFree 71 = .ok (.iload 4, 2) := by decide +kernel
theorem dX7_isFree_73 : decode cX7_isFree 73 = .ok (.isub, 1) := by decide +kernel
theorem dX7_isFree_74 : decode cX7_isFree 74 = .ok (.iload 9, 2) := by decide +kernel
theorem dX7_isFree_76 : decode cX7_isFree 76 = .ok (.iload_n 3, 1) := by decide +kernel
theorem dX7_isFree_77 : decode cX7_isFree 77 = .ok (.invokestatic 62, 3) := by decide +kernel
theorem dX7_isFree_80 : decode cX7_isFree 80 = .ok (.iload 5, 2) := by decide +kernel
theorem dX7_isFree_82 : decode cX7_isFree 82 = .ok (.iload_n 2, 1) := by decide +kernel
theorem dX7_isFree_83 : decode cX7_isFree 83 = .ok (.bipush 12, 2) := by decide +kernel
theorem dX7_isFree_85 : decode cX7_isFree 85 = .ok (.idiv, 1) := by decide +kernel
theorem dX7_isFree_86 : decode cX7_isFree 86 = .ok (.iload 5, 2) := by decide +kernel
theorem dX7_isFree_88 : decode cX7_isFree 88 = .ok (.isub, 1) := by decide +kernel
theorem dX7_isFree_89 : decode cX7_isFree 89 = .ok (.iload 9, 2) := by decide +kernel
theorem dX7_isFree_91 : decode cX7_isFree 91 = .ok (.iload_n 3, 1) := by decide +kernel
theorem dX7_isFree_92 : decode cX7_isFree 92 = .ok (.invokestatic 62, 3) := by decide +kernel
theorem dX7_isFree_95 : decode cX7_isFree 95 = .ok (.invokestatic 46, 3) := by decide +kernel
theorem dX7_isFree_98 : decode cX7_isFree 98 = .ok (.istore 10, 2) := by decide +kernel
theorem dX7_isFree_100 : decode cX7_isFree 100 = .ok (.iconst 2, 1) := by decide +kernel
theorem dX7_isFree_101 : decode cX7_isFree 101 = .ok (.aload_n 0, 1) := by decide +kernel
theorem dX7_isFree_102 : decode cX7_isFree 102 = .ok (.getfield 7, 3) := by decide +kernel
theorem dX7_isFree_105 : decode cX7_isFree 105 = .ok (.bipush 68, 2) := by decide +kernel
theorem dX7_isFree_107 : decode cX7_isFree 107 = .ok (.iload 10, 2) := by decide +kernel
theorem dX7_isFree_109 : decode cX7_isFree 109 = .ok (.iadd, 1) := by decide +kernel
theorem dX7_isFree_110 : decode cX7_isFree 110 = .ok (.iaload, 1) := by decide +kernel
theorem dX7_isFree_111 : decode cX7_isFree 111 = .ok (.imul, 1) := by decide +kernel
theorem dX7_isFree_112 : decode cX7_isFree 112 = .ok (.bipush 100, 2) := by decide +kernel
theorem dX7_isFree_114 : decode cX7_isFree 114 = .ok (.aload_n 0, 1) := by decide +kernel
theorem dX7_isFree_115 : decode cX7_isFree 115 = .ok (.getfield 7, 3) := by decide +kernel
theorem dX7_isFree_118 : decode cX7_isFree 118 = .ok (.sipush 188, 3) := by decide +kernel
theorem dX7_isFree_121 : decode cX7_isFree 121 = .ok (.iload 10, 2) := by decide +kernel
theorem dX7_isFree_123 : decode cX7_isFree 123 = .ok (.iadd, 1) := by decide +kernel
theorem dX7_isFree_124 : decode cX7_isFree 124 = .ok (.iaload, 1) := by decide +kernel
theorem dX7_isFree_125 : decode cX7_isFree 125 = .ok (.imul, 1) := by decide +kernel
theorem dX7_isFree_126 : decode cX7_isFree 126 = .ok (.iadd, 1) := by decide +kernel
theorem dX7_isFree_127 : decode cX7_isFree 127 = .ok (.istore 11, 2) := by decide +kernel
theorem dX7_isFree_129 : decode cX7_isFree 129 = .ok (.iload 11, 2) := by decide +kernel
theorem dX7_isFree_131 : decode cX7_isFree 131 = .ok (.iload 6, 2) := by decide +kernel
theorem dX7_isFree_133 : decode cX7_isFree 133 = .ok (.iload_n 3, 1) := by decide +kernel
theorem dX7_isFree_134 : decode cX7_isFree 134 = .ok (.iload 9, 2) := by decide +kernel
theorem dX7_isFree_136 : decode cX7_isFree 136 = .ok (.isub, 1) := by decide +kernel
theorem dX7_isFree_137 : decode cX7_isFree 137 = .ok (.imul, 1) := by decide +kernel
theorem dX7_isFree_138 : decode cX7_isFree 138 = .ok (.iload 7, 2) := by decide +kernel
theorem dX7_isFree_140 : decode cX7_isFree 140 = .ok (.iload 9, 2) := by decide +kernel
theorem dX7_isFree_142 : decode cX7_isFree 142 = .ok (.imul, 1) := by decide +kernel
theorem dX7_isFree_143 : decode cX7_isFree 143 = .ok (.iadd, 1) := by decide +kernel
theorem dX7_isFree_144 : decode cX7_isFree 144 = .ok (.iload_n 3, 1) := by decide +kernel
theorem dX7_isFree_145 : decode cX7_isFree 145 = .ok (.idiv, 1) := by decide +kernel
theorem dX7_isFree_146 : decode cX7_isFree 146 = .ok (.if_icmp .gt 7, 3) := by decide +kernel
theorem dX7_isFree_149 : decode cX7_isFree 149 = .ok (.iconst 1, 1) := by decide +kernel
theorem dX7_isFree_150 : decode cX7_isFree 150 = .ok (.goto 4, 3) := by decide +kernel
theorem dX7_isFree_153 : decode cX7_isFree 153 = .ok (.iconst 0, 1) := by decide +kernel
theorem dX7_isFree_154 : decode cX7_isFree 154 = .ok (.istore 8, 2) := by decide +kernel
theorem dX7_isFree_156 : decode cX7_isFree 156 = .ok (.iinc 9 1, 3) := by decide +kernel
theorem dX7_isFree_159 : decode cX7_isFree 159 = .ok (.goto (-105), 3) := by decide +kernel
theorem dX7_isFree_162 : decode cX7_isFree 162 = .ok (.iload 8, 2) := by decide +kernel
theorem dX7_isFree_164 : decode cX7_isFree 164 = .ok (.ireturn, 1) := by decide +kernel
theorem dX7_isSeenFrom_0 : decode cX7_isSeenFrom 0 = .ok (.iload_n 1, 1) := by decide +kernel
theorem dX7_isSeenFrom_1 : decode cX7_isSeenFrom 1 = .ok (.iload_n 3, 1) := by decide +kernel
theorem dX7_isSeenFrom_2 : decode cX7_isSeenFrom 2 = .ok (.invokestatic 56, 3) := by decide +kernel
theorem dX7_isSeenFrom_5 : decode cX7_isSeenFrom 5 = .ok (.istore 4, 2) := by decide +kernel
theorem dX7_isSeenFrom_7 : decode cX7_isSeenFrom 7 = .ok (.iload 4, 2) := by decide +kernel
theorem dX7_isSeenFrom_9 : decode cX7_isSeenFrom 9 = .ok (.iload_n 2, 1) := by decide +kernel
theorem dX7_isSeenFrom_10 : decode cX7_isSeenFrom 10 = .ok (.if_icmp .le 19, 3) := by decide +kernel
theorem dX7_isSeenFrom_13 : decode cX7_isSeenFrom 13 = .ok (.iload 4, 2) := by decide +kernel
theorem dX7_isSeenFrom_15 : decode cX7_isSeenFrom 15 = .ok (.iconst 2, 1) := by decide +kernel
theorem dX7_isSeenFrom_16 : decode cX7_isSeenFrom 16 = .ok (.iload_n 2, 1) := by decide +kernel
theorem dX7_isSeenFrom_17 : decode cX7_isSeenFrom 17 = .ok (.imul, 1) := by decide +kernel
theorem dX7_isSeenFrom_18 : decode cX7_isSeenFrom 18 = .ok (.if_icmp .gt 24, 3) := by decide +kernel
theorem dX7_isSeenFrom_21 : decode cX7_isSeenFrom 21 = .ok (.aload_n 0, 1) := by decide +kernel
theorem dX7_isSeenFrom_22 : decode cX7_isSeenFrom 22 = .ok (.iload_n 3, 1) := by decide +kernel
theorem dX7_isSeenFrom_23 : decode cX7_isSeenFrom 23 = .ok (.invokevirtual 66, 3) := by decide +kernel
theorem dX7_isSeenFrom_26 : decode cX7_isSeenFrom 26 = .ok (.ifCond .eq 16, 3) := by decide +kernel
theorem dX7_isSeenFrom_29 : decode cX7_isSeenFrom 29 = .ok (.aload_n 0, 1) := by decide +kernel
theorem dX7_isSeenFrom_30 : decode cX7_isSeenFrom 30 = .ok (.iload_n 1, 1) := by decide +kernel
theorem dX7_isSeenFrom_31 : decode cX7_isSeenFrom 31 = .ok (.iload_n 3, 1) := by decide +kernel
theorem dX7_isSeenFrom_32 : decode cX7_isSeenFrom 32 = .ok (.invokevirtual 70, 3) := by decide +kernel
theorem dX7_isSeenFrom_35 : decode cX7_isSeenFrom 35 = .ok (.ifCond .eq 7, 3) := by decide +kernel
theorem dX7_isSeenFrom_38 : decode cX7_isSeenFrom 38 = .ok (.iconst 1, 1) := by decide +kernel
theorem dX7_isSeenFrom_39 : decode cX7_isSeenFrom 39 = .ok (.goto 4, 3) := by decide +kernel
theorem dX7_isSeenFrom_42 : decode cX7_isSeenFrom 42 = .ok (.iconst 0, 1) := by decide +kernel
theorem dX7_isSeenFrom_43 : decode cX7_isSeenFrom 43 = .ok (.ireturn, 1) := by decide +kernel
theorem dX7_sees_0 : decode cX7_sees 0 = .ok (.aload_n 0, 1) := by decide +kernel
theorem dX7_sees_1 : decode cX7_sees 1 = .ok (.aload_n 0, 1) := by decide +kernel
theorem dX7_sees_2 : decode cX7_sees 2 = .ok (.iload_n 1, 1) := by decide +kernel
theorem dX7_sees_3 : decode cX7_sees 3 = .ok (.invokevirtual 49, 3) := by decide +kernel
theorem dX7_sees_6 : decode cX7_sees 6 = .ok (.aload_n 0, 1) := by decide +kernel
theorem dX7_sees_7 : decode cX7_sees 7 = .ok (.iload_n 1, 1) := by decide +kernel
theorem dX7_sees_8 : decode cX7_sees 8 = .ok (.iconst 3, 1) := by decide +kernel
theorem dX7_sees_9 : decode cX7_sees 9 = .ok (.invokevirtual 43, 3) := by decide +kernel
theorem dX7_sees_12 : decode cX7_sees 12 = .ok (.iload_n 2, 1) := by decide +kernel
theorem dX7_sees_13 : decode cX7_sees 13 = .ok (.invokevirtual 74, 3) := by decide +kernel
theorem dX7_sees_16 : decode cX7_sees 16 = .ok (.ireturn, 1) := by decide +kernel
theorem dX7_sideSees_0 : decode cX7_sideSees 0 = .ok (.iconst 0, 1) := by decide +kernel
theorem dX7_sideSees_1 : decode cX7_sideSees 1 = .ok (.istore_n 3, 1) := by decide +kernel
theorem dX7_sideSees_2 : decode cX7_sideSees 2 = .ok (.iconst 0, 1) := by decide +kernel
theorem dX7_sideSees_3 : decode cX7_sideSees 3 = .ok (.istore 4, 2) := by decide +kernel
theorem dX7_sideSees_5 : decode cX7_sideSees 5 = .ok (.iload 4, 2) := by decide +kernel
theorem dX7_sideSees_7 : decode cX7_sideSees 7 = .ok (.aload_n 0, 1) := by decide +kernel
theorem dX7_sideSees_8 : decode cX7_sideSees 8 = .ok (.getfield 7, 3) := by decide +kernel
theorem dX7_sideSees_11 : decode cX7_sideSees 11 = .ok (.iconst 0, 1) := by decide +kernel
theorem dX7_sideSees_12 : decode cX7_sideSees 12 = .ok (.iaload, 1) := by decide +kernel
theorem dX7_sideSees_13 : decode cX7_sideSees 13 = .ok (.if_icmp .ge 40, 3) := by decide +kernel
theorem dX7_sideSees_16 : decode cX7_sideSees 16 = .ok (.iload_n 3, 1) := by decide +kernel
theorem dX7_sideSees_17 : decode cX7_sideSees 17 = .ok (.ifCond .ne 36, 3) := by decide +kernel
theorem dX7_sideSees_20 : decode cX7_sideSees 20 = .ok (.aload_n 0, 1) := by decide +kernel
theorem dX7_sideSees_21 : decode cX7_sideSees 21 = .ok (.iload 4, 2) := by decide +kernel
theorem dX7_sideSees_23 : decode cX7_sideSees 23 = .ok (.iconst 0, 1) := by decide +kernel
theorem dX7_sideSees_24 : decode cX7_sideSees 24 = .ok (.invokevirtual 43, 3) := by decide +kernel
theorem dX7_sideSees_27 : decode cX7_sideSees 27 = .ok (.iload_n 1, 1) := by decide +kernel
theorem dX7_sideSees_28 : decode cX7_sideSees 28 = .ok (.if_icmp .ne 17, 3) := by decide +kernel
theorem dX7_sideSees_31 : decode cX7_sideSees 31 = .ok (.aload_n 0, 1) := by decide +kernel
theorem dX7_sideSees_32 : decode cX7_sideSees 32 = .ok (.iload 4, 2) := by decide +kernel
theorem dX7_sideSees_34 : decode cX7_sideSees 34 = .ok (.iload_n 2, 1) := by decide +kernel
theorem dX7_sideSees_35 : decode cX7_sideSees 35 = .ok (.invokevirtual 77, 3) := by decide +kernel
theorem dX7_sideSees_38 : decode cX7_sideSees 38 = .ok (.ifCond .eq 7, 3) := by decide +kernel
theorem dX7_sideSees_41 : decode cX7_sideSees 41 = .ok (.iconst 1, 1) := by decide +kernel
theorem dX7_sideSees_42 : decode cX7_sideSees 42 = .ok (.goto 4, 3) := by decide +kernel
theorem dX7_sideSees_45 : decode cX7_sideSees 45 = .ok (.iconst 0, 1) := by decide +kernel
theorem dX7_sideSees_46 : decode cX7_sideSees 46 = .ok (.istore_n 3, 1) := by decide +kernel
theorem dX7_sideSees_47 : decode cX7_sideSees 47 = .ok (.iinc 4 1, 3) := by decide +kernel
theorem dX7_sideSees_50 : decode cX7_sideSees 50 = .ok (.goto (-45), 3) := by decide +kernel
theorem dX7_sideSees_53 : decode cX7_sideSees 53 = .ok (.iload_n 3, 1) := by decide +kernel
theorem dX7_sideSees_54 : decode cX7_sideSees 54 = .ok (.ireturn, 1) := by decide +kernel
theorem dX7_look_0 : decode cX7_look 0 = .ok (.iconst 0, 1) := by decide +kernel
theorem dX7_look_1 : decode cX7_look 1 = .ok (.istore_n 1, 1) := by decide +kernel
theorem dX7_look_2 : decode cX7_look 2 = .ok (.iload_n 1, 1) := by decide +kernel
theorem dX7_look_3 : decode cX7_look 3 = .ok (.iconst 2, 1) := by decide +kernel
theorem dX7_look_4 : decode cX7_look 4 = .ok (.if_icmp .ge 134, 3) := by decide +kernel
theorem dX7_look_7 : decode cX7_look 7 = .ok (.iconst 0, 1) := by decide +kernel
theorem dX7_look_8 : decode cX7_look 8 = .ok (.istore_n 2, 1) := by decide +kernel
theorem dX7_look_9 : decode cX7_look 9 = .ok (.iload_n 2, 1) := by decide +kernel
theorem dX7_look_10 : decode cX7_look 10 = .ok (.bipush 120, 2) := by decide +kernel
theorem dX7_look_12 : decode cX7_look 12 = .ok (.if_icmp .ge 120, 3) := by decide +kernel
theorem dX7_look_15 : decode cX7_look 15 = .ok (.aload_n 0, 1) := by decide +kernel
theorem dX7_look_16 : decode cX7_look 16 = .ok (.iload_n 1, 1) := by decide +kernel
theorem dX7_look_17 : decode cX7_look 17 = .ok (.iload_n 2, 1) := by decide +kernel
theorem dX7_look_18 : decode cX7_look 18 = .ok (.invokevirtual 80, 3) := by decide +kernel
theorem dX7_look_21 : decode cX7_look 21 = .ok (.ifCond .eq 105, 3) := by decide +kernel
theorem dX7_look_24 : decode cX7_look 24 = .ok (.bipush 120, 2) := by decide +kernel
theorem dX7_look_26 : decode cX7_look 26 = .ok (.iload_n 1, 1) := by decide +kernel
theorem dX7_look_27 : decode cX7_look 27 = .ok (.imul, 1) := by decide +kernel
theorem dX7_look_28 : decode cX7_look 28 = .ok (.iload_n 2, 1) := by decide +kernel
theorem dX7_look_29 : decode cX7_look 29 = .ok (.iadd, 1) := by decide +kernel
theorem dX7_look_30 : decode cX7_look 30 = .ok (.istore_n 3, 1) := by decide +kernel
theorem dX7_look_31 : decode cX7_look 31 = .ok (.aload_n 0, 1) := by decide +kernel
theorem dX7_look_32 : decode cX7_look 32 = .ok (.iload_n 2, 1) := by decide +kernel
theorem dX7_look_33 : decode cX7_look 33 = .ok (.invokevirtual 83, 3) := by decide +kernel
theorem dX7_look_36 : decode cX7_look 36 = .ok (.istore 4, 2) := by decide +kernel
theorem dX7_look_38 : decode cX7_look 38 = .ok (.aload_n 0, 1) := by decide +kernel
theorem dX7_look_39 : decode cX7_look 39 = .ok (.getfield 7, 3) := by decide +kernel
theorem dX7_look_42 : decode cX7_look 42 = .ok (.sipush 308, 3) := by decide +kernel
theorem dX7_look_45 : decode cX7_look 45 = .ok (.iload_n 3, 1) := by decide +kernel
theorem dX7_look_46 : decode cX7_look 46 = .ok (.iadd, 1) := by decide +kernel
theorem dX7_look_47 : decode cX7_look 47 = .ok (.aload_n 0, 1) := by decide +kernel
theorem dX7_look_48 : decode cX7_look 48 = .ok (.getfield 7, 3) := by decide +kernel
theorem dX7_look_51 : decode cX7_look 51 = .ok (.iconst 2, 1) := by decide +kernel
theorem dX7_look_52 : decode cX7_look 52 = .ok (.iaload, 1) := by decide +kernel
theorem dX7_look_53 : decode cX7_look 53 = .ok (.iastore, 1) := by decide +kernel
theorem dX7_look_54 : decode cX7_look 54 = .ok (.aload_n 0, 1) := by decide +kernel
theorem dX7_look_55 : decode cX7_look 55 = .ok (.getfield 7, 3) := by decide +kernel
theorem dX7_look_58 : decode cX7_look 58 = .ok (.sipush 548, 3) := by decide +kernel
theorem dX7_look_61 : decode cX7_look 61 = .ok (.iload_n 3, 1) := by decide +kernel
theorem dX7_look_62 : decode cX7_look 62 = .ok (.iadd, 1) := by decide +kernel
theorem dX7_look_63 : decode cX7_look 63 = .ok (.aload_n 0, 1) := by decide +kernel
theorem dX7_look_64 : decode cX7_look 64 = .ok (.getfield 7, 3) := by decide +kernel
theorem dX7_look_67 : decode cX7_look 67 = .ok (.bipush 68, 2) := by decide +kernel
theorem dX7_look_69 : decode cX7_look 69 = .ok (.iload_n 2, 1) := by decide +kernel
theorem dX7_look_70 : decode cX7_look 70 = .ok (.iadd, 1) := by decide +kernel
theorem dX7_look_71 : decode cX7_look 71 = .ok (.iaload, 1) := by decide +kernel
theorem dX7_look_72 : decode cX7_look 72 = .ok (.iastore, 1) := by decide +kernel
theorem dX7_look_73 : decode cX7_look 73 = .ok (.aload_n 0, 1) := by decide +kernel
theorem dX7_look_74 : decode cX7_look 74 = .ok (.getfield 7, 3) := by decide +kernel
theorem dX7_look_77 : decode cX7_look 77 = .ok (.sipush 788, 3) := by decide +kernel
theorem dX7_look_80 : decode cX7_look 80 = .ok (.iload_n 3, 1) := by decide +kernel
theorem dX7_look_81 : decode cX7_look 81 = .ok (.iadd, 1) := by decide +kernel
theorem dX7_look_82 : decode cX7_look 82 = .ok (.aload_n 0, 1) := by decide +kernel
theorem dX7_look_83 : decode cX7_look 83 = .ok (.getfield 7, 3) := by decide +kernel
theorem dX7_look_86 : decode cX7_look 86 = .ok (.sipush 188, 3) := by decide +kernel
theorem dX7_look_89 : decode cX7_look 89 = .ok (.iload_n 2, 1) := by decide +kernel
theorem dX7_look_90 : decode cX7_look 90 = .ok (.iadd, 1) := by decide +kernel
theorem dX7_look_91 : decode cX7_look 91 = .ok (.iaload, 1) := by decide +kernel
theorem dX7_look_92 : decode cX7_look 92 = .ok (.iastore, 1) := by decide +kernel
theorem dX7_look_93 : decode cX7_look 93 = .ok (.aload_n 0, 1) := by decide +kernel
theorem dX7_look_94 : decode cX7_look 94 = .ok (.getfield 7, 3) := by decide +kernel
theorem dX7_look_97 : decode cX7_look 97 = .ok (.sipush 1028, 3) := by decide +kernel
theorem dX7_look_100 : decode cX7_look 100 = .ok (.iload_n 3, 1) := by decide +kernel
theorem dX7_look_101 : decode cX7_look 101 = .ok (.iadd, 1) := by decide +kernel
theorem dX7_look_102 : decode cX7_look 102 = .ok (.iload 4, 2) := by decide +kernel
theorem dX7_look_104 : decode cX7_look 104 = .ok (.bipush (-19), 2) := by decide +kernel
theorem dX7_look_106 : decode cX7_look 106 = .ok (.if_icmp .eq 18, 3) := by decide +kernel
theorem dX7_look_109 : decode cX7_look 109 = .ok (.aload_n 0, 1) := by decide +kernel
theorem dX7_look_110 : decode cX7_look 110 = .ok (.iload 4, 2) := by decide +kernel
theorem dX7_look_112 : decode cX7_look 112 = .ok (.iconst 0, 1) := by decide +kernel
theorem dX7_look_113 : decode cX7_look 113 = .ok (.invokevirtual 43, 3) := by decide +kernel
theorem dX7_look_116 : decode cX7_look 116 = .ok (.iload_n 1, 1) := by decide +kernel
theorem dX7_look_117 : decode cX7_look 117 = .ok (.if_icmp .eq 7, 3) := by decide +kernel
theorem dX7_look_120 : decode cX7_look 120 = .ok (.iconst 1, 1) := by decide +kernel
theorem dX7_look_121 : decode cX7_look 121 = .ok (.goto 4, 3) := by decide +kernel
theorem dX7_look_124 : decode cX7_look 124 = .ok (.iconst 0, 1) := by decide +kernel
theorem dX7_look_125 : decode cX7_look 125 = .ok (.iastore, 1) := by decide +kernel
theorem dX7_look_126 : decode cX7_look 126 = .ok (.iinc 2 1, 3) := by decide +kernel
theorem dX7_look_129 : decode cX7_look 129 = .ok (.goto (-120), 3) := by decide +kernel
theorem dX7_look_132 : decode cX7_look 132 = .ok (.iinc 1 1, 3) := by decide +kernel
theorem dX7_look_135 : decode cX7_look 135 = .ok (.goto (-133), 3) := by decide +kernel
theorem dX7_look_138 : decode cX7_look 138 = .ok (.return_, 1) := by decide +kernel
theorem dX7_memory_0 : decode cX7_memory 0 = .ok (.aload_n 0, 1) := by decide +kernel
theorem dX7_memory_1 : decode cX7_memory 1 = .ok (.getfield 7, 3) := by decide +kernel
theorem dX7_memory_4 : decode cX7_memory 4 = .ok (.sipush 308, 3) := by decide +kernel
theorem dX7_memory_7 : decode cX7_memory 7 = .ok (.bipush 120, 2) := by decide +kernel
theorem dX7_memory_9 : decode cX7_memory 9 = .ok (.iload_n 1, 1) := by decide +kernel
theorem dX7_memory_10 : decode cX7_memory 10 = .ok (.imul, 1) := by decide +kernel
theorem dX7_memory_11 : decode cX7_memory 11 = .ok (.iadd, 1) := by decide +kernel
theorem dX7_memory_12 : decode cX7_memory 12 = .ok (.iload_n 2, 1) := by decide +kernel
theorem dX7_memory_13 : decode cX7_memory 13 = .ok (.iadd, 1) := by decide +kernel
theorem dX7_memory_14 : decode cX7_memory 14 = .ok (.iaload, 1) := by decide +kernel
theorem dX7_memory_15 : decode cX7_memory 15 = .ok (.ireturn, 1) := by decide +kernel
theorem dX7_seenBy_0 : decode cX7_seenBy 0 = .ok (.iconst 0, 1) := by decide +kernel
theorem dX7_seenBy_1 : decode cX7_seenBy 1 = .ok (.istore_n 2, 1) := by decide +kernel
theorem dX7_seenBy_2 : decode cX7_seenBy 2 = .ok (.iconst 0, 1) := by decide +kernel
theorem dX7_seenBy_3 : decode cX7_seenBy 3 = .ok (.istore_n 3, 1) := by decide +kernel
theorem dX7_seenBy_4 : decode cX7_seenBy 4 = .ok (.iload_n 3, 1) := by decide +kernel
theorem dX7_seenBy_5 : decode cX7_seenBy 5 = .ok (.bipush 120, 2) := by decide +kernel
theorem dX7_seenBy_7 : decode cX7_seenBy 7 = .ok (.if_icmp .ge 26, 3) := by decide +kernel
theorem dX7_seenBy_10 : decode cX7_seenBy 10 = .ok (.iload_n 2, 1) := by decide +kernel
theorem dX7_seenBy_11 : decode cX7_seenBy 11 = .ok (.aload_n 0, 1) := by decide +kernel
theorem dX7_seenBy_12 : decode cX7_seenBy 12 = .ok (.iload_n 1, 1) := by decide +kernel
theorem dX7_seenBy_13 : decode cX7_seenBy 13 = .ok (.iload_n 3, 1) := by decide +kernel
theorem dX7_seenBy_14 : decode cX7_seenBy 14 = .ok (.invokevirtual 80, 3) := by decide +kernel
theorem dX7_seenBy_17 : decode cX7_seenBy 17 = .ok (.ifCond .eq 7, 3) := by decide +kernel
theorem dX7_seenBy_20 : decode cX7_seenBy 20 = .ok (.iconst 1, 1) := by decide +kernel
theorem dX7_seenBy_21 : decode cX7_seenBy 21 = .ok (.goto 4, 3) := by decide +kernel
theorem dX7_seenBy_24 : decode cX7_seenBy 24 = .ok (.iconst 0, 1) := by decide +kernel
theorem dX7_seenBy_25 : decode cX7_seenBy 25 = .ok (.iadd, 1) := by decide +kernel
theorem dX7_seenBy_26 : decode cX7_seenBy 26 = .ok (.istore_n 2, 1) := by decide +kernel
theorem dX7_seenBy_27 : decode cX7_seenBy 27 = .ok (.iinc 3 1, 3) := by decide +kernel
theorem dX7_seenBy_30 : decode cX7_seenBy 30 = .ok (.goto (-26), 3) := by decide +kernel
theorem dX7_seenBy_33 : decode cX7_seenBy 33 = .ok (.iload_n 2, 1) := by decide +kernel
theorem dX7_seenBy_34 : decode cX7_seenBy 34 = .ok (.ireturn, 1) := by decide +kernel
theorem dX7_remembered_0 : decode cX7_remembered 0 = .ok (.iconst 0, 1) := by decide +kernel
theorem dX7_remembered_1 : decode cX7_remembered 1 = .ok (.istore_n 2, 1) := by decide +kernel
theorem dX7_remembered_2 : decode cX7_remembered 2 = .ok (.iconst 0, 1) := by decide +kernel
theorem dX7_remembered_3 : decode cX7_remembered 3 = .ok (.istore_n 3, 1) := by decide +kernel
theorem dX7_remembered_4 : decode cX7_remembered 4 = .ok (.iload_n 3, 1) := by decide +kernel
theorem dX7_remembered_5 : decode cX7_remembered 5 = .ok (.bipush 120, 2) := by decide +kernel
theorem dX7_remembered_7 : decode cX7_remembered 7 = .ok (.if_icmp .ge 26, 3) := by decide +kernel
theorem dX7_remembered_10 : decode cX7_remembered 10 = .ok (.iload_n 2, 1) := by decide +kernel
theorem dX7_remembered_11 : decode cX7_remembered 11 = .ok (.aload_n 0, 1) := by decide +kernel
theorem dX7_remembered_12 : decode cX7_remembered 12 = .ok (.iload_n 1, 1) := by decide +kernel
theorem dX7_remembered_13 : decode cX7_remembered 13 = .ok (.iload_n 3, 1) := by decide +kernel
theorem dX7_remembered_14 : decode cX7_remembered 14 = .ok (.invokevirtual 86, 3) := by decide +kernel
theorem dX7_remembered_17 : decode cX7_remembered 17 = .ok (.ifCond .le 7, 3) := by decide +kernel
theorem dX7_remembered_20 : decode cX7_remembered 20 = .ok (.iconst 1, 1) := by decide +kernel
theorem dX7_remembered_21 : decode cX7_remembered 21 = .ok (.goto 4, 3) := by decide +kernel
theorem dX7_remembered_24 : decode cX7_remembered 24 = .ok (.iconst 0, 1) := by decide +kernel
theorem dX7_remembered_25 : decode cX7_remembered 25 = .ok (.iadd, 1) := by decide +kernel
theorem dX7_remembered_26 : decode cX7_remembered 26 = .ok (.istore_n 2, 1) := by decide +kernel
theorem dX7_remembered_27 : decode cX7_remembered 27 = .ok (.iinc 3 1, 3) := by decide +kernel
theorem dX7_remembered_30 : decode cX7_remembered 30 = .ok (.goto (-26), 3) := by decide +kernel
theorem dX7_remembered_33 : decode cX7_remembered 33 = .ok (.iload_n 2, 1) := by decide +kernel
theorem dX7_remembered_34 : decode cX7_remembered 34 = .ok (.ireturn, 1) := by decide +kernel
theorem dX7_replace_0 : decode cX7_replace 0 = .ok (.aload_n 0, 1) := by decide +kernel
theorem dX7_replace_1 : decode cX7_replace 1 = .ok (.invokevirtual 89, 3) := by decide +kernel
theorem dX7_replace_4 : decode cX7_replace 4 = .ok (.aload_n 0, 1) := by decide +kernel
theorem dX7_replace_5 : decode cX7_replace 5 = .ok (.getfield 7, 3) := by decide +kernel
theorem dX7_replace_8 : decode cX7_replace 8 = .ok (.iload_n 1, 1) := by decide +kernel
theorem dX7_replace_9 : decode cX7_replace 9 = .ok (.iaload, 1) := by decide +kernel
theorem dX7_replace_10 : decode cX7_replace 10 = .ok (.istore_n 3, 1) := by decide +kernel
theorem dX7_replace_11 : decode cX7_replace 11 = .ok (.aload_n 0, 1) := by decide +kernel
theorem dX7_replace_12 : decode cX7_replace 12 = .ok (.getfield 7, 3) := by decide +kernel
theorem dX7_replace_15 : decode cX7_replace 15 = .ok (.iload_n 1, 1) := by decide +kernel
theorem dX7_replace_16 : decode cX7_replace 16 = .ok (.iload_n 2, 1) := by decide +kernel
theorem dX7_replace_17 : decode cX7_replace 17 = .ok (.iastore, 1) := by decide +kernel
theorem dX7_replace_18 : decode cX7_replace 18 = .ok (.aload_n 0, 1) := by decide +kernel
theorem dX7_replace_19 : decode cX7_replace 19 = .ok (.invokevirtual 92, 3) := by decide +kernel
theorem dX7_replace_22 : decode cX7_replace 22 = .ok (.iload_n 3, 1) := by decide +kernel
theorem dX7_replace_23 : decode cX7_replace 23 = .ok (.ireturn, 1) := by decide +kernel
theorem dX7_setHeight_0 : decode cX7_setHeight 0 = .ok (.aload_n 0, 1) := by decide +kernel
theorem dX7_setHeight_1 : decode cX7_setHeight 1 = .ok (.iconst 0, 1) := by decide +kernel
theorem dX7_setHeight_2 : decode cX7_setHeight 2 = .ok (.putfield 25, 3) := by decide +kernel
theorem dX7_setHeight_5 : decode cX7_setHeight 5 = .ok (.iload_n 1, 1) := by decide +kernel
theorem dX7_setHeight_6 : decode cX7_setHeight 6 = .ok (.iload_n 2, 1) := by decide +kernel
theorem dX7_setHeight_7 : decode cX7_setHeight 7 = .ok (.invokestatic 95, 3) := by decide +kernel
theorem dX7_setHeight_10 : decode cX7_setHeight 10 = .ok (.ifCond .eq 29, 3) := by decide +kernel
theorem dX7_setHeight_13 : decode cX7_setHeight 13 = .ok (.iload_n 3, 1) := by decide +kernel
theorem dX7_setHeight_14 : decode cX7_setHeight 14 = .ok (.iconst 0, 1) := by decide +kernel
theorem dX7_setHeight_15 : decode cX7_setHeight 15 = .ok (.bipush 9, 2) := by decide +kernel
theorem dX7_setHeight_17 : decode cX7_setHeight 17 = .ok (.invokestatic 32, 3) := by decide +kernel
theorem dX7_setHeight_20 : decode cX7_setHeight 20 = .ok (.ifCond .eq 19, 3) := by decide +kernel
theorem dX7_setHeight_23 : decode cX7_setHeight 23 = .ok (.aload_n 0, 1) := by decide +kernel
theorem dX7_setHeight_24 : decode cX7_setHeight 24 = .ok (.bipush 68, 2) := by decide +kernel
theorem dX7_setHeight_26 : decode cX7_setHeight 26 = .ok (.iload_n 1, 1) := by decide +kernel
theorem dX7_setHeight_27 : decode cX7_setHeight 27 = .ok (.iload_n 2, 1) := by decide +kernel
theorem dX7_setHeight_28 : decode cX7_setHeight 28 = .ok (.invokestatic 46, 3) := by decide +kernel
theorem dX7_setHeight_31 : decode cX7_setHeight 31 = .ok (.iadd, 1) := by decide +kernel
theorem dX7_setHeight_32 : decode cX7_setHeight 32 = .ok (.iload_n 3, 1) := by decide +kernel
theorem dX7_setHeight_33 : decode cX7_setHeight 33 = .ok (.invokevirtual 98, 3) := by decide +kernel
theorem dX7_setHeight_36 : decode cX7_setHeight 36 = .ok (.goto 5, 3) := by decide +kernel
theorem dX7_setHeight_39 : decode cX7_setHeight 39 = .ok (.bipush (-11), 2) := by decide +kernel
theorem dX7_setHeight_41 : decode cX7_setHeight 41 = .ok (.ireturn, 1) := by decide +kernel
theorem dX7_setWall_0 : decode cX7_setWall 0 = .ok (.aload_n 0, 1) := by decide +kernel
theorem dX7_setWall_1 : decode cX7_setWall 1 = .ok (.iconst 0, 1) := by decide +kernel
theorem dX7_setWall_2 : decode cX7_setWall 2 = .ok (.putfield 25, 3) := by decide +kernel
theorem dX7_setWall_5 : decode cX7_setWall 5 = .ok (.iload_n 1, 1) := by decide +kernel
theorem dX7_setWall_6 : decode cX7_setWall 6 = .ok (.iload_n 2, 1) := by decide +kernel
theorem dX7_setWall_7 : decode cX7_setWall 7 = .ok (.invokestatic 95, 3) := by decide +kernel
theorem dX7_setWall_10 : decode cX7_setWall 10 = .ok (.ifCond .eq 12, 3) := by decide +kernel
theorem dX7_setWall_13 : decode cX7_setWall 13 = .ok (.iload_n 3, 1) := by decide +kernel
theorem dX7_setWall_14 : decode cX7_setWall 14 = .ok (.iconst 0, 1) := by decide +kernel
theorem dX7_setWall_15 : decode cX7_setWall 15 = .ok (.iconst 1, 1) := by decide +kernel
theorem dX7_setWall_16 : decode cX7_setWall 16 = .ok (.invokestatic 32, 3) := by decide +kernel
theorem dX7_setWall_19 : decode cX7_setWall 19 = .ok (.ifCond .ne 6, 3) := by decide +kernel
theorem dX7_setWall_22 : decode cX7_setWall 22 = .ok (.bipush (-11), 2) := by decide +kernel
theorem dX7_setWall_24 : decode cX7_setWall 24 = .ok (.ireturn, 1) := by decide +kernel
theorem dX7_setWall_25 : decode cX7_setWall 25 = .ok (.iload_n 3, 1) := by decide +kernel
theorem dX7_setWall_26 : decode cX7_setWall 26 = .ok (.iconst 1, 1) := by decide +kernel
theorem dX7_setWall_27 : decode cX7_setWall 27 = .ok (.if_icmp .ne 20, 3) := by decide +kernel
theorem dX7_setWall_30 : decode cX7_setWall 30 = .ok (.aload_n 0, 1) := by decide +kernel
theorem dX7_setWall_31 : decode cX7_setWall 31 = .ok (.iload_n 1, 1) := by decide +kernel
theorem dX7_setWall_32 : decode cX7_setWall 32 = .ok (.iload_n 2, 1) := by decide +kernel
theorem dX7_setWall_33 : decode cX7_setWall 33 = .ok (.invokestatic 46, 3) := by decide +kernel
theorem dX7_setWall_36 : decode cX7_setWall 36 = .ok (.invokevirtual 83, 3) := by decide +kernel
theorem dX7_setWall_39 : decode cX7_setWall 39 = .ok (.bipush (-19), 2) := by decide +kernel
theorem dX7_setWall_41 : decode cX7_setWall 41 = .ok (.if_icmp .eq 6, 3) := by decide +kernel
theorem dX7_setWall_44 : decode cX7_setWall 44 = .ok (.bipush (-12), 2) := by decide +kernel
theorem dX7_setWall_46 : decode cX7_setWall 46 = .ok (.ireturn, 1) := by decide +kernel
theorem dX7_setWall_47 : decode cX7_setWall 47 = .ok (.aload_n 0, 1) := by decide +kernel
theorem dX7_setWall_48 : decode cX7_setWall 48 = .ok (.sipush 188, 3) := by decide +kernel
theorem dX7_setWall_51 : decode cX7_setWall 51 = .ok (.iload_n 1, 1) := by decide +kernel
theorem dX7_setWall_52 : decode cX7_setWall 52 = .ok (.iload_n 2, 1) := by decide +kernel
theorem dX7_setWall_53 : decode cX7_setWall 53 = .ok (.invokestatic 46, 3) := by decide +kernel
theorem dX7_setWall_56 : decode cX7_setWall 56 = .ok (.iadd, 1) := by decide +kernel
theorem dX7_setWall_57 : decode cX7_setWall 57 = .ok (.iload_n 3, 1) := by decide +kernel
theorem dX7_setWall_58 : decode cX7_setWall 58 = .ok (.invokevirtual 98, 3) := by decide +kernel
theorem dX7_setWall_61 : decode cX7_setWall 61 = .ok (.ireturn, 1) := by decide +kernel
theorem dX7_append_0 : decode cX7_append 0 = .ok (.aload_n 0, 1) := by decide +kernel
theorem dX7_append_1 : decode cX7_append 1 = .ok (.iconst 0, 1) := by decide +kernel
theorem dX7_append_2 : decode cX7_append 2 = .ok (.putfield 25, 3) := by decide +kernel
theorem dX7_append_5 : decode cX7_append 5 = .ok (.iload_n 1, 1) := by decide +kernel
theorem dX7_append_6 : decode cX7_append 6 = .ok (.iconst 1, 1) := by decide +kernel
theorem dX7_append_7 : decode cX7_append 7 = .ok (.sipush 255, 3) := by decide +kernel
theorem dX7_append_10 : decode cX7_append 10 = .ok (.invokestatic 32, 3) := by decide +kernel
theorem dX7_append_13 : decode cX7_append 13 = .ok (.ifCond .ne 6, 3) := by decide +kernel
theorem dX7_append_16 : decode cX7_append 16 = .ok (.bipush (-11), 2) := by decide +kernel
theorem dX7_append_18 : decode cX7_append 18 = .ok (.ireturn, 1) := by decide +kernel
theorem dX7_append_19 : decode cX7_append 19 = .ok (.aload_n 0, 1) := by decide +kernel
theorem dX7_append_20 : decode cX7_append 20 = .ok (.getfield 101, 3) := by decide +kernel
theorem dX7_append_23 : decode cX7_append 23 = .ok (.bipush 120, 2) := by decide +kernel
theorem dX7_append_25 : decode cX7_append 25 = .ok (.if_icmp .ne 6, 3) := by decide +kernel
theorem dX7_append_28 : decode cX7_append 28 = .ok (.bipush (-13), 2) := by decide +kernel
theorem dX7_append_30 : decode cX7_append 30 = .ok (.ireturn, 1) := by decide +kernel
theorem dX7_append_31 : decode cX7_append 31 = .ok (.aload_n 0, 1) := by decide +kernel
theorem dX7_append_32 : decode cX7_append 32 = .ok (.getfield 19, 3) := by decide +kernel
theorem dX7_append_35 : decode cX7_append 35 = .ok (.aload_n 0, 1) := by decide +kernel
theorem dX7_append_36 : decode cX7_append 36 = .ok (.getfield 101, 3) := by decide +kernel
theorem dX7_append_39 : decode cX7_append 39 = .ok (.iload_n 1, 1) := by decide +kernel
theorem dX7_append_40 : decode cX7_append 40 = .ok (.iastore, 1) := by decide +kernel
theorem dX7_append_41 : decode cX7_append 41 = .ok (.aload_n 0, 1) := by decide +kernel
theorem dX7_append_42 : decode cX7_append 42 = .ok (.dup, 1) := by decide +kernel
theorem dX7_append_43 : decode cX7_append 43 = .ok (.getfield 101, 3) := by decide +kernel
theorem dX7_append_46 : decode cX7_append 46 = .ok (.iconst 1, 1) := by decide +kernel
theorem dX7_append_47 : decode cX7_append 47 = .ok (.iadd, 1) := by decide +kernel
theorem dX7_append_48 : decode cX7_append 48 = .ok (.putfield 101, 3) := by decide +kernel
theorem dX7_append_51 : decode cX7_append 51 = .ok (.aload_n 0, 1) := by decide +kernel
theorem dX7_append_52 : decode cX7_append 52 = .ok (.getfield 101, 3) := by decide +kernel
theorem dX7_append_55 : decode cX7_append 55 = .ok (.ireturn, 1) := by decide +kernel
theorem dX7_clearText_0 : decode cX7_clearText 0 = .ok (.aload_n 0, 1) := by decide +kernel
theorem dX7_clearText_1 : decode cX7_clearText 1 = .ok (.iconst 0, 1) := by decide +kernel
theorem dX7_clearText_2 : decode cX7_clearText 2 = .ok (.putfield 25, 3) := by decide +kernel
theorem dX7_clearText_5 : decode cX7_clearText 5 = .ok (.aload_n 0, 1) := by decide +kernel
theorem dX7_clearText_6 : decode cX7_clearText 6 = .ok (.getfield 101, 3) := by decide +kernel
theorem dX7_clearText_9 : decode cX7_clearText 9 = .ok (.istore_n 1, 1) := by decide +kernel
theorem dX7_clearText_10 : decode cX7_clearText 10 = .ok (.aload_n 0, 1) := by decide +kernel
theorem dX7_clearText_11 : decode cX7_clearText 11 = .ok (.iconst 0, 1) := by decide +kernel
theorem dX7_clearText_12 : decode cX7_clearText 12 = .ok (.putfield 101, 3) := by decide +kernel
theorem dX7_clearText_15 : decode cX7_clearText 15 = .ok (.iload_n 1, 1) := by decide +kernel
theorem dX7_clearText_16 : decode cX7_clearText 16 = .ok (.ireturn, 1) := by decide +kernel
theorem dX7_here_0 : decode cX7_here 0 = .ok (.aload_n 0, 1) := by decide +kernel
theorem dX7_here_1 : decode cX7_here 1 = .ok (.getfield 104, 3) := by decide +kernel
theorem dX7_here_4 : decode cX7_here 4 = .ok (.aload_n 0, 1) := by decide +kernel
theorem dX7_here_5 : decode cX7_here 5 = .ok (.getfield 101, 3) := by decide +kernel
theorem dX7_here_8 : decode cX7_here 8 = .ok (.if_icmp .ge 30, 3) := by decide +kernel
theorem dX7_here_11 : decode cX7_here 11 = .ok (.aload_n 0, 1) := by decide +kernel
theorem dX7_here_12 : decode cX7_here 12 = .ok (.getfield 19, 3) := by decide +kernel
theorem dX7_here_15 : decode cX7_here 15 = .ok (.aload_n 0, 1) := by decide +kernel
theorem dX7_here_16 : decode cX7_here 16 = .ok (.getfield 104, 3) := by decide +kernel
theorem dX7_here_19 : decode cX7_here 19 = .ok (.iaload, 1) := by decide +kernel
theorem dX7_here_20 : decode cX7_here 20 = .ok (.bipush 32, 2) := by decide +kernel
theorem dX7_here_22 : decode cX7_here 22 = .ok (.if_icmp .ne 16, 3) := by decide +kernel
theorem dX7_here_25 : decode cX7_here 25 = .ok (.aload_n 0, 1) := by decide +kernel
theorem dX7_here_26 : decode cX7_here 26 = .ok (.dup, 1) := by decide +kernel
theorem dX7_here_27 : decode cX7_here 27 = .ok (.getfield 104, 3) := by decide +kernel
theorem dX7_here_30 : decode cX7_here 30 = .ok (.iconst 1, 1) := by decide +kernel
theorem dX7_here_31 : decode cX7_here 31 = .ok (.iadd, 1) := by decide +kernel
theorem dX7_here_32 : decode cX7_here 32 = .ok (.putfield 104, 3) := by decide +kernel
theorem dX7_here_35 : decode cX7_here 35 = .ok (.goto (-35), 3) := by decide +kernel
theorem dX7_here_38 : decode cX7_here 38 = .ok (.aload_n 0, 1) := by decide +kernel
theorem dX7_here_39 : decode cX7_here 39 = .ok (.getfield 104, 3) := by decide +kernel
theorem dX7_here_42 : decode cX7_here 42 = .ok (.aload_n 0, 1) := by decide +kernel
theorem dX7_here_43 : decode cX7_here 43 = .ok (.getfield 101, 3) := by decide +kernel
theorem dX7_here_46 : decode cX7_here 46 = .ok (.if_icmp .ge 15, 3) := by decide +kernel
theorem dX7_here_49 : decode cX7_here 49 = .ok (.aload_n 0, 1) := by decide +kernel
theorem dX7_here_50 : decode cX7_here 50 = .ok (.getfield 19, 3) := by decide +kernel
theorem dX7_here_53 : decode cX7_here 53 = .ok (.aload_n 0, 1) := by decide +kernel
theorem dX7_here_54 : decode cX7_here 54 = .ok (.getfield 104, 3) := by decide +kernel
theorem dX7_here_57 : decode cX7_here 57 = .ok (.iaload, 1) := by decide +kernel
theorem dX7_here_58 : decode cX7_here 58 = .ok (.goto 4, 3) := by decide +kernel
theorem dX7_here_61 : decode cX7_here 61 = .ok (.iconst (-1), 1) := by decide +kernel
theorem dX7_here_62 : decode cX7_here 62 = .ok (.ireturn, 1) := by decide +kernel
theorem dX7_readsCell_0 : decode cX7_readsCell 0 = .ok (.aload_n 0, 1) := by decide +kernel
theorem dX7_readsCell_1 : decode cX7_readsCell 1 = .ok (.invokevirtual 107, 3) := by decide +kernel
theorem dX7_readsCell_4 : decode cX7_readsCell 4 = .ok (.istore_n 3, 1) := by decide +kernel
theorem dX7_readsCell_5 : decode cX7_readsCell 5 = .ok (.iload_n 1, 1) := by decide +kernel
theorem dX7_readsCell_6 : decode cX7_readsCell 6 = .ok (.bipush 12, 2) := by decide +kernel
theorem dX7_readsCell_8 : decode cX7_readsCell 8 = .ok (.if_icmp .eq 20, 3) := by decide +kernel
theorem dX7_readsCell_11 : decode cX7_readsCell 11 = .ok (.iload_n 3, 1) := by decide +kernel
theorem dX7_readsCell_12 : decode cX7_readsCell 12 = .ok (.bipush 35, 2) := by decide +kernel
theorem dX7_readsCell_14 : decode cX7_readsCell 14 = .ok (.if_icmp .eq 16, 3) := by decide +kernel
theorem dX7_readsCell_17 : decode cX7_readsCell 17 = .ok (.iload_n 3, 1) := by decide +kernel
theorem dX7_readsCell_18 : decode cX7_readsCell 18 = .ok (.bipush 48, 2) := by decide +kernel
theorem dX7_readsCell_20 : decode cX7_readsCell 20 = .ok (.bipush 57, 2) := by decide +kernel
theorem dX7_readsCell_22 : decode cX7_readsCell 22 = .ok (.invokestatic 32, 3) := by decide +kernel
theorem dX7_readsCell_25 : decode cX7_readsCell 25 = .ok (.ifCond .ne 5, 3) := by decide +kernel
theorem dX7_readsCell_28 : decode cX7_readsCell 28 = .ok (.iconst 0, 1) := by decide +kernel
theorem dX7_readsCell_29 : decode cX7_readsCell 29 = .ok (.ireturn, 1) := by decide +kernel
theorem dX7_readsCell_30 : decode cX7_readsCell 30 = .ok (.iload_n 1, 1) := by decide +kernel
theorem dX7_readsCell_31 : decode cX7_readsCell 31 = .ok (.iload_n 2, 1) := by decide +kernel
theorem dX7_readsCell_32 : decode cX7_readsCell 32 = .ok (.invokestatic 46, 3) := by decide +kernel
theorem dX7_readsCell_35 : decode cX7_readsCell 35 = .ok (.istore 4, 2) := by decide +kernel
theorem dX7_readsCell_37 : decode cX7_readsCell 37 = .ok (.iload_n 3, 1) := by decide +kernel
theorem dX7_readsCell_38 : decode cX7_readsCell 38 = .ok (.bipush 35, 2) := by decide +kernel
theorem dX7_readsCell_40 : decode cX7_readsCell 40 = .ok (.if_icmp .ne 16, 3) := by decide +kernel
theorem dX7_readsCell_43 : decode cX7_readsCell 43 = .ok (.aload_n 0, 1) := by decide +kernel
theorem dX7_readsCell_44 : decode cX7_readsCell 44 = .ok (.iload 4, 2) := by decide +kernel
theorem dX7_readsCell_46 : decode cX7_readsCell 46 = .ok (.invokevirtual 83, 3) := by decide +kernel
theorem dX7_readsCell_49 : decode cX7_readsCell 49 = .ok (.bipush (-19), 2) := by decide +kernel
theorem dX7_readsCell_51 : decode cX7_readsCell 51 = .ok (.if_icmp .eq 5, 3) := by decide +kernel
theorem dX7_readsCell_54 : decode cX7_readsCell 54 = .ok (.iconst 0, 1) := by decide +kernel
theorem dX7_readsCell_55 : decode cX7_readsCell 55 = .ok (.ireturn, 1) := by decide +kernel
theorem dX7_readsCell_56 : decode cX7_readsCell 56 = .ok (.aload_n 0, 1) := by decide +kernel
theorem dX7_readsCell_57 : decode cX7_readsCell 57 = .ok (.getfield 7, 3) := by decide +kernel
theorem dX7_readsCell_60 : decode cX7_readsCell 60 = .ok (.sipush 188, 3) := by decide +kernel
theorem dX7_readsCell_63 : decode cX7_readsCell 63 = .ok (.iload 4, 2) := by decide +kernel
theorem dX7_readsCell_65 : decode cX7_readsCell 65 = .ok (.iadd, 1) := by decide +kernel
theorem dX7_readsCell_66 : decode cX7_readsCell 66 = .ok (.iload_n 3, 1) := by decide +kernel
theorem dX7_readsCell_67 : decode cX7_readsCell 67 = .ok (.bipush 35, 2) := by decide +kernel
theorem dX7_readsCell_69 : decode cX7_readsCell 69 = .ok (.if_icmp .ne 7, 3) := by decide +kernel
theorem dX7_readsCell_72 : decode cX7_readsCell 72 = .ok (.iconst 1, 1) := by decide +kernel
theorem dX7_readsCell_73 : decode cX7_readsCell 73 = .ok (.goto 4, 3) := by decide +kernel
theorem dX7_readsCell_76 : decode cX7_readsCell 76 = .ok (.iconst 0, 1) := by decide +kernel
theorem dX7_readsCell_77 : decode cX7_readsCell 77 = .ok (.iastore, 1) := by decide +kernel
theorem dX7_readsCell_78 : decode cX7_readsCell 78 = .ok (.aload_n 0, 1) := by decide +kernel
theorem dX7_readsCell_79 : decode cX7_readsCell 79 = .ok (.getfield 7, 3) := by decide +kernel
theorem dX7_readsCell_82 : decode cX7_readsCell 82 = .ok (.bipush 68, 2) := by decide +kernel
theorem dX7_readsCell_84 : decode cX7_readsCell 84 = .ok (.iload 4, 2) := by decide +kernel
theorem dX7_readsCell_86 : decode cX7_readsCell 86 = .ok (.iadd, 1) := by decide +kernel
theorem dX7_readsCell_87 : decode cX7_readsCell 87 = .ok (.iload_n 3, 1) := by decide +kernel
theorem dX7_readsCell_88 : decode cX7_readsCell 88 = .ok (.bipush 35, 2) := by decide +kernel
theorem dX7_readsCell_90 : decode cX7_readsCell 90 = .ok (.if_icmp .ne 16, 3) := by decide +kernel
theorem dX7_readsCell_93 : decode cX7_readsCell 93 = .ok (.aload_n 0, 1) := by decide +kernel
theorem dX7_readsCell_94 : decode cX7_readsCell 94 = .ok (.getfield 7, 3) := by decide +kernel
theorem dX7_readsCell_97 : decode cX7_readsCell 97 = .ok (.bipush 68, 2) := by decide +kernel
theorem dX7_readsCell_99 : decode cX7_readsCell 99 = .ok (.iload 4, 2) := by decide +kernel
theorem dX7_readsCell_101 : decode cX7_readsCell 101 = .ok (.iadd, 1) := by decide +kernel
theorem dX7_readsCell_102 : decode cX7_readsCell 102 = .ok (.iaload, 1) := by decide +kernel
theorem dX7_readsCell_103 : decode cX7_readsCell 103 = .ok (.goto 7, 3) := by decide +kernel
theorem dX7_readsCell_106 : decode cX7_readsCell 106 = .ok (.iload_n 3, 1) := by decide +kernel
theorem dX7_readsCell_107 : decode cX7_readsCell 107 = .ok (.bipush 48, 2) := by decide +kernel
theorem dX7_readsCell_109 : decode cX7_readsCell 109 = .ok (.isub, 1) := by decide +kernel
theorem dX7_readsCell_110 : decode cX7_readsCell 110 = .ok (.iastore, 1) := by decide +kernel
theorem dX7_readsCell_111 : decode cX7_readsCell 111 = .ok (.aload_n 0, 1) := by decide +kernel
theorem dX7_readsCell_112 : decode cX7_readsCell 112 = .ok (.dup, 1) := by decide +kernel
theorem dX7_readsCell_113 : decode cX7_readsCell 113 = .ok (.getfield 104, 3) := by decide +kernel
theorem dX7_readsCell_116 : decode cX7_readsCell 116 = .ok (.iconst 1, 1) := by decide +kernel
theorem dX7_readsCell_117 : decode cX7_readsCell 117 = .ok (.iadd, 1) := by decide +kernel
theorem dX7_readsCell_118 : decode cX7_readsCell 118 = .ok (.putfield 104, 3) := by decide +kernel
theorem dX7_readsCell_121 : decode cX7_readsCell 121 = .ok (.iconst 1, 1) := by decide +kernel
theorem dX7_readsCell_122 : decode cX7_readsCell 122 = .ok (.ireturn, 1) := by decide +kernel
theorem dX7_readsRow_0 : decode cX7_readsRow 0 = .ok (.iload_n 1, 1) := by decide +kernel
theorem dX7_readsRow_1 : decode cX7_readsRow 1 = .ok (.bipush 10, 2) := by decide +kernel
theorem dX7_readsRow_3 : decode cX7_readsRow 3 = .ok (.if_icmp .ne 5, 3) := by decide +kernel
theorem dX7_readsRow_6 : decode cX7_readsRow 6 = .ok (.iconst 0, 1) := by decide +kernel
theorem dX7_readsRow_7 : decode cX7_readsRow 7 = .ok (.ireturn, 1) := by decide +kernel
theorem dX7_readsRow_8 : decode cX7_readsRow 8 = .ok (.iconst 0, 1) := by decide +kernel
theorem dX7_readsRow_9 : decode cX7_readsRow 9 = .ok (.istore_n 2, 1) := by decide +kernel
theorem dX7_readsRow_10 : decode cX7_readsRow 10 = .ok (.aload_n 0, 1) := by decide +kernel
theorem dX7_readsRow_11 : decode cX7_readsRow 11 = .ok (.invokevirtual 107, 3) := by decide +kernel
theorem dX7_readsRow_14 : decode cX7_readsRow 14 = .ok (.bipush 59, 2) := by decide +kernel
theorem dX7_readsRow_16 : decode cX7_readsRow 16 = .ok (.if_icmp .eq 20, 3) := by decide +kernel
theorem dX7_readsRow_19 : decode cX7_readsRow 19 = .ok (.aload_n 0, 1) := by decide +kernel
theorem dX7_readsRow_20 : decode cX7_readsRow 20 = .ok (.iload_n 2, 1) := by decide +kernel
theorem dX7_readsRow_21 : decode cX7_readsRow 21 = .ok (.iload_n 1, 1) := by decide +kernel
theorem dX7_readsRow_22 : decode cX7_readsRow 22 = .ok (.invokevirtual 111, 3) := by decide +kernel
theorem dX7_readsRow_25 : decode cX7_readsRow 25 = .ok (.ifCond .ne 5, 3) := by decide +kernel
theorem dX7_readsRow_28 : decode cX7_readsRow 28 = .ok (.iconst 0, 1) := by decide +kernel
theorem dX7_readsRow_29 : decode cX7_readsRow 29 = .ok (.ireturn, 1) := by decide +kernel
theorem dX7_readsRow_30 : decode cX7_readsRow 30 = .ok (.iinc 2 1, 3) := by decide +kernel
theorem dX7_readsRow_33 : decode cX7_readsRow 33 = .ok (.goto (-23), 3) := by decide +kernel
theorem dX7_readsRow_36 : decode cX7_readsRow 36 = .ok (.aload_n 0, 1) := by decide +kernel
theorem dX7_readsRow_37 : decode cX7_readsRow 37 = .ok (.dup, 1) := by decide +kernel
theorem dX7_readsRow_38 : decode cX7_readsRow 38 = .ok (.getfield 104, 3) := by decide +kernel
theorem dX7_readsRow_41 : decode cX7_readsRow 41 = .ok (.iconst 1, 1) := by decide +kernel
theorem dX7_readsRow_42 : decode cX7_readsRow 42 = .ok (.iadd, 1) := by decide +kernel
theorem dX7_readsRow_43 : decode cX7_readsRow 43 = .ok (.putfield 104, 3) := by decide +kernel
theorem dX7_readsRow_46 : decode cX7_readsRow 46 = .ok (.iconst 1, 1) := by decide +kernel
theorem dX7_readsRow_47 : decode cX7_readsRow 47 = .ok (.ireturn, 1) := by decide +kernel
theorem dX7_exchange_0 : decode cX7_exchange 0 = .ok (.iconst 0, 1) := by decide +kernel
theorem dX7_exchange_1 : decode cX7_exchange 1 = .ok (.istore_n 1, 1) := by decide +kernel
theorem dX7_exchange_2 : decode cX7_exchange 2 = .ok (.iload_n 1, 1) := by decide +kernel
theorem dX7_exchange_3 : decode cX7_exchange 3 = .ok (.sipush 1268, 3) := by decide +kernel
theorem dX7_exchange_6 : decode cX7_exchange 6 = .ok (.if_icmp .ge 35, 3) := by decide +kernel
theorem dX7_exchange_9 : decode cX7_exchange 9 = .ok (.aload_n 0, 1) := by decide +kernel
theorem dX7_exchange_10 : decode cX7_exchange 10 = .ok (.getfield 7, 3) := by decide +kernel
theorem dX7_exchange_13 : decode cX7_exchange 13 = .ok (.iload_n 1, 1) := by decide +kernel
theorem dX7_exchange_14 : decode cX7_exchange 14 = .ok (.iaload, 1) := by decide +kernel
theorem dX7_exchange_15 : decode cX7_exchange 15 = .ok (.istore_n 2, 1) := by decide +kernel
theorem dX7_exchange_16 : decode cX7_exchange 16 = .ok (.aload_n 0, 1) := by decide +kernel
theorem dX7_exchange_17 : decode cX7_exchange 17 = .ok (.getfield 7, 3) := by decide +kernel
theorem dX7_exchange_20 : decode cX7_exchange 20 = .ok (.iload_n 1, 1) := by decide +kernel
theorem dX7_exchange_21 : decode cX7_exchange 21 = .ok (.aload_n 0, 1) := by decide +kernel
theorem dX7_exchange_22 : decode cX7_exchange 22 = .ok (.getfield 13, 3) := by decide +kernel
theorem dX7_exchange_25 : decode cX7_exchange 25 = .ok (.iload_n 1, 1) := by decide +kernel
theorem dX7_exchange_26 : decode cX7_exchange 26 = .ok (.iaload, 1) := by decide +kernel
theorem dX7_exchange_27 : decode cX7_exchange 27 = .ok (.iastore, 1) := by decide +kernel
theorem dX7_exchange_28 : decode cX7_exchange 28 = .ok (.aload_n 0, 1) := by decide +kernel
theorem dX7_exchange_29 : decode cX7_exchange 29 = .ok (.getfield 13, 3) := by decide +kernel
theorem dX7_exchange_32 : decode cX7_exchange 32 = .ok (.iload_n 1, 1) := by decide +kernel
theorem dX7_exchange_33 : decode cX7_exchange 33 = .ok (.iload_n 2, 1) := by decide +kernel
theorem dX7_exchange_34 : decode cX7_exchange 34 = .ok (.iastore, 1) := by decide +kernel
theorem dX7_exchange_35 : decode cX7_exchange 35 = .ok (.iinc 1 1, 3) := by decide +kernel
theorem dX7_exchange_38 : decode cX7_exchange 38 = .ok (.goto (-36), 3) := by decide +kernel
theorem dX7_exchange_41 : decode cX7_exchange 41 = .ok (.return_, 1) := by decide +kernel
theorem dX7_load_0 : decode cX7_load 0 = .ok (.aload_n 0, 1) := by decide +kernel
theorem dX7_load_1 : decode cX7_load 1 = .ok (.iconst 0, 1) := by decide +kernel
theorem dX7_load_2 : decode cX7_load 2 = .ok (.putfield 25, 3) := by decide +kernel
theorem dX7_load_5 : decode cX7_load 5 = .ok (.iconst 0, 1) := by decide +kernel
theorem dX7_load_6 : decode cX7_load 6 = .ok (.istore_n 1, 1) := by decide +kernel
theorem dX7_load_7 : decode cX7_load 7 = .ok (.iload_n 1, 1) := by decide +kernel
theorem dX7_load_8 : decode cX7_load 8 = .ok (.sipush 1268, 3) := by decide +kernel
theorem dX7_load_11 : decode cX7_load 11 = .ok (.if_icmp .ge 21, 3) := by decide +kernel
theorem dX7_load_14 : decode cX7_load 14 = .ok (.aload_n 0, 1) := by decide +kernel
theorem dX7_load_15 : decode cX7_load 15 = .ok (.getfield 13, 3) := by decide +kernel
theorem dX7_load_18 : decode cX7_load 18 = .ok (.iload_n 1, 1) := by decide +kernel
theorem dX7_load_19 : decode cX7_load 19 = .ok (.aload_n 0, 1) := by decide +kernel
theorem dX7_load_20 : decode cX7_load 20 = .ok (.getfield 7, 3) := by decide +kernel
theorem dX7_load_23 : decode cX7_load 23 = .ok (.iload_n 1, 1) := by decide +kernel
theorem dX7_load_24 : decode cX7_load 24 = .ok (.iaload, 1) := by decide +kernel
theorem dX7_load_25 : decode cX7_load 25 = .ok (.iastore, 1) := by decide +kernel
theorem dX7_load_26 : decode cX7_load 26 = .ok (.iinc 1 1, 3) := by decide +kernel
theorem dX7_load_29 : decode cX7_load 29 = .ok (.goto (-22), 3) := by decide +kernel
theorem dX7_load_32 : decode cX7_load 32 = .ok (.aload_n 0, 1) := by decide +kernel
theorem dX7_load_33 : decode cX7_load 33 = .ok (.iconst 0, 1) := by decide +kernel
theorem dX7_load_34 : decode cX7_load 34 = .ok (.putfield 104, 3) := by decide +kernel
theorem dX7_load_37 : decode cX7_load 37 = .ok (.iconst 0, 1) := by decide +kernel
theorem dX7_load_38 : decode cX7_load 38 = .ok (.istore_n 1, 1) := by decide +kernel
theorem dX7_load_39 : decode cX7_load 39 = .ok (.iconst 1, 1) := by decide +kernel
theorem dX7_load_40 : decode cX7_load 40 = .ok (.istore_n 2, 1) := by decide +kernel
theorem dX7_load_41 : decode cX7_load 41 = .ok (.iload_n 2, 1) := by decide +kernel
theorem dX7_load_42 : decode cX7_load 42 = .ok (.ifCond .eq 22, 3) := by decide +kernel
theorem dX7_load_45 : decode cX7_load 45 = .ok (.aload_n 0, 1) := by decide +kernel
theorem dX7_load_46 : decode cX7_load 46 = .ok (.invokevirtual 107, 3) := by decide +kernel
theorem dX7_load_49 : decode cX7_load 49 = .ok (.ifCond .lt 15, 3) := by decide +kernel
theorem dX7_load_52 : decode cX7_load 52 = .ok (.aload_n 0, 1) := by decide +kernel
theorem dX7_load_53 : decode cX7_load 53 = .ok (.iload_n 1, 1) := by decide +kernel
theorem dX7_load_54 : decode cX7_load 54 = .ok (.invokevirtual 114, 3) := by decide +kernel
theorem dX7_load_57 : decode cX7_load 57 = .ok (.istore_n 2, 1) := by decide +kernel
theorem dX7_load_58 : decode cX7_load 58 = .ok (.iinc 1 1, 3) := by decide +kernel
theorem dX7_load_61 : decode cX7_load 61 = .ok (.goto (-20), 3) := by decide +kernel
theorem dX7_load_64 : decode cX7_load 64 = .ok (.aload_n 0, 1) := by decide +kernel
theorem dX7_load_65 : decode cX7_load 65 = .ok (.invokevirtual 117, 3) := by decide +kernel
theorem dX7_load_68 : decode cX7_load 68 = .ok (.iload_n 2, 1) := by decide +kernel
theorem dX7_load_69 : decode cX7_load 69 = .ok (.ifCond .ne 12, 3) := by decide +kernel
theorem dX7_load_72 : decode cX7_load 72 = .ok (.sipush (-1000), 3) := by decide +kernel
theorem dX7_load_75 : decode cX7_load 75 = .ok (.aload_n 0, 1) := by decide +kernel
theorem dX7_load_76 : decode cX7_load 76 = .ok (.getfield 104, 3) := by decide +kernel
theorem dX7_load_79 : decode cX7_load 79 = .ok (.isub, 1) := by decide +kernel
theorem dX7_load_80 : decode cX7_load 80 = .ok (.ireturn, 1) := by decide +kernel
theorem dX7_load_81 : decode cX7_load 81 = .ok (.aload_n 0, 1) := by decide +kernel
theorem dX7_load_82 : decode cX7_load 82 = .ok (.invokevirtual 89, 3) := by decide +kernel
theorem dX7_load_85 : decode cX7_load 85 = .ok (.aload_n 0, 1) := by decide +kernel
theorem dX7_load_86 : decode cX7_load 86 = .ok (.invokevirtual 117, 3) := by decide +kernel
theorem dX7_load_89 : decode cX7_load 89 = .ok (.aload_n 0, 1) := by decide +kernel
theorem dX7_load_90 : decode cX7_load 90 = .ok (.invokevirtual 92, 3) := by decide +kernel
theorem dX7_load_93 : decode cX7_load 93 = .ok (.aload_n 0, 1) := by decide +kernel
theorem dX7_load_94 : decode cX7_load 94 = .ok (.iconst 0, 1) := by decide +kernel
theorem dX7_load_95 : decode cX7_load 95 = .ok (.putfield 101, 3) := by decide +kernel
theorem dX7_load_98 : decode cX7_load 98 = .ok (.iload_n 1, 1) := by decide +kernel
theorem dX7_load_99 : decode cX7_load 99 = .ok (.ireturn, 1) := by decide +kernel
theorem dX7_addScout_0 : decode cX7_addScout 0 = .ok (.aload_n 0, 1) := by decide +kernel
theorem dX7_addScout_1 : decode cX7_addScout 1 = .ok (.iconst 0, 1) := by decide +kernel
theorem dX7_addScout_2 : decode cX7_addScout 2 = .ok (.putfield 25, 3) := by decide +kernel
theorem dX7_addScout_5 : decode cX7_addScout 5 = .ok (.iload_n 1, 1) := by decide +kernel
theorem dX7_addScout_6 : decode cX7_addScout 6 = .ok (.iconst 0, 1) := by decide +kernel
theorem dX7_addScout_7 : decode cX7_addScout 7 = .ok (.iconst 1, 1) := by decide +kernel
theorem dX7_addScout_8 : decode cX7_addScout 8 = .ok (.invokestatic 32, 3) := by decide +kernel
theorem dX7_addScout_11 : decode cX7_addScout 11 = .ok (.ifCond .eq 22, 3) := by decide +kernel
theorem dX7_addScout_14 : decode cX7_addScout 14 = .ok (.iload_n 2, 1) := by decide +kernel
theorem dX7_addScout_15 : decode cX7_addScout 15 = .ok (.iload_n 3, 1) := by decide +kernel
theorem dX7_addScout_16 : decode cX7_addScout 16 = .ok (.invokestatic 95, 3) := by decide +kernel
theorem dX7_addScout_19 : decode cX7_addScout 19 = .ok (.ifCond .eq 14, 3) := by decide +kernel
theorem dX7_addScout_22 : decode cX7_addScout 22 = .ok (.iload 4, 2) := by decide +kernel
theorem dX7_addScout_24 : decode cX7_addScout 24 = .ok (.iconst 1, 1) := by decide +kernel
theorem dX7_addScout_25 : decode cX7_addScout 25 = .ok (.bipush 8, 2) := by decide +kernel
theorem dX7_addScout_27 : decode cX7_addScout 27 = .ok (.invokestatic 32, 3) := by decide +kernel
theorem dX7_addScout_30 : decode cX7_addScout 30 = .ok (.ifCond .ne 6, 3) := by decide +kernel
theorem dX7_addScout_33 : decode cX7_addScout 33 = .ok (.bipush (-11), 2) := by decide +kernel
theorem dX7_addScout_35 : decode cX7_addScout 35 = .ok (.ireturn, 1) := by decide +kernel
theorem dX7_addScout_36 : decode cX7_addScout 36 = .ok (.iload_n 2, 1) := by decide +kernel
theorem dX7_addScout_37 : decode cX7_addScout 37 = .ok (.iload_n 3, 1) := by decide +kernel
theorem dX7_addScout_38 : decode cX7_addScout 38 = .ok (.invokestatic 46, 3) := by decide +kernel
theorem dX7_addScout_41 : decode cX7_addScout 41 = .ok (.istore 5, 2) := by decide +kernel
theorem dX7_addScout_43 : decode cX7_addScout 43 = .ok (.aload_n 0, 1) := by decide +kernel
theorem dX7_addScout_44 : decode cX7_addScout 44 = .ok (.getfield 7, 3) := by decide +kernel
theorem dX7_addScout_47 : decode cX7_addScout 47 = .ok (.sipush 188, 3) := by decide +kernel
theorem dX7_addScout_50 : decode cX7_addScout 50 = .ok (.iload 5, 2) := by decide +kernel
theorem dX7_addScout_52 : decode cX7_addScout 52 = .ok (.iadd, 1) := by decide +kernel
theorem dX7_addScout_53 : decode cX7_addScout 53 = .ok (.iaload, 1) := by decide +kernel
theorem dX7_addScout_54 : decode cX7_addScout 54 = .ok (.iconst 1, 1) := by decide +kernel
theorem dX7_addScout_55 : decode cX7_addScout 55 = .ok (.if_icmp .eq 14, 3) := by decide +kernel
theorem dX7_addScout_58 : decode cX7_addScout 58 = .ok (.aload_n 0, 1) := by decide +kernel
theorem dX7_addScout_59 : decode cX7_addScout 59 = .ok (.iload 5, 2) := by decide +kernel
theorem dX7_addScout_61 : decode cX7_addScout 61 = .ok (.invokevirtual 83, 3) := by decide +kernel
theorem dX7_addScout_64 : decode cX7_addScout 64 = .ok (.bipush (-19), 2) := by decide +kernel
theorem dX7_addScout_66 : decode cX7_addScout 66 = .ok (.if_icmp .eq 6, 3) := by decide +kernel
theorem dX7_addScout_69 : decode cX7_addScout 69 = .ok (.bipush (-12), 2) := by decide +kernel
theorem dX7_addScout_71 : decode cX7_addScout 71 = .ok (.ireturn, 1) := by decide +kernel
theorem dX7_addScout_72 : decode cX7_addScout 72 = .ok (.aload_n 0, 1) := by decide +kernel
theorem dX7_addScout_73 : decode cX7_addScout 73 = .ok (.getfield 7, 3) := by decide +kernel
theorem dX7_addScout_76 : decode cX7_addScout 76 = .ok (.iconst 0, 1) := by decide +kernel
theorem dX7_addScout_77 : decode cX7_addScout 77 = .ok (.iaload, 1) := by decide +kernel
theorem dX7_addScout_78 : decode cX7_addScout 78 = .ok (.bipush 10, 2) := by decide +kernel
theorem dX7_addScout_80 : decode cX7_addScout 80 = .ok (.if_icmp .ne 6, 3) := by decide +kernel
theorem dX7_addScout_83 : decode cX7_addScout 83 = .ok (.bipush (-13), 2) := by decide +kernel
theorem dX7_addScout_85 : decode cX7_addScout 85 = .ok (.ireturn, 1) := by decide +kernel
theorem dX7_addScout_86 : decode cX7_addScout 86 = .ok (.aload_n 0, 1) := by decide +kernel
theorem dX7_addScout_87 : decode cX7_addScout 87 = .ok (.invokevirtual 89, 3) := by decide +kernel
theorem dX7_addScout_90 : decode cX7_addScout 90 = .ok (.iconst 4, 1) := by decide +kernel
theorem dX7_addScout_91 : decode cX7_addScout 91 = .ok (.iconst 4, 1) := by decide +kernel
theorem dX7_addScout_92 : decode cX7_addScout 92 = .ok (.aload_n 0, 1) := by decide +kernel
theorem dX7_addScout_93 : decode cX7_addScout 93 = .ok (.getfield 7, 3) := by decide +kernel
theorem dX7_addScout_96 : decode cX7_addScout 96 = .ok (.iconst 0, 1) := by decide +kernel
theorem dX7_addScout_97 : decode cX7_addScout 97 = .ok (.iaload, 1) := by decide +kernel
theorem dX7_addScout_98 : decode cX7_addScout 98 = .ok (.imul, 1) := by decide +kernel
theorem dX7_addScout_99 : decode cX7_addScout 99 = .ok (.iadd, 1) := by decide +kernel
theorem dX7_addScout_100 : decode cX7_addScout 100 = .ok (.istore 6, 2) := by decide +kernel
theorem dX7_addScout_102 : decode cX7_addScout 102 = .ok (.aload_n 0, 1) := by decide +kernel
theorem dX7_addScout_103 : decode cX7_addScout 103 = .ok (.getfield 7, 3) := by decide +kernel
theorem dX7_addScout_106 : decode cX7_addScout 106 = .ok (.iload 6, 2) := by decide +kernel
theorem dX7_addScout_108 : decode cX7_addScout 108 = .ok (.iconst 0, 1) := by decide +kernel
theorem dX7_addScout_109 : decode cX7_addScout 109 = .ok (.iadd, 1) := by decide +kernel
theorem dX7_addScout_110 : decode cX7_addScout 110 = .ok (.iload_n 1, 1) := by decide +kernel
theorem dX7_addScout_111 : decode cX7_addScout 111 = .ok (.iastore, 1) := by decide +kernel
theorem dX7_addScout_112 : decode cX7_addScout 112 = .ok (.aload_n 0, 1) := by decide +kernel
theorem dX7_addScout_113 : decode cX7_addScout 113 = .ok (.getfield 7, 3) := by decide +kernel
theorem dX7_addScout_116 : decode cX7_addScout 116 = .ok (.iload 6, 2) := by decide +kernel
theorem dX7_addScout_118 : decode cX7_addScout 118 = .ok (.iconst 1, 1) := by decide +kernel
theorem dX7_addScout_119 : decode cX7_addScout 119 = .ok (.iadd, 1) := by decide +kernel
theorem dX7_addScout_120 : decode cX7_addScout 120 = .ok (.iload_n 2, 1) := by decide +kernel
theorem dX7_addScout_121 : decode cX7_addScout 121 = .ok (.iastore, 1) := by decide +kernel
theorem dX7_addScout_122 : decode cX7_addScout 122 = .ok (.aload_n 0, 1) := by decide +kernel
theorem dX7_addScout_123 : decode cX7_addScout 123 = .ok (.getfield 7, 3) := by decide +kernel
theorem dX7_addScout_126 : decode cX7_addScout 126 = .ok (.iload 6, 2) := by decide +kernel
theorem dX7_addScout_128 : decode cX7_addScout 128 = .ok (.iconst 2, 1) := by decide +kernel
theorem dX7_addScout_129 : decode cX7_addScout 129 = .ok (.iadd, 1) := by decide +kernel
theorem dX7_addScout_130 : decode cX7_addScout 130 = .ok (.iload_n 3, 1) := by decide +kernel
theorem dX7_addScout_131 : decode cX7_addScout 131 = .ok (.iastore, 1) := by decide +kernel
theorem dX7_addScout_132 : decode cX7_addScout 132 = .ok (.aload_n 0, 1) := by decide +kernel
theorem dX7_addScout_133 : decode cX7_addScout 133 = .ok (.getfield 7, 3) := by decide +kernel
theorem dX7_addScout_136 : decode cX7_addScout 136 = .ok (.iload 6, 2) := by decide +kernel
theorem dX7_addScout_138 : decode cX7_addScout 138 = .ok (.iconst 3, 1) := by decide +kernel
theorem dX7_addScout_139 : decode cX7_addScout 139 = .ok (.iadd, 1) := by decide +kernel
theorem dX7_addScout_140 : decode cX7_addScout 140 = .ok (.iload 4, 2) := by decide +kernel
theorem dX7_addScout_142 : decode cX7_addScout 142 = .ok (.iastore, 1) := by decide +kernel
theorem dX7_addScout_143 : decode cX7_addScout 143 = .ok (.aload_n 0, 1) := by decide +kernel
theorem dX7_addScout_144 : decode cX7_addScout 144 = .ok (.getfield 7, 3) := by decide +kernel
theorem dX7_addScout_147 : decode cX7_addScout 147 = .ok (.iconst 0, 1) := by decide +kernel
theorem dX7_addScout_148 : decode cX7_addScout 148 = .ok (.dup2, 1) := by decide +kernel
theorem dX7_addScout_149 : decode cX7_addScout 149 = .ok (.iaload, 1) := by decide +kernel
theorem dX7_addScout_150 : decode cX7_addScout 150 = .ok (.iconst 1, 1) := by decide +kernel
theorem dX7_addScout_151 : decode cX7_addScout 151 = .ok (.iadd, 1) := by decide +kernel
theorem dX7_addScout_152 : decode cX7_addScout 152 = .ok (.iastore, 1) := by decide +kernel
theorem dX7_addScout_153 : decode cX7_addScout 153 = .ok (.aload_n 0, 1) := by decide +kernel
theorem dX7_addScout_154 : decode cX7_addScout 154 = .ok (.invokevirtual 92, 3) := by decide +kernel
theorem dX7_addScout_157 : decode cX7_addScout 157 = .ok (.aload_n 0, 1) := by decide +kernel
theorem dX7_addScout_158 : decode cX7_addScout 158 = .ok (.getfield 7, 3) := by decide +kernel
theorem dX7_addScout_161 : decode cX7_addScout 161 = .ok (.iconst 0, 1) := by decide +kernel
theorem dX7_addScout_162 : decode cX7_addScout 162 = .ok (.iaload, 1) := by decide +kernel
theorem dX7_addScout_163 : decode cX7_addScout 163 = .ok (.iconst 1, 1) := by decide +kernel
theorem dX7_addScout_164 : decode cX7_addScout 164 = .ok (.isub, 1) := by decide +kernel
theorem dX7_addScout_165 : decode cX7_addScout 165 = .ok (.ireturn, 1) := by decide +kernel
theorem dX7_step_0 : decode cX7_step 0 = .ok (.aload_n 0, 1) := by decide +kernel
theorem dX7_step_1 : decode cX7_step 1 = .ok (.iconst 0, 1) := by decide +kernel
theorem dX7_step_2 : decode cX7_step 2 = .ok (.putfield 25, 3) := by decide +kernel
theorem dX7_step_5 : decode cX7_step 5 = .ok (.aload_n 0, 1) := by decide +kernel
theorem dX7_step_6 : decode cX7_step 6 = .ok (.iload_n 1, 1) := by decide +kernel
theorem dX7_step_7 : decode cX7_step 7 = .ok (.invokevirtual 120, 3) := by decide +kernel
theorem dX7_step_10 : decode cX7_step 10 = .ok (.ifCond .eq 29, 3) := by decide +kernel
theorem dX7_step_13 : decode cX7_step 13 = .ok (.iload_n 2, 1) := by decide +kernel
theorem dX7_step_14 : decode cX7_step 14 = .ok (.iconst (-1), 1) := by decide +kernel
theorem dX7_step_15 : decode cX7_step 15 = .ok (.iconst 1, 1) := by decide +kernel
theorem dX7_step_16 : decode cX7_step 16 = .ok (.invokestatic 32, 3) := by decide +kernel
theorem dX7_step_19 : decode cX7_step 19 = .ok (.ifCond .eq 20, 3) := by decide +kernel
theorem dX7_step_22 : decode cX7_step 22 = .ok (.iload_n 3, 1) := by decide +kernel
theorem dX7_step_23 : decode cX7_step 23 = .ok (.iconst (-1), 1) := by decide +kernel
theorem dX7_step_24 : decode cX7_step 24 = .ok (.iconst 1, 1) := by decide +kernel
theorem dX7_step_25 : decode cX7_step 25 = .ok (.invokestatic 32, 3) := by decide +kernel
theorem dX7_step_28 : decode cX7_step 28 = .ok (.ifCond .eq 11, 3) := by decide +kernel
theorem dX7_step_31 : decode cX7_step 31 = .ok (.iload_n 2, 1) := by decide +kernel
theorem dX7_step_32 : decode cX7_step 32 = .ok (.ifCond .ne 10, 3) := by decide +kernel
theorem dX7_step_35 : decode cX7_step 35 = .ok (.iload_n 3, 1) := by decide +kernel
theorem dX7_step_36 : decode cX7_step 36 = .ok (.ifCond .ne 6, 3) := by decide +kernel
theorem dX7_step_39 : decode cX7_step 39 = .ok (.bipush (-11), 2) := by decide +kernel
theorem dX7_step_41 : decode cX7_step 41 = .ok (.ireturn, 1) := by decide +kernel
theorem dX7_step_42 : decode cX7_step 42 = .ok (.aload_n 0, 1) := by decide +kernel
theorem dX7_step_43 : decode cX7_step 43 = .ok (.iload_n 1, 1) := by decide +kernel
theorem dX7_step_44 : decode cX7_step 44 = .ok (.iconst 1, 1) := by decide +kernel
theorem dX7_step_45 : decode cX7_step 45 = .ok (.invokevirtual 43, 3) := by decide +kernel
theorem dX7_step_48 : decode cX7_step 48 = .ok (.iload_n 2, 1) := by decide +kernel
theorem dX7_step_49 : decode cX7_step 49 = .ok (.iadd, 1) := by decide +kernel
theorem dX7_step_50 : decode cX7_step 50 = .ok (.istore 4, 2) := by decide +kernel
theorem dX7_step_52 : decode cX7_step 52 = .ok (.aload_n 0, 1) := by decide +kernel
theorem dX7_step_53 : decode cX7_step 53 = .ok (.iload_n 1, 1) := by decide +kernel
theorem dX7_step_54 : decode cX7_step 54 = .ok (.iconst 2, 1) := by decide +kernel
theorem dX7_step_55 : decode cX7_step 55 = .ok (.invokevirtual 43, 3) := by decide +kernel
theorem dX7_step_58 : decode cX7_step 58 = .ok (.iload_n 3, 1) := by decide +kernel
theorem dX7_step_59 : decode cX7_step 59 = .ok (.iadd, 1) := by decide +kernel
theorem dX7_step_60 : decode cX7_step 60 = .ok (.istore 5, 2) := by decide +kernel
theorem dX7_step_62 : decode cX7_step 62 = .ok (.iload 4, 2) := by decide +kernel
theorem dX7_step_64 : decode cX7_step 64 = .ok (.iload 5, 2) := by decide +kernel
theorem dX7_step_66 : decode cX7_step 66 = .ok (.invokestatic 95, 3) := by decide +kernel
theorem dX7_step_69 : decode cX7_step 69 = .ok (.ifCond .ne 6, 3) := by decide +kernel
theorem dX7_step_72 : decode cX7_step 72 = .ok (.bipush (-12), 2) := by decide +kernel
theorem dX7_step_74 : decode cX7_step 74 = .ok (.ireturn, 1) := by decide +kernel
theorem dX7_step_75 : decode cX7_step 75 = .ok (.iload 4, 2) := by decide +kernel
theorem dX7_step_77 : decode cX7_step 77 = .ok (.iload 5, 2) := by decide +kernel
theorem dX7_step_79 : decode cX7_step 79 = .ok (.invokestatic 46, 3) := by decide +kernel
theorem dX7_step_82 : decode cX7_step 82 = .ok (.istore 6, 2) := by decide +kernel
theorem dX7_step_84 : decode cX7_step 84 = .ok (.aload_n 0, 1) := by decide +kernel
theorem dX7_step_85 : decode cX7_step 85 = .ok (.getfield 7, 3) := by decide +kernel
theorem dX7_step_88 : decode cX7_step 88 = .ok (.sipush 188, 3) := by decide +kernel
theorem dX7_step_91 : decode cX7_step 91 = .ok (.iload 6, 2) := by decide +kernel
theorem dX7_step_93 : decode cX7_step 93 = .ok (.iadd, 1) := by decide +kernel
theorem dX7_step_94 : decode cX7_step 94 = .ok (.iaload, 1) := by decide +kernel
theorem dX7_step_95 : decode cX7_step 95 = .ok (.iconst 1, 1) := by decide +kernel
theorem dX7_step_96 : decode cX7_step 96 = .ok (.if_icmp .eq 44, 3) := by decide +kernel
theorem dX7_step_99 : decode cX7_step 99 = .ok (.aload_n 0, 1) := by decide +kernel
theorem dX7_step_100 : decode cX7_step 100 = .ok (.iload 6, 2) := by decide +kernel
theorem dX7_step_102 : decode cX7_step 102 = .ok (.invokevirtual 83, 3) := by decide +kernel
theorem dX7_step_105 : decode cX7_step 105 = .ok (.bipush (-19), 2) := by decide +kernel
theorem dX7_step_107 : decode cX7_step 107 = .ok (.if_icmp .ne 33, 3) := by decide +kernel
theorem dX7_step_110 : decode cX7_step 110 = .ok (.aload_n 0, 1) := by decide +kernel
theorem dX7_step_111 : decode cX7_step 111 = .ok (.getfield 7, 3) := by decide +kernel
theorem dX7_step_114 : decode cX7_step 114 = .ok (.bipush 68, 2) := by decide +kernel
theorem dX7_step_116 : decode cX7_step 116 = .ok (.iload 6, 2) := by decide +kernel
theorem dX7_step_118 : decode cX7_step 118 = .ok (.iadd, 1) := by decide +kernel
theorem dX7_step_119 : decode cX7_step 119 = .ok (.iaload, 1) := by decide +kernel
theorem dX7_step_120 : decode cX7_step 120 = .ok (.aload_n 0, 1) := by decide +kernel
theorem dX7_step_121 : decode cX7_step 121 = .ok (.getfield 7, 3) := by decide +kernel
theorem dX7_step_124 : decode cX7_step 124 = .ok (.bipush 68, 2) := by decide +kernel
theorem dX7_step_126 : decode cX7_step 126 = .ok (.aload_n 0, 1) := by decide +kernel
theorem dX7_step_127 : decode cX7_step 127 = .ok (.iload_n 1, 1) := by decide +kernel
theorem dX7_step_128 : decode cX7_step 128 = .ok (.invokevirtual 49, 3) := by decide +kernel
theorem dX7_step_131 : decode cX7_step 131 = .ok (.iadd, 1) := by decide +kernel
theorem dX7_step_132 : decode cX7_step 132 = .ok (.iaload, 1) := by decide +kernel
theorem dX7_step_133 : decode cX7_step 133 = .ok (.invokestatic 36, 3) := by decide +kernel
theorem dX7_step_136 : decode cX7_step 136 = .ok (.iconst 2, 1) := by decide +kernel
theorem dX7_step_137 : decode cX7_step 137 = .ok (.if_icmp .le 6, 3) := by decide +kernel
theorem dX7_step_140 : decode cX7_step 140 = .ok (.bipush (-12), 2) := by decide +kernel
theorem dX7_step_142 : decode cX7_step 142 = .ok (.ireturn, 1) := by decide +kernel
theorem dX7_step_143 : decode cX7_step 143 = .ok (.aload_n 0, 1) := by decide +kernel
theorem dX7_step_144 : decode cX7_step 144 = .ok (.invokevirtual 89, 3) := by decide +kernel
theorem dX7_step_147 : decode cX7_step 147 = .ok (.aload_n 0, 1) := by decide +kernel
theorem dX7_step_148 : decode cX7_step 148 = .ok (.getfield 7, 3) := by decide +kernel
theorem dX7_step_151 : decode cX7_step 151 = .ok (.iconst 4, 1) := by decide +kernel
theorem dX7_step_152 : decode cX7_step 152 = .ok (.iconst 4, 1) := by decide +kernel
theorem dX7_step_153 : decode cX7_step 153 = .ok (.iload_n 1, 1) := by decide +kernel
theorem dX7_step_154 : decode cX7_step 154 = .ok (.imul, 1) := by decide +kernel
theorem dX7_step_155 : decode cX7_step 155 = .ok (.iadd, 1) := by decide +kernel
theorem dX7_step_156 : decode cX7_step 156 = .ok (.iconst 1, 1) := by decide +kernel
theorem dX7_step_157 : decode cX7_step 157 = .ok (.iadd, 1) := by decide +kernel
theorem dX7_step_158 : decode cX7_step 158 = .ok (.iload 4, 2) := by decide +kernel
theorem dX7_step_160 : decode cX7_step 160 = .ok (.iastore, 1) := by decide +kernel
theorem dX7_step_161 : decode cX7_step 161 = .ok (.aload_n 0, 1) := by decide +kernel
theorem dX7_step_162 : decode cX7_step 162 = .ok (.getfield 7, 3) := by decide +kernel
theorem dX7_step_165 : decode cX7_step 165 = .ok (.iconst 4, 1) := by decide +kernel
theorem dX7_step_166 : decode cX7_step 166 = .ok (.iconst 4, 1) := by decide +kernel
theorem dX7_step_167 : decode cX7_step 167 = .ok (.iload_n 1, 1) := by decide +kernel
theorem dX7_step_168 : decode cX7_step 168 = .ok (.imul, 1) := by decide +kernel
theorem dX7_step_169 : decode cX7_step 169 = .ok (.iadd, 1) := by decide +kernel
theorem dX7_step_170 : decode cX7_step 170 = .ok (.iconst 2, 1) := by decide +kernel
theorem dX7_step_171 : decode cX7_step 171 = .ok (.iadd, 1) := by decide +kernel
theorem dX7_step_172 : decode cX7_step 172 = .ok (.iload 5, 2) := by decide +kernel
theorem dX7_step_174 : decode cX7_step 174 = .ok (.iastore, 1) := by decide +kernel
theorem dX7_step_175 : decode cX7_step 175 = .ok (.aload_n 0, 1) := by decide +kernel
theorem dX7_step_176 : decode cX7_step 176 = .ok (.iload_n 1, 1) := by decide +kernel
theorem dX7_step_177 : decode cX7_step 177 = .ok (.iconst 0, 1) := by decide +kernel
theorem dX7_step_178 : decode cX7_step 178 = .ok (.invokevirtual 43, 3) := by decide +kernel
theorem dX7_step_181 : decode cX7_step 181 = .ok (.istore 7, 2) := by decide +kernel
theorem dX7_step_183 : decode cX7_step 183 = .ok (.aload_n 0, 1) := by decide +kernel
theorem dX7_step_184 : decode cX7_step 184 = .ok (.iload 7, 2) := by decide +kernel
theorem dX7_step_186 : decode cX7_step 186 = .ok (.invokevirtual 123, 3) := by decide +kernel
theorem dX7_step_189 : decode cX7_step 189 = .ok (.istore 8, 2) := by decide +kernel
theorem dX7_step_191 : decode cX7_step 191 = .ok (.aload_n 0, 1) := by decide +kernel
theorem dX7_step_192 : decode cX7_step 192 = .ok (.invokevirtual 92, 3) := by decide +kernel
theorem dX7_step_195 : decode cX7_step 195 = .ok (.aload_n 0, 1) := by decide +kernel
theorem dX7_step_196 : decode cX7_step 196 = .ok (.iload 7, 2) := by decide +kernel
theorem dX7_step_198 : decode cX7_step 198 = .ok (.invokevirtual 123, 3) := by decide +kernel
theorem dX7_step_201 : decode cX7_step 201 = .ok (.iload 8, 2) := by decide +kernel
theorem dX7_step_203 : decode cX7_step 203 = .ok (.isub, 1) := by decide +kernel
theorem dX7_step_204 : decode cX7_step 204 = .ok (.ireturn, 1) := by decide +kernel
theorem dX7_remove_0 : decode cX7_remove 0 = .ok (.iload_n 1, 1) := by decide +kernel
theorem dX7_remove_1 : decode cX7_remove 1 = .ok (.iconst 4, 1) := by decide +kernel
theorem dX7_remove_2 : decode cX7_remove 2 = .ok (.iload_n 3, 1) := by decide +kernel
theorem dX7_remove_3 : decode cX7_remove 3 = .ok (.imul, 1) := by decide +kernel
theorem dX7_remove_4 : decode cX7_remove 4 = .ok (.iadd, 1) := by decide +kernel
theorem dX7_remove_5 : decode cX7_remove 5 = .ok (.istore 4, 2) := by decide +kernel
theorem dX7_remove_7 : decode cX7_remove 7 = .ok (.iload 4, 2) := by decide +kernel
theorem dX7_remove_9 : decode cX7_remove 9 = .ok (.iload_n 1, 1) := by decide +kernel
theorem dX7_remove_10 : decode cX7_remove 10 = .ok (.iconst 4, 1) := by decide +kernel
theorem dX7_remove_11 : decode cX7_remove 11 = .ok (.iload_n 2, 1) := by decide +kernel
theorem dX7_remove_12 : decode cX7_remove 12 = .ok (.imul, 1) := by decide +kernel
theorem dX7_remove_13 : decode cX7_remove 13 = .ok (.iadd, 1) := by decide +kernel
theorem dX7_remove_14 : decode cX7_remove 14 = .ok (.iconst 4, 1) := by decide +kernel
theorem dX7_remove_15 : decode cX7_remove 15 = .ok (.isub, 1) := by decide +kernel
theorem dX7_remove_16 : decode cX7_remove 16 = .ok (.if_icmp .ge 25, 3) := by decide +kernel
theorem dX7_remove_19 : decode cX7_remove 19 = .ok (.aload_n 0, 1) := by decide +kernel
theorem dX7_remove_20 : decode cX7_remove 20 = .ok (.getfield 7, 3) := by decide +kernel
theorem dX7_remove_23 : decode cX7_remove 23 = .ok (.iload 4, 2) := by decide +kernel
theorem dX7_remove_25 : decode cX7_remove 25 = .ok (.aload_n 0, 1) := by decide +kernel
theorem dX7_remove_26 : decode cX7_remove 26 = .ok (.getfield 7, 3) := by decide +kernel
theorem dX7_remove_29 : decode cX7_remove 29 = .ok (.iload 4, 2) := by decide +kernel
theorem dX7_remove_31 : decode cX7_remove 31 = .ok (.iconst 4, 1) := by decide +kernel
theorem dX7_remove_32 : decode cX7_remove 32 = .ok (.iadd, 1) := by decide +kernel
theorem dX7_remove_33 : decode cX7_remove 33 = .ok (.iaload, 1) := by decide +kernel
theorem dX7_remove_34 : decode cX7_remove 34 = .ok (.iastore, 1) := by decide +kernel
theorem dX7_remove_35 : decode cX7_remove 35 = .ok (.iinc 4 1, 3) := by decide +kernel
theorem dX7_remove_38 : decode cX7_remove 38 = .ok (.goto (-31), 3) := by decide +kernel
theorem dX7_remove_41 : decode cX7_remove 41 = .ok (.return_, 1) := by decide +kernel
theorem dX7_removeScout_0 : decode cX7_removeScout 0 = .ok (.aload_n 0, 1) := by decide +kernel
theorem dX7_removeScout_1 : decode cX7_removeScout 1 = .ok (.iconst 0, 1) := by decide +kernel
theorem dX7_removeScout_2 : decode cX7_removeScout 2 = .ok (.putfield 25, 3) := by decide +kernel
theorem dX7_removeScout_5 : decode cX7_removeScout 5 = .ok (.aload_n 0, 1) := by decide +kernel
theorem dX7_removeScout_6 : decode cX7_removeScout 6 = .ok (.iload_n 1, 1) := by decide +kernel
theorem dX7_removeScout_7 : decode cX7_removeScout 7 = .ok (.invokevirtual 120, 3) := by decide +kernel
theorem dX7_removeScout_10 : decode cX7_removeScout 10 = .ok (.ifCond .ne 6, 3) := by decide +kernel
theorem dX7_removeScout_13 : decode cX7_removeScout 13 = .ok (.bipush (-11), 2) := by decide +kernel
theorem dX7_removeScout_15 : decode cX7_removeScout 15 = .ok (.ireturn, 1) := by decide +kernel
theorem dX7_removeScout_16 : decode cX7_removeScout 16 = .ok (.aload_n 0, 1) := by decide +kernel
theorem dX7_removeScout_17 : decode cX7_removeScout 17 = .ok (.invokevirtual 89, 3) := by decide +kernel
theorem dX7_removeScout_20 : decode cX7_removeScout 20 = .ok (.aload_n 0, 1) := by decide +kernel
theorem dX7_removeScout_21 : decode cX7_removeScout 21 = .ok (.iconst 4, 1) := by decide +kernel
theorem dX7_removeScout_22 : decode cX7_removeScout 22 = .ok (.aload_n 0, 1) := by decide +kernel
theorem dX7_removeScout_23 : decode cX7_removeScout 23 = .ok (.getfield 7, 3) := by decide +kernel
theorem dX7_removeScout_26 : decode cX7_removeScout 26 = .ok (.iconst 0, 1) := by decide +kernel
theorem dX7_removeScout_27 : decode cX7_removeScout 27 = .ok (.iaload, 1) := by decide +kernel
theorem dX7_removeScout_28 : decode cX7_removeScout 28 = .ok (.iload_n 1, 1) := by decide +kernel
theorem dX7_removeScout_29 : decode cX7_removeScout 29 = .ok (.invokevirtual 126, 3) := by decide +kernel
theorem dX7_removeScout_32 : decode cX7_removeScout 32 = .ok (.aload_n 0, 1) := by decide +kernel
theorem dX7_removeScout_33 : decode cX7_removeScout 33 = .ok (.getfield 7, 3) := by decide +kernel
theorem dX7_removeScout_36 : decode cX7_removeScout 36 = .ok (.iconst 0, 1) := by decide +kernel
theorem dX7_removeScout_37 : decode cX7_removeScout 37 = .ok (.dup2, 1) := by decide +kernel
theorem dX7_removeScout_38 : decode cX7_removeScout 38 = .ok (.iaload, 1) := by decide +kernel
theorem dX7_removeScout_39 : decode cX7_removeScout 39 = .ok (.iconst 1, 1) := by decide +kernel
theorem dX7_removeScout_40 : decode cX7_removeScout 40 = .ok (.isub, 1) := by decide +kernel
theorem dX7_removeScout_41 : decode cX7_removeScout 41 = .ok (.iastore, 1) := by decide +kernel
theorem dX7_removeScout_42 : decode cX7_removeScout 42 = .ok (.aload_n 0, 1) := by decide +kernel
theorem dX7_removeScout_43 : decode cX7_removeScout 43 = .ok (.invokevirtual 92, 3) := by decide +kernel
theorem dX7_removeScout_46 : decode cX7_removeScout 46 = .ok (.aload_n 0, 1) := by decide +kernel
theorem dX7_removeScout_47 : decode cX7_removeScout 47 = .ok (.getfield 7, 3) := by decide +kernel
theorem dX7_removeScout_50 : decode cX7_removeScout 50 = .ok (.iconst 0, 1) := by decide +kernel
theorem dX7_removeScout_51 : decode cX7_removeScout 51 = .ok (.iaload, 1) := by decide +kernel
theorem dX7_removeScout_52 : decode cX7_removeScout 52 = .ok (.ireturn, 1) := by decide +kernel
theorem dX7_addLight_0 : decode cX7_addLight 0 = .ok (.aload_n 0, 1) := by decide +kernel
theorem dX7_addLight_1 : decode cX7_addLight 1 = .ok (.iconst 0, 1) := by decide +kernel
theorem dX7_addLight_2 : decode cX7_addLight 2 = .ok (.putfield 25, 3) := by decide +kernel
theorem dX7_addLight_5 : decode cX7_addLight 5 = .ok (.iload_n 1, 1) := by decide +kernel
theorem dX7_addLight_6 : decode cX7_addLight 6 = .ok (.iload_n 2, 1) := by decide +kernel
theorem dX7_addLight_7 : decode cX7_addLight 7 = .ok (.invokestatic 95, 3) := by decide +kernel
theorem dX7_addLight_10 : decode cX7_addLight 10 = .ok (.ifCond .eq 23, 3) := by decide +kernel
theorem dX7_addLight_13 : decode cX7_addLight 13 = .ok (.iload_n 3, 1) := by decide +kernel
theorem dX7_addLight_14 : decode cX7_addLight 14 = .ok (.iconst 0, 1) := by decide +kernel
theorem dX7_addLight_15 : decode cX7_addLight 15 = .ok (.iconst 4, 1) := by decide +kernel
theorem dX7_addLight_16 : decode cX7_addLight 16 = .ok (.invokestatic 32, 3) := by decide +kernel
theorem dX7_addLight_19 : decode cX7_addLight 19 = .ok (.ifCond .eq 14, 3) := by decide +kernel
theorem dX7_addLight_22 : decode cX7_addLight 22 = .ok (.iload 4, 2) := by decide +kernel
theorem dX7_addLight_24 : decode cX7_addLight 24 = .ok (.iconst 0, 1) := by decide +kernel
theorem dX7_addLight_25 : decode cX7_addLight 25 = .ok (.bipush 50, 2) := by decide +kernel
theorem dX7_addLight_27 : decode cX7_addLight 27 = .ok (.invokestatic 32, 3) := by decide +kernel
theorem dX7_addLight_30 : decode cX7_addLight 30 = .ok (.ifCond .ne 6, 3) := by decide +kernel
theorem dX7_addLight_33 : decode cX7_addLight 33 = .ok (.bipush (-11), 2) := by decide +kernel
theorem dX7_addLight_35 : decode cX7_addLight 35 = .ok (.ireturn, 1) := by decide +kernel
theorem dX7_addLight_36 : decode cX7_addLight 36 = .ok (.aload_n 0, 1) := by decide +kernel
theorem dX7_addLight_37 : decode cX7_addLight 37 = .ok (.getfield 7, 3) := by decide +kernel
theorem dX7_addLight_40 : decode cX7_addLight 40 = .ok (.iconst 1, 1) := by decide +kernel
theorem dX7_addLight_41 : decode cX7_addLight 41 = .ok (.iaload, 1) := by decide +kernel
theorem dX7_addLight_42 : decode cX7_addLight 42 = .ok (.bipush 6, 2) := by decide +kernel
theorem dX7_addLight_44 : decode cX7_addLight 44 = .ok (.if_icmp .ne 6, 3) := by decide +kernel
theorem dX7_addLight_47 : decode cX7_addLight 47 = .ok (.bipush (-13), 2) := by decide +kernel
theorem dX7_addLight_49 : decode cX7_addLight 49 = .ok (.ireturn, 1) := by decide +kernel
theorem dX7_addLight_50 : decode cX7_addLight 50 = .ok (.aload_n 0, 1) := by decide +kernel
theorem dX7_addLight_51 : decode cX7_addLight 51 = .ok (.invokevirtual 89, 3) := by decide +kernel
theorem dX7_addLight_54 : decode cX7_addLight 54 = .ok (.bipush 44, 2) := by decide +kernel
theorem dX7_addLight_56 : decode cX7_addLight 56 = .ok (.iconst 4, 1) := by decide +kernel
theorem dX7_addLight_57 : decode cX7_addLight 57 = .ok (.aload_n 0, 1) := by decide +kernel
theorem dX7_addLight_58 : decode cX7_addLight 58 = .ok (.getfield 7, 3) := by decide +kernel
theorem dX7_addLight_61 : decode cX7_addLight 61 = .ok (.iconst 1, 1) := by decide +kernel
theorem dX7_addLight_62 : decode cX7_addLight 62 = .ok (.iaload, 1) := by decide +kernel
theorem dX7_addLight_63 : decode cX7_addLight 63 = .ok (.imul, 1) := by decide +kernel
theorem dX7_addLight_64 : decode cX7_addLight 64 = .ok (.iadd, 1) := by decide +kernel
theorem dX7_addLight_65 : decode cX7_addLight 65 = .ok (.istore 5, 2) := by decide +kernel
theorem dX7_addLight_67 : decode cX7_addLight 67 = .ok (.aload_n 0, 1) := by decide +kernel
theorem dX7_addLight_68 : decode cX7_addLight 68 = .ok (.getfield 7, 3) := by decide +kernel
theorem dX7_addLight_71 : decode cX7_addLight 71 = .ok (.iload 5, 2) := by decide +kernel
theorem dX7_addLight_73 : decode cX7_addLight 73 = .ok (.iload_n 1, 1) := by decide +kernel
theorem dX7_addLight_74 : decode cX7_addLight 74 = .ok (.iastore, 1) := by decide +kernel
theorem dX7_addLight_75 : decode cX7_addLight 75 = .ok (.aload_n 0, 1) := by decide +kernel
theorem dX7_addLight_76 : decode cX7_addLight 76 = .ok (.getfield 7, 3) := by decide +kernel
theorem dX7_addLight_79 : decode cX7_addLight 79 = .ok (.iload 5, 2) := by decide +kernel
theorem dX7_addLight_81 : decode cX7_addLight 81 = .ok (.iconst 1, 1) := by decide +kernel
theorem dX7_addLight_82 : decode cX7_addLight 82 = .ok (.iadd, 1) := by decide +kernel
theorem dX7_addLight_83 : decode cX7_addLight 83 = .ok (.iload_n 2, 1) := by decide +kernel
theorem dX7_addLight_84 : decode cX7_addLight 84 = .ok (.iastore, 1) := by decide +kernel
theorem dX7_addLight_85 : decode cX7_addLight 85 = .ok (.aload_n 0, 1) := by decide +kernel
theorem dX7_addLight_86 : decode cX7_addLight 86 = .ok (.getfield 7, 3) := by decide +kernel
theorem dX7_addLight_89 : decode cX7_addLight 89 = .ok (.iload 5, 2) := by decide +kernel
theorem dX7_addLight_91 : decode cX7_addLight 91 = .ok (.iconst 2, 1) := by decide +kernel
theorem dX7_addLight_92 : decode cX7_addLight 92 = .ok (.iadd, 1) := by decide +kernel
theorem dX7_addLight_93 : decode cX7_addLight 93 = .ok (.iload_n 3, 1) := by decide +kernel
theorem dX7_addLight_94 : decode cX7_addLight 94 = .ok (.iastore, 1) := by decide +kernel
theorem dX7_addLight_95 : decode cX7_addLight 95 = .ok (.aload_n 0, 1) := by decide +kernel
theorem dX7_addLight_96 : decode cX7_addLight 96 = .ok (.getfield 7, 3) := by decide +kernel
theorem dX7_addLight_99 : decode cX7_addLight 99 = .ok (.iload 5, 2) := by decide +kernel
theorem dX7_addLight_101 : decode cX7_addLight 101 = .ok (.iconst 3, 1) := by decide +kernel
theorem dX7_addLight_102 : decode cX7_addLight 102 = .ok (.iadd, 1) := by decide +kernel
theorem dX7_addLight_103 : decode cX7_addLight 103 = .ok (.iload 4, 2) := by decide +kernel
theorem dX7_addLight_105 : decode cX7_addLight 105 = .ok (.iastore, 1) := by decide +kernel
theorem dX7_addLight_106 : decode cX7_addLight 106 = .ok (.aload_n 0, 1) := by decide +kernel
theorem dX7_addLight_107 : decode cX7_addLight 107 = .ok (.getfield 7, 3) := by decide +kernel
theorem dX7_addLight_110 : decode cX7_addLight 110 = .ok (.iconst 1, 1) := by decide +kernel
theorem dX7_addLight_111 : decode cX7_addLight 111 = .ok (.dup2, 1) := by decide +kernel
theorem dX7_addLight_112 : decode cX7_addLight 112 = .ok (.iaload, 1) := by decide +kernel
theorem dX7_addLight_113 : decode cX7_addLight 113 = .ok (.iconst 1, 1) := by decide +kernel
theorem dX7_addLight_114 : decode cX7_addLight 114 = .ok (.iadd, 1) := by decide +kernel
theorem dX7_addLight_115 : decode cX7_addLight 115 = .ok (.iastore, 1) := by decide +kernel
theorem dX7_addLight_116 : decode cX7_addLight 116 = .ok (.aload_n 0, 1) := by decide +kernel
theorem dX7_addLight_117 : decode cX7_addLight 117 = .ok (.invokevirtual 92, 3) := by decide +kernel
theorem dX7_addLight_120 : decode cX7_addLight 120 = .ok (.aload_n 0, 1) := by decide +kernel
theorem dX7_addLight_121 : decode cX7_addLight 121 = .ok (.getfield 7, 3) := by decide +kernel
theorem dX7_addLight_124 : decode cX7_addLight 124 = .ok (.iconst 1, 1) := by decide +kernel
theorem dX7_addLight_125 : decode cX7_addLight 125 = .ok (.iaload, 1) := by decide +kernel
theorem dX7_addLight_126 : decode cX7_addLight 126 = .ok (.iconst 1, 1) := by decide +kernel
theorem dX7_addLight_127 : decode cX7_addLight 127 = .ok (.isub, 1) := by decide +kernel
theorem dX7_addLight_128 : decode cX7_addLight 128 = .ok (.ireturn, 1) := by decide +kernel
theorem dX7_setOil_0 : decode cX7_setOil 0 = .ok (.aload_n 0, 1) := by decide +kernel
theorem dX7_setOil_1 : decode cX7_setOil 1 = .ok (.iconst 0, 1) := by decide +kernel
theorem dX7_setOil_2 : decode cX7_setOil 2 = .ok (.putfield 25, 3) := by decide +kernel
theorem dX7_setOil_5 : decode cX7_setOil 5 = .ok (.aload_n 0, 1) := by decide +kernel
theorem dX7_setOil_6 : decode cX7_setOil 6 = .ok (.iload_n 1, 1) := by decide +kernel
theorem dX7_setOil_7 : decode cX7_setOil 7 = .ok (.invokevirtual 130, 3) := by decide +kernel
theorem dX7_setOil_10 : decode cX7_setOil 10 = .ok (.ifCond .eq 29, 3) := by decide +kernel
theorem dX7_setOil_13 : decode cX7_setOil 13 = .ok (.iload_n 2, 1) := by decide +kernel
theorem dX7_setOil_14 : decode cX7_setOil 14 = .ok (.iconst 0, 1) := by decide +kernel
theorem dX7_setOil_15 : decode cX7_setOil 15 = .ok (.bipush 50, 2) := by decide +kernel
theorem dX7_setOil_17 : decode cX7_setOil 17 = .ok (.invokestatic 32, 3) := by decide +kernel
theorem dX7_setOil_20 : decode cX7_setOil 20 = .ok (.ifCond .eq 19, 3) := by decide +kernel
theorem dX7_setOil_23 : decode cX7_setOil 23 = .ok (.aload_n 0, 1) := by decide +kernel
theorem dX7_setOil_24 : decode cX7_setOil 24 = .ok (.bipush 44, 2) := by decide +kernel
theorem dX7_setOil_26 : decode cX7_setOil 26 = .ok (.iconst 4, 1) := by decide +kernel
theorem dX7_setOil_27 : decode cX7_setOil 27 = .ok (.iload_n 1, 1) := by decide +kernel
theorem dX7_setOil_28 : decode cX7_setOil 28 = .ok (.imul, 1) := by decide +kernel
theorem dX7_setOil_29 : decode cX7_setOil 29 = .ok (.iadd, 1) := by decide +kernel
theorem dX7_setOil_30 : decode cX7_setOil 30 = .ok (.iconst 3, 1) := by decide +kernel
theorem dX7_setOil_31 : decode cX7_setOil 31 = .ok (.iadd, 1) := by decide +kernel
theorem dX7_setOil_32 : decode cX7_setOil 32 = .ok (.iload_n 2, 1) := by decide +kernel
theorem dX7_setOil_33 : decode cX7_setOil 33 = .ok (.invokevirtual 98, 3) := by decide +kernel
theorem dX7_setOil_36 : decode cX7_setOil 36 = .ok (.goto 5, 3) := by decide +kernel
theorem dX7_setOil_39 : decode cX7_setOil 39 = .ok (.bipush (-11), 2) := by decide +kernel
theorem dX7_setOil_41 : decode cX7_setOil 41 = .ok (.ireturn, 1) := by decide +kernel
theorem dX7_removeLight_0 : decode cX7_removeLight 0 = .ok (.aload_n 0, 1) := by decide +kernel
theorem dX7_removeLight_1 : decode cX7_removeLight 1 = .ok (.iconst 0, 1) := by decide +kernel
theorem dX7_removeLight_2 : decode cX7_removeLight 2 = .ok (.putfield 25, 3) := by decide +kernel
theorem dX7_removeLight_5 : decode cX7_removeLight 5 = .ok (.aload_n 0, 1) := by decide +kernel
theorem dX7_removeLight_6 : decode cX7_removeLight 6 = .ok (.iload_n 1, 1) := by decide +kernel
theorem dX7_removeLight_7 : decode cX7_removeLight 7 = .ok (.invokevirtual 130, 3) := by decide +kernel
theorem dX7_removeLight_10 : decode cX7_removeLight 10 = .ok (.ifCond .ne 6, 3) := by decide +kernel
theorem dX7_removeLight_13 : decode cX7_removeLight 13 = .ok (.bipush (-11), 2) := by decide +kernel
theorem dX7_removeLight_15 : decode cX7_removeLight 15 = .ok (.ireturn, 1) := by decide +kernel
theorem dX7_removeLight_16 : decode cX7_removeLight 16 = .ok (.aload_n 0, 1) := by decide +kernel
theorem dX7_removeLight_17 : decode cX7_removeLight 17 = .ok (.invokevirtual 89, 3) := by decide +kernel
theorem dX7_removeLight_20 : decode cX7_removeLight 20 = .ok (.aload_n 0, 1) := by decide +kernel
theorem dX7_removeLight_21 : decode cX7_removeLight 21 = .ok (.bipush 44, 2) := by decide +kernel
theorem dX7_removeLight_23 : decode cX7_removeLight 23 = .ok (.aload_n 0, 1) := by decide +kernel
theorem dX7_removeLight_24 : decode cX7_removeLight 24 = .ok (.getfield 7, 3) := by decide +kernel
theorem dX7_removeLight_27 : decode cX7_removeLight 27 = .ok (.iconst 1, 1) := by decide +kernel
theorem dX7_removeLight_28 : decode cX7_removeLight 28 = .ok (.iaload, 1) := by decide +kernel
theorem dX7_removeLight_29 : decode cX7_removeLight 29 = .ok (.iload_n 1, 1) := by decide +kernel
theorem dX7_removeLight_30 : decode cX7_removeLight 30 = .ok (.invokevirtual 126, 3) := by decide +kernel
theorem dX7_removeLight_33 : decode cX7_removeLight 33 = .ok (.aload_n 0, 1) := by decide +kernel
theorem dX7_removeLight_34 : decode cX7_removeLight 34 = .ok (.getfield 7, 3) := by decide +kernel
theorem dX7_removeLight_37 : decode cX7_removeLight 37 = .ok (.iconst 1, 1) := by decide +kernel
theorem dX7_removeLight_38 : decode cX7_removeLight 38 = .ok (.dup2, 1) := by decide +kernel
theorem dX7_removeLight_39 : decode cX7_removeLight 39 = .ok (.iaload, 1) := by decide +kernel
theorem dX7_removeLight_40 : decode cX7_removeLight 40 = .ok (.iconst 1, 1) := by decide +kernel
theorem dX7_removeLight_41 : decode cX7_removeLight 41 = .ok (.isub, 1) := by decide +kernel
theorem dX7_removeLight_42 : decode cX7_removeLight 42 = .ok (.iastore, 1) := by decide +kernel
theorem dX7_removeLight_43 : decode cX7_removeLight 43 = .ok (.aload_n 0, 1) := by decide +kernel
theorem dX7_removeLight_44 : decode cX7_removeLight 44 = .ok (.invokevirtual 92, 3) := by decide +kernel
theorem dX7_removeLight_47 : decode cX7_removeLight 47 = .ok (.aload_n 0, 1) := by decide +kernel
theorem dX7_removeLight_48 : decode cX7_removeLight 48 = .ok (.getfield 7, 3) := by decide +kernel
theorem dX7_removeLight_51 : decode cX7_removeLight 51 = .ok (.iconst 1, 1) := by decide +kernel
theorem dX7_removeLight_52 : decode cX7_removeLight 52 = .ok (.iaload, 1) := by decide +kernel
theorem dX7_removeLight_53 : decode cX7_removeLight 53 = .ok (.ireturn, 1) := by decide +kernel
theorem dX7_setFogTime_0 : decode cX7_setFogTime 0 = .ok (.aload_n 0, 1) := by decide +kernel
theorem dX7_setFogTime_1 : decode cX7_setFogTime 1 = .ok (.iconst 0, 1) := by decide +kernel
theorem dX7_setFogTime_2 : decode cX7_setFogTime 2 = .ok (.putfield 25, 3) := by decide +kernel
theorem dX7_setFogTime_5 : decode cX7_setFogTime 5 = .ok (.iload_n 1, 1) := by decide +kernel
theorem dX7_setFogTime_6 : decode cX7_setFogTime 6 = .ok (.iconst 1, 1) := by decide +kernel
theorem dX7_setFogTime_7 : decode cX7_setFogTime 7 = .ok (.bipush 99, 2) := by decide +kernel
theorem dX7_setFogTime_9 : decode cX7_setFogTime 9 = .ok (.invokestatic 32, 3) := by decide +kernel
theorem dX7_setFogTime_12 : decode cX7_setFogTime 12 = .ok (.ifCond .ne 6, 3) := by decide +kernel
theorem dX7_setFogTime_15 : decode cX7_setFogTime 15 = .ok (.bipush (-11), 2) := by decide +kernel
theorem dX7_setFogTime_17 : decode cX7_setFogTime 17 = .ok (.ireturn, 1) := by decide +kernel
theorem dX7_setFogTime_18 : decode cX7_setFogTime 18 = .ok (.aload_n 0, 1) := by decide +kernel
theorem dX7_setFogTime_19 : decode cX7_setFogTime 19 = .ok (.invokevirtual 89, 3) := by decide +kernel
theorem dX7_setFogTime_22 : decode cX7_setFogTime 22 = .ok (.aload_n 0, 1) := by decide +kernel
theorem dX7_setFogTime_23 : decode cX7_setFogTime 23 = .ok (.getfield 7, 3) := by decide +kernel
theorem dX7_setFogTime_26 : decode cX7_setFogTime 26 = .ok (.iconst 2, 1) := by decide +kernel
theorem dX7_setFogTime_27 : decode cX7_setFogTime 27 = .ok (.iaload, 1) := by decide +kernel
theorem dX7_setFogTime_28 : decode cX7_setFogTime 28 = .ok (.istore_n 2, 1) := by decide +kernel
theorem dX7_setFogTime_29 : decode cX7_setFogTime 29 = .ok (.aload_n 0, 1) := by decide +kernel
theorem dX7_setFogTime_30 : decode cX7_setFogTime 30 = .ok (.getfield 7, 3) := by decide +kernel
theorem dX7_setFogTime_33 : decode cX7_setFogTime 33 = .ok (.iconst 2, 1) := by decide +kernel
theorem dX7_setFogTime_34 : decode cX7_setFogTime 34 = .ok (.iload_n 1, 1) := by decide +kernel
theorem dX7_setFogTime_35 : decode cX7_setFogTime 35 = .ok (.iastore, 1) := by decide +kernel
theorem dX7_setFogTime_36 : decode cX7_setFogTime 36 = .ok (.sipush 308, 3) := by decide +kernel
theorem dX7_setFogTime_39 : decode cX7_setFogTime 39 = .ok (.istore_n 3, 1) := by decide +kernel
theorem dX7_setFogTime_40 : decode cX7_setFogTime 40 = .ok (.iload_n 3, 1) := by decide +kernel
theorem dX7_setFogTime_41 : decode cX7_setFogTime 41 = .ok (.sipush 548, 3) := by decide +kernel
theorem dX7_setFogTime_44 : decode cX7_setFogTime 44 = .ok (.if_icmp .ge 35, 3) := by decide +kernel
theorem dX7_setFogTime_47 : decode cX7_setFogTime 47 = .ok (.aload_n 0, 1) := by decide +kernel
theorem dX7_setFogTime_48 : decode cX7_setFogTime 48 = .ok (.getfield 7, 3) := by decide +kernel
theorem dX7_setFogTime_51 : decode cX7_setFogTime 51 = .ok (.iload_n 3, 1) := by decide +kernel
theorem dX7_setFogTime_52 : decode cX7_setFogTime 52 = .ok (.aload_n 0, 1) := by decide +kernel
theorem dX7_setFogTime_53 : decode cX7_setFogTime 53 = .ok (.getfield 7, 3) := by decide +kernel
theorem dX7_setFogTime_56 : decode cX7_setFogTime 56 = .ok (.iload_n 3, 1) := by decide +kernel
theorem dX7_setFogTime_57 : decode cX7_setFogTime 57 = .ok (.iaload, 1) := by decide +kernel
theorem dX7_setFogTime_58 : decode cX7_setFogTime 58 = .ok (.iload_n 1, 1) := by decide +kernel
theorem dX7_setFogTime_59 : decode cX7_setFogTime 59 = .ok (.if_icmp .le 7, 3) := by decide +kernel
theorem dX7_setFogTime_62 : decode cX7_setFogTime 62 = .ok (.iload_n 1, 1) := by decide +kernel
theorem dX7_setFogTime_63 : decode cX7_setFogTime 63 = .ok (.goto 9, 3) := by decide +kernel
theorem dX7_setFogTime_66 : decode cX7_setFogTime 66 = .ok (.aload_n 0, 1) := by decide +kernel
theorem dX7_setFogTime_67 : decode cX7_setFogTime 67 = .ok (.getfield 7, 3) := by decide +kernel
theorem dX7_setFogTime_70 : decode cX7_setFogTime 70 = .ok (.iload_n 3, 1) := by decide +kernel
theorem dX7_setFogTime_71 : decode cX7_setFogTime 71 = .ok (.iaload, 1) := by decide +kernel
theorem dX7_setFogTime_72 : decode cX7_setFogTime 72 = .ok (.iastore, 1) := by decide +kernel
theorem dX7_setFogTime_73 : decode cX7_setFogTime 73 = .ok (.iinc 3 1, 3) := by decide +kernel
theorem dX7_setFogTime_76 : decode cX7_setFogTime 76 = .ok (.goto (-36), 3) := by decide +kernel
theorem dX7_setFogTime_79 : decode cX7_setFogTime 79 = .ok (.aload_n 0, 1) := by decide +kernel
theorem dX7_setFogTime_80 : decode cX7_setFogTime 80 = .ok (.invokevirtual 92, 3) := by decide +kernel
theorem dX7_setFogTime_83 : decode cX7_setFogTime 83 = .ok (.iload_n 2, 1) := by decide +kernel
theorem dX7_setFogTime_84 : decode cX7_setFogTime 84 = .ok (.ireturn, 1) := by decide +kernel
theorem dX7_turn_0 : decode cX7_turn 0 = .ok (.iconst 0, 1) := by decide +kernel
theorem dX7_turn_1 : decode cX7_turn 1 = .ok (.istore_n 1, 1) := by decide +kernel
theorem dX7_turn_2 : decode cX7_turn 2 = .ok (.iconst 0, 1) := by decide +kernel
theorem dX7_turn_3 : decode cX7_turn 3 = .ok (.istore_n 2, 1) := by decide +kernel
theorem dX7_turn_4 : decode cX7_turn 4 = .ok (.iload_n 2, 1) := by decide +kernel
theorem dX7_turn_5 : decode cX7_turn 5 = .ok (.aload_n 0, 1) := by decide +kernel
theorem dX7_turn_6 : decode cX7_turn 6 = .ok (.getfield 7, 3) := by decide +kernel
theorem dX7_turn_9 : decode cX7_turn 9 = .ok (.iconst 1, 1) := by decide +kernel
theorem dX7_turn_10 : decode cX7_turn 10 = .ok (.iaload, 1) := by decide +kernel
theorem dX7_turn_11 : decode cX7_turn 11 = .ok (.if_icmp .ge 59, 3) := by decide +kernel
theorem dX7_turn_14 : decode cX7_turn 14 = .ok (.bipush 44, 2) := by decide +kernel
theorem dX7_turn_16 : decode cX7_turn 16 = .ok (.iconst 4, 1) := by decide +kernel
theorem dX7_turn_17 : decode cX7_turn 17 = .ok (.iload_n 2, 1) := by decide +kernel
theorem dX7_turn_18 : decode cX7_turn 18 = .ok (.imul, 1) := by decide +kernel
theorem dX7_turn_19 : decode cX7_turn 19 = .ok (.iadd, 1) := by decide +kernel
theorem dX7_turn_20 : decode cX7_turn 20 = .ok (.iconst 3, 1) := by decide +kernel
theorem dX7_turn_21 : decode cX7_turn 21 = .ok (.iadd, 1) := by decide +kernel
theorem dX7_turn_22 : decode cX7_turn 22 = .ok (.istore_n 3, 1) := by decide +kernel
theorem dX7_turn_23 : decode cX7_turn 23 = .ok (.iload_n 1, 1) := by decide +kernel
theorem dX7_turn_24 : decode cX7_turn 24 = .ok (.aload_n 0, 1) := by decide +kernel
theorem dX7_turn_25 : decode cX7_turn 25 = .ok (.getfield 7, 3) := by decide +kernel
theorem dX7_turn_28 : decode cX7_turn 28 = .ok (.iload_n 3, 1) := by decide +kernel
theorem dX7_turn_29 : decode cX7_turn 29 = .ok (.iaload, 1) := by decide +kernel
theorem dX7_turn_30 : decode cX7_turn 30 = .ok (.iconst 1, 1) := by decide +kernel
theorem dX7_turn_31 : decode cX7_turn 31 = .ok (.if_icmp .ne 7, 3) := by decide +kernel
theorem dX7_turn_34 : decode cX7_turn 34 = .ok (.iconst 1, 1) := by decide +kernel
theorem dX7_turn_35 : decode cX7_turn 35 = .ok (.goto 4, 3) := by decide +kernel
theorem dX7_turn_38 : decode cX7_turn 38 = .ok (.iconst 0, 1) := by decide +kernel
theorem dX7_turn_39 : decode cX7_turn 39 = .ok (.iadd, 1) := by decide +kernel
theorem dX7_turn_40 : decode cX7_turn 40 = .ok (.istore_n 1, 1) := by decide +kernel
theorem dX7_turn_41 : decode cX7_turn 41 = .ok (.aload_n 0, 1) := by decide +kernel
theorem dX7_turn_42 : decode cX7_turn 42 = .ok (.getfield 7, 3) := by decide +kernel
theorem dX7_turn_45 : decode cX7_turn 45 = .ok (.iload_n 3, 1) := by decide +kernel
theorem dX7_turn_46 : decode cX7_turn 46 = .ok (.dup2, 1) := by decide +kernel
theorem dX7_turn_47 : decode cX7_turn 47 = .ok (.iaload, 1) := by decide +kernel
theorem dX7_turn_48 : decode cX7_turn 48 = .ok (.aload_n 0, 1) := by decide +kernel
theorem dX7_turn_49 : decode cX7_turn 49 = .ok (.getfield 7, 3) := by decide +kernel
theorem dX7_turn_52 : decode cX7_turn 52 = .ok (.iload_n 3, 1) := by decide +kernel
theorem dX7_turn_53 : decode cX7_turn 53 = .ok (.iaload, 1) := by decide +kernel
theorem dX7_turn_54 : decode cX7_turn 54 = .ok (.ifCond .le 7, 3) := by decide +kernel
theorem dX7_turn_57 : decode cX7_turn 57 = .ok (.iconst 1, 1) := by decide +kernel
theorem dX7_turn_58 : decode cX7_turn 58 = .ok (.goto 4, 3) := by decide +kernel
theorem dX7_turn_61 : decode cX7_turn 61 = .ok (.iconst 0, 1) := by decide +kernel
theorem dX7_turn_62 : decode cX7_turn 62 = .ok (.isub, 1) := by decide +kernel
theorem dX7_turn_63 : decode cX7_turn 63 = .ok (.iastore, 1) := by decide +kernel
theorem dX7_turn_64 : decode cX7_turn 64 = .ok (.iinc 2 1, 3) := by decide +kernel
theorem dX7_turn_67 : decode cX7_turn 67 = .ok (.goto (-63), 3) := by decide +kernel
theorem dX7_turn_70 : decode cX7_turn 70 = .ok (.sipush 308, 3) := by decide +kernel
theorem dX7_turn_73 : decode cX7_turn 73 = .ok (.istore_n 2, 1) := by decide +kernel
theorem dX7_turn_74 : decode cX7_turn 74 = .ok (.iload_n 2, 1) := by decide +kernel
theorem dX7_turn_75 : decode cX7_turn 75 = .ok (.sipush 548, 3) := by decide +kernel
theorem dX7_turn_78 : decode cX7_turn 78 = .ok (.if_icmp .ge 32, 3) := by decide +kernel
theorem dX7_turn_81 : decode cX7_turn 81 = .ok (.aload_n 0, 1) := by decide +kernel
theorem dX7_turn_82 : decode cX7_turn 82 = .ok (.getfield 7, 3) := by decide +kernel
theorem dX7_turn_85 : decode cX7_turn 85 = .ok (.iload_n 2, 1) := by decide +kernel
theorem dX7_turn_86 : decode cX7_turn 86 = .ok (.dup2, 1) := by decide +kernel
theorem dX7_turn_87 : decode cX7_turn 87 = .ok (.iaload, 1) := by decide +kernel
theorem dX7_turn_88 : decode cX7_turn 88 = .ok (.aload_n 0, 1) := by decide +kernel
theorem dX7_turn_89 : decode cX7_turn 89 = .ok (.getfield 7, 3) := by decide +kernel
theorem dX7_turn_92 : decode cX7_turn 92 = .ok (.iload_n 2, 1) := by decide +kernel
theorem dX7_turn_93 : decode cX7_turn 93 = .ok (.iaload, 1) := by decide +kernel
theorem dX7_turn_94 : decode cX7_turn 94 = .ok (.ifCond .le 7, 3) := by decide +kernel
theorem dX7_turn_97 : decode cX7_turn 97 = .ok (.iconst 1, 1) := by decide +kernel
theorem dX7_turn_98 : decode cX7_turn 98 = .ok (.goto 4, 3) := by decide +kernel
theorem dX7_turn_101 : decode cX7_turn 101 = .ok (.iconst 0, 1) := by decide +kernel
theorem dX7_turn_102 : decode cX7_turn 102 = .ok (.isub, 1) := by decide +kernel
theorem dX7_turn_103 : decode cX7_turn 103 = .ok (.iastore, 1) := by decide +kernel
theorem dX7_turn_104 : decode cX7_turn 104 = .ok (.iinc 2 1, 3) := by decide +kernel
theorem dX7_turn_107 : decode cX7_turn 107 = .ok (.goto (-33), 3) := by decide +kernel
theorem dX7_turn_110 : decode cX7_turn 110 = .ok (.aload_n 0, 1) := by decide +kernel
theorem dX7_turn_111 : decode cX7_turn 111 = .ok (.getfield 7, 3) := by decide +kernel
theorem dX7_turn_114 : decode cX7_turn 114 = .ok (.iconst 3, 1) := by decide +kernel
theorem dX7_turn_115 : decode cX7_turn 115 = .ok (.dup2, 1) := by decide +kernel
theorem dX7_turn_116 : decode cX7_turn 116 = .ok (.iaload, 1) := by decide +kernel
theorem dX7_turn_117 : decode cX7_turn 117 = .ok (.iconst 1, 1) := by decide +kernel
theorem dX7_turn_118 : decode cX7_turn 118 = .ok (.iadd, 1) := by decide +kernel
theorem dX7_turn_119 : decode cX7_turn 119 = .ok (.iastore, 1) := by decide +kernel
theorem dX7_turn_120 : decode cX7_turn 120 = .ok (.aload_n 0, 1) := by decide +kernel
theorem dX7_turn_121 : decode cX7_turn 121 = .ok (.invokevirtual 92, 3) := by decide +kernel
theorem dX7_turn_124 : decode cX7_turn 124 = .ok (.iload_n 1, 1) := by decide +kernel
theorem dX7_turn_125 : decode cX7_turn 125 = .ok (.ireturn, 1) := by decide +kernel
theorem dX7_pass_0 : decode cX7_pass 0 = .ok (.aload_n 0, 1) := by decide +kernel
theorem dX7_pass_1 : decode cX7_pass 1 = .ok (.iconst 0, 1) := by decide +kernel
theorem dX7_pass_2 : decode cX7_pass 2 = .ok (.putfield 25, 3) := by decide +kernel
theorem dX7_pass_5 : decode cX7_pass 5 = .ok (.iload_n 1, 1) := by decide +kernel
theorem dX7_pass_6 : decode cX7_pass 6 = .ok (.iconst 1, 1) := by decide +kernel
theorem dX7_pass_7 : decode cX7_pass 7 = .ok (.bipush 99, 2) := by decide +kernel
theorem dX7_pass_9 : decode cX7_pass 9 = .ok (.invokestatic 32, 3) := by decide +kernel
theorem dX7_pass_12 : decode cX7_pass 12 = .ok (.ifCond .ne 6, 3) := by decide +kernel
theorem dX7_pass_15 : decode cX7_pass 15 = .ok (.bipush (-11), 2) := by decide +kernel
theorem dX7_pass_17 : decode cX7_pass 17 = .ok (.ireturn, 1) := by decide +kernel
theorem dX7_pass_18 : decode cX7_pass 18 = .ok (.aload_n 0, 1) := by decide +kernel
theorem dX7_pass_19 : decode cX7_pass 19 = .ok (.invokevirtual 89, 3) := by decide +kernel
theorem dX7_pass_22 : decode cX7_pass 22 = .ok (.iconst 0, 1) := by decide +kernel
theorem dX7_pass_23 : decode cX7_pass 23 = .ok (.istore_n 2, 1) := by decide +kernel
theorem dX7_pass_24 : decode cX7_pass 24 = .ok (.iconst 0, 1) := by decide +kernel
theorem dX7_pass_25 : decode cX7_pass 25 = .ok (.istore_n 3, 1) := by decide +kernel
theorem dX7_pass_26 : decode cX7_pass 26 = .ok (.iload_n 3, 1) := by decide +kernel
theorem dX7_pass_27 : decode cX7_pass 27 = .ok (.iload_n 1, 1) := by decide +kernel
theorem dX7_pass_28 : decode cX7_pass 28 = .ok (.if_icmp .ge 16, 3) := by decide +kernel
theorem dX7_pass_31 : decode cX7_pass 31 = .ok (.iload_n 2, 1) := by decide +kernel
theorem dX7_pass_32 : decode cX7_pass 32 = .ok (.aload_n 0, 1) := by decide +kernel
theorem dX7_pass_33 : decode cX7_pass 33 = .ok (.invokevirtual 133, 3) := by decide +kernel
theorem dX7_pass_36 : decode cX7_pass 36 = .ok (.iadd, 1) := by decide +kernel
theorem dX7_pass_37 : decode cX7_pass 37 = .ok (.istore_n 2, 1) := by decide +kernel
theorem dX7_pass_38 : decode cX7_pass 38 = .ok (.iinc 3 1, 3) := by decide +kernel
theorem dX7_pass_41 : decode cX7_pass 41 = .ok (.goto (-15), 3) := by decide +kernel
theorem dX7_pass_44 : decode cX7_pass 44 = .ok (.iload_n 2, 1) := by decide +kernel
theorem dX7_pass_45 : decode cX7_pass 45 = .ok (.ireturn, 1) := by decide +kernel
theorem dX7_undo_0 : decode cX7_undo 0 = .ok (.aload_n 0, 1) := by decide +kernel
theorem dX7_undo_1 : decode cX7_undo 1 = .ok (.iconst 0, 1) := by decide +kernel
theorem dX7_undo_2 : decode cX7_undo 2 = .ok (.putfield 25, 3) := by decide +kernel
theorem dX7_undo_5 : decode cX7_undo 5 = .ok (.aload_n 0, 1) := by decide +kernel
theorem dX7_undo_6 : decode cX7_undo 6 = .ok (.getfield 29, 3) := by decide +kernel
theorem dX7_undo_9 : decode cX7_undo 9 = .ok (.ifCond .ne 6, 3) := by decide +kernel
theorem dX7_undo_12 : decode cX7_undo 12 = .ok (.bipush (-12), 2) := by decide +kernel
theorem dX7_undo_14 : decode cX7_undo 14 = .ok (.ireturn, 1) := by decide +kernel
theorem dX7_undo_15 : decode cX7_undo 15 = .ok (.aload_n 0, 1) := by decide +kernel
theorem dX7_undo_16 : decode cX7_undo 16 = .ok (.dup, 1) := by decide +kernel
theorem dX7_undo_17 : decode cX7_undo 17 = .ok (.getfield 29, 3) := by decide +kernel
theorem dX7_undo_20 : decode cX7_undo 20 = .ok (.iconst 1, 1) := by decide +kernel
theorem dX7_undo_21 : decode cX7_undo 21 = .ok (.isub, 1) := by decide +kernel
theorem dX7_undo_22 : decode cX7_undo 22 = .ok (.putfield 29, 3) := by decide +kernel
theorem dX7_undo_25 : decode cX7_undo 25 = .ok (.iconst 0, 1) := by decide +kernel
theorem dX7_undo_26 : decode cX7_undo 26 = .ok (.istore_n 1, 1) := by decide +kernel
theorem dX7_undo_27 : decode cX7_undo 27 = .ok (.iload_n 1, 1) := by decide +kernel
theorem dX7_undo_28 : decode cX7_undo 28 = .ok (.sipush 1268, 3) := by decide +kernel
theorem dX7_undo_31 : decode cX7_undo 31 = .ok (.if_icmp .ge 30, 3) := by decide +kernel
theorem dX7_undo_34 : decode cX7_undo 34 = .ok (.aload_n 0, 1) := by decide +kernel
theorem dX7_undo_35 : decode cX7_undo 35 = .ok (.getfield 7, 3) := by decide +kernel
theorem dX7_undo_38 : decode cX7_undo 38 = .ok (.iload_n 1, 1) := by decide +kernel
theorem dX7_undo_39 : decode cX7_undo 39 = .ok (.aload_n 0, 1) := by decide +kernel
theorem dX7_undo_40 : decode cX7_undo 40 = .ok (.getfield 16, 3) := by decide +kernel
theorem dX7_undo_43 : decode cX7_undo 43 = .ok (.sipush 1268, 3) := by decide +kernel
theorem dX7_undo_46 : decode cX7_undo 46 = .ok (.aload_n 0, 1) := by decide +kernel
theorem dX7_undo_47 : decode cX7_undo 47 = .ok (.getfield 29, 3) := by decide +kernel
theorem dX7_undo_50 : decode cX7_undo 50 = .ok (.imul, 1) := by decide +kernel
theorem dX7_undo_51 : decode cX7_undo 51 = .ok (.iload_n 1, 1) := by decide +kernel
theorem dX7_undo_52 : decode cX7_undo 52 = .ok (.iadd, 1) := by decide +kernel
theorem dX7_undo_53 : decode cX7_undo 53 = .ok (.iaload, 1) := by decide +kernel
theorem dX7_undo_54 : decode cX7_undo 54 = .ok (.iastore, 1) := by decide +kernel
theorem dX7_undo_55 : decode cX7_undo 55 = .ok (.iinc 1 1, 3) := by decide +kernel
theorem dX7_undo_58 : decode cX7_undo 58 = .ok (.goto (-31), 3) := by decide +kernel
theorem dX7_undo_61 : decode cX7_undo 61 = .ok (.aload_n 0, 1) := by decide +kernel
theorem dX7_undo_62 : decode cX7_undo 62 = .ok (.getfield 29, 3) := by decide +kernel
theorem dX7_undo_65 : decode cX7_undo 65 = .ok (.ireturn, 1) := by decide +kernel
theorem dX7_burning_0 : decode cX7_burning 0 = .ok (.iconst 0, 1) := by decide +kernel
theorem dX7_burning_1 : decode cX7_burning 1 = .ok (.istore_n 1, 1) := by decide +kernel
theorem dX7_burning_2 : decode cX7_burning 2 = .ok (.iconst 0, 1) := by decide +kernel
theorem dX7_burning_3 : decode cX7_burning 3 = .ok (.istore_n 2, 1) := by decide +kernel
theorem dX7_burning_4 : decode cX7_burning 4 = .ok (.iload_n 2, 1) := by decide +kernel
theorem dX7_burning_5 : decode cX7_burning 5 = .ok (.aload_n 0, 1) := by decide +kernel
theorem dX7_burning_6 : decode cX7_burning 6 = .ok (.getfield 7, 3) := by decide +kernel
theorem dX7_burning_9 : decode cX7_burning 9 = .ok (.iconst 1, 1) := by decide +kernel
theorem dX7_burning_10 : decode cX7_burning 10 = .ok (.iaload, 1) := by decide +kernel
theorem dX7_burning_11 : decode cX7_burning 11 = .ok (.if_icmp .ge 26, 3) := by decide +kernel
theorem dX7_burning_14 : decode cX7_burning 14 = .ok (.iload_n 1, 1) := by decide +kernel
theorem dX7_burning_15 : decode cX7_burning 15 = .ok (.aload_n 0, 1) := by decide +kernel
theorem dX7_burning_16 : decode cX7_burning 16 = .ok (.iload_n 2, 1) := by decide +kernel
theorem dX7_burning_17 : decode cX7_burning 17 = .ok (.iconst 3, 1) := by decide +kernel
theorem dX7_burning_18 : decode cX7_burning 18 = .ok (.invokevirtual 53, 3) := by decide +kernel
theorem dX7_burning_21 : decode cX7_burning 21 = .ok (.ifCond .le 7, 3) := by decide +kernel
theorem dX7_burning_24 : decode cX7_burning 24 = .ok (.iconst 1, 1) := by decide +kernel
theorem dX7_burning_25 : decode cX7_burning 25 = .ok (.goto 4, 3) := by decide +kernel
theorem dX7_burning_28 : decode cX7_burning 28 = .ok (.iconst 0, 1) := by decide +kernel
theorem dX7_burning_29 : decode cX7_burning 29 = .ok (.iadd, 1) := by decide +kernel
theorem dX7_burning_30 : decode cX7_burning 30 = .ok (.istore_n 1, 1) := by decide +kernel
theorem dX7_burning_31 : decode cX7_burning 31 = .ok (.iinc 2 1, 3) := by decide +kernel
theorem dX7_burning_34 : decode cX7_burning 34 = .ok (.goto (-30), 3) := by decide +kernel
theorem dX7_burning_37 : decode cX7_burning 37 = .ok (.iload_n 1, 1) := by decide +kernel
theorem dX7_burning_38 : decode cX7_burning 38 = .ok (.ireturn, 1) := by decide +kernel
theorem dX7_lit_0 : decode cX7_lit 0 = .ok (.iconst 0, 1) := by decide +kernel
theorem dX7_lit_1 : decode cX7_lit 1 = .ok (.istore_n 1, 1) := by decide +kernel
theorem dX7_lit_2 : decode cX7_lit 2 = .ok (.iconst 0, 1) := by decide +kernel
theorem dX7_lit_3 : decode cX7_lit 3 = .ok (.istore_n 2, 1) := by decide +kernel
theorem dX7_lit_4 : decode cX7_lit 4 = .ok (.iload_n 2, 1) := by decide +kernel
theorem dX7_lit_5 : decode cX7_lit 5 = .ok (.bipush 120, 2) := by decide +kernel
theorem dX7_lit_7 : decode cX7_lit 7 = .ok (.if_icmp .ge 25, 3) := by decide +kernel
theorem dX7_lit_10 : decode cX7_lit 10 = .ok (.iload_n 1, 1) := by decide +kernel
theorem dX7_lit_11 : decode cX7_lit 11 = .ok (.aload_n 0, 1) := by decide +kernel
theorem dX7_lit_12 : decode cX7_lit 12 = .ok (.iload_n 2, 1) := by decide +kernel
theorem dX7_lit_13 : decode cX7_lit 13 = .ok (.invokevirtual 66, 3) := by decide +kernel
theorem dX7_lit_16 : decode cX7_lit 16 = .ok (.ifCond .eq 7, 3) := by decide +kernel
theorem dX7_lit_19 : decode cX7_lit 19 = .ok (.iconst 1, 1) := by decide +kernel
theorem dX7_lit_20 : decode cX7_lit 20 = .ok (.goto 4, 3) := by decide +kernel
theorem dX7_lit_23 : decode cX7_lit 23 = .ok (.iconst 0, 1) := by decide +kernel
theorem dX7_lit_24 : decode cX7_lit 24 = .ok (.iadd, 1) := by decide +kernel
theorem dX7_lit_25 : decode cX7_lit 25 = .ok (.istore_n 1, 1) := by decide +kernel
theorem dX7_lit_26 : decode cX7_lit 26 = .ok (.iinc 2 1, 3) := by decide +kernel
theorem dX7_lit_29 : decode cX7_lit 29 = .ok (.goto (-25), 3) := by decide +kernel
theorem dX7_lit_32 : decode cX7_lit 32 = .ok (.iload_n 1, 1) := by decide +kernel
theorem dX7_lit_33 : decode cX7_lit 33 = .ok (.ireturn, 1) := by decide +kernel
theorem dX7_count_0 : decode cX7_count 0 = .ok (.aload_n 0, 1) := by decide +kernel
theorem dX7_count_1 : decode cX7_count 1 = .ok (.iconst 0, 1) := by decide +kernel
theorem dX7_count_2 : decode cX7_count 2 = .ok (.putfield 25, 3) := by decide +kernel
theorem dX7_count_5 : decode cX7_count 5 = .ok (.iload_n 1, 1) := by decide +kernel
theorem dX7_count_6 : decode cX7_count 6 = .ok (.tableswitch 128 0 11 #[62, 69, 76, 81, 86, 93, 100, 100, 109, 109, 118, 123], 62) := by decide +kernel
theorem dX7_count_68 : decode cX7_count 68 = .ok (.aload_n 0, 1) := by decide +kernel
theorem dX7_count_69 : decode cX7_count 69 = .ok (.getfield 7, 3) := by decide +kernel
theorem dX7_count_72 : decode cX7_count 72 = .ok (.iconst 0, 1) := by decide +kernel
theorem dX7_count_73 : decode cX7_count 73 = .ok (.iaload, 1) := by decide +kernel
theorem dX7_count_74 : decode cX7_count 74 = .ok (.ireturn, 1) := by decide +kernel
theorem dX7_count_75 : decode cX7_count 75 = .ok (.aload_n 0, 1) := by decide +kernel
theorem dX7_count_76 : decode cX7_count 76 = .ok (.getfield 7, 3) := by decide +kernel
theorem dX7_count_79 : decode cX7_count 79 = .ok (.iconst 1, 1) := by decide +kernel
theorem dX7_count_80 : decode cX7_count 80 = .ok (.iaload, 1) := by decide +kernel
theorem dX7_count_81 : decode cX7_count 81 = .ok (.ireturn, 1) := by decide +kernel
theorem dX7_count_82 : decode cX7_count 82 = .ok (.aload_n 0, 1) := by decide +kernel
theorem dX7_count_83 : decode cX7_count 83 = .ok (.invokevirtual 136, 3) := by decide +kernel
theorem dX7_count_86 : decode cX7_count 86 = .ok (.ireturn, 1) := by decide +kernel
theorem dX7_count_87 : decode cX7_count 87 = .ok (.aload_n 0, 1) := by decide +kernel
theorem dX7_count_88 : decode cX7_count 88 = .ok (.invokevirtual 139, 3) := by decide +kernel
theorem dX7_count_91 : decode cX7_count 91 = .ok (.ireturn, 1) := by decide +kernel
theorem dX7_count_92 : decode cX7_count 92 = .ok (.aload_n 0, 1) := by decide +kernel
theorem dX7_count_93 : decode cX7_count 93 = .ok (.getfield 7, 3) := by decide +kernel
theorem dX7_count_96 : decode cX7_count 96 = .ok (.iconst 2, 1) := by decide +kernel
theorem dX7_count_97 : decode cX7_count 97 = .ok (.iaload, 1) := by decide +kernel
theorem dX7_count_98 : decode cX7_count 98 = .ok (.ireturn, 1) := by decide +kernel
theorem dX7_count_99 : decode cX7_count 99 = .ok (.aload_n 0, 1) := by decide +kernel
theorem dX7_count_100 : decode cX7_count 100 = .ok (.getfield 7, 3) := by decide +kernel
theorem dX7_count_103 : decode cX7_count 103 = .ok (.iconst 3, 1) := by decide +kernel
theorem dX7_count_104 : decode cX7_count 104 = .ok (.iaload, 1) := by decide +kernel
theorem dX7_count_105 : decode cX7_count 105 = .ok (.ireturn, 1) := by decide +kernel
theorem dX7_count_106 : decode cX7_count 106 = .ok (.aload_n 0, 1) := by decide +kernel
theorem dX7_count_107 : decode cX7_count 107 = .ok (.iload_n 1, 1) := by decide +kernel
theorem dX7_count_108 : decode cX7_count 108 = .ok (.bipush 6, 2) := by decide +kernel
theorem dX7_count_110 : decode cX7_count 110 = .ok (.isub, 1) := by decide +kernel
theorem dX7_count_111 : decode cX7_count 111 = .ok (.invokevirtual 142, 3) := by decide +kernel
theorem dX7_count_114 : decode cX7_count 114 = .ok (.ireturn, 1) := by decide +kernel
theorem dX7_count_115 : decode cX7_count 115 = .ok (.aload_n 0, 1) := by decide +kernel
theorem dX7_count_116 : decode cX7_count 116 = .ok (.iload_n 1, 1) := by decide +kernel
theorem dX7_count_117 : decode cX7_count 117 = .ok (.bipush 8, 2) := by decide +kernel
theorem dX7_count_119 : decode cX7_count 119 = .ok (.isub, 1) := by decide +kernel
theorem dX7_count_120 : decode cX7_count 120 = .ok (.invokevirtual 123, 3) := by decide +kernel
theorem dX7_count_123 : decode cX7_count 123 = .ok (.ireturn, 1) := by decide +kernel
theorem dX7_count_124 : decode cX7_count 124 = .ok (.aload_n 0, 1) := by decide +kernel
theorem dX7_count_125 : decode cX7_count 125 = .ok (.getfield 29, 3) := by decide +kernel
theorem dX7_count_128 : decode cX7_count 128 = .ok (.ireturn, 1) := by decide +kernel
theorem dX7_count_129 : decode cX7_count 129 = .ok (.aload_n 0, 1) := by decide +kernel
theorem dX7_count_130 : decode cX7_count 130 = .ok (.getfield 101, 3) := by decide +kernel
theorem dX7_count_133 : decode cX7_count 133 = .ok (.ireturn, 1) := by decide +kernel
theorem dX7_count_134 : decode cX7_count 134 = .ok (.bipush (-11), 2) := by decide +kernel
theorem dX7_count_136 : decode cX7_count 136 = .ok (.ireturn, 1) := by decide +kernel
theorem dX7_cell_0 : decode cX7_cell 0 = .ok (.aload_n 0, 1) := by decide +kernel
theorem dX7_cell_1 : decode cX7_cell 1 = .ok (.iconst 0, 1) := by decide +kernel
theorem dX7_cell_2 : decode cX7_cell 2 = .ok (.putfield 25, 3) := by decide +kernel
theorem dX7_cell_5 : decode cX7_cell 5 = .ok (.iload_n 1, 1) := by decide +kernel
theorem dX7_cell_6 : decode cX7_cell 6 = .ok (.iload_n 2, 1) := by decide +kernel
theorem dX7_cell_7 : decode cX7_cell 7 = .ok (.invokestatic 95, 3) := by decide +kernel
theorem dX7_cell_10 : decode cX7_cell 10 = .ok (.ifCond .eq 12, 3) := by decide +kernel
theorem dX7_cell_13 : decode cX7_cell 13 = .ok (.iload_n 3, 1) := by decide +kernel
theorem dX7_cell_14 : decode cX7_cell 14 = .ok (.iconst 0, 1) := by decide +kernel
theorem dX7_cell_15 : decode cX7_cell 15 = .ok (.iconst 3, 1) := by decide +kernel
theorem dX7_cell_16 : decode cX7_cell 16 = .ok (.invokestatic 32, 3) := by decide +kernel
theorem dX7_cell_19 : decode cX7_cell 19 = .ok (.ifCond .ne 6, 3) := by decide +kernel
theorem dX7_cell_22 : decode cX7_cell 22 = .ok (.bipush (-11), 2) := by decide +kernel
theorem dX7_cell_24 : decode cX7_cell 24 = .ok (.ireturn, 1) := by decide +kernel
theorem dX7_cell_25 : decode cX7_cell 25 = .ok (.iload_n 1, 1) := by decide +kernel
theorem dX7_cell_26 : decode cX7_cell 26 = .ok (.iload_n 2, 1) := by decide +kernel
theorem dX7_cell_27 : decode cX7_cell 27 = .ok (.invokestatic 46, 3) := by decide +kernel
theorem dX7_cell_30 : decode cX7_cell 30 = .ok (.istore 4, 2) := by decide +kernel
theorem dX7_cell_32 : decode cX7_cell 32 = .ok (.iload_n 3, 1) := by decide +kernel
theorem dX7_cell_33 : decode cX7_cell 33 = .ok (.tableswitch 65 0 2 #[27, 38, 50], 27) := by decide +kernel
theorem dX7_cell_60 : decode cX7_cell 60 = .ok (.aload_n 0, 1) := by decide +kernel
theorem dX7_cell_61 : decode cX7_cell 61 = .ok (.getfield 7, 3) := by decide +kernel
theorem dX7_cell_64 : decode cX7_cell 64 = .ok (.bipush 68, 2) := by decide +kernel
theorem dX7_cell_66 : decode cX7_cell 66 = .ok (.iload 4, 2) := by decide +kernel
theorem dX7_cell_68 : decode cX7_cell 68 = .ok (.iadd, 1) := by decide +kernel
theorem dX7_cell_69 : decode cX7_cell 69 = .ok (.iaload, 1) := by decide +kernel
theorem dX7_cell_70 : decode cX7_cell 70 = .ok (.ireturn, 1) := by decide +kernel
theorem dX7_cell_71 : decode cX7_cell 71 = .ok (.aload_n 0, 1) := by decide +kernel
theorem dX7_cell_72 : decode cX7_cell 72 = .ok (.getfield 7, 3) := by decide +kernel
theorem dX7_cell_75 : decode cX7_cell 75 = .ok (.sipush 188, 3) := by decide +kernel
theorem dX7_cell_78 : decode cX7_cell 78 = .ok (.iload 4, 2) := by decide +kernel
theorem dX7_cell_80 : decode cX7_cell 80 = .ok (.iadd, 1) := by decide +kernel
theorem dX7_cell_81 : decode cX7_cell 81 = .ok (.iaload, 1) := by decide +kernel
theorem dX7_cell_82 : decode cX7_cell 82 = .ok (.ireturn, 1) := by decide +kernel
theorem dX7_cell_83 : decode cX7_cell 83 = .ok (.aload_n 0, 1) := by decide +kernel
theorem dX7_cell_84 : decode cX7_cell 84 = .ok (.iload 4, 2) := by decide +kernel
theorem dX7_cell_86 : decode cX7_cell 86 = .ok (.invokevirtual 66, 3) := by decide +kernel
theorem dX7_cell_89 : decode cX7_cell 89 = .ok (.ifCond .eq 7, 3) := by decide +kernel
theorem dX7_cell_92 : decode cX7_cell 92 = .ok (.iconst 1, 1) := by decide +kernel
theorem dX7_cell_93 : decode cX7_cell 93 = .ok (.goto 4, 3) := by decide +kernel
theorem dX7_cell_96 : decode cX7_cell 96 = .ok (.iconst 0, 1) := by decide +kernel
theorem dX7_cell_97 : decode cX7_cell 97 = .ok (.ireturn, 1) := by decide +kernel
theorem dX7_cell_98 : decode cX7_cell 98 = .ok (.aload_n 0, 1) := by decide +kernel
theorem dX7_cell_99 : decode cX7_cell 99 = .ok (.iload 4, 2) := by decide +kernel
theorem dX7_cell_101 : decode cX7_cell 101 = .ok (.invokevirtual 83, 3) := by decide +kernel
theorem dX7_cell_104 : decode cX7_cell 104 = .ok (.ireturn, 1) := by decide +kernel
theorem dX7_seenFrom_0 : decode cX7_seenFrom 0 = .ok (.iconst 0, 1) := by decide +kernel
theorem dX7_seenFrom_1 : decode cX7_seenFrom 1 = .ok (.istore_n 3, 1) := by decide +kernel
theorem dX7_seenFrom_2 : decode cX7_seenFrom 2 = .ok (.iconst 0, 1) := by decide +kernel
theorem dX7_seenFrom_3 : decode cX7_seenFrom 3 = .ok (.istore 4, 2) := by decide +kernel
theorem dX7_seenFrom_5 : decode cX7_seenFrom 5 = .ok (.iload 4, 2) := by decide +kernel
theorem dX7_seenFrom_7 : decode cX7_seenFrom 7 = .ok (.bipush 120, 2) := by decide +kernel
theorem dX7_seenFrom_9 : decode cX7_seenFrom 9 = .ok (.if_icmp .ge 28, 3) := by decide +kernel
theorem dX7_seenFrom_12 : decode cX7_seenFrom 12 = .ok (.iload_n 3, 1) := by decide +kernel
theorem dX7_seenFrom_13 : decode cX7_seenFrom 13 = .ok (.aload_n 0, 1) := by decide +kernel
theorem dX7_seenFrom_14 : decode cX7_seenFrom 14 = .ok (.iload_n 1, 1) := by decide +kernel
theorem dX7_seenFrom_15 : decode cX7_seenFrom 15 = .ok (.iload_n 2, 1) := by decide +kernel
theorem dX7_seenFrom_16 : decode cX7_seenFrom 16 = .ok (.iload 4, 2) := by decide +kernel
theorem dX7_seenFrom_18 : decode cX7_seenFrom 18 = .ok (.invokevirtual 74, 3) := by decide +kernel
theorem dX7_seenFrom_21 : decode cX7_seenFrom 21 = .ok (.ifCond .eq 7, 3) := by decide +kernel
theorem dX7_seenFrom_24 : decode cX7_seenFrom 24 = .ok (.iconst 1, 1) := by decide +kernel
theorem dX7_seenFrom_25 : decode cX7_seenFrom 25 = .ok (.goto 4, 3) := by decide +kernel
theorem dX7_seenFrom_28 : decode cX7_seenFrom 28 = .ok (.iconst 0, 1) := by decide +kernel
theorem dX7_seenFrom_29 : decode cX7_seenFrom 29 = .ok (.iadd, 1) := by decide +kernel
theorem dX7_seenFrom_30 : decode cX7_seenFrom 30 = .ok (.istore_n 3, 1) := by decide +kernel
theorem dX7_seenFrom_31 : decode cX7_seenFrom 31 = .ok (.iinc 4 1, 3) := by decide +kernel
theorem dX7_seenFrom_34 : decode cX7_seenFrom 34 = .ok (.goto (-29), 3) := by decide +kernel
theorem dX7_seenFrom_37 : decode cX7_seenFrom 37 = .ok (.iload_n 3, 1) := by decide +kernel
theorem dX7_seenFrom_38 : decode cX7_seenFrom 38 = .ok (.ireturn, 1) := by decide +kernel
theorem dX7_scout_0 : decode cX7_scout 0 = .ok (.aload_n 0, 1) := by decide +kernel
theorem dX7_scout_1 : decode cX7_scout 1 = .ok (.iconst 0, 1) := by decide +kernel
theorem dX7_scout_2 : decode cX7_scout 2 = .ok (.putfield 25, 3) := by decide +kernel
theorem dX7_scout_5 : decode cX7_scout 5 = .ok (.aload_n 0, 1) := by decide +kernel
theorem dX7_scout_6 : decode cX7_scout 6 = .ok (.iload_n 1, 1) := by decide +kernel
theorem dX7_scout_7 : decode cX7_scout 7 = .ok (.invokevirtual 120, 3) := by decide +kernel
theorem dX7_scout_10 : decode cX7_scout 10 = .ok (.ifCond .eq 12, 3) := by decide +kernel
theorem dX7_scout_13 : decode cX7_scout 13 = .ok (.iload_n 2, 1) := by decide +kernel
theorem dX7_scout_14 : decode cX7_scout 14 = .ok (.iconst 0, 1) := by decide +kernel
theorem dX7_scout_15 : decode cX7_scout 15 = .ok (.iconst 5, 1) := by decide +kernel
theorem dX7_scout_16 : decode cX7_scout 16 = .ok (.invokestatic 32, 3) := by decide +kernel
theorem dX7_scout_19 : decode cX7_scout 19 = .ok (.ifCond .ne 6, 3) := by decide +kernel
theorem dX7_scout_22 : decode cX7_scout 22 = .ok (.bipush (-11), 2) := by decide +kernel
theorem dX7_scout_24 : decode cX7_scout 24 = .ok (.ireturn, 1) := by decide +kernel
theorem dX7_scout_25 : decode cX7_scout 25 = .ok (.iload_n 2, 1) := by decide +kernel
theorem dX7_scout_26 : decode cX7_scout 26 = .ok (.iconst 4, 1) := by decide +kernel
theorem dX7_scout_27 : decode cX7_scout 27 = .ok (.if_icmp .ne 19, 3) := by decide +kernel
theorem dX7_scout_30 : decode cX7_scout 30 = .ok (.aload_n 0, 1) := by decide +kernel
theorem dX7_scout_31 : decode cX7_scout 31 = .ok (.aload_n 0, 1) := by decide +kernel
theorem dX7_scout_32 : decode cX7_scout 32 = .ok (.iload_n 1, 1) := by decide +kernel
theorem dX7_scout_33 : decode cX7_scout 33 = .ok (.invokevirtual 49, 3) := by decide +kernel
theorem dX7_scout_36 : decode cX7_scout 36 = .ok (.aload_n 0, 1) := by decide +kernel
theorem dX7_scout_37 : decode cX7_scout 37 = .ok (.iload_n 1, 1) := by decide +kernel
theorem dX7_scout_38 : decode cX7_scout 38 = .ok (.iconst 3, 1) := by decide +kernel
theorem dX7_scout_39 : decode cX7_scout 39 = .ok (.invokevirtual 43, 3) := by decide +kernel
theorem dX7_scout_42 : decode cX7_scout 42 = .ok (.invokevirtual 145, 3) := by decide +kernel
theorem dX7_scout_45 : decode cX7_scout 45 = .ok (.ireturn, 1) := by decide +kernel
theorem dX7_scout_46 : decode cX7_scout 46 = .ok (.iload_n 2, 1) := by decide +kernel
theorem dX7_scout_47 : decode cX7_scout 47 = .ok (.iconst 4, 1) := by decide +kernel
theorem dX7_scout_48 : decode cX7_scout 48 = .ok (.if_icmp .ge 12, 3) := by decide +kernel
theorem dX7_scout_51 : decode cX7_scout 51 = .ok (.aload_n 0, 1) := by decide +kernel
theorem dX7_scout_52 : decode cX7_scout 52 = .ok (.iload_n 1, 1) := by decide +kernel
theorem dX7_scout_53 : decode cX7_scout 53 = .ok (.iload_n 2, 1) := by decide +kernel
theorem dX7_scout_54 : decode cX7_scout 54 = .ok (.invokevirtual 43, 3) := by decide +kernel
theorem dX7_scout_57 : decode cX7_scout 57 = .ok (.goto 28, 3) := by decide +kernel
theorem dX7_scout_60 : decode cX7_scout 60 = .ok (.aload_n 0, 1) := by decide +kernel
theorem dX7_scout_61 : decode cX7_scout 61 = .ok (.iconst 1, 1) := by decide +kernel
theorem dX7_scout_62 : decode cX7_scout 62 = .ok (.aload_n 0, 1) := by decide +kernel
theorem dX7_scout_63 : decode cX7_scout 63 = .ok (.iload_n 1, 1) := by decide +kernel
theorem dX7_scout_64 : decode cX7_scout 64 = .ok (.iconst 0, 1) := by decide +kernel
theorem dX7_scout_65 : decode cX7_scout 65 = .ok (.invokevirtual 43, 3) := by decide +kernel
theorem dX7_scout_68 : decode cX7_scout 68 = .ok (.isub, 1) := by decide +kernel
theorem dX7_scout_69 : decode cX7_scout 69 = .ok (.aload_n 0, 1) := by decide +kernel
theorem dX7_scout_70 : decode cX7_scout 70 = .ok (.iload_n 1, 1) := by decide +kernel
theorem dX7_scout_71 : decode cX7_scout 71 = .ok (.invokevirtual 49, 3) := by decide +kernel
theorem dX7_scout_74 : decode cX7_scout 74 = .ok (.invokevirtual 80, 3) := by decide +kernel
theorem dX7_scout_77 : decode cX7_scout 77 = .ok (.ifCond .eq 7, 3) := by decide +kernel
theorem dX7_scout_80 : decode cX7_scout 80 = .ok (.iconst 1, 1) := by decide +kernel
theorem dX7_scout_81 : decode cX7_scout 81 = .ok (.goto 4, 3) := by decide +kernel
theorem dX7_scout_84 : decode cX7_scout 84 = .ok (.iconst 0, 1) := by decide +kernel
theorem dX7_scout_85 : decode cX7_scout 85 = .ok (.ireturn, 1) := by decide +kernel
theorem dX7_light_0 : decode cX7_light 0 = .ok (.aload_n 0, 1) := by decide +kernel
theorem dX7_light_1 : decode cX7_light 1 = .ok (.iconst 0, 1) := by decide +kernel
theorem dX7_light_2 : decode cX7_light 2 = .ok (.putfield 25, 3) := by decide +kernel
theorem dX7_light_5 : decode cX7_light 5 = .ok (.aload_n 0, 1) := by decide +kernel
theorem dX7_light_6 : decode cX7_light 6 = .ok (.iload_n 1, 1) := by decide +kernel
theorem dX7_light_7 : decode cX7_light 7 = .ok (.invokevirtual 130, 3) := by decide +kernel
theorem dX7_light_10 : decode cX7_light 10 = .ok (.ifCond .eq 21, 3) := by decide +kernel
theorem dX7_light_13 : decode cX7_light 13 = .ok (.iload_n 2, 1) := by decide +kernel
theorem dX7_light_14 : decode cX7_light 14 = .ok (.iconst 0, 1) := by decide +kernel
theorem dX7_light_15 : decode cX7_light 15 = .ok (.iconst 3, 1) := by decide +kernel
theorem dX7_light_16 : decode cX7_light 16 = .ok (.invokestatic 32, 3) := by decide +kernel
theorem dX7_light_19 : decode cX7_light 19 = .ok (.ifCond .eq 12, 3) := by decide +kernel
theorem dX7_light_22 : decode cX7_light 22 = .ok (.aload_n 0, 1) := by decide +kernel
theorem dX7_light_23 : decode cX7_light 23 = .ok (.iload_n 1, 1) := by decide +kernel
theorem dX7_light_24 : decode cX7_light 24 = .ok (.iload_n 2, 1) := by decide +kernel
theorem dX7_light_25 : decode cX7_light 25 = .ok (.invokevirtual 53, 3) := by decide +kernel
theorem dX7_light_28 : decode cX7_light 28 = .ok (.goto 5, 3) := by decide +kernel
theorem dX7_light_31 : decode cX7_light 31 = .ok (.bipush (-11), 2) := by decide +kernel
theorem dX7_light_33 : decode cX7_light 33 = .ok (.ireturn, 1) := by decide +kernel
theorem dX7_known_0 : decode cX7_known 0 = .ok (.aload_n 0, 1) := by decide +kernel
theorem dX7_known_1 : decode cX7_known 1 = .ok (.iconst 0, 1) := by decide +kernel
theorem dX7_known_2 : decode cX7_known 2 = .ok (.putfield 25, 3) := by decide +kernel
theorem dX7_known_5 : decode cX7_known 5 = .ok (.iload_n 1, 1) := by decide +kernel
theorem dX7_known_6 : decode cX7_known 6 = .ok (.iconst 0, 1) := by decide +kernel
theorem dX7_known_7 : decode cX7_known 7 = .ok (.iconst 1, 1) := by decide +kernel
theorem dX7_known_8 : decode cX7_known 8 = .ok (.invokestatic 32, 3) := by decide +kernel
theorem dX7_known_11 : decode cX7_known 11 = .ok (.ifCond .eq 21, 3) := by decide +kernel
theorem dX7_known_14 : decode cX7_known 14 = .ok (.iload_n 2, 1) := by decide +kernel
theorem dX7_known_15 : decode cX7_known 15 = .ok (.iload_n 3, 1) := by decide +kernel
theorem dX7_known_16 : decode cX7_known 16 = .ok (.invokestatic 95, 3) := by decide +kernel
theorem dX7_known_19 : decode cX7_known 19 = .ok (.ifCond .eq 13, 3) := by decide +kernel
theorem dX7_known_22 : decode cX7_known 22 = .ok (.iload 4, 2) := by decide +kernel
theorem dX7_known_24 : decode cX7_known 24 = .ok (.iconst 0, 1) := by decide +kernel
theorem dX7_known_25 : decode cX7_known 25 = .ok (.iconst 4, 1) := by decide +kernel
theorem dX7_known_26 : decode cX7_known 26 = .ok (.invokestatic 32, 3) := by decide +kernel
theorem dX7_known_29 : decode cX7_known 29 = .ok (.ifCond .ne 6, 3) := by decide +kernel
theorem dX7_known_32 : decode cX7_known 32 = .ok (.bipush (-11), 2) := by decide +kernel
theorem dX7_known_34 : decode cX7_known 34 = .ok (.ireturn, 1) := by decide +kernel
theorem dX7_known_35 : decode cX7_known 35 = .ok (.iload_n 2, 1) := by decide +kernel
theorem dX7_known_36 : decode cX7_known 36 = .ok (.iload_n 3, 1) := by decide +kernel
theorem dX7_known_37 : decode cX7_known 37 = .ok (.invokestatic 46, 3) := by decide +kernel
theorem dX7_known_40 : decode cX7_known 40 = .ok (.istore 5, 2) := by decide +kernel
theorem dX7_known_42 : decode cX7_known 42 = .ok (.iload 4, 2) := by decide +kernel
theorem dX7_known_44 : decode cX7_known 44 = .ok (.iconst 4, 1) := by decide +kernel
theorem dX7_known_45 : decode cX7_known 45 = .ok (.if_icmp .ne 19, 3) := by decide +kernel
theorem dX7_known_48 : decode cX7_known 48 = .ok (.aload_n 0, 1) := by decide +kernel
theorem dX7_known_49 : decode cX7_known 49 = .ok (.iload_n 1, 1) := by decide +kernel
theorem dX7_known_50 : decode cX7_known 50 = .ok (.iload 5, 2) := by decide +kernel
theorem dX7_known_52 : decode cX7_known 52 = .ok (.invokevirtual 80, 3) := by decide +kernel
theorem dX7_known_55 : decode cX7_known 55 = .ok (.ifCond .eq 7, 3) := by decide +kernel
theorem dX7_known_58 : decode cX7_known 58 = .ok (.iconst 1, 1) := by decide +kernel
theorem dX7_known_59 : decode cX7_known 59 = .ok (.goto 4, 3) := by decide +kernel
theorem dX7_known_62 : decode cX7_known 62 = .ok (.iconst 0, 1) := by decide +kernel
theorem dX7_known_63 : decode cX7_known 63 = .ok (.ireturn, 1) := by decide +kernel
theorem dX7_known_64 : decode cX7_known 64 = .ok (.iload 4, 2) := by decide +kernel
theorem dX7_known_66 : decode cX7_known 66 = .ok (.ifCond .le 18, 3) := by decide +kernel
theorem dX7_known_69 : decode cX7_known 69 = .ok (.aload_n 0, 1) := by decide +kernel
theorem dX7_known_70 : decode cX7_known 70 = .ok (.iload_n 1, 1) := by decide +kernel
theorem dX7_known_71 : decode cX7_known 71 = .ok (.iload 5, 2) := by decide +kernel
theorem dX7_known_73 : decode cX7_known 73 = .ok (.invokevirtual 86, 3) := by decide +kernel
theorem dX7_known_76 : decode cX7_known 76 = .ok (.ifCond .ne 8, 3) := by decide +kernel
theorem dX7_known_79 : decode cX7_known 79 = .ok (.bipush (-19), 2) := by decide +kernel
theorem dX7_known_81 : decode cX7_known 81 = .ok (.goto 26, 3) := by decide +kernel
theorem dX7_known_84 : decode cX7_known 84 = .ok (.aload_n 0, 1) := by decide +kernel
theorem dX7_known_85 : decode cX7_known 85 = .ok (.getfield 7, 3) := by decide +kernel
theorem dX7_known_88 : decode cX7_known 88 = .ok (.sipush 308, 3) := by decide +kernel
theorem dX7_known_91 : decode cX7_known 91 = .ok (.sipush 240, 3) := by decide +kernel
theorem dX7_known_94 : decode cX7_known 94 = .ok (.iload 4, 2) := by decide +kernel
theorem dX7_known_96 : decode cX7_known 96 = .ok (.imul, 1) := by decide +kernel
theorem dX7_known_97 : decode cX7_known 97 = .ok (.iadd, 1) := by decide +kernel
theorem dX7_known_98 : decode cX7_known 98 = .ok (.bipush 120, 2) := by decide +kernel
theorem dX7_known_100 : decode cX7_known 100 = .ok (.iload_n 1, 1) := by decide +kernel
theorem dX7_known_101 : decode cX7_known 101 = .ok (.imul, 1) := by decide +kernel
theorem dX7_known_102 : decode cX7_known 102 = .ok (.iadd, 1) := by decide +kernel
theorem dX7_known_103 : decode cX7_known 103 = .ok (.iload 5, 2) := by decide +kernel
theorem dX7_known_105 : decode cX7_known 105 = .ok (.iadd, 1) := by decide +kernel
theorem dX7_known_106 : decode cX7_known 106 = .ok (.iaload, 1) := by decide +kernel
theorem dX7_known_107 : decode cX7_known 107 = .ok (.ireturn, 1) := by decide +kernel
theorem dX7_view_0 : decode cX7_view 0 = .ok (.aload_n 0, 1) := by decide +kernel
theorem dX7_view_1 : decode cX7_view 1 = .ok (.iconst 0, 1) := by decide +kernel
theorem dX7_view_2 : decode cX7_view 2 = .ok (.putfield 25, 3) := by decide +kernel
theorem dX7_view_5 : decode cX7_view 5 = .ok (.iload_n 1, 1) := by decide +kernel
theorem dX7_view_6 : decode cX7_view 6 = .ok (.iload_n 2, 1) := by decide +kernel
theorem dX7_view_7 : decode cX7_view 7 = .ok (.invokestatic 95, 3) := by decide +kernel
theorem dX7_view_10 : decode cX7_view 10 = .ok (.ifCond .eq 12, 3) := by decide +kernel
theorem dX7_view_13 : decode cX7_view 13 = .ok (.iload_n 3, 1) := by decide +kernel
theorem dX7_view_14 : decode cX7_view 14 = .ok (.iload 4, 2) := by decide +kernel
theorem dX7_view_16 : decode cX7_view 16 = .ok (.invokestatic 95, 3) := by decide +kernel
theorem dX7_view_19 : decode cX7_view 19 = .ok (.ifCond .ne 6, 3) := by decide +kernel
theorem dX7_view_22 : decode cX7_view 22 = .ok (.bipush (-11), 2) := by decide +kernel
theorem dX7_view_24 : decode cX7_view 24 = .ok (.ireturn, 1) := by decide +kernel
theorem dX7_view_25 : decode cX7_view 25 = .ok (.aload_n 0, 1) := by decide +kernel
theorem dX7_view_26 : decode cX7_view 26 = .ok (.iload_n 1, 1) := by decide +kernel
theorem dX7_view_27 : decode cX7_view 27 = .ok (.iload_n 2, 1) := by decide +kernel
theorem dX7_view_28 : decode cX7_view 28 = .ok (.invokestatic 46, 3) := by decide +kernel
theorem dX7_view_31 : decode cX7_view 31 = .ok (.iload_n 3, 1) := by decide +kernel
theorem dX7_view_32 : decode cX7_view 32 = .ok (.iload 4, 2) := by decide +kernel
theorem dX7_view_34 : decode cX7_view 34 = .ok (.invokestatic 46, 3) := by decide +kernel
theorem dX7_view_37 : decode cX7_view 37 = .ok (.invokevirtual 70, 3) := by decide +kernel
theorem dX7_view_40 : decode cX7_view 40 = .ok (.ifCond .eq 7, 3) := by decide +kernel
theorem dX7_view_43 : decode cX7_view 43 = .ok (.iconst 1, 1) := by decide +kernel
theorem dX7_view_44 : decode cX7_view 44 = .ok (.goto 4, 3) := by decide +kernel
theorem dX7_view_47 : decode cX7_view 47 = .ok (.iconst 0, 1) := by decide +kernel
theorem dX7_view_48 : decode cX7_view 48 = .ok (.ireturn, 1) := by decide +kernel
theorem dX7_isKnownStep_0 : decode cX7_isKnownStep 0 = .ok (.bipush 120, 2) := by decide +kernel
theorem dX7_isKnownStep_2 : decode cX7_isKnownStep 2 = .ok (.iload_n 1, 1) := by decide +kernel
theorem dX7_isKnownStep_3 : decode cX7_isKnownStep 3 = .ok (.imul, 1) := by decide +kernel
theorem dX7_isKnownStep_4 : decode cX7_isKnownStep 4 = .ok (.istore 4, 2) := by decide +kernel
theorem dX7_isKnownStep_6 : decode cX7_isKnownStep 6 = .ok (.iload_n 2, 1) := by decide +kernel
theorem dX7_isKnownStep_7 : decode cX7_isKnownStep 7 = .ok (.iload_n 3, 1) := by decide +kernel
theorem dX7_isKnownStep_8 : decode cX7_isKnownStep 8 = .ok (.invokestatic 56, 3) := by decide +kernel
theorem dX7_isKnownStep_11 : decode cX7_isKnownStep 11 = .ok (.iconst 1, 1) := by decide +kernel
theorem dX7_isKnownStep_12 : decode cX7_isKnownStep 12 = .ok (.if_icmp .ne 46, 3) := by decide +kernel
theorem dX7_isKnownStep_15 : decode cX7_isKnownStep 15 = .ok (.aload_n 0, 1) := by decide +kernel
theorem dX7_isKnownStep_16 : decode cX7_isKnownStep 16 = .ok (.iload_n 1, 1) := by decide +kernel
theorem dX7_isKnownStep_17 : decode cX7_isKnownStep 17 = .ok (.iload_n 3, 1) := by decide +kernel
theorem dX7_isKnownStep_18 : decode cX7_isKnownStep 18 = .ok (.invokevirtual 86, 3) := by decide +kernel
theorem dX7_isKnownStep_21 : decode cX7_isKnownStep 21 = .ok (.ifCond .eq 37, 3) := by decide +kernel
theorem dX7_isKnownStep_24 : decode cX7_isKnownStep 24 = .ok (.aload_n 0, 1) := by decide +kernel
theorem dX7_isKnownStep_25 : decode cX7_isKnownStep 25 = .ok (.getfield 7, 3) := by decide +kernel
theorem dX7_isKnownStep_28 : decode cX7_isKnownStep 28 = .ok (.sipush 788, 3) := by decide +kernel
theorem dX7_isKnownStep_31 : decode cX7_isKnownStep 31 = .ok (.iload 4, 2) := by decide +kernel
theorem dX7_isKnownStep_33 : decode cX7_isKnownStep 33 = .ok (.iadd, 1) := by decide +kernel
theorem dX7_isKnownStep_34 : decode cX7_isKnownStep 34 = .ok (.iload_n 3, 1) := by decide +kernel
theorem dX7_isKnownStep_35 : decode cX7_isKnownStep 35 = .ok (.iadd, 1) := by decide +kernel
theorem dX7_isKnownStep_36 : decode cX7_isKnownStep 36 = .ok (.iaload, 1) := by decide +kernel
theorem dX7_isKnownStep_37 : decode cX7_isKnownStep 37 = .ok (.iconst 1, 1) := by decide +kernel
theorem dX7_isKnownStep_38 : decode cX7_isKnownStep 38 = .ok (.if_icmp .eq 20, 3) := by decide +kernel
theorem dX7_isKnownStep_41 : decode cX7_isKnownStep 41 = .ok (.aload_n 0, 1) := by decide +kernel
theorem dX7_isKnownStep_42 : decode cX7_isKnownStep 42 = .ok (.getfield 7, 3) := by decide +kernel
theorem dX7_isKnownStep_45 : decode cX7_isKnownStep 45 = .ok (.sipush 1028, 3) := by decide +kernel
theorem dX7_isKnownStep_48 : decode cX7_isKnownStep 48 = .ok (.iload 4, 2) := by decide +kernel
theorem dX7_isKnownStep_50 : decode cX7_isKnownStep 50 = .ok (.iadd, 1) := by decide +kernel
theorem dX7_isKnownStep_51 : decode cX7_isKnownStep 51 = .ok (.iload_n 3, 1) := by decide +kernel
theorem dX7_isKnownStep_52 : decode cX7_isKnownStep 52 = .ok (.iadd, 1) := by decide +kernel
theorem dX7_isKnownStep_53 : decode cX7_isKnownStep 53 = .ok (.iaload, 1) := by decide +kernel
theorem dX7_isKnownStep_54 : decode cX7_isKnownStep 54 = .ok (.iconst 1, 1) := by decide +kernel
theorem dX7_isKnownStep_55 : decode cX7_isKnownStep 55 = .ok (.if_icmp .ne 5, 3) := by decide +kernel
theorem dX7_isKnownStep_58 : decode cX7_isKnownStep 58 = .ok (.iconst 0, 1) := by decide +kernel
theorem dX7_isKnownStep_59 : decode cX7_isKnownStep 59 = .ok (.ireturn, 1) := by decide +kernel
theorem dX7_isKnownStep_60 : decode cX7_isKnownStep 60 = .ok (.aload_n 0, 1) := by decide +kernel
theorem dX7_isKnownStep_61 : decode cX7_isKnownStep 61 = .ok (.getfield 7, 3) := by decide +kernel
theorem dX7_isKnownStep_64 : decode cX7_isKnownStep 64 = .ok (.sipush 548, 3) := by decide +kernel
theorem dX7_isKnownStep_67 : decode cX7_isKnownStep 67 = .ok (.iload 4, 2) := by decide +kernel
theorem dX7_isKnownStep_69 : decode cX7_isKnownStep 69 = .ok (.iadd, 1) := by decide +kernel
theorem dX7_isKnownStep_70 : decode cX7_isKnownStep 70 = .ok (.iload_n 2, 1) := by decide +kernel
theorem dX7_isKnownStep_71 : decode cX7_isKnownStep 71 = .ok (.iadd, 1) := by decide +kernel
theorem dX7_isKnownStep_72 : decode cX7_isKnownStep 72 = .ok (.iaload, 1) := by decide +kernel
theorem dX7_isKnownStep_73 : decode cX7_isKnownStep 73 = .ok (.aload_n 0, 1) := by decide +kernel
theorem dX7_isKnownStep_74 : decode cX7_isKnownStep 74 = .ok (.getfield 7, 3) := by decide +kernel
theorem dX7_isKnownStep_77 : decode cX7_isKnownStep 77 = .ok (.sipush 548, 3) := by decide +kernel
theorem dX7_isKnownStep_80 : decode cX7_isKnownStep 80 = .ok (.iload 4, 2) := by decide +kernel
theorem dX7_isKnownStep_82 : decode cX7_isKnownStep 82 = .ok (.iadd, 1) := by decide +kernel
theorem dX7_isKnownStep_83 : decode cX7_isKnownStep 83 = .ok (.iload_n 3, 1) := by decide +kernel
theorem dX7_isKnownStep_84 : decode cX7_isKnownStep 84 = .ok (.iadd, 1) := by decide +kernel
theorem dX7_isKnownStep_85 : decode cX7_isKnownStep 85 = .ok (.iaload, 1) := by decide +kernel
theorem dX7_isKnownStep_86 : decode cX7_isKnownStep 86 = .ok (.invokestatic 36, 3) := by decide +kernel
theorem dX7_isKnownStep_89 : decode cX7_isKnownStep 89 = .ok (.iconst 2, 1) := by decide +kernel
theorem dX7_isKnownStep_90 : decode cX7_isKnownStep 90 = .ok (.if_icmp .gt 7, 3) := by decide +kernel
theorem dX7_isKnownStep_93 : decode cX7_isKnownStep 93 = .ok (.iconst 1, 1) := by decide +kernel
theorem dX7_isKnownStep_94 : decode cX7_isKnownStep 94 = .ok (.goto 4, 3) := by decide +kernel
theorem dX7_isKnownStep_97 : decode cX7_isKnownStep 97 = .ok (.iconst 0, 1) := by decide +kernel
theorem dX7_isKnownStep_98 : decode cX7_isKnownStep 98 = .ok (.ireturn, 1) := by decide +kernel
theorem dX7_findSteps_0 : decode cX7_findSteps 0 = .ok (.iconst 0, 1) := by decide +kernel
theorem dX7_findSteps_1 : decode cX7_findSteps 1 = .ok (.istore_n 3, 1) := by decide +kernel
theorem dX7_findSteps_2 : decode cX7_findSteps 2 = .ok (.iload_n 3, 1) := by decide +kernel
theorem dX7_findSteps_3 : decode cX7_findSteps 3 = .ok (.bipush 120, 2) := by decide +kernel
theorem dX7_findSteps_5 : decode cX7_findSteps 5 = .ok (.if_icmp .ge 26, 3) := by decide +kernel
theorem dX7_findSteps_8 : decode cX7_findSteps 8 = .ok (.aload_n 0, 1) := by decide +kernel
theorem dX7_findSteps_9 : decode cX7_findSteps 9 = .ok (.getfield 22, 3) := by decide +kernel
theorem dX7_findSteps_12 : decode cX7_findSteps 12 = .ok (.iload_n 3, 1) := by decide +kernel
theorem dX7_findSteps_13 : decode cX7_findSteps 13 = .ok (.iload_n 3, 1) := by decide +kernel
theorem dX7_findSteps_14 : decode cX7_findSteps 14 = .ok (.iload_n 2, 1) := by decide +kernel
theorem dX7_findSteps_15 : decode cX7_findSteps 15 = .ok (.if_icmp .ne 7, 3) := by decide +kernel
theorem dX7_findSteps_18 : decode cX7_findSteps 18 = .ok (.iconst 0, 1) := by decide +kernel
theorem dX7_findSteps_19 : decode cX7_findSteps 19 = .ok (.goto 5, 3) := by decide +kernel
theorem dX7_findSteps_22 : decode cX7_findSteps 22 = .ok (.bipush (-19), 2) := by decide +kernel
theorem dX7_findSteps_24 : decode cX7_findSteps 24 = .ok (.iastore, 1) := by decide +kernel
theorem dX7_findSteps_25 : decode cX7_findSteps 25 = .ok (.iinc 3 1, 3) := by decide +kernel
theorem dX7_findSteps_28 : decode cX7_findSteps 28 = .ok (.goto (-26), 3) := by decide +kernel
theorem dX7_findSteps_31 : decode cX7_findSteps 31 = .ok (.iconst 1, 1) := by decide +kernel
theorem dX7_findSteps_32 : decode cX7_findSteps 32 = .ok (.istore_n 3, 1) := by decide +kernel
theorem dX7_findSteps_33 : decode cX7_findSteps 33 = .ok (.iconst 0, 1) := by decide +kernel
theorem dX7_findSteps_34 : decode cX7_findSteps 34 = .ok (.istore 4, 2) := by decide +kernel
theorem dX7_findSteps_36 : decode cX7_findSteps 36 = .ok (.iload_n 3, 1) := by decide +kernel
theorem dX7_findSteps_37 : decode cX7_findSteps 37 = .ok (.ifCond .eq 92, 3) := by decide +kernel
theorem dX7_findSteps_40 : decode cX7_findSteps 40 = .ok (.iconst 0, 1) := by decide +kernel
theorem dX7_findSteps_41 : decode cX7_findSteps 41 = .ok (.istore_n 3, 1) := by decide +kernel
theorem dX7_findSteps_42 : decode cX7_findSteps 42 = .ok (.iconst 0, 1) := by decide +kernel
theorem dX7_findSteps_43 : decode cX7_findSteps 43 = .ok (.istore 5, 2) := by decide +kernel
theorem dX7_findSteps_45 : decode cX7_findSteps 45 = .ok (.iload 5, 2) := by decide +kernel
theorem dX7_findSteps_47 : decode cX7_findSteps 47 = .ok (.bipush 120, 2) := by decide +kernel
theorem dX7_findSteps_49 : decode cX7_findSteps 49 = .ok (.if_icmp .ge 74, 3) := by decide +kernel
theorem dX7_findSteps_52 : decode cX7_findSteps 52 = .ok (.iconst 0, 1) := by decide +kernel
theorem dX7_findSteps_53 : decode cX7_findSteps 53 = .ok (.istore 6, 2) := by decide +kernel
theorem dX7_findSteps_55 : decode cX7_findSteps 55 = .ok (.iload 6, 2) := by decide +kernel
theorem dX7_findSteps_57 : decode cX7_findSteps 57 = .ok (.bipush 120, 2) := by decide +kernel
theorem dX7_findSteps_59 : decode cX7_findSteps 59 = .ok (.if_icmp .ge 58, 3) := by decide +kernel
theorem dX7_findSteps_62 : decode cX7_findSteps 62 = .ok (.aload_n 0, 1) := by decide +kernel
theorem dX7_findSteps_63 : decode cX7_findSteps 63 = .ok (.getfield 22, 3) := by decide +kernel
theorem dX7_findSteps_66 : decode cX7_findSteps 66 = .ok (.iload 5, 2) := by decide +kernel
theorem dX7_findSteps_68 : decode cX7_findSteps 68 = .ok (.iaload, 1) := by decide +kernel
theorem dX7_findSteps_69 : decode cX7_findSteps 69 = .ok (.bipush (-19), 2) := by decide +kernel
theorem dX7_findSteps_71 : decode cX7_findSteps 71 = .ok (.if_icmp .ne 46, 3) := by decide +kernel
theorem dX7_findSteps_74 : decode cX7_findSteps 74 = .ok (.aload_n 0, 1) := by decide +kernel
theorem dX7_findSteps_75 : decode cX7_findSteps 75 = .ok (.getfield 22, 3) := by decide +kernel
theorem dX7_findSteps_78 : decode cX7_findSteps 78 = .ok (.iload 6, 2) := by decide +kernel
theorem dX7_findSteps_80 : decode cX7_findSteps 80 = .ok (.iaload, 1) := by decide +kernel
theorem dX7_findSteps_81 : decode cX7_findSteps 81 = .ok (.iload 4, 2) := by decide +kernel
theorem dX7_findSteps_83 : decode cX7_findSteps 83 = .ok (.if_icmp .ne 28, 3) := by decide +kernel
theorem dX7_findSteps_86 : decode cX7_findSteps 86 = .ok (.aload_n 0, 1) := by decide +kernel
theorem dX7_findSteps_87 : decode cX7_findSteps 87 = .ok (.iload_n 1, 1) := by decide +kernel
theorem dX7_findSteps_88 : decode cX7_findSteps 88 = .ok (.iload 6, 2) := by decide +kernel
theorem dX7_findSteps_90 : decode cX7_findSteps 90 = .ok (.iload 5, 2) := by decide +kernel
theorem dX7_findSteps_92 : decode cX7_findSteps 92 = .ok (.invokevirtual 148, 3) := by decide +kernel
theorem dX7_findSteps_95 : decode cX7_findSteps 95 = .ok (.ifCond .eq 16, 3) := by decide +kernel
theorem dX7_findSteps_98 : decode cX7_findSteps 98 = .ok (.aload_n 0, 1) := by decide +kernel
theorem dX7_findSteps_99 : decode cX7_findSteps 99 = .ok (.getfield 22, 3) := by decide +kernel
theorem dX7_findSteps_102 : decode cX7_findSteps 102 = .ok (.iload 5, 2) := by decide +kernel
theorem dX7_findSteps_104 : decode cX7_findSteps 104 = .ok (.iload 4, 2) := by decide +kernel
theorem dX7_findSteps_106 : decode cX7_findSteps 106 = .ok (.iconst 1, 1) := by decide +kernel
theorem dX7_findSteps_107 : decode cX7_findSteps 107 = .ok (.iadd, 1) := by decide +kernel
theorem dX7_findSteps_108 : decode cX7_findSteps 108 = .ok (.iastore, 1) := by decide +kernel
theorem dX7_findSteps_109 : decode cX7_findSteps 109 = .ok (.iconst 1, 1) := by decide +kernel
theorem dX7_findSteps_110 : decode cX7_findSteps 110 = .ok (.istore_n 3, 1) := by decide +kernel
theorem dX7_findSteps_111 : decode cX7_findSteps 111 = .ok (.iinc 6 1, 3) := by decide +kernel
theorem dX7_findSteps_114 : decode cX7_findSteps 114 = .ok (.goto (-59), 3) := by decide +kernel
theorem dX7_findSteps_117 : decode cX7_findSteps 117 = .ok (.iinc 5 1, 3) := by decide +kernel
theorem dX7_findSteps_120 : decode cX7_findSteps 120 = .ok (.goto (-75), 3) := by decide +kernel
theorem dX7_findSteps_123 : decode cX7_findSteps 123 = .ok (.iinc 4 1, 3) := by decide +kernel
theorem dX7_findSteps_126 : decode cX7_findSteps 126 = .ok (.goto (-90), 3) := by decide +kernel
theorem dX7_findSteps_129 : decode cX7_findSteps 129 = .ok (.return_, 1) := by decide +kernel
theorem dX7_way_0 : decode cX7_way 0 = .ok (.aload_n 0, 1) := by decide +kernel
theorem dX7_way_1 : decode cX7_way 1 = .ok (.iconst 0, 1) := by decide +kernel
theorem dX7_way_2 : decode cX7_way 2 = .ok (.putfield 25, 3) := by decide +kernel
theorem dX7_way_5 : decode cX7_way 5 = .ok (.aload_n 0, 1) := by decide +kernel
theorem dX7_way_6 : decode cX7_way 6 = .ok (.iload_n 1, 1) := by decide +kernel
theorem dX7_way_7 : decode cX7_way 7 = .ok (.invokevirtual 120, 3) := by decide +kernel
theorem dX7_way_10 : decode cX7_way 10 = .ok (.ifCond .eq 11, 3) := by decide +kernel
theorem dX7_way_13 : decode cX7_way 13 = .ok (.iload_n 2, 1) := by decide +kernel
theorem dX7_way_14 : decode cX7_way 14 = .ok (.iload_n 3, 1) := by decide +kernel
theorem dX7_way_15 : decode cX7_way 15 = .ok (.invokestatic 95, 3) := by decide +kernel
theorem dX7_way_18 : decode cX7_way 18 = .ok (.ifCond .ne 6, 3) := by decide +kernel
theorem dX7_way_21 : decode cX7_way 21 = .ok (.bipush (-11), 2) := by decide +kernel
theorem dX7_way_23 : decode cX7_way 23 = .ok (.ireturn, 1) := by decide +kernel
theorem dX7_way_24 : decode cX7_way 24 = .ok (.aload_n 0, 1) := by decide +kernel
theorem dX7_way_25 : decode cX7_way 25 = .ok (.aload_n 0, 1) := by decide +kernel
theorem dX7_way_26 : decode cX7_way 26 = .ok (.iload_n 1, 1) := by decide +kernel
theorem dX7_way_27 : decode cX7_way 27 = .ok (.iconst 0, 1) := by decide +kernel
theorem dX7_way_28 : decode cX7_way 28 = .ok (.invokevirtual 43, 3) := by decide +kernel
theorem dX7_way_31 : decode cX7_way 31 = .ok (.aload_n 0, 1) := by decide +kernel
theorem dX7_way_32 : decode cX7_way 32 = .ok (.iload_n 1, 1) := by decide +kernel
theorem dX7_way_33 : decode cX7_way 33 = .ok (.invokevirtual 49, 3) := by decide +kernel
theorem dX7_way_36 : decode cX7_way 36 = .ok (.invokevirtual 151, 3) := by decide +kernel
theorem dX7_way_39 : decode cX7_way 39 = .ok (.aload_n 0, 1) := by decide +kernel
theorem dX7_way_40 : decode cX7_way 40 = .ok (.getfield 22, 3) := by decide +kernel
theorem dX7_way_43 : decode cX7_way 43 = .ok (.iload_n 2, 1) := by decide +kernel
theorem dX7_way_44 : decode cX7_way 44 = .ok (.iload_n 3, 1) := by decide +kernel
theorem dX7_way_45 : decode cX7_way 45 = .ok (.invokestatic 46, 3) := by decide +kernel
theorem dX7_way_48 : decode cX7_way 48 = .ok (.iaload, 1) := by decide +kernel
theorem dX7_way_49 : decode cX7_way 49 = .ok (.ireturn, 1) := by decide +kernel
theorem dX7_lookout_0 : decode cX7_lookout 0 = .ok (.aload_n 0, 1) := by decide +kernel
theorem dX7_lookout_1 : decode cX7_lookout 1 = .ok (.iconst 0, 1) := by decide +kernel
theorem dX7_lookout_2 : decode cX7_lookout 2 = .ok (.putfield 25, 3) := by decide +kernel
theorem dX7_lookout_5 : decode cX7_lookout 5 = .ok (.aload_n 0, 1) := by decide +kernel
theorem dX7_lookout_6 : decode cX7_lookout 6 = .ok (.iload_n 1, 1) := by decide +kernel
theorem dX7_lookout_7 : decode cX7_lookout 7 = .ok (.invokevirtual 120, 3) := by decide +kernel
theorem dX7_lookout_10 : decode cX7_lookout 10 = .ok (.ifCond .eq 13, 3) := by decide +kernel
theorem dX7_lookout_13 : decode cX7_lookout 13 = .ok (.iload_n 2, 1) := by decide +kernel
theorem dX7_lookout_14 : decode cX7_lookout 14 = .ok (.iconst 0, 1) := by decide +kernel
theorem dX7_lookout_15 : decode cX7_lookout 15 = .ok (.bipush 11, 2) := by decide +kernel
theorem dX7_lookout_17 : decode cX7_lookout 17 = .ok (.invokestatic 32, 3) := by decide +kernel
theorem dX7_lookout_20 : decode cX7_lookout 20 = .ok (.ifCond .ne 6, 3) := by decide +kernel
theorem dX7_lookout_23 : decode cX7_lookout 23 = .ok (.bipush (-11), 2) := by decide +kernel
theorem dX7_lookout_25 : decode cX7_lookout 25 = .ok (.ireturn, 1) := by decide +kernel
theorem dX7_lookout_26 : decode cX7_lookout 26 = .ok (.bipush (-19), 2) := by decide +kernel
theorem dX7_lookout_28 : decode cX7_lookout 28 = .ok (.istore_n 3, 1) := by decide +kernel
theorem dX7_lookout_29 : decode cX7_lookout 29 = .ok (.iconst (-1), 1) := by decide +kernel
theorem dX7_lookout_30 : decode cX7_lookout 30 = .ok (.istore 4, 2) := by decide +kernel
theorem dX7_lookout_32 : decode cX7_lookout 32 = .ok (.iconst 0, 1) := by decide +kernel
theorem dX7_lookout_33 : decode cX7_lookout 33 = .ok (.istore 5, 2) := by decide +kernel
theorem dX7_lookout_35 : decode cX7_lookout 35 = .ok (.iload 5, 2) := by decide +kernel
theorem dX7_lookout_37 : decode cX7_lookout 37 = .ok (.bipush 12, 2) := by decide +kernel
theorem dX7_lookout_39 : decode cX7_lookout 39 = .ok (.if_icmp .ge 142, 3) := by decide +kernel
theorem dX7_lookout_42 : decode cX7_lookout 42 = .ok (.iconst 0, 1) := by decide +kernel
theorem dX7_lookout_43 : decode cX7_lookout 43 = .ok (.istore 6, 2) := by decide +kernel
theorem dX7_lookout_45 : decode cX7_lookout 45 = .ok (.iload 6, 2) := by decide +kernel
theorem dX7_lookout_47 : decode cX7_lookout 47 = .ok (.bipush 10, 2) := by decide +kernel
theorem dX7_lookout_49 : decode cX7_lookout 49 = .ok (.if_icmp .ge 126, 3) := by decide +kernel
theorem dX7_lookout_52 : decode cX7_lookout 52 = .ok (.iload 5, 2) := by decide +kernel
theorem dX7_lookout_54 : decode cX7_lookout 54 = .ok (.iload 6, 2) := by decide +kernel
theorem dX7_lookout_56 : decode cX7_lookout 56 = .ok (.invokestatic 46, 3) := by decide +kernel
theorem dX7_lookout_59 : decode cX7_lookout 59 = .ok (.istore 7, 2) := by decide +kernel
theorem dX7_lookout_61 : decode cX7_lookout 61 = .ok (.aload_n 0, 1) := by decide +kernel
theorem dX7_lookout_62 : decode cX7_lookout 62 = .ok (.getfield 7, 3) := by decide +kernel
theorem dX7_lookout_65 : decode cX7_lookout 65 = .ok (.sipush 188, 3) := by decide +kernel
theorem dX7_lookout_68 : decode cX7_lookout 68 = .ok (.iload 7, 2) := by decide +kernel
theorem dX7_lookout_70 : decode cX7_lookout 70 = .ok (.iadd, 1) := by decide +kernel
theorem dX7_lookout_71 : decode cX7_lookout 71 = .ok (.iaload, 1) := by decide +kernel
theorem dX7_lookout_72 : decode cX7_lookout 72 = .ok (.ifCond .ne 42, 3) := by decide +kernel
theorem dX7_lookout_75 : decode cX7_lookout 75 = .ok (.aload_n 0, 1) := by decide +kernel
theorem dX7_lookout_76 : decode cX7_lookout 76 = .ok (.iload 7, 2) := by decide +kernel
theorem dX7_lookout_78 : decode cX7_lookout 78 = .ok (.invokevirtual 83, 3) := by decide +kernel
theorem dX7_lookout_81 : decode cX7_lookout 81 = .ok (.bipush (-19), 2) := by decide +kernel
theorem dX7_lookout_83 : decode cX7_lookout 83 = .ok (.if_icmp .eq 13, 3) := by decide +kernel
theorem dX7_lookout_86 : decode cX7_lookout 86 = .ok (.aload_n 0, 1) := by decide +kernel
theorem dX7_lookout_87 : decode cX7_lookout 87 = .ok (.iload 7, 2) := by decide +kernel
theorem dX7_lookout_89 : decode cX7_lookout 89 = .ok (.invokevirtual 83, 3) := by decide +kernel
theorem dX7_lookout_92 : decode cX7_lookout 92 = .ok (.iload_n 1, 1) := by decide +kernel
theorem dX7_lookout_93 : decode cX7_lookout 93 = .ok (.if_icmp .ne 21, 3) := by decide +kernel
theorem dX7_lookout_96 : decode cX7_lookout 96 = .ok (.aload_n 0, 1) := by decide +kernel
theorem dX7_lookout_97 : decode cX7_lookout 97 = .ok (.iload_n 1, 1) := by decide +kernel
theorem dX7_lookout_98 : decode cX7_lookout 98 = .ok (.invokevirtual 49, 3) := by decide +kernel
theorem dX7_lookout_101 : decode cX7_lookout 101 = .ok (.iload 7, 2) := by decide +kernel
theorem dX7_lookout_103 : decode cX7_lookout 103 = .ok (.invokestatic 56, 3) := by decide +kernel
theorem dX7_lookout_106 : decode cX7_lookout 106 = .ok (.iload_n 2, 1) := by decide +kernel
theorem dX7_lookout_107 : decode cX7_lookout 107 = .ok (.if_icmp .gt 7, 3) := by decide +kernel
theorem dX7_lookout_110 : decode cX7_lookout 110 = .ok (.iconst 1, 1) := by decide +kernel
theorem dX7_lookout_111 : decode cX7_lookout 111 = .ok (.goto 4, 3) := by decide +kernel
theorem dX7_lookout_114 : decode cX7_lookout 114 = .ok (.iconst 0, 1) := by decide +kernel
theorem dX7_lookout_115 : decode cX7_lookout 115 = .ok (.istore 8, 2) := by decide +kernel
theorem dX7_lookout_117 : decode cX7_lookout 117 = .ok (.iload 8, 2) := by decide +kernel
theorem dX7_lookout_119 : decode cX7_lookout 119 = .ok (.ifCond .eq 18, 3) := by decide +kernel
theorem dX7_lookout_122 : decode cX7_lookout 122 = .ok (.aload_n 0, 1) := by decide +kernel
theorem dX7_lookout_123 : decode cX7_lookout 123 = .ok (.iload 7, 2) := by decide +kernel
theorem dX7_lookout_125 : decode cX7_lookout 125 = .ok (.aload_n 0, 1) := by decide +kernel
theorem dX7_lookout_126 : decode cX7_lookout 126 = .ok (.iload_n 1, 1) := by decide +kernel
theorem dX7_lookout_127 : decode cX7_lookout 127 = .ok (.iconst 3, 1) := by decide +kernel
theorem dX7_lookout_128 : decode cX7_lookout 128 = .ok (.invokevirtual 43, 3) := by decide +kernel
theorem dX7_lookout_131 : decode cX7_lookout 131 = .ok (.invokevirtual 145, 3) := by decide +kernel
theorem dX7_lookout_134 : decode cX7_lookout 134 = .ok (.goto 4, 3) := by decide +kernel
theorem dX7_lookout_137 : decode cX7_lookout 137 = .ok (.iconst (-1), 1) := by decide +kernel
theorem dX7_lookout_138 : decode cX7_lookout 138 = .ok (.istore 9, 2) := by decide +kernel
theorem dX7_lookout_140 : decode cX7_lookout 140 = .ok (.iload 9, 2) := by decide +kernel
theorem dX7_lookout_142 : decode cX7_lookout 142 = .ok (.iload 4, 2) := by decide +kernel
theorem dX7_lookout_144 : decode cX7_lookout 144 = .ok (.if_icmp .le 14, 3) := by decide +kernel
theorem dX7_lookout_147 : decode cX7_lookout 147 = .ok (.bipush 100, 2) := by decide +kernel
theorem dX7_lookout_149 : decode cX7_lookout 149 = .ok (.iload 5, 2) := by decide +kernel
theorem dX7_lookout_151 : decode cX7_lookout 151 = .ok (.imul, 1) := by decide +kernel
theorem dX7_lookout_152 : decode cX7_lookout 152 = .ok (.iload 6, 2) := by decide +kernel
theorem dX7_lookout_154 : decode cX7_lookout 154 = .ok (.iadd, 1) := by decide +kernel
theorem dX7_lookout_155 : decode cX7_lookout 155 = .ok (.goto 4, 3) := by decide +kernel
theorem dX7_lookout_158 : decode cX7_lookout 158 = .ok (.iload_n 3, 1) := by decide +kernel
theorem dX7_lookout_159 : decode cX7_lookout 159 = .ok (.istore_n 3, 1) := by decide +kernel
theorem dX7_lookout_160 : decode cX7_lookout 160 = .ok (.iload 4, 2) := by decide +kernel
theorem dX7_lookout_162 : decode cX7_lookout 162 = .ok (.iload 9, 2) := by decide +kernel
theorem dX7_lookout_164 : decode cX7_lookout 164 = .ok (.invokestatic 40, 3) := by decide +kernel
theorem dX7_lookout_167 : decode cX7_lookout 167 = .ok (.istore 4, 2) := by decide +kernel
theorem dX7_lookout_169 : decode cX7_lookout 169 = .ok (.iinc 6 1, 3) := by decide +kernel
theorem dX7_lookout_172 : decode cX7_lookout 172 = .ok (.goto (-127), 3) := by decide +kernel
theorem dX7_lookout_175 : decode cX7_lookout 175 = .ok (.iinc 5 1, 3) := by decide +kernel
theorem dX7_lookout_178 : decode cX7_lookout 178 = .ok (.goto (-143), 3) := by decide +kernel
theorem dX7_lookout_181 : decode cX7_lookout 181 = .ok (.iload_n 3, 1) := by decide +kernel
theorem dX7_lookout_182 : decode cX7_lookout 182 = .ok (.ireturn, 1) := by decide +kernel
theorem dX7_alone_0 : decode cX7_alone 0 = .ok (.aload_n 0, 1) := by decide +kernel
theorem dX7_alone_1 : decode cX7_alone 1 = .ok (.iconst 0, 1) := by decide +kernel
theorem dX7_alone_2 : decode cX7_alone 2 = .ok (.putfield 25, 3) := by decide +kernel
theorem dX7_alone_5 : decode cX7_alone 5 = .ok (.aload_n 0, 1) := by decide +kernel
theorem dX7_alone_6 : decode cX7_alone 6 = .ok (.iload_n 1, 1) := by decide +kernel
theorem dX7_alone_7 : decode cX7_alone 7 = .ok (.invokevirtual 120, 3) := by decide +kernel
theorem dX7_alone_10 : decode cX7_alone 10 = .ok (.ifCond .ne 6, 3) := by decide +kernel
theorem dX7_alone_13 : decode cX7_alone 13 = .ok (.bipush (-11), 2) := by decide +kernel
theorem dX7_alone_15 : decode cX7_alone 15 = .ok (.ireturn, 1) := by decide +kernel
theorem dX7_alone_16 : decode cX7_alone 16 = .ok (.iconst 0, 1) := by decide +kernel
theorem dX7_alone_17 : decode cX7_alone 17 = .ok (.istore_n 2, 1) := by decide +kernel
theorem dX7_alone_18 : decode cX7_alone 18 = .ok (.iconst 0, 1) := by decide +kernel
theorem dX7_alone_19 : decode cX7_alone 19 = .ok (.istore_n 3, 1) := by decide +kernel
theorem dX7_alone_20 : decode cX7_alone 20 = .ok (.iload_n 3, 1) := by decide +kernel
theorem dX7_alone_21 : decode cX7_alone 21 = .ok (.bipush 120, 2) := by decide +kernel
theorem dX7_alone_23 : decode cX7_alone 23 = .ok (.if_icmp .ge 94, 3) := by decide +kernel
theorem dX7_alone_26 : decode cX7_alone 26 = .ok (.aload_n 0, 1) := by decide +kernel
theorem dX7_alone_27 : decode cX7_alone 27 = .ok (.iload_n 1, 1) := by decide +kernel
theorem dX7_alone_28 : decode cX7_alone 28 = .ok (.iload_n 3, 1) := by decide +kernel
theorem dX7_alone_29 : decode cX7_alone 29 = .ok (.invokevirtual 77, 3) := by decide +kernel
theorem dX7_alone_32 : decode cX7_alone 32 = .ok (.istore 4, 2) := by decide +kernel
theorem dX7_alone_34 : decode cX7_alone 34 = .ok (.iconst 0, 1) := by decide +kernel
theorem dX7_alone_35 : decode cX7_alone 35 = .ok (.istore 5, 2) := by decide +kernel
theorem dX7_alone_37 : decode cX7_alone 37 = .ok (.iload 5, 2) := by decide +kernel
theorem dX7_alone_39 : decode cX7_alone 39 = .ok (.aload_n 0, 1) := by decide +kernel
theorem dX7_alone_40 : decode cX7_alone 40 = .ok (.getfield 7, 3) := by decide +kernel
theorem dX7_alone_43 : decode cX7_alone 43 = .ok (.iconst 0, 1) := by decide +kernel
theorem dX7_alone_44 : decode cX7_alone 44 = .ok (.iaload, 1) := by decide +kernel
theorem dX7_alone_45 : decode cX7_alone 45 = .ok (.if_icmp .ge 53, 3) := by decide +kernel
theorem dX7_alone_48 : decode cX7_alone 48 = .ok (.iload 4, 2) := by decide +kernel
theorem dX7_alone_50 : decode cX7_alone 50 = .ok (.ifCond .eq 48, 3) := by decide +kernel
theorem dX7_alone_53 : decode cX7_alone 53 = .ok (.iload 5, 2) := by decide +kernel
theorem dX7_alone_55 : decode cX7_alone 55 = .ok (.iload_n 1, 1) := by decide +kernel
theorem dX7_alone_56 : decode cX7_alone 56 = .ok (.if_icmp .eq 29, 3) := by decide +kernel
theorem dX7_alone_59 : decode cX7_alone 59 = .ok (.aload_n 0, 1) := by decide +kernel
theorem dX7_alone_60 : decode cX7_alone 60 = .ok (.iload 5, 2) := by decide +kernel
theorem dX7_alone_62 : decode cX7_alone 62 = .ok (.iconst 0, 1) := by decide +kernel
theorem dX7_alone_63 : decode cX7_alone 63 = .ok (.invokevirtual 43, 3) := by decide +kernel
theorem dX7_alone_66 : decode cX7_alone 66 = .ok (.aload_n 0, 1) := by decide +kernel
theorem dX7_alone_67 : decode cX7_alone 67 = .ok (.iload_n 1, 1) := by decide +kernel
theorem dX7_alone_68 : decode cX7_alone 68 = .ok (.iconst 0, 1) := by decide +kernel
theorem dX7_alone_69 : decode cX7_alone 69 = .ok (.invokevirtual 43, 3) := by decide +kernel
theorem dX7_alone_72 : decode cX7_alone 72 = .ok (.if_icmp .ne 13, 3) := by decide +kernel
theorem dX7_alone_75 : decode cX7_alone 75 = .ok (.aload_n 0, 1) := by decide +kernel
theorem dX7_alone_76 : decode cX7_alone 76 = .ok (.iload 5, 2) := by decide +kernel
theorem dX7_alone_78 : decode cX7_alone 78 = .ok (.iload_n 3, 1) := by decide +kernel
theorem dX7_alone_79 : decode cX7_alone 79 = .ok (.invokevirtual 77, 3) := by decide +kernel
theorem dX7_alone_82 : decode cX7_alone 82 = .ok (.ifCond .ne 7, 3) := by decide +kernel
theorem dX7_alone_85 : decode cX7_alone 85 = .ok (.iconst 1, 1) := by decide +kernel
theorem dX7_alone_86 : decode cX7_alone 86 = .ok (.goto 4, 3) := by decide +kernel
theorem dX7_alone_89 : decode cX7_alone 89 = .ok (.iconst 0, 1) := by decide +kernel
theorem dX7_alone_90 : decode cX7_alone 90 = .ok (.istore 4, 2) := by decide +kernel
theorem dX7_alone_92 : decode cX7_alone 92 = .ok (.iinc 5 1, 3) := by decide +kernel
theorem dX7_alone_95 : decode cX7_alone 95 = .ok (.goto (-58), 3) := by decide +kernel
theorem dX7_alone_98 : decode cX7_alone 98 = .ok (.iload_n 2, 1) := by decide +kernel
theorem dX7_alone_99 : decode cX7_alone 99 = .ok (.iload 4, 2) := by decide +kernel
theorem dX7_alone_101 : decode cX7_alone 101 = .ok (.ifCond .eq 7, 3) := by decide +kernel
theorem dX7_alone_104 : decode cX7_alone 104 = .ok (.iconst 1, 1) := by decide +kernel
theorem dX7_alone_105 : decode cX7_alone 105 = .ok (.goto 4, 3) := by decide +kernel
theorem dX7_alone_108 : decode cX7_alone 108 = .ok (.iconst 0, 1) := by decide +kernel
theorem dX7_alone_109 : decode cX7_alone 109 = .ok (.iadd, 1) := by decide +kernel
theorem dX7_alone_110 : decode cX7_alone 110 = .ok (.istore_n 2, 1) := by decide +kernel
theorem dX7_alone_111 : decode cX7_alone 111 = .ok (.iinc 3 1, 3) := by decide +kernel
theorem dX7_alone_114 : decode cX7_alone 114 = .ok (.goto (-94), 3) := by decide +kernel
theorem dX7_alone_117 : decode cX7_alone 117 = .ok (.iload_n 2, 1) := by decide +kernel
theorem dX7_alone_118 : decode cX7_alone 118 = .ok (.ireturn, 1) := by decide +kernel
theorem dJ9_floorDiv_7cf53_0 : decode cJ9_floorDiv_7cf53 0 = .ok (.iload_n 0, 1) := by decide +kernel
theorem dJ9_floorDiv_7cf53_1 : decode cJ9_floorDiv_7cf53 1 = .ok (.iload_n 1, 1) := by decide +kernel
theorem dJ9_floorDiv_7cf53_2 : decode cJ9_floorDiv_7cf53 2 = .ok (.idiv, 1) := by decide +kernel
theorem dJ9_floorDiv_7cf53_3 : decode cJ9_floorDiv_7cf53 3 = .ok (.istore_n 2, 1) := by decide +kernel
theorem dJ9_floorDiv_7cf53_4 : decode cJ9_floorDiv_7cf53 4 = .ok (.iload_n 0, 1) := by decide +kernel
theorem dJ9_floorDiv_7cf53_5 : decode cJ9_floorDiv_7cf53 5 = .ok (.iload_n 1, 1) := by decide +kernel
theorem dJ9_floorDiv_7cf53_6 : decode cJ9_floorDiv_7cf53 6 = .ok (.ixor, 1) := by decide +kernel
theorem dJ9_floorDiv_7cf53_7 : decode cJ9_floorDiv_7cf53 7 = .ok (.ifCond .ge 14, 3) := by decide +kernel
theorem dJ9_floorDiv_7cf53_10 : decode cJ9_floorDiv_7cf53 10 = .ok (.iload_n 2, 1) := by decide +kernel
theorem dJ9_floorDiv_7cf53_11 : decode cJ9_floorDiv_7cf53 11 = .ok (.iload_n 1, 1) := by decide +kernel
theorem dJ9_floorDiv_7cf53_12 : decode cJ9_floorDiv_7cf53 12 = .ok (.imul, 1) := by decide +kernel
theorem dJ9_floorDiv_7cf53_13 : decode cJ9_floorDiv_7cf53 13 = .ok (.iload_n 0, 1) := by decide +kernel
theorem dJ9_floorDiv_7cf53_14 : decode cJ9_floorDiv_7cf53 14 = .ok (.if_icmp .eq 7, 3) := by decide +kernel
theorem dJ9_floorDiv_7cf53_17 : decode cJ9_floorDiv_7cf53 17 = .ok (.iload_n 2, 1) := by decide +kernel
theorem dJ9_floorDiv_7cf53_18 : decode cJ9_floorDiv_7cf53 18 = .ok (.iconst 1, 1) := by decide +kernel
theorem dJ9_floorDiv_7cf53_19 : decode cJ9_floorDiv_7cf53 19 = .ok (.isub, 1) := by decide +kernel
theorem dJ9_floorDiv_7cf53_20 : decode cJ9_floorDiv_7cf53 20 = .ok (.ireturn, 1) := by decide +kernel
theorem dJ9_floorDiv_7cf53_21 : decode cJ9_floorDiv_7cf53 21 = .ok (.iload_n 2, 1) := by decide +kernel
theorem dJ9_floorDiv_7cf53_22 : decode cJ9_floorDiv_7cf53 22 = .ok (.ireturn, 1) := by decide +kernel
theorem dJ9_abs_0f7a4_0 : decode cJ9_abs_0f7a4 0 = .ok (.iload_n 0, 1) := by decide +kernel
theorem dJ9_abs_0f7a4_1 : decode cJ9_abs_0f7a4 1 = .ok (.ifCond .ge 8, 3) := by decide +kernel
theorem dJ9_abs_0f7a4_4 : decode cJ9_abs_0f7a4 4 = .ok (.iload_n 0, 1) := by decide +kernel
theorem dJ9_abs_0f7a4_5 : decode cJ9_abs_0f7a4 5 = .ok (.ineg, 1) := by decide +kernel
theorem dJ9_abs_0f7a4_6 : decode cJ9_abs_0f7a4 6 = .ok (.goto 4, 3) := by decide +kernel
theorem dJ9_abs_0f7a4_9 : decode cJ9_abs_0f7a4 9 = .ok (.iload_n 0, 1) := by decide +kernel
theorem dJ9_abs_0f7a4_10 : decode cJ9_abs_0f7a4 10 = .ok (.ireturn, 1) := by decide +kernel
theorem dJ9_max_7cf53_0 : decode cJ9_max_7cf53 0 = .ok (.iload_n 0, 1) := by decide +kernel
theorem dJ9_max_7cf53_1 : decode cJ9_max_7cf53 1 = .ok (.iload_n 1, 1) := by decide +kernel
theorem dJ9_max_7cf53_2 : decode cJ9_max_7cf53 2 = .ok (.if_icmp .lt 7, 3) := by decide +kernel
theorem dJ9_max_7cf53_5 : decode cJ9_max_7cf53 5 = .ok (.iload_n 0, 1) := by decide +kernel
theorem dJ9_max_7cf53_6 : decode cJ9_max_7cf53 6 = .ok (.goto 4, 3) := by decide +kernel
theorem dJ9_max_7cf53_9 : decode cJ9_max_7cf53 9 = .ok (.iload_n 1, 1) := by decide +kernel
theorem dJ9_max_7cf53_10 : decode cJ9_max_7cf53 10 = .ok (.ireturn, 1) := by decide +kernel
theorem dJ9_min_7cf53_0 : decode cJ9_min_7cf53 0 = .ok (.iload_n 0, 1) := by decide +kernel
theorem dJ9_min_7cf53_1 : decode cJ9_min_7cf53 1 = .ok (.iload_n 1, 1) := by decide +kernel
theorem dJ9_min_7cf53_2 : decode cJ9_min_7cf53 2 = .ok (.if_icmp .gt 7, 3) := by decide +kernel
theorem dJ9_min_7cf53_5 : decode cJ9_min_7cf53 5 = .ok (.iload_n 0, 1) := by decide +kernel
theorem dJ9_min_7cf53_6 : decode cJ9_min_7cf53 6 = .ok (.goto 4, 3) := by decide +kernel
theorem dJ9_min_7cf53_9 : decode cJ9_min_7cf53 9 = .ok (.iload_n 1, 1) := by decide +kernel
theorem dJ9_min_7cf53_10 : decode cJ9_min_7cf53 10 = .ok (.ireturn, 1) := by decide +kernel
theorem dJ7_fill_53178_0 : decode cJ7_fill_53178 0 = .ok (.iconst 0, 1) := by decide +kernel
theorem dJ7_fill_53178_1 : decode cJ7_fill_53178 1 = .ok (.istore_n 2, 1) := by decide +kernel
theorem dJ7_fill_53178_2 : decode cJ7_fill_53178 2 = .ok (.aload_n 0, 1) := by decide +kernel
theorem dJ7_fill_53178_3 : decode cJ7_fill_53178 3 = .ok (.arraylength, 1) := by decide +kernel
theorem dJ7_fill_53178_4 : decode cJ7_fill_53178 4 = .ok (.istore_n 3, 1) := by decide +kernel
theorem dJ7_fill_53178_5 : decode cJ7_fill_53178 5 = .ok (.iload_n 2, 1) := by decide +kernel
theorem dJ7_fill_53178_6 : decode cJ7_fill_53178 6 = .ok (.iload_n 3, 1) := by decide +kernel
theorem dJ7_fill_53178_7 : decode cJ7_fill_53178 7 = .ok (.if_icmp .ge 13, 3) := by decide +kernel
theorem dJ7_fill_53178_10 : decode cJ7_fill_53178 10 = .ok (.aload_n 0, 1) := by decide +kernel
theorem dJ7_fill_53178_11 : decode cJ7_fill_53178 11 = .ok (.iload_n 2, 1) := by decide +kernel
theorem dJ7_fill_53178_12 : decode cJ7_fill_53178 12 = .ok (.iload_n 1, 1) := by decide +kernel
theorem dJ7_fill_53178_13 : decode cJ7_fill_53178 13 = .ok (.iastore, 1) := by decide +kernel
theorem dJ7_fill_53178_14 : decode cJ7_fill_53178 14 = .ok (.iinc 2 1, 3) := by decide +kernel
theorem dJ7_fill_53178_17 : decode cJ7_fill_53178 17 = .ok (.goto (-12), 3) := by decide +kernel
theorem dJ7_fill_53178_20 : decode cJ7_fill_53178 20 = .ok (.return_, 1) := by decide +kernel
abbrev cL_law : ByteArray := code
end
section
/-! ===== THE ABSTRACT MACHINE'S VALUES, SHAPES AND MEMORY ===== -/
abbrev AV : Type := Int ⊕ Option Nat
abbrev Mem : Type := Nat → Int → Int
abbrev Sh1 : Type := Nat × Nat × List (Option (Option Nat))
abbrev Shp : Type := List Sh1
def cv (base : Nat) (v : AV) : Value := match v with
  | .inl z => .int (Int32.ofInt z)
  | .inr none => .null
  | .inr (some a) => .ref (base + a)
def rr (base : Nat) (fs : List (Option (Option Nat))) (k : Nat) : Option Nat := match fs[k]? with
  | some (some (some a)) => some (base + a)
  | _ => none
def fv (base : Nat) (row : Int → Int) (fs : List (Option (Option Nat))) (k : Nat) : Value := match fs[k]? with
  | some (some (some a)) => .ref (base + a)
  | some (some none) => .null
  | _ => .int (Int32.ofInt (row (k : Int)))
def Cl (base : Nat) (D : va_G) (cI cM cS : ClassId) (a : Nat) (c : Sh1) (row : Int → Int) (H : Heap) : Prop := match c.1 with
  | 0 => H[base + a]? = some (vp_cell cI (c.2.1, .inl (fun j : Nat => Int32.ofInt (row (j : Int)))))
  | 1 => H[base + a]? = some (vp_cell cM (c.2.1, .inr (.inr (.inr (.inr (rr base c.2.2))))))
  | 2 => H[base + a]? = some (vp_cell cS (c.2.1, .inr (.inr (.inr (.inr (rr base c.2.2))))))
  | t + 3 => c.2.2.length = c.2.1 ∧ ∃ r : vw_C, vwCl[t]? = some r ∧ r.2.2 = c.2.1 ∧ t_OB (base + a) (D.1 t) r.2.2 (D.2 t) H (fv base row c.2.2)
def Wh (base : Nat) (D : va_G) (cI cM cS : ClassId) (sh : Shp) (M : Mem) (H : Heap) : Prop := H.size = base + sh.length ∧ ∀ (k : Nat) (c : Sh1), sh[k]? = some c → Cl base D cI cM cS k c (M k) H
abbrev tysOf (cI cM cS : ClassId) : List (ClassId × FieldType) := [(cI, .int), (cM, .object RX1), (cS, .object RX3)]
def NK (U : State) : Prop := (∀ q ∈ fm_NL, va_Nw (.methodLinkNest q.1 q.2.1 q.2.2.1 q.2.2.2) U) ∧ va_AO RX1 U ∧ va_AO RX3 U
theorem NK.moved {s U : State} (hW : s.WarmedH U.vm) (h : NK s) : NK U := ⟨fun q hq => va_Nw.warmM hW (h.1 q hq), h.2.1.moved hW.alike, h.2.2.moved hW.alike⟩
theorem NK.same {u U : State} (e : u.vm = U.vm) (h : NK u) : NK U := ⟨fun q hq => va_Nw.same rfl e (h.1 q hq), h.2.1.moved (e ▸ Vm.Alike.refl u.vm), h.2.2.moved (e ▸ Vm.Alike.refl u.vm)⟩
theorem Cl.kept {base : Nat} {D : va_G} {cI cM cS : ClassId} {a : Nat} {c : Sh1} {row : Int → Int} {H H1 : Heap} (h : Cl base D cI cM cS a c row H) (e : H1[base + a]? = H[base + a]?) : Cl base D cI cM cS a c row H1 := by
  obtain ⟨t, n, fs⟩ := c
  match t, h with
  | 0, h => exact e.trans h
  | 1, h => exact e.trans h
  | 2, h => exact e.trans h
  | t + 3, h => obtain ⟨hl, r, h1, h2, h3⟩ := h; exact ⟨hl, r, h1, h2, h3.kept e⟩
theorem Wh.lt {base : Nat} {D : va_G} {cI cM cS : ClassId} {sh : Shp} {M : Mem} {H : Heap} (h : Wh base D cI cM cS sh M H) {a : Nat} {c : Sh1} (hs : sh[a]? = some c) : base + a < H.size := by
  have := (List.getElem?_eq_some_iff.mp hs).1
  rw [h.1]; omega
theorem Wh.put {base : Nat} {D : va_G} {cI cM cS : ClassId} {sh : Shp} {M M' : Mem} {H H1 : Heap} (h : Wh base D cI cM cS sh M H) {a : Nat} {c c' : Sh1} (hs : sh[a]? = some c) (hM : ∀ b, b ≠ a → M' b = M b) (hc : Cl base D cI cM cS a c' (M' a) H1) (z : H1.size = H.size) (oq : ∀ q, q ≠ base + a → H1[q]? = H[q]?) : Wh base D cI cM cS (sh.set a c') M' H1 := by
  have hl := (List.getElem?_eq_some_iff.mp hs).1
  refine ⟨by rw [z, h.1, List.length_set], fun k x hk => ?_⟩
  by_cases e : k = a
  · subst e
    rw [List.getElem?_set_self hl] at hk
    cases hk
    exact hc
  · rw [List.getElem?_set_ne (Ne.symm e)] at hk
    rw [hM k e]
    exact (h.2 k x hk).kept (oq _ (by omega))
theorem shp_set {sh : Shp} {a : Nat} {c : Sh1} (hs : sh[a]? = some c) : sh.set a c = sh := by
  apply List.ext_getElem?
  intro k
  by_cases e : k = a
  · subst e
    rw [List.getElem?_set_self (List.getElem?_eq_some_iff.mp hs).1, hs]
  · rw [List.getElem?_set_ne (Ne.symm e)]
theorem Wh.put1 {base : Nat} {D : va_G} {cI cM cS : ClassId} {sh : Shp} {M M' : Mem} {H H1 : Heap} (h : Wh base D cI cM cS sh M H) {a : Nat} {c : Sh1} (hs : sh[a]? = some c) (hM : ∀ b, b ≠ a → M' b = M b) (hc : Cl base D cI cM cS a c (M' a) H1) (z : H1.size = H.size) (oq : ∀ q, q ≠ base + a → H1[q]? = H[q]?) : Wh base D cI cM cS sh M' H1 := by
  have := h.put hs hM hc z oq
  rwa [shp_set hs] at this
theorem Wh.push {base : Nat} {D : va_G} {cI cM cS : ClassId} {sh : Shp} {M : Mem} {H H1 : Heap} (h : Wh base D cI cM cS sh M H) {c : Sh1} (hc : Cl base D cI cM cS sh.length c (M sh.length) H1) (z : H1.size = H.size + 1) (oq : ∀ q, q < H.size → H1[q]? = H[q]?) : Wh base D cI cM cS (sh ++ [c]) M H1 := by
  refine ⟨by rw [z, h.1, List.length_append]; simp; omega, fun k x hk => ?_⟩
  by_cases hl : k < sh.length
  · rw [List.getElem?_append_left hl] at hk
    exact (h.2 k x hk).kept (oq _ (h.lt hk))
  · rw [List.getElem?_append_right (by omega)] at hk
    have hz : k - sh.length < 1 := (List.getElem?_eq_some_iff.mp hk).1
    have e : k = sh.length := by omega
    subst e
    rw [Nat.sub_self] at hk
    cases hk
    exact hc
/-! ===== THE JUDGEMENT ===== -/
def rmv (d mc ms : Nat) : Room := { frames := d, cells := mc, slots := ms, locals := 32 * d }
def prs (base : Nat) (lv : List (Option AV)) : List (Nat × Value) := (List.range lv.length).filterMap fun i => (lv.getD i none).map fun v => (i, cv base v)
def LR (base n : Nat) (ls : Array Slot) (lv : List (Option AV)) : Prop := ls.size = n ∧ lv_wf ls ∧ lv.length = n ∧ ∀ (i : Nat) (v : AV), lv[i]? = some (some v) → ls[i]? = some (.val (cv base v))
theorem cv_cat (base : Nat) (v : AV) : (cv base v).category = 1 := by
  rcases v with z | (_ | a) <;> rfl
theorem prs_mem {base : Nat} {lv : List (Option AV)} {q : Nat × Value} : q ∈ prs base lv ↔ ∃ v, lv[q.1]? = some (some v) ∧ q.2 = cv base v := by
  unfold prs
  rw [List.mem_filterMap]
  constructor
  · rintro ⟨i, hi, h⟩
    cases hv : lv[i]? with
    | none => rw [List.getD_eq_getElem?_getD, hv] at h; cases h
    | some o =>
      cases o with
      | none => rw [List.getD_eq_getElem?_getD, hv] at h; cases h
      | some v => rw [List.getD_eq_getElem?_getD, hv] at h; cases h; exact ⟨v, hv, rfl⟩
  · rintro ⟨v, hv, e⟩
    refine ⟨q.1, List.mem_range.mpr (List.getElem?_eq_some_iff.mp hv).1, ?_⟩
    rw [List.getD_eq_getElem?_getD, hv]
    show some (q.1, cv base v) = some q
    rw [← e]
theorem LR.has {base n : Nat} {ls : Array Slot} {lv : List (Option AV)} (h : LR base n ls lv) : lv_has ls n (prs base lv) := ⟨h.1, h.2.1, fun q hq => by
  obtain ⟨v, h1, h2⟩ := prs_mem.mp hq
  rw [h2]; exact h.2.2.2 _ _ h1⟩
theorem LR.at {base n : Nat} {ls : Array Slot} {lv : List (Option AV)} (h : LR base n ls lv) {i : Nat} {v : AV} (hv : lv[i]? = some (some v)) : ls[i]? = some (.val (cv base v)) := h.2.2.2 i v hv
theorem LR.set {base n : Nat} {ls ls' : Array Slot} {lv : List (Option AV)} (h : LR base n ls lv) {i : Nat} {v : AV} (h' : lv_has ls' n ((i, cv base v) :: (prs base lv).filter (fun q => !(q.1 == i) && !(q.1 + 1 == i && q.2.category == 2)))) : LR base n ls' (lv.set i (some v)) := by
  refine ⟨h'.1, h'.2.1, by rw [List.length_set]; exact h.2.2.1, fun j w hj => ?_⟩
  by_cases e : j = i
  · subst e
    have hl : j < lv.length := by
      have := (List.getElem?_eq_some_iff.mp hj).1
      rwa [List.length_set] at this
    rw [List.getElem?_set_self hl] at hj
    cases hj
    exact h'.2.2 (j, cv base v) List.mem_cons_self
  · rw [List.getElem?_set_ne (Ne.symm e)] at hj
    refine h'.2.2 (j, cv base w) (List.mem_cons_of_mem _ (List.mem_filter.mpr ⟨prs_mem.mpr ⟨w, hj, rfl⟩, ?_⟩))
    simp [e, cv_cat]
theorem lv_args_get (vs : List Value) (hc : ∀ v ∈ vs, v.category = 1) : ∀ (k i : Nat) (v : Value), vs[i]? = some v → (k + i, v) ∈ lv_args k vs := by
  induction vs with
  | nil => intro k i v h; simp at h
  | cons a vs ih =>
    intro k i v h
    have ha := hc a List.mem_cons_self
    cases i with
    | zero =>
      rw [List.getElem?_cons_zero] at h
      cases h
      simp [lv_args]
    | succ i =>
      rw [List.getElem?_cons_succ] at h
      have := ih (fun v hv => hc v (List.mem_cons_of_mem _ hv)) (k + 1) i v h
      rw [show k + (i + 1) = k + 1 + i by omega]
      simp only [lv_args, ha]
      exact List.mem_cons_of_mem _ (by simpa using this)
theorem lg_sl_len (vs : List Value) (hc : ∀ v ∈ vs, v.category = 1) : (lg_sl vs).length = vs.length := by
  induction vs with
  | nil => rfl
  | cons a vs ih =>
    have ha := hc a List.mem_cons_self
    have := ih (fun v hv => hc v (List.mem_cons_of_mem _ hv))
    simp only [lg_sl, List.flatMap_cons, ha] at this ⊢
    simp at this ⊢
    omega
def ent0 (n : Nat) (vs : List AV) : List (Option AV) := vs.map some ++ List.replicate (n - vs.length) none
theorem LR.entry {base n : Nat} {vs : List AV} (hn : vs.length ≤ n) : LR base n ((lg_sl (vs.map (cv base)) ++ List.replicate (n - (lg_sl (vs.map (cv base))).length) Slot.unset).toArray) (ent0 n vs) := by
  have hc : ∀ v ∈ vs.map (cv base), v.category = 1 := fun v hv => by
    obtain ⟨w, -, rfl⟩ := List.mem_map.mp hv
    exact cv_cat base w
  have hlen := lg_sl_len _ hc
  rw [List.length_map] at hlen
  have h := lv_entry (vs.map (cv base)) (n := n) (by rw [hlen]; exact hn)
  refine ⟨h.1, h.2.1, by simp [ent0]; omega, fun i v hv => ?_⟩
  refine h.2.2 (i, cv base v) ?_
  have h1 : vs[i]? = some v := by
    unfold ent0 at hv
    by_cases hi : i < vs.length
    · rw [List.getElem?_append_left (by simpa using hi), List.getElem?_map] at hv
      cases hw : vs[i]? with
      | none => rw [hw] at hv; cases hv
      | some w => rw [hw] at hv; cases hv; rfl
    · rw [List.getElem?_append_right (by simpa using hi)] at hv
      have := List.eq_of_mem_replicate (List.mem_of_getElem? hv)
      cases this
  have := lv_args_get _ hc 0 i (cv base v) (by rw [List.getElem?_map, h1]; rfl)
  simpa using this
def Cx (μ : Mu) (p : Program) (s : State) (m : MethodId) (args : Array Value) (meth : Method) (cd : Code) (base : Nat) (D : va_G) (cI cM cS : ClassId) : Prop :=
  p.tables.exec = Jvm.exec ∧ cd.code = μ.2.1 ∧ meth.sig.returnType = μ.2.2.2 ∧ cd.maxLocals = μ.2.2.1 ∧ s.vm.findClass μ.1.cls = some m.cls ∧ (∀ w ∈ fm_ws μ, w.before args s = true) ∧ meth.locks = false ∧ meth.name = μ.1.name ∧ va_K D vwCl (tysOf cI cM cS) s ∧ NK s ∧ base ≤ s.heap.size
def QC (base : Nat) (D : va_G) (cI cM cS : ClassId) (Q : Option AV → Shp → Mem → Prop) : Array Value → State → Outcome → State → Prop := fun _ st oc t => (∃ (r : Option AV) (sh' : Shp) (M' : Mem), oc = .returned (r.map (cv base)) ∧ Q r sh' M' ∧ Wh base D cI cM cS sh' M' t.heap) ∧ (∀ q : Nat, q < base → t.heap[q]? = st.heap[q]?) ∧ st.heap.size ≤ t.heap.size
def V (μ : Mu) (d mc ms pc : Nat) (lv : List (Option AV)) (st : List AV) (sh : Shp) (M : Mem) (ck sk : Nat) (Q : Option AV → Shp → Mem → Prop) : Prop :=
  ∀ (p : Program) (l : Launch) (e : Env) (s : State) (m : MethodId) (args : Array Value) (below : List Frame) (meth : Method) (cd : Code) (base : Nat) (D : va_G) (cI cM cS : ClassId) (H : Heap) (locs : List Loc) (ls : Array Slot),
    Cx μ p s m args meth cd base D cI cM cS → Wh base D cI cM cS sh M H → (∀ q : Nat, q < base → H[q]? = s.heap[q]?) → s.heap.size ≤ H.size → (∀ q ∈ locs, base ≤ q.base) → LR base μ.2.2.1 ls lv →
    W p l e (rmv d mc ms) s m args below meth cd H locs ck sk (MQ below (QC base D cI cM cS Q) args s mc ms (fun q => base ≤ q)) (F0 m pc ls (st.map (cv base)))
def PW (base : Nat) (D : va_G) (cI cM cS : ClassId) (sh : Shp) (M : Mem) : State → Prop := fun U => Wh base D cI cM cS sh M U.heap ∧ va_K D vwCl (tysOf cI cM cS) U ∧ NK U
def CT (μ : Mu) (d mc ms : Nat) (vs : List AV) (sh : Shp) (M : Mem) (Q : Option AV → Shp → Mem → Prop) : Prop :=
  ∀ (l : Launch) (base : Nat) (D : va_G) (cI cM cS : ClassId), Met l μ.1 (fm_ws μ) (rmv d mc ms) (va_Pc (vs.map (cv base)) (PW base D cI cM cS sh M)) (QC base D cI cM cS Q) mc ms (fun q => base ≤ q)
theorem CT.of {μ : Mu} {d mc ms : Nat} {vs : List AV} {sh : Shp} {M : Mem} {Q : Option AV → Shp → Mem → Prop} (hy : plainFor μ.1 = true) (hn : vs.length ≤ μ.2.2.1) (lv : List (Option AV)) (hlv : ent0 μ.2.2.1 vs = lv) (h : V μ d mc ms 0 lv [] sh M 0 0 Q) : CT μ d mc ms vs sh M Q := by
  subst hlv
  intro l base D cI cM cS
  refine va_MetF (cc := μ.2.1) (maxL := μ.2.2.1) (ret := μ.2.2.2) hy rfl ?_
  intro p e s m args below meth c s₁ B hml hv
  obtain ⟨rfl, hW, hK, hN⟩ := hv
  rw [lg_entry_eq]
  exact h p l e s m _ below meth c base D cI cM cS s.heap [] _ ⟨B.exec, B.bytes, B.returns, hml, findClass_of_methodNamed B.named, atoms_spec (ws := fm_ws μ) B.pre, B.notSynchronized, (name_of_methodNamed B.named B.method).1, hK, hN, by rw [hW.1]; omega⟩ hW (fun _ _ => rfl) (Nat.le_refl _) (fun q hq => by cases hq) (LR.entry hn)
theorem CT.mono {μ : Mu} {d mc ms : Nat} {vs : List AV} {sh : Shp} {M : Mem} {Q Q' : Option AV → Shp → Mem → Prop} (h : CT μ d mc ms vs sh M Q) (hq : ∀ r sh' M', Q r sh' M' → Q' r sh' M') : CT μ d mc ms vs sh M Q' := by
  intro l base D cI cM cS
  have h1 := h l base D cI cM cS
  have e : ∀ a st o t, QC base D cI cM cS Q a st o t → QC base D cI cM cS Q' a st o t := by
    rintro a st o t ⟨⟨r, sh', M', a1, a2, a3⟩, b, c⟩
    exact ⟨⟨r, sh', M', a1, hq _ _ _ a2, a3⟩, b, c⟩
  intro p e' ha hc hk s m args below hf hr hp htr
  obtain ⟨k, o, g1, g2, g3, g4, g5⟩ := h1 p e' ha hc hk s m args below hf hr hp htr
  exact ⟨k, o, g1, g2, g3, e _ _ _ _ g4, g5⟩
end
section
section RULES
variable {μ : Mu} {d mc ms pc : Nat} {lv : List (Option AV)} {st : List AV} {sh : Shp} {M : Mem} {ck sk : Nat} {Q : Option AV → Shp → Mem → Prop}

theorem V.iconst {n : Int} (hd : decode μ.2.1 pc = .ok (.iconst n, 1)) (k : V μ d mc ms (pc + 1) lv (.inl n :: st) sh M ck sk Q) : V μ d mc ms (pc) lv (st) sh M ck sk Q := by
  intro p l e s m args below meth cd base D cI cM cS H locs ls C hW hF hz hL hR
  refine lv_iconst C.1 C.2.1 hd rfl ?_
  exact k p l e s m args below meth cd base D cI cM cS H locs ls C hW hF hz hL hR
theorem i8_of {n : Int} (h : -128 ≤ n ∧ n ≤ 127) : (Int8.ofInt n).toInt32 = Int32.ofInt n := by
  have h2 : (-2 ^ 7 : Int) ≤ n := by omega
  have h3 : n < 2 ^ 7 := by omega
  apply Int32.toInt_inj.mp
  rw [Int8.toInt_toInt32, Int8.toInt_ofInt_of_le h2 h3, Int32.toInt_ofInt_of_le (by omega) (by omega)]
theorem i16_of {n : Int} (h : -32768 ≤ n ∧ n ≤ 32767) : (Int16.ofInt n).toInt32 = Int32.ofInt n := by
  have h2 : (-2 ^ 15 : Int) ≤ n := by omega
  have h3 : n < 2 ^ 15 := by omega
  apply Int32.toInt_inj.mp
  rw [Int16.toInt_toInt32, Int16.toInt_ofInt_of_le h2 h3, Int32.toInt_ofInt_of_le (by omega) (by omega)]
theorem V.bipush {n : Int} (hd : decode μ.2.1 pc = .ok (.bipush n, 2)) (hn : -128 ≤ n ∧ n ≤ 127) (k : V μ d mc ms (pc + 2) lv (.inl n :: st) sh M ck sk Q) : V μ d mc ms (pc) lv (st) sh M ck sk Q := by
  intro p l e s m args below meth cd base D cI cM cS H locs ls C hW hF hz hL hR
  refine lv_bipush C.1 C.2.1 hd (i8_of hn) ?_
  exact k p l e s m args below meth cd base D cI cM cS H locs ls C hW hF hz hL hR
theorem V.sipush {n : Int} (hd : decode μ.2.1 pc = .ok (.sipush n, 3)) (hn : -32768 ≤ n ∧ n ≤ 32767) (k : V μ d mc ms (pc + 3) lv (.inl n :: st) sh M ck sk Q) : V μ d mc ms (pc) lv (st) sh M ck sk Q := by
  intro p l e s m args below meth cd base D cI cM cS H locs ls C hW hF hz hL hR
  refine lv_sipush C.1 C.2.1 hd (i16_of hn) ?_
  exact k p l e s m args below meth cd base D cI cM cS H locs ls C hW hF hz hL hR
theorem V.iload_n {j : Fin 4} {x : Int} (hd : decode μ.2.1 pc = .ok (.iload_n j, 1)) (hl : lv[(j : Nat)]? = some (some (.inl x))) (k : V μ d mc ms (pc + 1) lv (.inl x :: st) sh M ck sk Q) : V μ d mc ms (pc) lv (st) sh M ck sk Q := by
  intro p l e s m args below meth cd base D cI cM cS H locs ls C hW hF hz hL hR
  refine lv_iload_n C.1 C.2.1 hd rfl (hR.at hl) ?_
  exact k p l e s m args below meth cd base D cI cM cS H locs ls C hW hF hz hL hR
theorem V.iload {i : Nat} {x : Int} (hd : decode μ.2.1 pc = .ok (.iload i, 2)) (hl : lv[i]? = some (some (.inl x))) (k : V μ d mc ms (pc + 2) lv (.inl x :: st) sh M ck sk Q) : V μ d mc ms (pc) lv (st) sh M ck sk Q := by
  intro p l e s m args below meth cd base D cI cM cS H locs ls C hW hF hz hL hR
  refine lv_iload C.1 C.2.1 hd (hR.at hl) ?_
  exact k p l e s m args below meth cd base D cI cM cS H locs ls C hW hF hz hL hR
theorem V.aload_n {j : Fin 4} {x : Nat} (hd : decode μ.2.1 pc = .ok (.aload_n j, 1)) (hl : lv[(j : Nat)]? = some (some (.inr (some x)))) (k : V μ d mc ms (pc + 1) lv (.inr (some x) :: st) sh M ck sk Q) : V μ d mc ms (pc) lv (st) sh M ck sk Q := by
  intro p l e s m args below meth cd base D cI cM cS H locs ls C hW hF hz hL hR
  refine lv_aload_n C.1 C.2.1 hd rfl (hR.at hl) ?_
  exact k p l e s m args below meth cd base D cI cM cS H locs ls C hW hF hz hL hR
theorem V.aload {i : Nat} {x : Nat} (hd : decode μ.2.1 pc = .ok (.aload i, 2)) (hl : lv[i]? = some (some (.inr (some x)))) (k : V μ d mc ms (pc + 2) lv (.inr (some x) :: st) sh M ck sk Q) : V μ d mc ms (pc) lv (st) sh M ck sk Q := by
  intro p l e s m args below meth cd base D cI cM cS H locs ls C hW hF hz hL hR
  refine lv_aload C.1 C.2.1 hd (hR.at hl) ?_
  exact k p l e s m args below meth cd base D cI cM cS H locs ls C hW hF hz hL hR
theorem V.istore_n {j : Fin 4} {x : Int} {lv2 : List (Option AV)} (hd : decode μ.2.1 pc = .ok (.istore_n j, 1)) (hi : (j : Nat) < lv.length) (hl : lv.set (j : Nat) (some (.inl x)) = lv2) (k : V μ d mc ms (pc + 1) lv2 (st) sh M ck sk Q) : V μ d mc ms (pc) lv (.inl x :: st) sh M ck sk Q := by
  subst hl
  intro p l e s m args below meth cd base D cI cM cS H locs ls C hW hF hz hL hR
  exact lv_istore_n C.1 C.2.1 hd rfl hR.has (by rw [← hR.2.2.1]; exact hi) rfl (fun ls2 h2 => k p l e s m args below meth cd base D cI cM cS H locs ls2 C hW hF hz hL (hR.set (v := .inl x) h2))
theorem V.istore {i : Nat} {x : Int} {lv2 : List (Option AV)} (hd : decode μ.2.1 pc = .ok (.istore i, 2)) (hi : i < lv.length) (hl : lv.set i (some (.inl x)) = lv2) (k : V μ d mc ms (pc + 2) lv2 (st) sh M ck sk Q) : V μ d mc ms (pc) lv (.inl x :: st) sh M ck sk Q := by
  subst hl
  intro p l e s m args below meth cd base D cI cM cS H locs ls C hW hF hz hL hR
  exact lv_istore C.1 C.2.1 hd hR.has (by rw [← hR.2.2.1]; exact hi) rfl (fun ls2 h2 => k p l e s m args below meth cd base D cI cM cS H locs ls2 C hW hF hz hL (hR.set (v := .inl x) h2))
theorem V.astore_n {j : Fin 4} {x : Nat} {lv2 : List (Option AV)} (hd : decode μ.2.1 pc = .ok (.astore_n j, 1)) (hi : (j : Nat) < lv.length) (hl : lv.set (j : Nat) (some (.inr (some x))) = lv2) (k : V μ d mc ms (pc + 1) lv2 (st) sh M ck sk Q) : V μ d mc ms (pc) lv (.inr (some x) :: st) sh M ck sk Q := by
  subst hl
  intro p l e s m args below meth cd base D cI cM cS H locs ls C hW hF hz hL hR
  exact lv_astore_n C.1 C.2.1 hd rfl hR.has (by rw [← hR.2.2.1]; exact hi) rfl (fun ls2 h2 => k p l e s m args below meth cd base D cI cM cS H locs ls2 C hW hF hz hL (hR.set (v := .inr (some x)) h2))
theorem V.astore {i : Nat} {x : Nat} {lv2 : List (Option AV)} (hd : decode μ.2.1 pc = .ok (.astore i, 2)) (hi : i < lv.length) (hl : lv.set i (some (.inr (some x))) = lv2) (k : V μ d mc ms (pc + 2) lv2 (st) sh M ck sk Q) : V μ d mc ms (pc) lv (.inr (some x) :: st) sh M ck sk Q := by
  subst hl
  intro p l e s m args below meth cd base D cI cM cS H locs ls C hW hF hz hL hR
  exact lv_astore C.1 C.2.1 hd hR.has (by rw [← hR.2.2.1]; exact hi) rfl (fun ls2 h2 => k p l e s m args below meth cd base D cI cM cS H locs ls2 C hW hF hz hL (hR.set (v := .inr (some x)) h2))
theorem prs_pos {base : Nat} {lv : List (Option AV)} {i : Nat} {v : AV} (hl : lv[i]? = some (some v)) : ∃ k : Nat, (prs base lv)[k]? = some (i, cv base v) := List.getElem?_of_mem (prs_mem.mpr ⟨v, hl, rfl⟩)
theorem V.iinc {i : Nat} {n x y : Int} {lv2 : List (Option AV)} (hd : decode μ.2.1 pc = .ok (.iinc i n, 3)) (hl : lv[i]? = some (some (.inl x))) (hy : x + n = y) (h2 : lv.set i (some (.inl y)) = lv2) (k : V μ d mc ms (pc + 3) lv2 (st) sh M ck sk Q) : V μ d mc ms (pc) lv (st) sh M ck sk Q := by
  subst h2; subst hy
  intro p l e s m args below meth cd base D cI cM cS H locs ls C hW hF hz hL hR
  obtain ⟨q, hq⟩ := prs_pos (base := base) hl
  have hlen : i < lv.length := (List.getElem?_eq_some_iff.mp hl).1
  exact lv_iinc C.1 C.2.1 hd hR.has hq (Int32.ofInt_add x n).symm (by rw [← hR.2.2.1]; exact hlen) rfl (fun ls2 h2 => k p l e s m args below meth cd base D cI cM cS H locs ls2 C hW hF hz hL (hR.set (v := .inl (x + n)) h2))
theorem V.iadd {a b : Int} (hd : decode μ.2.1 pc = .ok (.iadd, 1)) (k : V μ d mc ms (pc + 1) lv (.inl (a + b) :: st) sh M ck sk Q) : V μ d mc ms (pc) lv (.inl b :: .inl a :: st) sh M ck sk Q := by
  intro p l e s m args below meth cd base D cI cM cS H locs ls C hW hF hz hL hR
  refine lv_iadd C.1 C.2.1 hd ?_
  rw [← Int32.ofInt_add]
  exact k p l e s m args below meth cd base D cI cM cS H locs ls C hW hF hz hL hR
theorem V.isub {a b : Int} (hd : decode μ.2.1 pc = .ok (.isub, 1)) (k : V μ d mc ms (pc + 1) lv (.inl (a - b) :: st) sh M ck sk Q) : V μ d mc ms (pc) lv (.inl b :: .inl a :: st) sh M ck sk Q := by
  intro p l e s m args below meth cd base D cI cM cS H locs ls C hW hF hz hL hR
  refine lv_isub C.1 C.2.1 hd ?_
  rw [← Int32.ofInt_sub]
  exact k p l e s m args below meth cd base D cI cM cS H locs ls C hW hF hz hL hR
theorem V.imul {a b : Int} (hd : decode μ.2.1 pc = .ok (.imul, 1)) (k : V μ d mc ms (pc + 1) lv (.inl (a * b) :: st) sh M ck sk Q) : V μ d mc ms (pc) lv (.inl b :: .inl a :: st) sh M ck sk Q := by
  intro p l e s m args below meth cd base D cI cM cS H locs ls C hW hF hz hL hR
  refine lv_imul C.1 C.2.1 hd ?_
  rw [← Int32.ofInt_mul]
  exact k p l e s m args below meth cd base D cI cM cS H locs ls C hW hF hz hL hR
theorem V.ineg {a : Int} (hd : decode μ.2.1 pc = .ok (.ineg, 1)) (k : V μ d mc ms (pc + 1) lv (.inl (-a) :: st) sh M ck sk Q) : V μ d mc ms (pc) lv (.inl a :: st) sh M ck sk Q := by
  intro p l e s m args below meth cd base D cI cM cS H locs ls C hW hF hz hL hR
  refine lv_ineg C.1 C.2.1 hd ?_
  rw [← Int32.ofInt_neg]
  exact k p l e s m args below meth cd base D cI cM cS H locs ls C hW hF hz hL hR
abbrev inR (z : Int) : Prop := -2147483648 ≤ z ∧ z ≤ 2147483647
theorem inR_toInt {z : Int} (h : inR z) : (Int32.ofInt z).toInt = z := Int32.toInt_ofInt_of_le (by have := h.1; omega) (by have := h.2; omega)
theorem inR_eq {a b : Int} (ha : inR a) (hb : inR b) : Int32.ofInt a = Int32.ofInt b ↔ a = b := by rw [← Int32.toInt_inj, inR_toInt ha, inR_toInt hb]
theorem inR_lt {a b : Int} (ha : inR a) (hb : inR b) : Int32.ofInt a < Int32.ofInt b ↔ a < b := by rw [Int32.lt_iff_toInt_lt, inR_toInt ha, inR_toInt hb]
theorem inR_le {a b : Int} (ha : inR a) (hb : inR b) : Int32.ofInt a ≤ Int32.ofInt b ↔ a ≤ b := by rw [Int32.le_iff_toInt_le, inR_toInt ha, inR_toInt hb]
theorem inR_0 : inR 0 := by decide
theorem of0 : Int32.ofInt 0 = 0 := by decide
theorem tdiv_of {a b : Int} (ha : inR a) (hb : inR b) : Int32.ofInt a / Int32.ofInt b = Int32.ofInt (a.tdiv b) := by
  apply Int32.toInt_inj.mp
  rw [Int32.toInt_div, inR_toInt ha, inR_toInt hb, Int32.toInt_ofInt]
theorem trem_of {a b : Int} (ha : inR a) (hb : inR b) : Int32.ofInt a - Int32.ofInt a / Int32.ofInt b * Int32.ofInt b = Int32.ofInt (a.tmod b) := by
  rw [tdiv_of ha hb, ← Int32.ofInt_mul, ← Int32.ofInt_sub]
  congr 1
  have := Int.tmod_def a b
  rw [this, Int.mul_comm]
theorem V.idivT {a b : Int} (hd : decode μ.2.1 pc = .ok (.idiv, 1)) (ha : inR a) (hb : inR b) (h0 : b ≠ 0) (k : V μ d mc ms (pc + 1) lv (.inl (a.tdiv b) :: st) sh M ck sk Q) : V μ d mc ms (pc) lv (.inl b :: .inl a :: st) sh M ck sk Q := by
  intro p l e s m args below meth cd base D cI cM cS H locs ls C hW hF hz hL hR
  refine lv_idiv C.1 C.2.1 hd (by intro h; exact h0 ((inR_eq hb inR_0).mp (h.trans of0.symm))) ?_
  rw [tdiv_of ha hb]
  exact k p l e s m args below meth cd base D cI cM cS H locs ls C hW hF hz hL hR
theorem V.iremT {a b : Int} (hd : decode μ.2.1 pc = .ok (.irem, 1)) (ha : inR a) (hb : inR b) (h0 : b ≠ 0) (k : V μ d mc ms (pc + 1) lv (.inl (a.tmod b) :: st) sh M ck sk Q) : V μ d mc ms (pc) lv (.inl b :: .inl a :: st) sh M ck sk Q := by
  intro p l e s m args below meth cd base D cI cM cS H locs ls C hW hF hz hL hR
  refine lv_irem C.1 C.2.1 hd (by intro h; exact h0 ((inR_eq hb inR_0).mp (h.trans of0.symm))) ?_
  rw [trem_of ha hb]
  exact k p l e s m args below meth cd base D cI cM cS H locs ls C hW hF hz hL hR
theorem V.idiv {a b : Int} (hd : decode μ.2.1 pc = .ok (.idiv, 1)) (ha : 0 ≤ a ∧ a ≤ 2147483647) (hb : 0 < b ∧ b ≤ 2147483647) (k : V μ d mc ms (pc + 1) lv (.inl (a / b) :: st) sh M ck sk Q) : V μ d mc ms (pc) lv (.inl b :: .inl a :: st) sh M ck sk Q := by
  refine V.idivT hd ⟨by omega, by omega⟩ ⟨by omega, by omega⟩ (by omega) ?_
  rw [Int.tdiv_eq_ediv_of_nonneg ha.1]
  exact k
theorem V.irem {a b : Int} (hd : decode μ.2.1 pc = .ok (.irem, 1)) (ha : 0 ≤ a ∧ a ≤ 2147483647) (hb : 0 < b ∧ b ≤ 2147483647) (k : V μ d mc ms (pc + 1) lv (.inl (a % b) :: st) sh M ck sk Q) : V μ d mc ms (pc) lv (.inl b :: .inl a :: st) sh M ck sk Q := by
  refine V.iremT hd ⟨by omega, by omega⟩ ⟨by omega, by omega⟩ (by omega) ?_
  rw [Int.tmod_eq_emod_of_nonneg ha.1]
  exact k
def iAnd (a b : Int) : Int := (Int32.ofInt a &&& Int32.ofInt b).toInt
def iOr (a b : Int) : Int := (Int32.ofInt a ||| Int32.ofInt b).toInt
def iXor (a b : Int) : Int := (Int32.ofInt a ^^^ Int32.ofInt b).toInt
def iShl (a b : Int) : Int := (Int32.ofInt a <<< (Int32.ofInt b &&& 31)).toInt
theorem V.iand {a b : Int} (hd : decode μ.2.1 pc = .ok (.iand, 1)) (k : V μ d mc ms (pc + 1) lv (.inl (iAnd a b) :: st) sh M ck sk Q) : V μ d mc ms (pc) lv (.inl b :: .inl a :: st) sh M ck sk Q := by
  intro p l e s m args below meth cd base D cI cM cS H locs ls C hW hF hz hL hR
  refine lv_iand C.1 C.2.1 hd ?_
  have k2 := k p l e s m args below meth cd base D cI cM cS H locs ls C hW hF hz hL hR
  simp only [List.map_cons, cv, iAnd, Int32.ofInt_toInt] at k2 ⊢
  exact k2
theorem V.ior {a b : Int} (hd : decode μ.2.1 pc = .ok (.ior, 1)) (k : V μ d mc ms (pc + 1) lv (.inl (iOr a b) :: st) sh M ck sk Q) : V μ d mc ms (pc) lv (.inl b :: .inl a :: st) sh M ck sk Q := by
  intro p l e s m args below meth cd base D cI cM cS H locs ls C hW hF hz hL hR
  refine lv_ior C.1 C.2.1 hd ?_
  have k2 := k p l e s m args below meth cd base D cI cM cS H locs ls C hW hF hz hL hR
  simp only [List.map_cons, cv, iOr, Int32.ofInt_toInt] at k2 ⊢
  exact k2
theorem V.ixor {a b : Int} (hd : decode μ.2.1 pc = .ok (.ixor, 1)) (k : V μ d mc ms (pc + 1) lv (.inl (iXor a b) :: st) sh M ck sk Q) : V μ d mc ms (pc) lv (.inl b :: .inl a :: st) sh M ck sk Q := by
  intro p l e s m args below meth cd base D cI cM cS H locs ls C hW hF hz hL hR
  refine lv_ixor C.1 C.2.1 hd ?_
  have k2 := k p l e s m args below meth cd base D cI cM cS H locs ls C hW hF hz hL hR
  simp only [List.map_cons, cv, iXor, Int32.ofInt_toInt] at k2 ⊢
  exact k2
theorem V.ishl {a b : Int} (hd : decode μ.2.1 pc = .ok (.ishl, 1)) (k : V μ d mc ms (pc + 1) lv (.inl (iShl a b) :: st) sh M ck sk Q) : V μ d mc ms (pc) lv (.inl b :: .inl a :: st) sh M ck sk Q := by
  intro p l e s m args below meth cd base D cI cM cS H locs ls C hW hF hz hL hR
  refine lv_ishl C.1 C.2.1 hd ?_
  have k2 := k p l e s m args below meth cd base D cI cM cS H locs ls C hW hF hz hL hR
  simp only [List.map_cons, cv, iShl, Int32.ofInt_toInt] at k2 ⊢
  exact k2
theorem V.icmp_eq {a b : Int} {off : Int} {tgt : Nat} (hd : decode μ.2.1 pc = .ok (.if_icmp .eq off, 3)) (ht : (pc : Int) + off = (tgt : Int)) (ha : inR a) (hb : inR b) (kt : a = b → V μ d mc ms (tgt) lv (st) sh M ck sk Q) (kf : ¬ a = b → V μ d mc ms (pc + 3) lv (st) sh M ck sk Q) : V μ d mc ms (pc) lv (.inl b :: .inl a :: st) sh M ck sk Q := by
  intro p l e s m args below meth cd base D cI cM cS H locs ls C hW hF hz hL hR
  refine lv_icmp_eq (tgt := tgt) C.1 C.2.1 hd ht (fun h => ?_) (fun h => ?_)
  · exact kt (by first | exact (inR_eq ha hb).mp h | (intro q; exact h ((inR_eq ha hb).mpr q))) p l e s m args below meth cd base D cI cM cS H locs ls C hW hF hz hL hR
  · exact kf (by first | exact (inR_eq ha hb).mp h | exact Int.not_lt.mp (fun q => h ((inR_eq ha hb).mpr q)) | exact Int.not_le.mp (fun q => h ((inR_eq ha hb).mpr q)) | (intro q; exact h ((inR_eq ha hb).mpr q))) p l e s m args below meth cd base D cI cM cS H locs ls C hW hF hz hL hR
theorem V.if_eq {a : Int} {off : Int} {tgt : Nat} (hd : decode μ.2.1 pc = .ok (.ifCond .eq off, 3)) (ht : (pc : Int) + off = (tgt : Int)) (ha : inR a) (kt : a = 0 → V μ d mc ms (tgt) lv (st) sh M ck sk Q) (kf : ¬ a = 0 → V μ d mc ms (pc + 3) lv (st) sh M ck sk Q) : V μ d mc ms (pc) lv (.inl a :: st) sh M ck sk Q := by
  intro p l e s m args below meth cd base D cI cM cS H locs ls C hW hF hz hL hR
  refine lv_if_eq (tgt := tgt) C.1 C.2.1 hd ht (fun h => ?_) (fun h => ?_) <;> rw [← of0] at h
  · exact kt (by first | exact (inR_eq ha inR_0).mp h | (intro q; exact h ((inR_eq ha inR_0).mpr q))) p l e s m args below meth cd base D cI cM cS H locs ls C hW hF hz hL hR
  · exact kf (by first | exact (inR_eq ha inR_0).mp h | exact Int.not_lt.mp (fun q => h ((inR_eq ha inR_0).mpr q)) | exact Int.not_le.mp (fun q => h ((inR_eq ha inR_0).mpr q)) | (intro q; exact h ((inR_eq ha inR_0).mpr q))) p l e s m args below meth cd base D cI cM cS H locs ls C hW hF hz hL hR
theorem V.icmp_ne {a b : Int} {off : Int} {tgt : Nat} (hd : decode μ.2.1 pc = .ok (.if_icmp .ne off, 3)) (ht : (pc : Int) + off = (tgt : Int)) (ha : inR a) (hb : inR b) (kt : ¬ a = b → V μ d mc ms (tgt) lv (st) sh M ck sk Q) (kf : a = b → V μ d mc ms (pc + 3) lv (st) sh M ck sk Q) : V μ d mc ms (pc) lv (.inl b :: .inl a :: st) sh M ck sk Q := by
  intro p l e s m args below meth cd base D cI cM cS H locs ls C hW hF hz hL hR
  refine lv_icmp_ne (tgt := tgt) C.1 C.2.1 hd ht (fun h => ?_) (fun h => ?_)
  · exact kt (by first | exact (inR_eq ha hb).mp h | (intro q; exact h ((inR_eq ha hb).mpr q))) p l e s m args below meth cd base D cI cM cS H locs ls C hW hF hz hL hR
  · exact kf (by first | exact (inR_eq ha hb).mp h | exact Int.not_lt.mp (fun q => h ((inR_eq ha hb).mpr q)) | exact Int.not_le.mp (fun q => h ((inR_eq ha hb).mpr q)) | (intro q; exact h ((inR_eq ha hb).mpr q))) p l e s m args below meth cd base D cI cM cS H locs ls C hW hF hz hL hR
theorem V.if_ne {a : Int} {off : Int} {tgt : Nat} (hd : decode μ.2.1 pc = .ok (.ifCond .ne off, 3)) (ht : (pc : Int) + off = (tgt : Int)) (ha : inR a) (kt : ¬ a = 0 → V μ d mc ms (tgt) lv (st) sh M ck sk Q) (kf : a = 0 → V μ d mc ms (pc + 3) lv (st) sh M ck sk Q) : V μ d mc ms (pc) lv (.inl a :: st) sh M ck sk Q := by
  intro p l e s m args below meth cd base D cI cM cS H locs ls C hW hF hz hL hR
  refine lv_if_ne (tgt := tgt) C.1 C.2.1 hd ht (fun h => ?_) (fun h => ?_) <;> rw [← of0] at h
  · exact kt (by first | exact (inR_eq ha inR_0).mp h | (intro q; exact h ((inR_eq ha inR_0).mpr q))) p l e s m args below meth cd base D cI cM cS H locs ls C hW hF hz hL hR
  · exact kf (by first | exact (inR_eq ha inR_0).mp h | exact Int.not_lt.mp (fun q => h ((inR_eq ha inR_0).mpr q)) | exact Int.not_le.mp (fun q => h ((inR_eq ha inR_0).mpr q)) | (intro q; exact h ((inR_eq ha inR_0).mpr q))) p l e s m args below meth cd base D cI cM cS H locs ls C hW hF hz hL hR
theorem V.icmp_lt {a b : Int} {off : Int} {tgt : Nat} (hd : decode μ.2.1 pc = .ok (.if_icmp .lt off, 3)) (ht : (pc : Int) + off = (tgt : Int)) (ha : inR a) (hb : inR b) (kt : a < b → V μ d mc ms (tgt) lv (st) sh M ck sk Q) (kf : b ≤ a → V μ d mc ms (pc + 3) lv (st) sh M ck sk Q) : V μ d mc ms (pc) lv (.inl b :: .inl a :: st) sh M ck sk Q := by
  intro p l e s m args below meth cd base D cI cM cS H locs ls C hW hF hz hL hR
  refine lv_icmp_lt (tgt := tgt) C.1 C.2.1 hd ht (fun h => ?_) (fun h => ?_)
  · exact kt (by first | exact (inR_lt ha hb).mp h | (intro q; exact h ((inR_lt ha hb).mpr q))) p l e s m args below meth cd base D cI cM cS H locs ls C hW hF hz hL hR
  · exact kf (by first | exact (inR_lt ha hb).mp h | exact Int.not_lt.mp (fun q => h ((inR_lt ha hb).mpr q)) | exact Int.not_le.mp (fun q => h ((inR_lt ha hb).mpr q)) | (intro q; exact h ((inR_lt ha hb).mpr q))) p l e s m args below meth cd base D cI cM cS H locs ls C hW hF hz hL hR
theorem V.if_lt {a : Int} {off : Int} {tgt : Nat} (hd : decode μ.2.1 pc = .ok (.ifCond .lt off, 3)) (ht : (pc : Int) + off = (tgt : Int)) (ha : inR a) (kt : a < 0 → V μ d mc ms (tgt) lv (st) sh M ck sk Q) (kf : 0 ≤ a → V μ d mc ms (pc + 3) lv (st) sh M ck sk Q) : V μ d mc ms (pc) lv (.inl a :: st) sh M ck sk Q := by
  intro p l e s m args below meth cd base D cI cM cS H locs ls C hW hF hz hL hR
  refine lv_if_lt (tgt := tgt) C.1 C.2.1 hd ht (fun h => ?_) (fun h => ?_) <;> rw [← of0] at h
  · exact kt (by first | exact (inR_lt ha inR_0).mp h | (intro q; exact h ((inR_lt ha inR_0).mpr q))) p l e s m args below meth cd base D cI cM cS H locs ls C hW hF hz hL hR
  · exact kf (by first | exact (inR_lt ha inR_0).mp h | exact Int.not_lt.mp (fun q => h ((inR_lt ha inR_0).mpr q)) | exact Int.not_le.mp (fun q => h ((inR_lt ha inR_0).mpr q)) | (intro q; exact h ((inR_lt ha inR_0).mpr q))) p l e s m args below meth cd base D cI cM cS H locs ls C hW hF hz hL hR
theorem V.icmp_ge {a b : Int} {off : Int} {tgt : Nat} (hd : decode μ.2.1 pc = .ok (.if_icmp .ge off, 3)) (ht : (pc : Int) + off = (tgt : Int)) (ha : inR a) (hb : inR b) (kt : b ≤ a → V μ d mc ms (tgt) lv (st) sh M ck sk Q) (kf : a < b → V μ d mc ms (pc + 3) lv (st) sh M ck sk Q) : V μ d mc ms (pc) lv (.inl b :: .inl a :: st) sh M ck sk Q := by
  intro p l e s m args below meth cd base D cI cM cS H locs ls C hW hF hz hL hR
  refine lv_icmp_ge (tgt := tgt) C.1 C.2.1 hd ht (fun h => ?_) (fun h => ?_)
  · exact kt (by first | exact (inR_le hb ha).mp h | (intro q; exact h ((inR_le hb ha).mpr q))) p l e s m args below meth cd base D cI cM cS H locs ls C hW hF hz hL hR
  · exact kf (by first | exact (inR_le hb ha).mp h | exact Int.not_lt.mp (fun q => h ((inR_le hb ha).mpr q)) | exact Int.not_le.mp (fun q => h ((inR_le hb ha).mpr q)) | (intro q; exact h ((inR_le hb ha).mpr q))) p l e s m args below meth cd base D cI cM cS H locs ls C hW hF hz hL hR
theorem V.if_ge {a : Int} {off : Int} {tgt : Nat} (hd : decode μ.2.1 pc = .ok (.ifCond .ge off, 3)) (ht : (pc : Int) + off = (tgt : Int)) (ha : inR a) (kt : 0 ≤ a → V μ d mc ms (tgt) lv (st) sh M ck sk Q) (kf : a < 0 → V μ d mc ms (pc + 3) lv (st) sh M ck sk Q) : V μ d mc ms (pc) lv (.inl a :: st) sh M ck sk Q := by
  intro p l e s m args below meth cd base D cI cM cS H locs ls C hW hF hz hL hR
  refine lv_if_ge (tgt := tgt) C.1 C.2.1 hd ht (fun h => ?_) (fun h => ?_) <;> rw [← of0] at h
  · exact kt (by first | exact (inR_le inR_0 ha).mp h | (intro q; exact h ((inR_le inR_0 ha).mpr q))) p l e s m args below meth cd base D cI cM cS H locs ls C hW hF hz hL hR
  · exact kf (by first | exact (inR_le inR_0 ha).mp h | exact Int.not_lt.mp (fun q => h ((inR_le inR_0 ha).mpr q)) | exact Int.not_le.mp (fun q => h ((inR_le inR_0 ha).mpr q)) | (intro q; exact h ((inR_le inR_0 ha).mpr q))) p l e s m args below meth cd base D cI cM cS H locs ls C hW hF hz hL hR
theorem V.icmp_gt {a b : Int} {off : Int} {tgt : Nat} (hd : decode μ.2.1 pc = .ok (.if_icmp .gt off, 3)) (ht : (pc : Int) + off = (tgt : Int)) (ha : inR a) (hb : inR b) (kt : b < a → V μ d mc ms (tgt) lv (st) sh M ck sk Q) (kf : a ≤ b → V μ d mc ms (pc + 3) lv (st) sh M ck sk Q) : V μ d mc ms (pc) lv (.inl b :: .inl a :: st) sh M ck sk Q := by
  intro p l e s m args below meth cd base D cI cM cS H locs ls C hW hF hz hL hR
  refine lv_icmp_gt (tgt := tgt) C.1 C.2.1 hd ht (fun h => ?_) (fun h => ?_)
  · exact kt (by first | exact (inR_lt hb ha).mp h | (intro q; exact h ((inR_lt hb ha).mpr q))) p l e s m args below meth cd base D cI cM cS H locs ls C hW hF hz hL hR
  · exact kf (by first | exact (inR_lt hb ha).mp h | exact Int.not_lt.mp (fun q => h ((inR_lt hb ha).mpr q)) | exact Int.not_le.mp (fun q => h ((inR_lt hb ha).mpr q)) | (intro q; exact h ((inR_lt hb ha).mpr q))) p l e s m args below meth cd base D cI cM cS H locs ls C hW hF hz hL hR
theorem V.if_gt {a : Int} {off : Int} {tgt : Nat} (hd : decode μ.2.1 pc = .ok (.ifCond .gt off, 3)) (ht : (pc : Int) + off = (tgt : Int)) (ha : inR a) (kt : 0 < a → V μ d mc ms (tgt) lv (st) sh M ck sk Q) (kf : a ≤ 0 → V μ d mc ms (pc + 3) lv (st) sh M ck sk Q) : V μ d mc ms (pc) lv (.inl a :: st) sh M ck sk Q := by
  intro p l e s m args below meth cd base D cI cM cS H locs ls C hW hF hz hL hR
  refine lv_if_gt (tgt := tgt) C.1 C.2.1 hd ht (fun h => ?_) (fun h => ?_) <;> rw [← of0] at h
  · exact kt (by first | exact (inR_lt inR_0 ha).mp h | (intro q; exact h ((inR_lt inR_0 ha).mpr q))) p l e s m args below meth cd base D cI cM cS H locs ls C hW hF hz hL hR
  · exact kf (by first | exact (inR_lt inR_0 ha).mp h | exact Int.not_lt.mp (fun q => h ((inR_lt inR_0 ha).mpr q)) | exact Int.not_le.mp (fun q => h ((inR_lt inR_0 ha).mpr q)) | (intro q; exact h ((inR_lt inR_0 ha).mpr q))) p l e s m args below meth cd base D cI cM cS H locs ls C hW hF hz hL hR
theorem V.icmp_le {a b : Int} {off : Int} {tgt : Nat} (hd : decode μ.2.1 pc = .ok (.if_icmp .le off, 3)) (ht : (pc : Int) + off = (tgt : Int)) (ha : inR a) (hb : inR b) (kt : a ≤ b → V μ d mc ms (tgt) lv (st) sh M ck sk Q) (kf : b < a → V μ d mc ms (pc + 3) lv (st) sh M ck sk Q) : V μ d mc ms (pc) lv (.inl b :: .inl a :: st) sh M ck sk Q := by
  intro p l e s m args below meth cd base D cI cM cS H locs ls C hW hF hz hL hR
  refine lv_icmp_le (tgt := tgt) C.1 C.2.1 hd ht (fun h => ?_) (fun h => ?_)
  · exact kt (by first | exact (inR_le ha hb).mp h | (intro q; exact h ((inR_le ha hb).mpr q))) p l e s m args below meth cd base D cI cM cS H locs ls C hW hF hz hL hR
  · exact kf (by first | exact (inR_le ha hb).mp h | exact Int.not_lt.mp (fun q => h ((inR_le ha hb).mpr q)) | exact Int.not_le.mp (fun q => h ((inR_le ha hb).mpr q)) | (intro q; exact h ((inR_le ha hb).mpr q))) p l e s m args below meth cd base D cI cM cS H locs ls C hW hF hz hL hR
theorem V.if_le {a : Int} {off : Int} {tgt : Nat} (hd : decode μ.2.1 pc = .ok (.ifCond .le off, 3)) (ht : (pc : Int) + off = (tgt : Int)) (ha : inR a) (kt : a ≤ 0 → V μ d mc ms (tgt) lv (st) sh M ck sk Q) (kf : 0 < a → V μ d mc ms (pc + 3) lv (st) sh M ck sk Q) : V μ d mc ms (pc) lv (.inl a :: st) sh M ck sk Q := by
  intro p l e s m args below meth cd base D cI cM cS H locs ls C hW hF hz hL hR
  refine lv_if_le (tgt := tgt) C.1 C.2.1 hd ht (fun h => ?_) (fun h => ?_) <;> rw [← of0] at h
  · exact kt (by first | exact (inR_le ha inR_0).mp h | (intro q; exact h ((inR_le ha inR_0).mpr q))) p l e s m args below meth cd base D cI cM cS H locs ls C hW hF hz hL hR
  · exact kf (by first | exact (inR_le ha inR_0).mp h | exact Int.not_lt.mp (fun q => h ((inR_le ha inR_0).mpr q)) | exact Int.not_le.mp (fun q => h ((inR_le ha inR_0).mpr q)) | (intro q; exact h ((inR_le ha inR_0).mpr q))) p l e s m args below meth cd base D cI cM cS H locs ls C hW hF hz hL hR
theorem V.goto {off : Int} {tgt : Nat} (hd : decode μ.2.1 pc = .ok (.goto off, 3)) (ht : (pc : Int) + off = (tgt : Int)) (k : V μ d mc ms (tgt) lv (st) sh M ck sk Q) : V μ d mc ms (pc) lv (st) sh M ck sk Q := by
  intro p l e s m args below meth cd base D cI cM cS H locs ls C hW hF hz hL hR
  exact lv_goto (tgt := tgt) C.1 C.2.1 hd ht (k p l e s m args below meth cd base D cI cM cS H locs ls C hW hF hz hL hR)
theorem V.tabOut {dflt lo hi : Int} {offs : Array Int} {len tgt : Nat} {a : Int} (hd : decode μ.2.1 pc = .ok (.tableswitch dflt lo hi offs, len)) (ha : inR a) (h : a < lo ∨ hi < a) (ht : (pc : Int) + dflt = (tgt : Int)) (k : V μ d mc ms (tgt) lv (st) sh M ck sk Q) : V μ d mc ms (pc) lv (.inl a :: st) sh M ck sk Q := by
  intro p l e s m args below meth cd base D cI cM cS H locs ls C hW hF hz hL hR
  exact lv_tableOut (tgt := tgt) C.1 C.2.1 hd (by rw [inR_toInt ha]; exact h) ht (k p l e s m args below meth cd base D cI cM cS H locs ls C hW hF hz hL hR)
theorem V.tabIn {dflt lo hi : Int} {offs : Array Int} {len tgt : Nat} {a off : Int} (hd : decode μ.2.1 pc = .ok (.tableswitch dflt lo hi offs, len)) (ha : inR a) (h1 : lo ≤ a) (h2 : a ≤ hi) (ho : offs[(a - lo).toNat]? = some off) (ht : (pc : Int) + off = (tgt : Int)) (k : V μ d mc ms (tgt) lv (st) sh M ck sk Q) : V μ d mc ms (pc) lv (.inl a :: st) sh M ck sk Q := by
  intro p l e s m args below meth cd base D cI cM cS H locs ls C hW hF hz hL hR
  exact lv_tableIn (tgt := tgt) C.1 C.2.1 hd (by rw [inR_toInt ha]; omega) (by rw [inR_toInt ha]; omega) (by rw [inR_toInt ha]; exact ho) ht (k p l e s m args below meth cd base D cI cM cS H locs ls C hW hF hz hL hR)
theorem V.dup {v : AV} (hd : decode μ.2.1 pc = .ok (.dup, 1)) (k : V μ d mc ms (pc + 1) lv (v :: v :: st) sh M ck sk Q) : V μ d mc ms (pc) lv (v :: st) sh M ck sk Q := by
  intro p l e s m args below meth cd base D cI cM cS H locs ls C hW hF hz hL hR
  exact lv_dup C.1 C.2.1 hd (cv_cat base v) (k p l e s m args below meth cd base D cI cM cS H locs ls C hW hF hz hL hR)
theorem V.dup2 {v w : AV} (hd : decode μ.2.1 pc = .ok (.dup2, 1)) (k : V μ d mc ms (pc + 1) lv (v :: w :: v :: w :: st) sh M ck sk Q) : V μ d mc ms (pc) lv (v :: w :: st) sh M ck sk Q := by
  intro p l e s m args below meth cd base D cI cM cS H locs ls C hW hF hz hL hR
  exact lv_dup2_11 C.1 C.2.1 hd (cv_cat base v) (cv_cat base w) (k p l e s m args below meth cd base D cI cM cS H locs ls C hW hF hz hL hR)
theorem V.pop {v : AV} (hd : decode μ.2.1 pc = .ok (.pop, 1)) (k : V μ d mc ms (pc + 1) lv (st) sh M ck sk Q) : V μ d mc ms (pc) lv (v :: st) sh M ck sk Q := by
  intro p l e s m args below meth cd base D cI cM cS H locs ls C hW hF hz hL hR
  exact lv_pop C.1 C.2.1 hd (cv_cat base v) (k p l e s m args below meth cd base D cI cM cS H locs ls C hW hF hz hL hR)
/-- a field's link and what the tables say of its class -/
def FI (own : String) (idx t k : Nat) (fin : Bool) (ty : FieldType) : Prop := ∃ (C : String) (T : u_T) (N : Nat), vwCl[t]? = some (C, T, N) ∧ k < N ∧ Cond.fieldLink own idx (T k).1 (T k).2.1 (T k).2.2.1 ∈ fm_TBL ∧ (∀ w ∈ u_ws C T N, w ∈ fm_TBL) ∧ (T k).2.2.2 = fin ∧ parseFieldDescriptor (T k).2.2.1 = some ty ∧ (∃ ty0 : Nat → FieldType, ∀ k, k < N → parseFieldDescriptor (T k).2.2.1 = some (ty0 k)) ∧ (∀ a, a < N → ∀ b, b < N → a ≠ b → (T a).2.1 ≠ (T b).2.1) ∧ (T k).1 = C
theorem fm_cons {μ : Mu} {w : Cond} (h : w ∈ fm_TBL) : w ∈ fm_ws μ := List.mem_cons_of_mem _ h
theorem Cl.obj {base : Nat} {D : va_G} {cI cM cS : ClassId} {a t n : Nat} {fs : List (Option (Option Nat))} {row : Int → Int} {H : Heap} (h : Cl base D cI cM cS a (t + 3, n, fs) row H) : fs.length = n ∧ ∃ r : vw_C, vwCl[t]? = some r ∧ r.2.2 = n ∧ t_OB (base + a) (D.1 t) r.2.2 (D.2 t) H (fv base row fs) := h
theorem V.getv {idx a t n k0 : Nat} {fs : List (Option (Option Nat))} {fin : Bool} {ty : FieldType} {v : AV} (hd : decode μ.2.1 pc = .ok (.getfield idx, 3)) (hf : FI μ.1.cls idx t k0 fin ty) (hs : sh[a]? = some (t + 3, n, fs)) (hv : ∀ base, fv base (M a) fs k0 = cv base v) (k : V μ d mc ms (pc + 3) lv (v :: st) sh M ck sk Q) : V μ d mc ms (pc) lv (.inr (some a) :: st) sh M ck sk Q := by
  intro p l e s m args below meth cd base D cI cM cS H locs ls C hW hF hz hL hR
  obtain ⟨Cn, T, N, hc, hk, hlink, hu, -⟩ := hf
  obtain ⟨hlen, r, h1, hn, cell, q1, q2, q3, q4⟩ := (hW.2 a _ hs).obj
  have hr : r = (Cn, T, N) := Option.some.inj (h1.symm.trans hc)
  subst hr
  have hts := C.2.2.2.2.2.1
  have hK := C.2.2.2.2.2.2.2.2.1
  obtain ⟨hS, hfc, kC, hkC, hkind⟩ := hK.1 t _ hc
  obtain ⟨cf, kf, fi, f, hi, hsl⟩ := hS k0 hk
  refine W.getf C.1 C.2.1 C.2.2.2.2.1 (hts _ (fm_cons hlink)) hi (u_facts hfc hkC (u_lays hts (fun w hw => fm_cons (hu w hw)) hk) hi).1 q1 (by rw [q3]; exact fun h => by cases h) (v := cv base v) ?_ rfl rfl hd (k p l e s m args below meth cd base D cI cM cS H locs ls C hW hF hz hL hR)
  rw [hsl, q4 k0 hk, hv]
theorem V.getI {idx a t n : Nat} (k0 : Nat) {fs : List (Option (Option Nat))} {fin : Bool} {ty : FieldType} (hd : decode μ.2.1 pc = .ok (.getfield idx, 3)) (hf : FI μ.1.cls idx t k0 fin ty) (hs : sh[a]? = some (t + 3, n, fs)) (hv : fs[k0]? = some none) (k : V μ d mc ms (pc + 3) lv (.inl (M a (k0 : Int)) :: st) sh M ck sk Q) : V μ d mc ms (pc) lv (.inr (some a) :: st) sh M ck sk Q :=
  V.getv hd hf hs (fun base => by simp [fv, hv, cv]) k
theorem V.getR {idx a t n k0 b : Nat} {fs : List (Option (Option Nat))} {fin : Bool} {ty : FieldType} (hd : decode μ.2.1 pc = .ok (.getfield idx, 3)) (hf : FI μ.1.cls idx t k0 fin ty) (hs : sh[a]? = some (t + 3, n, fs)) (hv : fs[k0]? = some (some (some b))) (k : V μ d mc ms (pc + 3) lv (.inr (some b) :: st) sh M ck sk Q) : V μ d mc ms (pc) lv (.inr (some a) :: st) sh M ck sk Q :=
  V.getv hd hf hs (fun base => by simp [fv, hv, cv]) k
def mset (M : Mem) (a : Nat) (i v : Int) : Mem := fun b j => if b = a ∧ j = i then v else M b j
def mrow (M : Mem) (a : Nat) (f : Int → Int) : Mem := fun b j => if b = a then f j else M b j
theorem mset_row {M : Mem} {a b : Nat} {i v : Int} (h : b ≠ a) : mset M a i v b = M b := by
  funext j; simp [mset, h]
theorem mrow_row {M : Mem} {a b : Nat} {f : Int → Int} (h : b ≠ a) : mrow M a f b = M b := by
  funext j; simp [mrow, h]
theorem mrow_at {M : Mem} {a : Nat} {f : Int → Int} : mrow M a f a = f := by
  funext j; simp [mrow]
theorem fm_apart {D : va_G} {cI cM cS : ClassId} {s : State} {args : Array Value} {μ : Mu} {t N : Nat} {Cn : String} {T : u_T} (hts : ∀ w ∈ fm_ws μ, w.before args s = true) (hu : ∀ w ∈ u_ws Cn T N, w ∈ fm_TBL) (ty0 : Nat → FieldType) (hty : ∀ k, k < N → parseFieldDescriptor (T k).2.2.1 = some (ty0 k)) (hnm : ∀ a, a < N → ∀ b, b < N → a ≠ b → (T a).2.1 ≠ (T b).2.1) (hK : va_K D vwCl (tysOf cI cM cS) s) (hc : vwCl[t]? = some (Cn, T, N)) : ∀ x y, x < N → y < N → x ≠ y → (D.2 t) x ≠ (D.2 t) y := va_apart (own := "") hts (fun w hw => fm_cons (hu w hw)) ty0 hty hnm hK hc
theorem V.putv {idx a t n k0 : Nat} {fs fs' : List (Option (Option Nat))} {ty : FieldType} {v : AV} {M' : Mem} (hd : decode μ.2.1 pc = .ok (.putfield idx, 3)) (hf : FI μ.1.cls idx t k0 false ty) (hs : sh[a]? = some (t + 3, n, fs)) (hv : ∀ base, narrow ty (cv base v) = cv base v ∧ fits ty (cv base v) = true) (hM : ∀ b, b ≠ a → M' b = M b) (hl : fs'.length = n) (hfs : ∀ base j, j < n → fv base (M' a) fs' j = if j = k0 then cv base v else fv base (M a) fs j) (k : V μ d mc ms (pc + 3) lv (st) (sh.set a (t + 3, n, fs')) M' ck sk Q) : V μ d mc ms (pc) lv (v :: .inr (some a) :: st) sh M ck sk Q := by
  intro p l e s m args below meth cd base D cI cM cS H locs ls C hW hF hz hL hR
  obtain ⟨Cn, T, N, hc, hk, hlink, hu, hfin, hdp, ⟨ty0, hty⟩, hnm, -⟩ := hf
  obtain ⟨hlen, r, h1, hn, cell, q1, q2, q3, q4⟩ := (hW.2 a _ hs).obj
  have hr : r = (Cn, T, N) := Option.some.inj (h1.symm.trans hc)
  subst hr
  have hts := C.2.2.2.2.2.1
  have hK := C.2.2.2.2.2.2.2.2.1
  have hap := fm_apart hts hu ty0 hty hnm hK hc
  obtain ⟨hS, hfc, kC, hkC, hkind⟩ := hK.1 t _ hc
  obtain ⟨cf, kf, fi, f, hi, hsl⟩ := hS k0 hk
  have hin : ∀ w ∈ u_ws Cn T N, w ∈ fm_ws μ := fun w hw => fm_cons (hu w hw)
  have hlay := hts _ (hin _ (u_in_lay hk))
  unfold u_lay at hlay
  rw [if_neg (by rw [hfin]; decide)] at hlay
  have hst := (u_facts hfc hkC (u_lays hts hin hk) hi).1
  have h6 := u_store hfc hkC hkind hlay hi hdp (hv base).1 (hv base).2
  refine W.putK C.1 C.2.1 (f := f) ⟨C.2.2.2.2.1, hts _ (fm_cons hlink), ⟨_, _, _, hi⟩, hst⟩ (by rw [q2]; exact h6) q1 q3 (by rw [hsl]; exact k2_hasslot (q4 k0 hk)) rfl rfl hd fun H' e1 e2 e3 => ?_
  rw [hsl] at e1
  have hW' : Wh base D cI cM cS (sh.set a (t + 3, n, fs')) M' H' := hW.put hs hM (show Cl base D cI cM cS a (t + 3, n, fs') (M' a) H' from ⟨hl, _, hc, hn, t_OB.to ⟨_, e1, q2, q3, t_set q4 hap hk (cv base v)⟩ (fun j hj => by
    rw [hfs base j (by rw [← hn]; exact hj)]; rfl)⟩) e2 e3
  have hge : base ≤ base + a := Nat.le_add_right _ _
  exact k p l e s m args below meth cd base D cI cM cS H' _ ls C hW' (fun q hq => by rw [e3 q (Nat.ne_of_lt (Nat.lt_of_lt_of_le hq (Nat.le_add_right base a)))]; exact hF q hq) (by rw [e2]; exact hz) (fun q hq => by
    rcases List.mem_append.mp hq with h | h
    · exact hL q h
    · rw [List.mem_singleton.mp h]; exact hge) hR
theorem V.putvF {idx a t n k0 : Nat} {fs fs' : List (Option (Option Nat))} {ty : FieldType} {v : AV} {M' : Mem} (hd : decode μ.2.1 pc = .ok (.putfield idx, 3)) (hf : FI μ.1.cls idx t k0 true ty) (hinit : μ.1.name = "<init>") (hown : ∀ r, vwCl[t]? = some r → r.1 = μ.1.cls) (hs : sh[a]? = some (t + 3, n, fs)) (hv : ∀ base, narrow ty (cv base v) = cv base v ∧ fits ty (cv base v) = true) (hM : ∀ b, b ≠ a → M' b = M b) (hl : fs'.length = n) (hfs : ∀ base j, j < n → fv base (M' a) fs' j = if j = k0 then cv base v else fv base (M a) fs j) (k : V μ d mc ms (pc + 3) lv (st) (sh.set a (t + 3, n, fs')) M' ck sk Q) : V μ d mc ms (pc) lv (v :: .inr (some a) :: st) sh M ck sk Q := by
  intro p l e s m args below meth cd base D cI cM cS H locs ls C hW hF hz hL hR
  obtain ⟨Cn, T, N, hc, hk, hlink, hu, hfin, hdp, ⟨ty0, hty⟩, hnm, hCn⟩ := hf
  have hown' := hown _ hc
  obtain ⟨hlen, r, h1, hn, cell, q1, q2, q3, q4⟩ := (hW.2 a _ hs).obj
  have hr : r = (Cn, T, N) := Option.some.inj (h1.symm.trans hc)
  subst hr
  have hts := C.2.2.2.2.2.1
  have hK := C.2.2.2.2.2.2.2.2.1
  have hap := fm_apart hts hu ty0 hty hnm hK hc
  obtain ⟨hS, hfc, kC, hkC, hkind⟩ := hK.1 t _ hc
  obtain ⟨cf, kf, fi, f, hi, hsl⟩ := hS k0 hk
  have hin : ∀ w ∈ u_ws Cn T N, w ∈ fm_ws μ := fun w hw => fm_cons (hu w hw)
  have hlay := hts _ (hin _ (u_in_lay hk))
  unfold u_lay at hlay
  rw [if_pos hfin] at hlay
  have hst := (u_facts hfc hkC (u_lays hts hin hk) hi).1
  have hcf : m.cls = cf := by
    obtain ⟨_, _, c', _, _, _, -, -, hf', -, -, -, hown2, -⟩ := Cond.laysFinal_spec hlay
    have e1 : c' = cf := by have := hi.symm.trans hf'; simp at this; exact this.1.symm
    rw [hCn] at hown2
    have hown3 : Cn = μ.1.cls := hown'
    rw [hown3] at hown2
    rw [← e1]; exact Option.some.inj (C.2.2.2.2.1.symm.trans hown2)
  have h6 := u_fits hfc hkC hkind (Or.inr hlay) hi hdp (hv base).1 (hv base).2
  refine W.putFinK C.1 C.2.1 C.2.2.2.2.1 (hts _ (fm_cons hlink)) hi hst hcf (C.2.2.2.2.2.2.2.1.trans hinit) (by rw [q2]; exact h6) q1 q3 (by rw [hsl]; exact k2_hasslot (q4 k0 hk)) rfl rfl hd fun H' e1 e2 e3 => ?_
  rw [hsl] at e1
  have hW' : Wh base D cI cM cS (sh.set a (t + 3, n, fs')) M' H' := hW.put hs hM (show Cl base D cI cM cS a (t + 3, n, fs') (M' a) H' from ⟨hl, _, hc, hn, t_OB.to ⟨_, e1, q2, q3, t_set q4 hap hk (cv base v)⟩ (fun j hj => by
    rw [hfs base j (by rw [← hn]; exact hj)]; rfl)⟩) e2 e3
  have hge : base ≤ base + a := Nat.le_add_right _ _
  exact k p l e s m args below meth cd base D cI cM cS H' _ ls C hW' (fun q hq => by rw [e3 q (Nat.ne_of_lt (Nat.lt_of_lt_of_le hq (Nat.le_add_right base a)))]; exact hF q hq) (by rw [e2]; exact hz) (fun q hq => by
    rcases List.mem_append.mp hq with h | h
    · exact hL q h
    · rw [List.mem_singleton.mp h]; exact hge) hR
theorem fv_mset {M : Mem} {a k0 : Nat} {x : Int} {fs : List (Option (Option Nat))} (hv : fs[k0]? = some none) (base j : Nat) : fv base (mset M a (k0 : Int) x a) fs j = if j = k0 then cv base (.inl x) else fv base (M a) fs j := by
  by_cases e : j = k0
  · subst e
    simp [fv, hv, cv, mset]
  · have e2 : ¬ ((j : Int) = (k0 : Int)) := by omega
    simp only [if_neg e, fv, mset, e2, and_false, if_false]
theorem V.putI {idx a t n : Nat} (k0 : Nat) {fs : List (Option (Option Nat))} {x : Int} (hd : decode μ.2.1 pc = .ok (.putfield idx, 3)) (hf : FI μ.1.cls idx t k0 false .int) (hs : sh[a]? = some (t + 3, n, fs)) (hn : fs.length = n) (hv : fs[k0]? = some none) (k : V μ d mc ms (pc + 3) lv (st) sh (mset M a k0 x) ck sk Q) : V μ d mc ms (pc) lv (.inl x :: .inr (some a) :: st) sh M ck sk Q := by
  refine V.putv (M' := mset M a k0 x) (fs' := fs) hd hf hs (fun base => ⟨rfl, rfl⟩) (fun b hb => mset_row hb) hn (fun base j _ => fv_mset hv base j) ?_
  rw [shp_set hs]
  exact k
theorem fv_set {fs : List (Option (Option Nat))} {k0 b : Nat} (hl : k0 < fs.length) (base : Nat) (row : Int → Int) (j : Nat) : fv base row (fs.set k0 (some (some b))) j = if j = k0 then cv base (.inr (some b)) else fv base row fs j := by
  by_cases e : j = k0
  · subst e
    simp [fv, hl, cv]
  · simp only [if_neg e, fv, List.getElem?_set_ne (Ne.symm e)]
theorem V.putRF {idx a t n k0 b : Nat} {fs : List (Option (Option Nat))} {ty : FieldType} {sh2 : Shp} (hd : decode μ.2.1 pc = .ok (.putfield idx, 3)) (hf : FI μ.1.cls idx t k0 true ty) (hinit : μ.1.name = "<init>") (hown : ∀ r, vwCl[t]? = some r → r.1 = μ.1.cls) (hs : sh[a]? = some (t + 3, n, fs)) (hr : ∀ x : Nat, narrow ty (.ref x) = .ref x ∧ fits ty (.ref x) = true) (hn : fs.length = n) (hl : k0 < fs.length) (h2 : sh.set a (t + 3, n, fs.set k0 (some (some b))) = sh2) (k : V μ d mc ms (pc + 3) lv (st) sh2 M ck sk Q) : V μ d mc ms (pc) lv (.inr (some b) :: .inr (some a) :: st) sh M ck sk Q := by
  subst h2
  exact V.putvF (M' := M) (fs' := fs.set k0 (some (some b))) hd hf hinit hown hs (fun base => hr _) (fun _ _ => rfl) (by rw [List.length_set]; exact hn) (fun base j _ => fv_set hl base _ j) k
theorem fm_clamp {i : Int} (h : 0 ≤ i) (h2 : i ≤ 2147483647) : ((Int32.ofInt i).toNatClampNeg : Int) = i := by
  rw [Int32.toNatClampNeg, inR_toInt ⟨by omega, h2⟩]; omega
theorem fm_nneg {i : Int} (h : 0 ≤ i) (h2 : i ≤ 2147483647) : ¬ Int32.ofInt i < 0 := by
  rw [← of0, inR_lt ⟨by omega, h2⟩ inR_0]; omega
theorem fm_vin {i : Int} {n : Nat} (h : 0 ≤ i ∧ i < (n : Int)) (hn : n ≤ 2147483647) : vp_in (Int32.ofInt i) n := by
  rw [vp_in_iff, inR_toInt ⟨by omega, by omega⟩]; exact h
theorem V.iald {a n : Nat} {fs : List (Option (Option Nat))} {i : Int} (hd : decode μ.2.1 pc = .ok (.iaload, 1)) (hs : sh[a]? = some (0, n, fs)) (hn : n ≤ 2147483647) (hi : 0 ≤ i ∧ i < (n : Int)) (k : V μ d mc ms (pc + 1) lv (.inl (M a i) :: st) sh M ck sk Q) : V μ d mc ms (pc) lv (.inl i :: .inr (some a) :: st) sh M ck sk Q := by
  intro p l e s m args below meth cd base D cI cM cS H locs ls C hW hF hz hL hR
  have hc : H[base + a]? = some (vp_cell cI (n, .inl (fun j : Nat => Int32.ofInt (M a (j : Int))))) := hW.2 a _ hs
  have hv := fm_vin hi hn
  have hlt : (Int32.ofInt i).toNatClampNeg < n := Nat.not_le.mp fun q => hv (Or.inr q)
  refine W.iald (v := .int (Int32.ofInt (M a i))) C.1 C.2.1 hc ((C.2.2.2.2.2.2.2.2.1.2 0 _ rfl).1 n _) (fun q => by cases q) (by show ¬ (_ ∨ (arrV _ _ _).slots.size ≤ _); rw [arrV_size]; exact hv) (by show (arrV _ _ _).slots[_]? = _; rw [arrV_read _ _ hlt]; show some (Value.int (Int32.ofInt (M a ((Int32.ofInt i).toNatClampNeg : Int)))) = _; rw [fm_clamp hi.1 (by omega)]) rfl rfl hd (k p l e s m args below meth cd base D cI cM cS H locs ls C hW hF hz hL hR)
theorem V.iast {a n : Nat} {fs : List (Option (Option Nat))} {i x : Int} (hd : decode μ.2.1 pc = .ok (.iastore, 1)) (hs : sh[a]? = some (0, n, fs)) (hn : n ≤ 2147483647) (hi : 0 ≤ i ∧ i < (n : Int)) (k : V μ d mc ms (pc + 1) lv (st) sh (mset M a i x) ck sk Q) : V μ d mc ms (pc) lv (.inl x :: .inl i :: .inr (some a) :: st) sh M ck sk Q := by
  intro p l e s m args below meth cd base D cI cM cS H locs ls C hW hF hz hL hR
  have hc : H[base + a]? = some (vp_cell cI (n, .inl (fun j : Nat => Int32.ofInt (M a (j : Int))))) := hW.2 a _ hs
  have hv := fm_vin hi hn
  have hlt : (Int32.ofInt i).toNatClampNeg < n := Nat.not_le.mp fun q => hv (Or.inr q)
  have hge : base ≤ base + a := Nat.le_add_right _ _
  refine W.iast C.1 C.2.1 hc ((C.2.2.2.2.2.2.2.2.1.2 0 _ rfl).1 n _) (fun q => by cases q) (by show ¬ (_ ∨ (arrV _ _ _).slots.size ≤ _); rw [arrV_size]; exact hv) rfl rfl hd fun H1 e9 z oq => ?_
  have hW' : Wh base D cI cM cS sh (mset M a i x) H1 := hW.put1 hs (fun b hb => mset_row hb) (show H1[base + a]? = some (vp_cell cI (n, .inl (fun j : Nat => Int32.ofInt (mset M a i x a (j : Int))))) from by
    rw [e9, vp_cell_i, vp_cell_i, arrV_store]
    congr 2
    funext q
    have hcl := fm_clamp hi.1 (by omega : i ≤ 2147483647)
    by_cases hq : q = (Int32.ofInt i).toNatClampNeg
    · subst hq
      simp [updV, mset, hcl]
    · have hq2 : ¬ ((q : Int) = i) := by omega
      simp [updV, mset, hq, hq2]) z oq
  exact k p l e s m args below meth cd base D cI cM cS H1 _ ls C hW' (fun q hq => by rw [oq q (Nat.ne_of_lt (Nat.lt_of_lt_of_le hq (Nat.le_add_right base a)))]; exact hF q hq) (by rw [z]; exact hz) (fun q hq => by
    rcases List.mem_append.mp hq with h | h
    · exact hL q h
    · rw [List.mem_singleton.mp h]; exact hge) hR
theorem V.aald {a n t b : Nat} {fs : List (Option (Option Nat))} {i : Int} (hd : decode μ.2.1 pc = .ok (.aaload, 1)) (hs : sh[a]? = some (t, n, fs)) (ht : t = 1 ∨ t = 2) (hn : n ≤ 2147483647) (hi : 0 ≤ i ∧ i < (n : Int)) (hv : fs[i.toNat]? = some (some (some b))) (k : V μ d mc ms (pc + 1) lv (.inr (some b) :: st) sh M ck sk Q) : V μ d mc ms (pc) lv (.inl i :: .inr (some a) :: st) sh M ck sk Q := by
  intro p l e s m args below meth cd base D cI cM cS H locs ls C hW hF hz hL hR
  have hvi := fm_vin hi hn
  have hlt : (Int32.ofInt i).toNatClampNeg < n := Nat.not_le.mp fun q => hvi (Or.inr q)
  have hcl : (Int32.ofInt i).toNatClampNeg = i.toNat := by have := fm_clamp hi.1 (by omega : i ≤ 2147483647); omega
  have hrd : (Value.ref (base + b)) = va_rf (rr base fs (Int32.ofInt i).toNatClampNeg) := by rw [hcl]; simp [rr, hv, va_rf]
  rcases ht with rfl | rfl
  · have hc : H[base + a]? = some (vp_cell cM (n, .inr (.inr (.inr (.inr (rr base fs)))))) := hW.2 a _ hs
    refine W.aald (v := .ref (base + b)) (ty := .object RX1) C.1 C.2.1 hc ((C.2.2.2.2.2.2.2.2.1.2 1 _ rfl).1 n (fun j => va_rf (rr base fs j))) rfl (fun q => by cases q) (by show ¬ (_ ∨ (arrV _ _ _).slots.size ≤ _); rw [arrV_size]; exact hvi) (by show (arrV _ _ _).slots[_]? = _; rw [arrV_read _ _ hlt, hrd]) rfl rfl hd (k p l e s m args below meth cd base D cI cM cS H locs ls C hW hF hz hL hR)
  · have hc : H[base + a]? = some (vp_cell cS (n, .inr (.inr (.inr (.inr (rr base fs)))))) := hW.2 a _ hs
    refine W.aald (v := .ref (base + b)) (ty := .object RX3) C.1 C.2.1 hc ((C.2.2.2.2.2.2.2.2.1.2 2 _ rfl).1 n (fun j => va_rf (rr base fs j))) rfl (fun q => by cases q) (by show ¬ (_ ∨ (arrV _ _ _).slots.size ≤ _); rw [arrV_size]; exact hvi) (by show (arrV _ _ _).slots[_]? = _; rw [arrV_read _ _ hlt, hrd]) rfl rfl hd (k p l e s m args below meth cd base D cI cM cS H locs ls C hW hF hz hL hR)
theorem V.alen {a n : Nat} {fs : List (Option (Option Nat))} (hd : decode μ.2.1 pc = .ok (.arraylength, 1)) (hs : sh[a]? = some (0, n, fs)) (k : V μ d mc ms (pc + 1) lv (.inl (n : Int) :: st) sh M ck sk Q) : V μ d mc ms (pc) lv (.inr (some a) :: st) sh M ck sk Q := by
  intro p l e s m args below meth cd base D cI cM cS H locs ls C hW hF hz hL hR
  have hc : H[base + a]? = some (vp_cell cI (n, .inl (fun j : Nat => Int32.ofInt (M a (j : Int))))) := hW.2 a _ hs
  exact W.alen (n := Int32.ofInt n) C.1 C.2.1 hc ((C.2.2.2.2.2.2.2.2.1.2 0 _ rfl).1 n _) (by rw [vp_cell_i, arrV_size, Int32.ofInt_eq_ofNat] <;> rfl) rfl rfl hd (k p l e s m args below meth cd base D cI cM cS H locs ls C hW hF hz hL hR)
theorem V.aast {a n t b : Nat} {fs gs : List (Option (Option Nat))} {i : Int} {nb cb : Nat} {sh2 : Shp} (hd : decode μ.2.1 pc = .ok (.aastore, 1)) (hs : sh[a]? = some (t, n, fs)) (ht : (t = 1 ∧ cb = 1) ∨ (t = 2 ∧ cb = 3)) (hb : sh[b]? = some (cb + 3, nb, gs)) (hn : n ≤ 2147483647) (hfl : fs.length = n) (hi : 0 ≤ i ∧ i < (n : Int)) (h2 : sh.set a (t, n, fs.set i.toNat (some (some b))) = sh2) (k : V μ d mc ms (pc + 1) lv (st) sh2 M ck sk Q) : V μ d mc ms (pc) lv (.inr (some b) :: .inl i :: .inr (some a) :: st) sh M ck sk Q := by
  subst h2
  intro p l e s m args below meth cd base D cI cM cS H locs ls C hW hF hz hL hR
  have hvi := fm_vin hi hn
  have hlt : (Int32.ofInt i).toNatClampNeg < n := Nat.not_le.mp fun q => hvi (Or.inr q)
  have hcl : (Int32.ofInt i).toNatClampNeg = i.toNat := by have := fm_clamp hi.1 (by omega : i ≤ 2147483647); omega
  have h0 : ¬ Int32.ofInt i < 0 := fun q => hvi (Or.inl q)
  have hge : base ≤ base + a := Nat.le_add_right _ _
  obtain ⟨-, r', hr', hn', cellV, g1, g2, g3, -⟩ := (hW.2 b _ hb).obj
  have hK := C.2.2.2.2.2.2.2.2.1
  have hfn : ∀ z : Value, z = .ref (base + b) → updV (fun j => va_rf (rr base fs j)) (Int32.ofInt i).toNatClampNeg z = fun j => va_rf (rr base (fs.set i.toNat (some (some b))) j) := by
    rintro z rfl
    funext q
    by_cases hq : q = (Int32.ofInt i).toNatClampNeg
    · subst hq
      rw [hcl]
      have : i.toNat < fs.length := by omega
      simp [updV, rr, this, va_rf]
    · have hq2 : ¬ i.toNat = q := by omega
      simp [updV, hq, rr, List.getElem?_set_ne hq2]
  rcases ht with ⟨rfl, rfl⟩ | ⟨rfl, rfl⟩
  · have hc : H[base + a]? = some (vp_cell cM (n, .inr (.inr (.inr (.inr (rr base fs)))))) := hW.2 a _ hs
    have hcls := (hK.1 1 r' hr').2
    obtain ⟨kA, comp, k1, k2, k3, -⟩ := (hK.2 1 _ rfl).2
    have hcomp : comp = D.1 1 := Option.some.inj (k3.symm.trans (by rw [show RX1 = r'.1 from by have := Option.some.inj hr'; rw [← this]]; exact hcls.1))
    subst hcomp
    obtain ⟨kC, hkC, hkk⟩ := hcls.2
    refine W.aast C.1 C.2.1 hc (fun q h => by cases h) (fun h => by cases h) k1 k2 rfl hkC ⟨h0, by show _ < (arrV _ _ _).slots.size; rw [arrV_size]; exact hlt⟩ g1 (fun q h => by rw [g3] at h; cases h) (by rw [g2]; exact hkC) (by rw [g2]; exact va_assign hcls) rfl rfl hd fun H1 e9 z oq => ?_
    have hW' : Wh base D cI cM cS (sh.set a (1, n, fs.set i.toNat (some (some b)))) M H1 := hW.put hs (fun _ _ => rfl) (show H1[base + a]? = some (vp_cell cM (n, .inr (.inr (.inr (.inr (rr base (fs.set i.toNat (some (some b)))))))) ) from by
      rw [e9, vp_cell_q, vp_cell_q, arrV_store, hfn _ rfl]) z oq
    exact k p l e s m args below meth cd base D cI cM cS H1 _ ls C hW' (fun q hq => by rw [oq q (Nat.ne_of_lt (Nat.lt_of_lt_of_le hq (Nat.le_add_right base a)))]; exact hF q hq) (by rw [z]; exact hz) (fun q hq => by
    rcases List.mem_append.mp hq with h | h
    · exact hL q h
    · rw [List.mem_singleton.mp h]; exact hge) hR
  · have hc : H[base + a]? = some (vp_cell cS (n, .inr (.inr (.inr (.inr (rr base fs)))))) := hW.2 a _ hs
    have hcls := (hK.1 3 r' hr').2
    obtain ⟨kA, comp, k1, k2, k3, -⟩ := (hK.2 2 _ rfl).2
    have hcomp : comp = D.1 3 := Option.some.inj (k3.symm.trans (by rw [show RX3 = r'.1 from by have := Option.some.inj hr'; rw [← this]]; exact hcls.1))
    subst hcomp
    obtain ⟨kC, hkC, hkk⟩ := hcls.2
    refine W.aast C.1 C.2.1 hc (fun q h => by cases h) (fun h => by cases h) k1 k2 rfl hkC ⟨h0, by show _ < (arrV _ _ _).slots.size; rw [arrV_size]; exact hlt⟩ g1 (fun q h => by rw [g3] at h; cases h) (by rw [g2]; exact hkC) (by rw [g2]; exact va_assign hcls) rfl rfl hd fun H1 e9 z oq => ?_
    have hW' : Wh base D cI cM cS (sh.set a (2, n, fs.set i.toNat (some (some b)))) M H1 := hW.put hs (fun _ _ => rfl) (show H1[base + a]? = some (vp_cell cS (n, .inr (.inr (.inr (.inr (rr base (fs.set i.toNat (some (some b)))))))) ) from by
      rw [e9, vp_cell_q, vp_cell_q, arrV_store, hfn _ rfl]) z oq
    exact k p l e s m args below meth cd base D cI cM cS H1 _ ls C hW' (fun q hq => by rw [oq q (Nat.ne_of_lt (Nat.lt_of_lt_of_le hq (Nat.le_add_right base a)))]; exact hF q hq) (by rw [z]; exact hz) (fun q hq => by
    rcases List.mem_append.mp hq with h | h
    · exact hL q h
    · rw [List.mem_singleton.mp h]; exact hge) hR
theorem fv_blank {M : Mem} {a : Nat} {fs : List (Option (Option Nat))} {ty : Nat → FieldType} (hM : ∀ i, M a i = 0) (hfs : ∀ j, j < fs.length → (fs[j]? = some none ∧ defaultValue (ty j) = .int 0) ∨ (fs[j]? = some (some none) ∧ defaultValue (ty j) = .null)) (base : Nat) : ∀ j, j < fs.length → defaultValue (ty j) = fv base (M a) fs j := by
  intro j hj
  rcases hfs j hj with ⟨h1, h2⟩ | ⟨h1, h2⟩
  · rw [h2]; simp only [fv, h1, hM]; rfl
  · rw [h2]; simp only [fv, h1]
theorem V.new {idx t N : Nat} {Cn : String} {T : u_T} {ty : Nat → FieldType} {fs : List (Option (Option Nat))} {sh2 : Shp} (hd : decode μ.2.1 pc = .ok (.new idx, 3)) (hc : vwCl[t]? = some (Cn, T, N)) (hk : Cond.classLink μ.1.cls idx Cn ∈ fm_TBL) (hins : Cond.instantiable Cn N ∈ fm_TBL) (hini : Cond.initialized Cn ∈ fm_TBL) (hu : ∀ w ∈ u_ws Cn T N, w ∈ fm_TBL) (hty : ∀ k, k < N → parseFieldDescriptor (T k).2.2.1 = some (ty k)) (hl : fs.length = N) (hM : ∀ i, M sh.length i = 0) (hfs : ∀ j, j < fs.length → (fs[j]? = some none ∧ defaultValue (ty j) = .int 0) ∨ (fs[j]? = some (some none) ∧ defaultValue (ty j) = .null)) (hck : ck + 1 ≤ mc) (hsk : sk + N ≤ ms) {a : Nat} (ha : sh.length = a) (h2 : sh ++ [(t + 3, N, fs)] = sh2) (k : V μ d mc ms (pc + 3) lv (.inr (some a) :: st) sh2 M (ck + 1) (sk + N) Q) : V μ d mc ms (pc) lv (st) sh M ck sk Q := by
  subst h2; subst ha
  intro p l e s m args below meth cd base D cI cM cS H locs ls C hW hF hz hL hR
  have hts := C.2.2.2.2.2.1
  have hK := C.2.2.2.2.2.2.2.2.1
  have hKn := hK.1 t _ hc
  have hin : ∀ w ∈ u_ws Cn T N, w ∈ fm_ws μ := fun w hw => fm_cons (hu w hw)
  refine W.newcK C.1 C.2.1 C.2.2.2.2.1 (hts _ (fm_cons hk)) (hts _ (fm_cons hins)) (hts _ (fm_cons hini)) rfl hd hck hsk hKn.2.1 hW.1 fun H1 kC hkC e1 z1 o1 => ?_
  have hW' : Wh base D cI cM cS (sh ++ [(t + 3, N, fs)]) M H1 := hW.push (show Cl base D cI cM cS sh.length (t + 3, N, fs) (M sh.length) H1 from ⟨hl, _, hc, rfl, (u_born ty hts hin hKn hkC e1 hty).to (fun j hj => fv_blank hM hfs base j (by rw [hl]; exact hj))⟩) (by rw [z1, hW.1]) (fun q hq => o1 q (by rw [← hW.1]; exact hq))
  exact k p l e s m args below meth cd base D cI cM cS H1 locs ls C hW' (fun q hq => by rw [o1 q (Nat.lt_of_lt_of_le hq (Nat.le_add_right base sh.length))]; exact hF q hq) (by rw [z1, ← hW.1]; omega) hL hR
theorem V.newa {N : Nat} {z : Int} {sh2 : Shp} {a : Nat} (hd : decode μ.2.1 pc = .ok (.newarray .int, 2)) (hz0 : z = (N : Int)) (hN : N ≤ 100000) (hM : ∀ i, M sh.length i = 0) (hck : ck + 1 ≤ mc) (hsk : sk + N ≤ ms) (ha : sh.length = a) (h2 : sh ++ [(0, N, [])] = sh2) (k : V μ d mc ms (pc + 2) lv (.inr (some a) :: st) sh2 M (ck + 1) (sk + N) Q) : V μ d mc ms (pc) lv (.inl z :: st) sh M ck sk Q := by
  subst h2; subst ha; subst hz0
  intro p l e s m args below meth cd base D cI cM cS H locs ls C hW hF hz hL hR
  have hts := C.2.2.2.2.2.1
  have hK := C.2.2.2.2.2.2.2.2.1
  have hcl : (Int32.ofInt (N : Int)).toNatClampNeg = N := by have := fm_clamp (i := (N : Int)) (by omega) (by omega); omega
  refine va_newaK C.1 C.2.1 (atype := .int) (hts _ (fm_cons kw_arr)) rfl hd rfl (fm_nneg (by omega) (by omega)) hcl (by show N * 4 ≤ _; omega) hck hsk hW.1 fun H1 cA e1 z1 o1 hAr hNm => ?_
  have hcA : cA = cI := Option.some.inj (hNm.symm.trans (hK.2 0 _ rfl).2)
  subst hcA
  have hW' : Wh base D cA cM cS (sh ++ [(0, N, [])]) M H1 := hW.push (show H1[base + sh.length]? = some (vp_cell cA (N, .inl (fun j : Nat => Int32.ofInt (M sh.length (j : Int))))) from by
    rw [e1, vp_cell_i]
    congr 2
    funext j
    rw [hM]; rfl) (by rw [z1, hW.1]) (fun q hq => o1 q (by rw [← hW.1]; exact hq))
  exact k p l e s m args below meth cd base D cA cM cS H1 locs ls C hW' (fun q hq => by rw [o1 q (Nat.lt_of_lt_of_le hq (Nat.le_add_right base sh.length))]; exact hF q hq) (by rw [z1, ← hW.1]; omega) hL hR
theorem V.newq {idx N t : Nat} {z : Int} {Cn : String} {sh2 : Shp} {a : Nat} (hd : decode μ.2.1 pc = .ok (.anewarray idx, 3)) (ht : (t = 1 ∧ Cn = RX1) ∨ (t = 2 ∧ Cn = RX3)) (hk : Cond.classLink μ.1.cls idx Cn ∈ fm_TBL) (hz0 : z = (N : Int)) (hN : N ≤ 100000) (hck : ck + 1 ≤ mc) (hsk : sk + N ≤ ms) (ha : sh.length = a) (h2 : sh ++ [(t, N, List.replicate N (some none))] = sh2) (k : V μ d mc ms (pc + 3) lv (.inr (some a) :: st) sh2 M (ck + 1) (sk + N) Q) : V μ d mc ms (pc) lv (.inl z :: st) sh M ck sk Q := by
  subst h2; subst ha; subst hz0
  intro p l e s m args below meth cd base D cI cM cS H locs ls C hW hF hz hL hR
  have hts := C.2.2.2.2.2.1
  have hK := C.2.2.2.2.2.2.2.2.1
  have hNK := C.2.2.2.2.2.2.2.2.2.1
  have hcl : (Int32.ofInt (N : Int)).toNatClampNeg = N := by have := fm_clamp (i := (N : Int)) (by omega) (by omega); omega
  have hov : (Cond.arrayOver (.object Cn)).before args s = true := by
    rcases ht with ⟨-, rfl⟩ | ⟨-, rfl⟩
    · exact hNK.2.1.use
    · exact hNK.2.2.use
  have hrr : ∀ j, rr base (List.replicate N (some none)) j = none := by
    intro j
    unfold rr
    by_cases hj : j < N
    · rw [List.getElem?_replicate, if_pos hj]
    · rw [List.getElem?_replicate, if_neg hj]
  refine W.anew C.1 C.2.1 C.2.2.2.2.1 (hts _ (fm_cons hk)) hov rfl hd rfl (fm_nneg (by omega) (by omega)) (by rw [hcl]; omega) hck (by rw [hcl]; exact hsk) fun cA kA comp f1 f2 f3 f4 => ?_
  rw [hcl]
  generalize hH1 : H.push ({ cls := cA, slots := Array.replicate N .null, vm := .none } : Cell) = H1
  have z1 : H1.size = H.size + 1 := by rw [← hH1, Array.size_push]
  have e1 : H1[H.size]? = some (arrV cA N (fun _ => .null)) := by rw [← hH1, Array.getElem?_push_size, ← arrV_new]
  have o1 : ∀ q : Nat, q < H.size → H1[q]? = H[q]? := fun q hq => by rw [← hH1, Array.getElem?_push, if_neg (Nat.ne_of_lt hq)]
  have e2 : H1[base + sh.length]? = some (vp_cell cA (N, .inr (.inr (.inr (.inr (rr base (List.replicate N (some none)))))))) := by
    rw [← hW.1, e1, vp_cell_q]
    congr 2
    funext j
    rw [hrr]; rfl
  rw [hW.1]
  have hb0 : base ≤ H.size := by rw [hW.1]; omega
  rcases ht with ⟨rfl, rfl⟩ | ⟨rfl, rfl⟩
  · obtain ⟨-, -, -, -, -, k4⟩ := (hK.2 1 _ rfl).2
    have hcA : cA = cM := Option.some.inj (f1.symm.trans k4)
    subst hcA
    exact k p l e s m args below meth cd base D cI cA cS H1 locs ls C (hW.push (c := (1, N, List.replicate N (some none))) e2 z1 o1) (fun q hq => by rw [o1 q (Nat.lt_of_lt_of_le hq hb0)]; exact hF q hq) (by omega) hL hR
  · obtain ⟨-, -, -, -, -, k4⟩ := (hK.2 2 _ rfl).2
    have hcA : cA = cS := Option.some.inj (f1.symm.trans k4)
    subst hcA
    exact k p l e s m args below meth cd base D cI cM cA H1 locs ls C (hW.push (c := (2, N, List.replicate N (some none))) e2 z1 o1) (fun q hq => by rw [o1 q (Nat.lt_of_lt_of_le hq hb0)]; exact hF q hq) (by omega) hL hR
theorem V.iret {z : Int} (hd : decode μ.2.1 pc = .ok (.ireturn, 1)) (hr : μ.2.2.2 = some .int) (hck : ck ≤ mc) (hsk : sk ≤ ms) (q : Q (some (.inl z)) sh M) : V μ d mc ms (pc) lv ([.inl z]) sh M ck sk Q := by
  intro p l e s m args below meth cd base D cI cM cS H locs ls C hW hF hz hL hR
  refine W.widen hck hsk ?_
  exact W.iret (v := Int32.ofInt z) C.1 C.2.1 (C.2.2.1.trans hr) (fun t ht hWm => ⟨⟨some (.inl z), sh, M, rfl, q, by rw [ht]; exact hW⟩, fun q hq => by rw [ht]; exact hF q hq, by rw [ht]; exact hz⟩) hL hd C.2.2.2.2.2.2.1
theorem V.zret {z : Int} (hd : decode μ.2.1 pc = .ok (.ireturn, 1)) (hr : μ.2.2.2 = some .boolean) (hzz : z = 0 ∨ z = 1) (hck : ck ≤ mc) (hsk : sk ≤ ms) (q : Q (some (.inl z)) sh M) : V μ d mc ms (pc) lv ([.inl z]) sh M ck sk Q := by
  intro p l e s m args below meth cd base D cI cM cS H locs ls C hW hF hz hL hR
  refine W.widen hck hsk ?_
  exact W.zret (v := Int32.ofInt z) (ty := .boolean) C.1 C.2.1 (C.2.2.1.trans hr) (by rcases hzz with rfl | rfl <;> decide) (fun t ht hWm => ⟨⟨some (.inl z), sh, M, rfl, q, by rw [ht]; exact hW⟩, fun q hq => by rw [ht]; exact hF q hq, by rw [ht]; exact hz⟩) hL hd C.2.2.2.2.2.2.1
theorem V.vret (hd : decode μ.2.1 pc = .ok (.return_, 1)) (hr : μ.2.2.2 = none) (hck : ck ≤ mc) (hsk : sk ≤ ms) (q : Q none sh M) : V μ d mc ms (pc) lv ([]) sh M ck sk Q := by
  intro p l e s m args below meth cd base D cI cM cS H locs ls C hW hF hz hL hR
  refine W.widen hck hsk ?_
  exact W.vret C.1 C.2.1 (C.2.2.1.trans hr) (fun t ht hWm => ⟨⟨none, sh, M, rfl, q, by rw [ht]; exact hW⟩, fun q hq => by rw [ht]; exact hF q hq, by rw [ht]; exact hz⟩) hL hd C.2.2.2.2.2.2.1
end RULES
end
section
theorem cat_sum (base : Nat) (rest : List AV) : ((rest.map (cv base)).map fun v => v.category).sum = rest.length := by
  induction rest with
  | nil => rfl
  | cons v r ih => simp only [List.map_cons, List.sum_cons, ih, cv_cat, List.length_cons]; omega
theorem PW.blind {av : List Value} {base : Nat} {D : va_G} {cI cM cS : ClassId} {sh : Shp} {M : Mem} : FrameBlind (va_Pc av (PW base D cI cM cS sh M)) := fun a U g mk q => ⟨q.1, q.2.1, va_K.moved (u := U) (U := U.calling g mk a) (Vm.Alike.refl U.vm) q.2.2.1, NK.same (u := U) (U := U.calling g mk a) rfl q.2.2.2⟩
theorem PW.at {base : Nat} {D : va_G} {cI cM cS : ClassId} {sh : Shp} {M : Mem} {s U : State} {H : Heap} (hW : Wh base D cI cM cS sh M H) (hK : va_K D vwCl (tysOf cI cM cS) s) (hN : NK s) (hU : U.heap = H) (hWm : s.WarmedH U.vm) : PW base D cI cM cS sh M U := ⟨by rw [hU]; exact hW, va_K.moved hWm.alike hK, NK.moved hWm hN⟩
/-- a method that is called: its name and code, among the words -/
def MC (ν : Mu) (n : Nat) : Prop := (ν.1.cls ≠ "java/lang/invoke/MethodHandle" ∧ ν.1.cls ≠ "java/lang/invoke/VarHandle" ∧ (parseMethodDescriptor ν.1.desc).map (fun d => d.parameters.length) = some n) ∧ ν.2.2.1 ≤ 12 ∧ Cond.code ν.1 ν.2.1 ν.2.2.1 ν.2.2.2 ∈ fm_TBL ∧ Cond.initialized ν.1.cls ∈ fm_TBL
def KV (own : String) (idx : Nat) (ν : Mu) (n t : Nat) : Prop := Cond.methodLink own idx ν.1 ∈ fm_TBL ∧ Cond.instanceMethod ν.1 ∈ fm_TBL ∧ Cond.selects ν.1.cls ν.1 ν.1 ∈ fm_TBL ∧ (∃ r, vwCl[t]? = some r ∧ r.1 = ν.1.cls) ∧ MC ν n
def KS (own : String) (idx : Nat) (ν : Mu) (n : Nat) : Prop := Cond.methodLink own idx ν.1 ∈ fm_TBL ∧ Cond.static ν.1 ∈ fm_TBL ∧ MC ν n
def KN (own : String) (idx : Nat) (ν : Mu) (n : Nat) : Prop := (∃ host, (own, idx, ν.1, host) ∈ fm_NL) ∧ Cond.static ν.1 ∈ fm_TBL ∧ MC ν n
def KI (own : String) (idx : Nat) (ν : Mu) (n : Nat) : Prop := (∃ host, (own, idx, ν.1, host) ∈ fm_NL) ∧ Cond.instanceMethod ν.1 ∈ fm_TBL ∧ ν.1.name = "<init>" ∧ ν.2.2.2 = none ∧ MC ν n
section CALLS
variable {μ ν : Mu} {d mc ms pc d' mc' ms' : Nat} {lv : List (Option AV)} {st rest As : List AV} {sh : Shp} {M : Mem} {ck sk : Nat} {Q Q' : Option AV → Shp → Mem → Prop}
theorem call_go {p : Program} {l : Launch} {e : Env} {s : State} {m : MethodId} {args aa : Array Value} {below : List Frame} {meth : Method} {cd : Code} {base : Nat} {D : va_G} {cI cM cS : ClassId} {H : Heap} {locs : List Loc} {ls : Array Slot} {st0 : List Value}
    (C : Cx μ p s m args meth cd base D cI cM cS) (hF : ∀ q : Nat, q < base → H[q]? = s.heap[q]?) (hz : s.heap.size ≤ H.size) (hL : ∀ q ∈ locs, base ≤ q.base) (hR : LR base μ.2.2.1 ls lv)
    (hr : va_Run p l e (rmv d mc ms) s m args below meth cd H locs ck sk mc' ms' (F0 m pc ls st0) (rest.map (cv base)) (QC base D cI cM cS Q' aa) (fun q => base ≤ q))
    (k : ∀ r sh' M', Q' r sh' M' → V μ d mc ms (pc + 3) lv (r.toList ++ rest) sh' M' (ck + mc') (sk + ms') Q) :
    W p l e (rmv d mc ms) s m args below meth cd H locs ck sk (MQ below (QC base D cI cM cS Q) args s mc ms (fun q => base ≤ q)) (F0 m pc ls st0) := by
  intro T hT X
  obtain ⟨v, st₀, t, T', L, h0, X', hLL, e1, e2, ⟨⟨r, sh', M', hv, hq, hw⟩, hfr, hsz⟩, st⟩ := hr T hT X
  have hv' : v = r.map (cv base) := by injection hv
  subst hv'
  have k' := k r sh' M' hq p l e s m args below meth cd base D cI cM cS T'.heap (locs ++ L) ls C (by rw [e1]; exact hw) (fun q hq => by rw [e1, hfr q hq, h0]; exact hF q hq) (by rw [e1]; rw [h0] at hsz; exact Nat.le_trans hz hsz) (fun q hq => by
    rcases List.mem_append.mp hq with h | h
    · exact hL q h
    · exact hLL q h) hR
  have k2 : W p l e (rmv d mc ms) s m args below meth cd T'.heap (locs ++ L) (ck + mc') (sk + ms') (MQ below (QC base D cI cM cS Q) args s mc ms (fun q => base ≤ q)) (F0 m (pc + 3) ls ((r.map (cv base)).toList ++ rest.map (cv base))) := by
    cases r <;> exact k'
  obtain ⟨t2, a1, b1⟩ := k2 T' rfl X'
  exact ⟨t2, st t2 a1, b1⟩
theorem rm_ok {d d' mc ms mc' ms' n : Nat} (hd : d' + 1 ≤ d) (hn : n ≤ 12) : (rmv d' mc' ms').frames + 1 ≤ (rmv d mc ms).frames ∧ 8 + (n + 11) + (rmv d' mc' ms').locals ≤ (rmv d mc ms).locals := by
  show d' + 1 ≤ d ∧ 8 + (n + 11) + 32 * d' ≤ 32 * d
  omega
theorem V.callV {idx a t n nf : Nat} {fs : List (Option (Option Nat))} (hd : decode μ.2.1 pc = .ok (.invokevirtual idx, 3)) (hk : KV μ.1.cls idx ν n t) (hs : sh[a]? = some (t + 3, nf, fs)) (hM : CT ν d' mc' ms' (.inr (some a) :: As) sh M Q') (hn : As.length = n) (hdd : d' + 1 ≤ d) (hst : st = As.reverse ++ .inr (some a) :: rest) (hr : rest.length ≤ 8) (hck : ck + mc' ≤ mc) (hsk : sk + ms' ≤ ms)
    (k : ∀ r sh' M', Q' r sh' M' → V μ d mc ms (pc + 3) lv (r.toList ++ rest) sh' M' (ck + mc') (sk + ms') Q) : V μ d mc ms pc lv st sh M ck sk Q := by
  intro p l e s m args below meth cd base D cI cM cS H locs ls C hW hF hz hL hR
  obtain ⟨k1, k2, k3, ⟨rc, hrc, hrcn⟩, hmc, hml, hcode, hini⟩ := hk
  have hts := C.2.2.2.2.2.1
  have hK := C.2.2.2.2.2.2.2.2.1
  obtain ⟨-, rc', hrc', -, cell, g1, g2, g3, -⟩ := (hW.2 a _ hs).obj
  have hrr : rc' = rc := Option.some.inj (hrc'.symm.trans hrc)
  subst hrr
  have hG : GoodIn (fm_ws μ) (wsV μ.1.cls idx ν.1.cls ν.1 (fm_ws ν)) := by
    intro w hw
    unfold wsV at hw
    rcases List.mem_append.mp hw with h | h
    · have : w ∈ fm_TBL := by
        rcases List.mem_cons.mp h with h | h
        · rw [h]; exact k1
        rcases List.mem_cons.mp h with h | h
        · rw [h]; exact k2
        rcases List.mem_cons.mp h with h | h
        · rw [h]; exact k3
        rw [List.mem_singleton.mp h]; exact hini
      exact ⟨fm_cons this, fm_good this⟩
    · exact fm_goodIn hcode w h
  refine call_go C hF hz hL hR (va_runV (As := As.map (cv base)) (b := base + a) ⟨C.1, C.2.1, C.2.2.2.1, C.2.2.2.2.1, hts⟩ (hM l base D cI cM cS) (cwV n hts hG rfl rfl rfl ⟨rfl, hmc⟩ (rm_ok hdd hml)) ⟨PW.blind, ⟨cell, g1, by rw [g3]; rfl, by rw [g2, ← hrcn]; exact (hK.1 t _ hrc).2.1⟩, fun U hU hWm => ⟨rfl, PW.at hW hK C.2.2.2.2.2.2.2.2.2.1 hU hWm⟩⟩ rfl (by rw [List.length_map]; exact hn) hR.1 (by subst hst; simp [cv]) (lv_room (by rw [cat_sum]; exact hr)) hd ⟨hck, hsk⟩) k
theorem V.callS {idx n : Nat} (hd : decode μ.2.1 pc = .ok (.invokestatic idx, 3)) (hk : KS μ.1.cls idx ν n) (hM : CT ν d' mc' ms' As sh M Q') (hn : As.length = n) (hdd : d' + 1 ≤ d) (hst : st = As.reverse ++ rest) (hr : rest.length ≤ 8) (hck : ck + mc' ≤ mc) (hsk : sk + ms' ≤ ms)
    (k : ∀ r sh' M', Q' r sh' M' → V μ d mc ms (pc + 3) lv (r.toList ++ rest) sh' M' (ck + mc') (sk + ms') Q) : V μ d mc ms pc lv st sh M ck sk Q := by
  intro p l e s m args below meth cd base D cI cM cS H locs ls C hW hF hz hL hR
  obtain ⟨k1, k2, hmc, hml, hcode, hini⟩ := hk
  have hts := C.2.2.2.2.2.1
  have hK := C.2.2.2.2.2.2.2.2.1
  have hG : GoodIn (fm_ws μ) (va_wsS μ.1.cls idx ν.1 (fm_ws ν)) := by
    intro w hw
    unfold va_wsS at hw
    rcases List.mem_append.mp hw with h | h
    · have : w ∈ fm_TBL := by
        rcases List.mem_cons.mp h with h | h
        · rw [h]; exact k1
        rcases List.mem_cons.mp h with h | h
        · rw [h]; exact k2
        rw [List.mem_singleton.mp h]; exact hini
      exact ⟨fm_cons this, fm_good this⟩
    · exact fm_goodIn hcode w h
  refine call_go C hF hz hL hR (va_runS (As := As.map (cv base)) ⟨C.1, C.2.1, C.2.2.2.1, C.2.2.2.2.1, hts⟩ (hM l base D cI cM cS) (va_cwS n hts hG rfl rfl rfl hmc (rm_ok hdd hml)) ⟨PW.blind, fun U hU hWm => ⟨rfl, PW.at hW hK C.2.2.2.2.2.2.2.2.2.1 hU hWm⟩⟩ rfl (by rw [List.length_map]; exact hn) hR.1 (by subst hst; simp) (lv_room (by rw [cat_sum]; exact hr)) hd ⟨hck, hsk⟩) k
theorem V.callN {idx n : Nat} (hd : decode μ.2.1 pc = .ok (.invokestatic idx, 3)) (hk : KN μ.1.cls idx ν n) (hM : CT ν d' mc' ms' As sh M Q') (hn : As.length = n) (hdd : d' + 1 ≤ d) (hst : st = As.reverse ++ rest) (hr : rest.length ≤ 8) (hck : ck + mc' ≤ mc) (hsk : sk + ms' ≤ ms)
    (k : ∀ r sh' M', Q' r sh' M' → V μ d mc ms (pc + 3) lv (r.toList ++ rest) sh' M' (ck + mc') (sk + ms') Q) : V μ d mc ms pc lv st sh M ck sk Q := by
  intro p l e s m args below meth cd base D cI cM cS H locs ls C hW hF hz hL hR
  obtain ⟨⟨host, k1⟩, k2, hmc, hml, hcode, hini⟩ := hk
  have hts := C.2.2.2.2.2.1
  have hK := C.2.2.2.2.2.2.2.2.1
  have hN := C.2.2.2.2.2.2.2.2.2.1
  refine call_go C hF hz hL hR (va_runSN (Ts := fm_ws μ) (host := host) (own := μ.1.cls) (As := As.map (cv base)) ⟨C.1, C.2.1, C.2.2.2.1, C.2.2.2.2.1, hts⟩ (hM l base D cI cM cS) ⟨va_cnB n hts (fm_goodIn hcode) rfl rfl rfl (hN.1 _ k1) (hts _ (fm_cons hini)) hmc (rm_ok hdd hml), hts _ (fm_cons k2), trivial⟩ ⟨PW.blind, fun U hU hWm => ⟨rfl, PW.at hW hK hN hU hWm⟩⟩ rfl (by rw [List.length_map]; exact hn) hR.1 (by subst hst; simp) (lv_room (by rw [cat_sum]; exact hr)) hd ⟨hck, hsk⟩) k
theorem V.callI {idx a n : Nat} (hd : decode μ.2.1 pc = .ok (.invokespecial idx, 3)) (hk : KI μ.1.cls idx ν n) (hM : CT ν d' mc' ms' (.inr (some a) :: As) sh M Q') (hn : As.length = n) (hdd : d' + 1 ≤ d) (hst : st = As.reverse ++ .inr (some a) :: rest) (hr : rest.length ≤ 8) (hck : ck + mc' ≤ mc) (hsk : sk + ms' ≤ ms)
    (k : ∀ r sh' M', Q' r sh' M' → V μ d mc ms (pc + 3) lv (r.toList ++ rest) sh' M' (ck + mc') (sk + ms') Q) : V μ d mc ms pc lv st sh M ck sk Q := by
  intro p l e s m args below meth cd base D cI cM cS H locs ls C hW hF hz hL hR
  obtain ⟨⟨host, k1⟩, k2, hname, hret, hmc, hml, hcode, hini⟩ := hk
  have hts := C.2.2.2.2.2.1
  have hK := C.2.2.2.2.2.2.2.2.1
  have hN := C.2.2.2.2.2.2.2.2.2.1
  refine call_go C hF hz hL hR (va_runIN (Ts := fm_ws μ) (host := host) (own := μ.1.cls) (As := As.map (cv base)) (b := base + a) ⟨C.1, C.2.1, C.2.2.2.1, C.2.2.2.2.1, hts⟩ (hM l base D cI cM cS) ⟨va_cnB n hts (fm_goodIn hcode) (by unfold fm_ws; rw [hret]) rfl rfl (hN.1 _ k1) (hts _ (fm_cons hini)) hmc (rm_ok hdd hml), hname, hts _ (fm_cons k2)⟩ ⟨PW.blind, fun U hU hWm => ⟨rfl, PW.at hW hK hN hU hWm⟩⟩ rfl (by rw [List.length_map]; exact hn) hR.1 (by subst hst; simp [cv]) (lv_room (by rw [cat_sum]; exact hr)) hd ⟨hck, hsk⟩) k
theorem V.objInit {idx a : Nat} (hd : decode μ.2.1 pc = .ok (.invokespecial idx, 3)) (hk : Cond.methodLink μ.1.cls idx objectInit ∈ fm_TBL) (hdd : 1 ≤ d) (hr : st.length ≤ 8) (k : V μ d mc ms (pc + 3) lv st sh M ck sk Q) : V μ d mc ms pc lv (.inr (some a) :: st) sh M ck sk Q := by
  intro p l e s m args below meth cd base D cI cM cS H locs ls C hW hF hz hL hR
  have hts := C.2.2.2.2.2.1
  refine W.objInit C.1 C.2.1 C.2.2.2.2.1 (hts _ (fm_cons hk)) (hts _ (fm_cons kw_oi)) (hts _ (fm_cons kw_oc)) rfl (by rw [C.2.2.2.1]; exact hR.1) rfl hd hdd (by show 2 * 0 + ((st.map (cv base)).map fun v => v.category).sum + 12 ≤ 32 * d; rw [cat_sum]; omega) (k p l e s m args below meth cd base D cI cM cS H locs ls C hW hF hz hL hR)
theorem V.acopy {idx a b n : Nat} {fs gs : List (Option (Option Nat))} {len : Int} (hd : decode μ.2.1 pc = .ok (.invokestatic idx, 3)) (hk : Cond.methodLink μ.1.cls idx arraycopyName ∈ fm_TBL) (hini : Cond.initialized "java/lang/System" ∈ fm_TBL) (ha : sh[a]? = some (0, n, fs)) (hb : sh[b]? = some (0, n, gs)) (hln : len = (n : Int)) (hnn : n ≤ 100000) (hdd : 2 ≤ d) (hr : st.length ≤ 8) (k : V μ d mc ms (pc + 3) lv st sh (mrow M b (M a)) ck sk Q) : V μ d mc ms pc lv (.inl len :: .inl 0 :: .inr (some b) :: .inl 0 :: .inr (some a) :: st) sh M ck sk Q := by
  subst hln
  intro p l e s m args below meth cd base D cI cM cS H locs ls C hW hF hz hL hR
  have hts := C.2.2.2.2.2.1
  have hK := C.2.2.2.2.2.2.2.2.1
  have hc0 : H[base + a]? = some (vp_cell cI (n, .inl (fun j : Nat => Int32.ofInt (M a (j : Int))))) := hW.2 a _ ha
  have hc1 : H[base + b]? = some (vp_cell cI (n, .inl (fun j : Nat => Int32.ofInt (M b (j : Int))))) := hW.2 b _ hb
  obtain ⟨-, k0, hk0, cm0, hkk0⟩ := (hK.2 0 _ rfl).1 n (fun j : Nat => Value.int (Int32.ofInt (M a (j : Int))))
  have hcl : (Int32.ofInt (n : Int)).toNatClampNeg = n := by have := fm_clamp (i := (n : Int)) (by omega) (by omega); omega
  have hcl0 : (Int32.ofInt 0).toNatClampNeg = 0 := by decide
  have hn0 : ¬ Int32.ofInt (n : Int) < 0 := fm_nneg (by omega) (by omega)
  have h00 : ¬ Int32.ofInt 0 < 0 := by decide
  have hnw : nativeFrameWords "java/lang/System" "arraycopy" 5 + 11 ≤ 56 := by decide +kernel
  intro T hT X
  obtain ⟨vm', X', step⟩ := X.arraycopy C.1 C.2.2.2.2.1 (hts _ (fm_cons hk)) (hts _ (fm_cons kw_nat)) (hts _ (fm_cons kw_ast)) (hts _ (fm_cons hini)) (src := base + a) (dst := base + b) (cs := vp_cell cI (n, .inl (fun j : Nat => Int32.ofInt (M a (j : Int))))) (cd := vp_cell cI (n, .inl (fun j : Nat => Int32.ofInt (M b (j : Int))))) (srcPos := Int32.ofInt 0) (destPos := Int32.ofInt 0) (n := Int32.ofInt (n : Int)) (by rw [hT]; exact hc0) (by rw [hT]; exact hc1)
    (fun _ h => by cases h) (fun _ h => by cases h) (fun h => by cases h) (fun h => by cases h) hk0 hk0 hkk0 hkk0 (by simp [refKind]) h00 h00 hn0
    (by rw [inR_toInt inR_0, inR_toInt ⟨by omega, by omega⟩]; show ¬ _ > ((arrV cI n (fun j : Nat => Value.int (Int32.ofInt (M a (j : Int))))).slots.size : Int); rw [arrV_size]; omega)
    (by rw [inR_toInt inR_0, inR_toInt ⟨by omega, by omega⟩]; show ¬ _ > ((arrV cI n (fun j : Nat => Value.int (Int32.ofInt (M b (j : Int))))).slots.size : Int); rw [arrV_size]; omega)
    (fun vm₁ _ i hi => by
      rw [hcl] at hi
      have e : (vp_cell cI (n, .inl (fun j : Nat => Int32.ofInt (M a (j : Int))))).slots.getD ((Int32.ofInt 0).toNatClampNeg + i) .null = .int (Int32.ofInt (M a (i : Int))) := by
        show (arrV cI n (fun j : Nat => Value.int (Int32.ofInt (M a (j : Int))))).slots.getD _ _ = _
        rw [hcl0, Nat.zero_add, Array.getD_eq_getD_getElem?, arrV_read _ _ hi]
        rfl
      refine ⟨?_, ?_⟩
      · rw [e]; rfl
      · rw [e]; exact trivial)
    (g := F0 m pc ls ((.inl (n : Int) :: .inl 0 :: .inr (some b) :: .inl 0 :: .inr (some a) :: st : List AV).map (cv base))) rfl (by rw [C.2.2.2.1]; exact hR.1) (rest := st.map (cv base)) rfl (by rw [C.2.1]; exact hd) (show 1 ≤ d by omega) (by show 2 * 0 + ((st.map (cv base)).map fun v => v.category).sum + _ ≤ 32 * d; rw [cat_sum]; omega)
  have e1 : copied (vp_cell cI (n, .inl (fun j : Nat => Int32.ofInt (M a (j : Int))))) (vp_cell cI (n, .inl (fun j : Nat => Int32.ofInt (M b (j : Int))))) (Int32.ofInt 0) (Int32.ofInt 0) (Int32.ofInt (n : Int)) = vp_cell cI (n, .inl (fun j : Nat => Int32.ofInt (mrow M b (M a) b (j : Int)))) := by
    refine (va_copied (fun z => .int z) cI cI (fun j : Nat => Int32.ofInt (M a (j : Int))) (fun j : Nat => Int32.ofInt (M b (j : Int))) (show (Int32.ofInt 0).toNatClampNeg + (Int32.ofInt (n : Int)).toNatClampNeg ≤ n by rw [hcl, hcl0]; omega)).trans ?_
    rw [hcl, hcl0]
    show arrV cI n (fun j => Value.int (va_cpy (fun j : Nat => Int32.ofInt (M a (j : Int))) (fun j : Nat => Int32.ofInt (M b (j : Int))) 0 0 n j)) = arrV cI n (fun j : Nat => Value.int (Int32.ofInt (mrow M b (M a) b (j : Int))))
    unfold arrV
    congr 1
    apply Array.ext_getElem?
    intro i
    by_cases hi : i < n
    · rw [Array.getElem?_ofFn, Array.getElem?_ofFn, dif_pos hi, dif_pos hi]
      simp [va_cpy, hi, mrow]
    · rw [Array.getElem?_ofFn, Array.getElem?_ofFn, dif_neg hi, dif_neg hi]
  rw [e1] at X' step
  have hl : base + b < H.size := hW.lt hb
  have hheap : ((T.setVm vm').setCell (base + b) (vp_cell cI (n, .inl (fun j : Nat => Int32.ofInt (mrow M b (M a) b (j : Int)))))).heap = H.setIfInBounds (base + b) (vp_cell cI (n, .inl (fun j : Nat => Int32.ofInt (mrow M b (M a) b (j : Int))))) := by rw [← hT]; rfl
  have oq : ∀ q : Nat, q ≠ base + b → (H.setIfInBounds (base + b) (vp_cell cI (n, .inl (fun j : Nat => Int32.ofInt (mrow M b (M a) b (j : Int))))))[q]? = H[q]? := fun q hq => by simp [Array.getElem?_setIfInBounds, Ne.symm hq]
  have hW' : Wh base D cI cM cS sh (mrow M b (M a)) (H.setIfInBounds (base + b) (vp_cell cI (n, .inl (fun j : Nat => Int32.ofInt (mrow M b (M a) b (j : Int)))))) := hW.put1 hb (fun x hx => mrow_row hx) (show (H.setIfInBounds (base + b) _)[base + b]? = some _ by simp [Array.getElem?_setIfInBounds, hl]) (by simp) oq
  obtain ⟨t, a1, b1⟩ := k p l e s m args below meth cd base D cI cM cS _ _ ls C hW' (fun q hq => by rw [oq q (Nat.ne_of_lt (Nat.lt_of_lt_of_le hq (Nat.le_add_right base b)))]; exact hF q hq) (by simpa using hz) (fun q hq => by
      rcases List.mem_append.mp hq with h | h
      · exact hL q h
      · obtain ⟨z, -, hz⟩ := List.mem_map.mp h
        rw [← hz]
        exact Nat.le_add_right base b) hR _ hheap X'
  exact ⟨t, step t a1, b1⟩
theorem V.mabs {idx : Nat} {z : Int} (hd : decode μ.2.1 pc = .ok (.invokestatic idx, 3)) (hk : Cond.methodLink μ.1.cls idx Lib.Math.abs.name ∈ fm_TBL) (hz0 : inR z) (hdd : 1 ≤ d) (hr : st.length ≤ 8) (hck : ck ≤ mc) (hsk : sk ≤ ms) (k : V μ d mc ms (pc + 3) lv (.inl (if 0 ≤ z then z else -z) :: st) sh M ck sk Q) : V μ d mc ms pc lv (.inl z :: st) sh M ck sk Q := by
  intro p l e s m args below meth cd base D cI cM cS H locs ls C hW hF hz hL hR
  have hts := C.2.2.2.2.2.1
  refine va_mabs C.1 C.2.1 (C.2.2.2.1.trans hR.1.symm) C.2.2.2.2.1 (hts _ (fm_cons hk)) (hts _ (fm_cons ks_J9_abs_0f7a4)) (hts _ (fm_cons ki_J9)) (hts _ (fm_cons kc_J9_abs_0f7a4)) hdd (by rw [cat_sum]; show _ ≤ 32 * d; omega) hck hsk hd ?_
  have e1 : (if (0 : Int32) ≤ Int32.ofInt z then Int32.ofInt z else 0 - Int32.ofInt z) = Int32.ofInt (if 0 ≤ z then z else -z) := by
    rw [← of0]
    by_cases h : 0 ≤ z
    · rw [if_pos h, if_pos ((inR_le inR_0 hz0).mpr h)]
    · rw [if_neg h, if_neg (fun q => h ((inR_le inR_0 hz0).mp q)), ← Int32.ofInt_sub]; congr 1; omega
  rw [e1]
  exact k p l e s m args below meth cd base D cI cM cS H locs ls C hW hF hz hL hR
theorem V.mmax {idx : Nat} {a b : Int} (hd : decode μ.2.1 pc = .ok (.invokestatic idx, 3)) (hk : Cond.methodLink μ.1.cls idx Lib.Math.max.name ∈ fm_TBL) (ha : inR a) (hb : inR b) (hdd : 1 ≤ d) (hr : st.length ≤ 8) (hck : ck ≤ mc) (hsk : sk ≤ ms) (k : V μ d mc ms (pc + 3) lv (.inl (if a < b then b else a) :: st) sh M ck sk Q) : V μ d mc ms pc lv (.inl b :: .inl a :: st) sh M ck sk Q := by
  intro p l e s m args below meth cd base D cI cM cS H locs ls C hW hF hz hL hR
  have hts := C.2.2.2.2.2.1
  refine va_mmax C.1 C.2.1 (C.2.2.2.1.trans hR.1.symm) C.2.2.2.2.1 (hts _ (fm_cons hk)) (hts _ (fm_cons ks_J9_max_7cf53)) (hts _ (fm_cons ki_J9)) (hts _ (fm_cons kc_J9_max_7cf53)) hdd (by rw [cat_sum]; show _ ≤ 32 * d; omega) hck hsk hd ?_
  have e1 : (if Int32.ofInt a < Int32.ofInt b then Int32.ofInt b else Int32.ofInt a) = Int32.ofInt (if a < b then b else a) := by
    by_cases h : a < b
    · rw [if_pos h, if_pos ((inR_lt ha hb).mpr h)]
    · rw [if_neg h, if_neg (fun q => h ((inR_lt ha hb).mp q))]
  rw [e1]
  exact k p l e s m args below meth cd base D cI cM cS H locs ls C hW hF hz hL hR
theorem V.mmin {idx : Nat} {a b : Int} (hd : decode μ.2.1 pc = .ok (.invokestatic idx, 3)) (hk : Cond.methodLink μ.1.cls idx Lib.Math.min.name ∈ fm_TBL) (ha : inR a) (hb : inR b) (hdd : 1 ≤ d) (hr : st.length ≤ 8) (hck : ck ≤ mc) (hsk : sk ≤ ms) (k : V μ d mc ms (pc + 3) lv (.inl (if b < a then b else a) :: st) sh M ck sk Q) : V μ d mc ms pc lv (.inl b :: .inl a :: st) sh M ck sk Q := by
  intro p l e s m args below meth cd base D cI cM cS H locs ls C hW hF hz hL hR
  have hts := C.2.2.2.2.2.1
  refine va_mmin C.1 C.2.1 (C.2.2.2.1.trans hR.1.symm) C.2.2.2.2.1 (hts _ (fm_cons hk)) (hts _ (fm_cons ks_J9_min_7cf53)) (hts _ (fm_cons ki_J9)) (hts _ (fm_cons kc_J9_min_7cf53)) hdd (by rw [cat_sum]; show _ ≤ 32 * d; omega) hck hsk hd ?_
  have e1 : (if Int32.ofInt b < Int32.ofInt a then Int32.ofInt b else Int32.ofInt a) = Int32.ofInt (if b < a then b else a) := by
    by_cases h : b < a
    · rw [if_pos h, if_pos ((inR_lt hb ha).mpr h)]
    · rw [if_neg h, if_neg (fun q => h ((inR_lt hb ha).mp q))]
  rw [e1]
  exact k p l e s m args below meth cd base D cI cM cS H locs ls C hW hF hz hL hR
end CALLS
end
section
theorem fi_X1_9 : FI RX1 9 1 0 true (.array .int) := ⟨RX1, TX1, 4, rfl, by decide, kf_X1_9, ku_X1, rfl, tyX1_ok 0 (by decide), ⟨tyX1, tyX1_ok⟩, nmX1, rfl⟩
theorem fi_X3_103 : FI RX3 103 1 0 true (.array .int) := ⟨RX1, TX1, 4, rfl, by decide, kf_X3_103, ku_X1, rfl, tyX1_ok 0 (by decide), ⟨tyX1, tyX1_ok⟩, nmX1, rfl⟩
theorem fi_X6_207 : FI RX6 207 1 0 true (.array .int) := ⟨RX1, TX1, 4, rfl, by decide, kf_X6_207, ku_X1, rfl, tyX1_ok 0 (by decide), ⟨tyX1, tyX1_ok⟩, nmX1, rfl⟩
theorem fi_X1_15 : FI RX1 15 1 1 true (.array .int) := ⟨RX1, TX1, 4, rfl, by decide, kf_X1_15, ku_X1, rfl, tyX1_ok 1 (by decide), ⟨tyX1, tyX1_ok⟩, nmX1, rfl⟩
theorem fi_X3_106 : FI RX3 106 1 1 true (.array .int) := ⟨RX1, TX1, 4, rfl, by decide, kf_X3_106, ku_X1, rfl, tyX1_ok 1 (by decide), ⟨tyX1, tyX1_ok⟩, nmX1, rfl⟩
theorem fi_X6_210 : FI RX6 210 1 1 true (.array .int) := ⟨RX1, TX1, 4, rfl, by decide, kf_X6_210, ku_X1, rfl, tyX1_ok 1 (by decide), ⟨tyX1, tyX1_ok⟩, nmX1, rfl⟩
theorem fi_X1_18 : FI RX1 18 1 2 true (.array .int) := ⟨RX1, TX1, 4, rfl, by decide, kf_X1_18, ku_X1, rfl, tyX1_ok 2 (by decide), ⟨tyX1, tyX1_ok⟩, nmX1, rfl⟩
theorem fi_X3_107 : FI RX3 107 1 2 true (.array .int) := ⟨RX1, TX1, 4, rfl, by decide, kf_X3_107, ku_X1, rfl, tyX1_ok 2 (by decide), ⟨tyX1, tyX1_ok⟩, nmX1, rfl⟩
theorem fi_X6_211 : FI RX6 211 1 2 true (.array .int) := ⟨RX1, TX1, 4, rfl, by decide, kf_X6_211, ku_X1, rfl, tyX1_ok 2 (by decide), ⟨tyX1, tyX1_ok⟩, nmX1, rfl⟩
theorem fi_X1_21 : FI RX1 21 1 3 true (.array .int) := ⟨RX1, TX1, 4, rfl, by decide, kf_X1_21, ku_X1, rfl, tyX1_ok 3 (by decide), ⟨tyX1, tyX1_ok⟩, nmX1, rfl⟩
theorem fi_X3_108 : FI RX3 108 1 3 true (.array .int) := ⟨RX1, TX1, 4, rfl, by decide, kf_X3_108, ku_X1, rfl, tyX1_ok 3 (by decide), ⟨tyX1, tyX1_ok⟩, nmX1, rfl⟩
theorem fi_X6_212 : FI RX6 212 1 3 true (.array .int) := ⟨RX1, TX1, 4, rfl, by decide, kf_X6_212, ku_X1, rfl, tyX1_ok 3 (by decide), ⟨tyX1, tyX1_ok⟩, nmX1, rfl⟩
theorem fi_X3_9 : FI RX3 9 3 0 true (.array .int) := ⟨RX3, TX3, 13, rfl, by decide, kf_X3_9, ku_X3, rfl, tyX3_ok 0 (by decide), ⟨tyX3, tyX3_ok⟩, nmX3, rfl⟩
theorem fi_X6_56 : FI RX6 56 3 0 true (.array .int) := ⟨RX3, TX3, 13, rfl, by decide, kf_X6_56, ku_X3, rfl, tyX3_ok 0 (by decide), ⟨tyX3, tyX3_ok⟩, nmX3, rfl⟩
theorem fi_X4_49 : FI RX4 49 3 0 true (.array .int) := ⟨RX3, TX3, 13, rfl, by decide, kf_X4_49, ku_X3, rfl, tyX3_ok 0 (by decide), ⟨tyX3, tyX3_ok⟩, nmX3, rfl⟩
theorem fi_X2_54 : FI RX2 54 3 0 true (.array .int) := ⟨RX3, TX3, 13, rfl, by decide, kf_X2_54, ku_X3, rfl, tyX3_ok 0 (by decide), ⟨tyX3, tyX3_ok⟩, nmX3, rfl⟩
theorem fi_X3_15 : FI RX3 15 3 1 true (.array .int) := ⟨RX3, TX3, 13, rfl, by decide, kf_X3_15, ku_X3, rfl, tyX3_ok 1 (by decide), ⟨tyX3, tyX3_ok⟩, nmX3, rfl⟩
theorem fi_X6_71 : FI RX6 71 3 1 true (.array .int) := ⟨RX3, TX3, 13, rfl, by decide, kf_X6_71, ku_X3, rfl, tyX3_ok 1 (by decide), ⟨tyX3, tyX3_ok⟩, nmX3, rfl⟩
theorem fi_X4_46 : FI RX4 46 3 1 true (.array .int) := ⟨RX3, TX3, 13, rfl, by decide, kf_X4_46, ku_X3, rfl, tyX3_ok 1 (by decide), ⟨tyX3, tyX3_ok⟩, nmX3, rfl⟩
theorem fi_X2_61 : FI RX2 61 3 1 true (.array .int) := ⟨RX3, TX3, 13, rfl, by decide, kf_X2_61, ku_X3, rfl, tyX3_ok 1 (by decide), ⟨tyX3, tyX3_ok⟩, nmX3, rfl⟩
theorem fi_X3_18 : FI RX3 18 3 2 false .int := ⟨RX3, TX3, 13, rfl, by decide, kf_X3_18, ku_X3, rfl, tyX3_ok 2 (by decide), ⟨tyX3, tyX3_ok⟩, nmX3, rfl⟩
theorem fi_X2_24 : FI RX2 24 3 2 false .int := ⟨RX3, TX3, 13, rfl, by decide, kf_X2_24, ku_X3, rfl, tyX3_ok 2 (by decide), ⟨tyX3, tyX3_ok⟩, nmX3, rfl⟩
theorem fi_X6_93 : FI RX6 93 3 2 false .int := ⟨RX3, TX3, 13, rfl, by decide, kf_X6_93, ku_X3, rfl, tyX3_ok 2 (by decide), ⟨tyX3, tyX3_ok⟩, nmX3, rfl⟩
theorem fi_X3_22 : FI RX3 22 3 3 true (.array .int) := ⟨RX3, TX3, 13, rfl, by decide, kf_X3_22, ku_X3, rfl, tyX3_ok 3 (by decide), ⟨tyX3, tyX3_ok⟩, nmX3, rfl⟩
theorem fi_X6_118 : FI RX6 118 3 3 true (.array .int) := ⟨RX3, TX3, 13, rfl, by decide, kf_X6_118, ku_X3, rfl, tyX3_ok 3 (by decide), ⟨tyX3, tyX3_ok⟩, nmX3, rfl⟩
theorem fi_X3_25 : FI RX3 25 3 4 true (.array .int) := ⟨RX3, TX3, 13, rfl, by decide, kf_X3_25, ku_X3, rfl, tyX3_ok 4 (by decide), ⟨tyX3, tyX3_ok⟩, nmX3, rfl⟩
theorem fi_X2_28 : FI RX2 28 3 4 true (.array .int) := ⟨RX3, TX3, 13, rfl, by decide, kf_X2_28, ku_X3, rfl, tyX3_ok 4 (by decide), ⟨tyX3, tyX3_ok⟩, nmX3, rfl⟩
theorem fi_X6_103 : FI RX6 103 3 4 true (.array .int) := ⟨RX3, TX3, 13, rfl, by decide, kf_X6_103, ku_X3, rfl, tyX3_ok 4 (by decide), ⟨tyX3, tyX3_ok⟩, nmX3, rfl⟩
theorem fi_X3_28 : FI RX3 28 3 5 true (.array .int) := ⟨RX3, TX3, 13, rfl, by decide, kf_X3_28, ku_X3, rfl, tyX3_ok 5 (by decide), ⟨tyX3, tyX3_ok⟩, nmX3, rfl⟩
theorem fi_X2_31 : FI RX2 31 3 5 true (.array .int) := ⟨RX3, TX3, 13, rfl, by decide, kf_X2_31, ku_X3, rfl, tyX3_ok 5 (by decide), ⟨tyX3, tyX3_ok⟩, nmX3, rfl⟩
theorem fi_X6_189 : FI RX6 189 3 5 true (.array .int) := ⟨RX3, TX3, 13, rfl, by decide, kf_X6_189, ku_X3, rfl, tyX3_ok 5 (by decide), ⟨tyX3, tyX3_ok⟩, nmX3, rfl⟩
theorem fi_X3_31 : FI RX3 31 3 6 false .int := ⟨RX3, TX3, 13, rfl, by decide, kf_X3_31, ku_X3, rfl, tyX3_ok 6 (by decide), ⟨tyX3, tyX3_ok⟩, nmX3, rfl⟩
theorem fi_X6_131 : FI RX6 131 3 6 false .int := ⟨RX3, TX3, 13, rfl, by decide, kf_X6_131, ku_X3, rfl, tyX3_ok 6 (by decide), ⟨tyX3, tyX3_ok⟩, nmX3, rfl⟩
theorem fi_X3_34 : FI RX3 34 3 7 true (.array .int) := ⟨RX3, TX3, 13, rfl, by decide, kf_X3_34, ku_X3, rfl, tyX3_ok 7 (by decide), ⟨tyX3, tyX3_ok⟩, nmX3, rfl⟩
theorem fi_X6_201 : FI RX6 201 3 7 true (.array .int) := ⟨RX3, TX3, 13, rfl, by decide, kf_X6_201, ku_X3, rfl, tyX3_ok 7 (by decide), ⟨tyX3, tyX3_ok⟩, nmX3, rfl⟩
theorem fi_X3_37 : FI RX3 37 3 8 true (.array .int) := ⟨RX3, TX3, 13, rfl, by decide, kf_X3_37, ku_X3, rfl, tyX3_ok 8 (by decide), ⟨tyX3, tyX3_ok⟩, nmX3, rfl⟩
theorem fi_X6_204 : FI RX6 204 3 8 true (.array .int) := ⟨RX3, TX3, 13, rfl, by decide, kf_X6_204, ku_X3, rfl, tyX3_ok 8 (by decide), ⟨tyX3, tyX3_ok⟩, nmX3, rfl⟩
theorem fi_X3_40 : FI RX3 40 3 9 true (.array .int) := ⟨RX3, TX3, 13, rfl, by decide, kf_X3_40, ku_X3, rfl, tyX3_ok 9 (by decide), ⟨tyX3, tyX3_ok⟩, nmX3, rfl⟩
theorem fi_X6_140 : FI RX6 140 3 9 true (.array .int) := ⟨RX3, TX3, 13, rfl, by decide, kf_X6_140, ku_X3, rfl, tyX3_ok 9 (by decide), ⟨tyX3, tyX3_ok⟩, nmX3, rfl⟩
theorem fi_X3_43 : FI RX3 43 3 10 false .int := ⟨RX3, TX3, 13, rfl, by decide, kf_X3_43, ku_X3, rfl, tyX3_ok 10 (by decide), ⟨tyX3, tyX3_ok⟩, nmX3, rfl⟩
theorem fi_X6_146 : FI RX6 146 3 10 false .int := ⟨RX3, TX3, 13, rfl, by decide, kf_X6_146, ku_X3, rfl, tyX3_ok 10 (by decide), ⟨tyX3, tyX3_ok⟩, nmX3, rfl⟩
theorem fi_X3_46 : FI RX3 46 3 11 false .int := ⟨RX3, TX3, 13, rfl, by decide, kf_X3_46, ku_X3, rfl, tyX3_ok 11 (by decide), ⟨tyX3, tyX3_ok⟩, nmX3, rfl⟩
theorem fi_X6_168 : FI RX6 168 3 11 false .int := ⟨RX3, TX3, 13, rfl, by decide, kf_X6_168, ku_X3, rfl, tyX3_ok 11 (by decide), ⟨tyX3, tyX3_ok⟩, nmX3, rfl⟩
theorem fi_X3_52 : FI RX3 52 3 12 true (.array (.object "FogMap$Memory")) := ⟨RX3, TX3, 13, rfl, by decide, kf_X3_52, ku_X3, rfl, tyX3_ok 12 (by decide), ⟨tyX3, tyX3_ok⟩, nmX3, rfl⟩
theorem fi_X6_177 : FI RX6 177 3 12 true (.array (.object "FogMap$Memory")) := ⟨RX3, TX3, 13, rfl, by decide, kf_X6_177, ku_X3, rfl, tyX3_ok 12 (by decide), ⟨tyX3, tyX3_ok⟩, nmX3, rfl⟩
theorem fi_X2_9 : FI RX2 9 2 0 true (.array .int) := ⟨RX2, TX2, 2, rfl, by decide, kf_X2_9, ku_X2, rfl, tyX2_ok 0 (by decide), ⟨tyX2, tyX2_ok⟩, nmX2, rfl⟩
theorem fi_X6_186 : FI RX6 186 2 0 true (.array .int) := ⟨RX2, TX2, 2, rfl, by decide, kf_X6_186, ku_X2, rfl, tyX2_ok 0 (by decide), ⟨tyX2, tyX2_ok⟩, nmX2, rfl⟩
theorem fi_X2_15 : FI RX2 15 2 1 true (.array .int) := ⟨RX2, TX2, 2, rfl, by decide, kf_X2_15, ku_X2, rfl, tyX2_ok 1 (by decide), ⟨tyX2, tyX2_ok⟩, nmX2, rfl⟩
theorem fi_X6_230 : FI RX6 230 2 1 true (.array .int) := ⟨RX2, TX2, 2, rfl, by decide, kf_X6_230, ku_X2, rfl, tyX2_ok 1 (by decide), ⟨tyX2, tyX2_ok⟩, nmX2, rfl⟩
theorem fi_X0_11 : FI RX0 11 0 0 true (.array (.object "FogMap$State")) := ⟨RX0, TX0, 3, rfl, by decide, kf_X0_11, ku_X0, rfl, tyX0_ok 0 (by decide), ⟨tyX0, tyX0_ok⟩, nmX0, rfl⟩
theorem fi_X0_17 : FI RX0 17 0 1 false .int := ⟨RX0, TX0, 3, rfl, by decide, kf_X0_17, ku_X0, rfl, tyX0_ok 1 (by decide), ⟨tyX0, tyX0_ok⟩, nmX0, rfl⟩
theorem fi_X6_156 : FI RX6 156 0 1 false .int := ⟨RX0, TX0, 3, rfl, by decide, kf_X6_156, ku_X0, rfl, tyX0_ok 1 (by decide), ⟨tyX0, tyX0_ok⟩, nmX0, rfl⟩
theorem fi_X0_21 : FI RX0 21 0 2 false .int := ⟨RX0, TX0, 3, rfl, by decide, kf_X0_21, ku_X0, rfl, tyX0_ok 2 (by decide), ⟨tyX0, tyX0_ok⟩, nmX0, rfl⟩
theorem fi_X4_9 : FI RX4 9 4 0 true (.array .int) := ⟨RX4, TX4, 3, rfl, by decide, kf_X4_9, ku_X4, rfl, tyX4_ok 0 (by decide), ⟨tyX4, tyX4_ok⟩, nmX4, rfl⟩
theorem fi_X4_15 : FI RX4 15 4 1 false .int := ⟨RX4, TX4, 3, rfl, by decide, kf_X4_15, ku_X4, rfl, tyX4_ok 1 (by decide), ⟨tyX4, tyX4_ok⟩, nmX4, rfl⟩
theorem fi_X6_74 : FI RX6 74 4 1 false .int := ⟨RX4, TX4, 3, rfl, by decide, kf_X6_74, ku_X4, rfl, tyX4_ok 1 (by decide), ⟨tyX4, tyX4_ok⟩, nmX4, rfl⟩
theorem fi_X4_19 : FI RX4 19 4 2 true (.array .int) := ⟨RX4, TX4, 3, rfl, by decide, kf_X4_19, ku_X4, rfl, tyX4_ok 2 (by decide), ⟨tyX4, tyX4_ok⟩, nmX4, rfl⟩
theorem fi_X5_9 : FI RX5 9 5 0 true (.array .int) := ⟨RX5, TX5, 3, rfl, by decide, kf_X5_9, ku_X5, rfl, tyX5_ok 0 (by decide), ⟨tyX5, tyX5_ok⟩, nmX5, rfl⟩
theorem fi_X5_15 : FI RX5 15 5 1 true (.array .int) := ⟨RX5, TX5, 3, rfl, by decide, kf_X5_15, ku_X5, rfl, tyX5_ok 1 (by decide), ⟨tyX5, tyX5_ok⟩, nmX5, rfl⟩
theorem fi_X5_18 : FI RX5 18 5 2 false .int := ⟨RX5, TX5, 3, rfl, by decide, kf_X5_18, ku_X5, rfl, tyX5_ok 2 (by decide), ⟨tyX5, tyX5_ok⟩, nmX5, rfl⟩
theorem fi_X6_12 : FI RX6 12 6 0 true (.object "FogMap$State") := ⟨RX6, TX6, 5, rfl, by decide, kf_X6_12, ku_X6, rfl, tyX6_ok 0 (by decide), ⟨tyX6, tyX6_ok⟩, nmX6, rfl⟩
theorem fi_X6_19 : FI RX6 19 6 1 true (.object "FogMap$Sight") := ⟨RX6, TX6, 5, rfl, by decide, kf_X6_19, ku_X6, rfl, tyX6_ok 1 (by decide), ⟨tyX6, tyX6_ok⟩, nmX6, rfl⟩
theorem fi_X6_26 : FI RX6 26 6 2 true (.object "FogMap$History") := ⟨RX6, TX6, 5, rfl, by decide, kf_X6_26, ku_X6, rfl, tyX6_ok 2 (by decide), ⟨tyX6, tyX6_ok⟩, nmX6, rfl⟩
theorem fi_X6_33 : FI RX6 33 6 3 true (.object "FogMap$Text") := ⟨RX6, TX6, 5, rfl, by decide, kf_X6_33, ku_X6, rfl, tyX6_ok 3 (by decide), ⟨tyX6, tyX6_ok⟩, nmX6, rfl⟩
theorem fi_X6_40 : FI RX6 40 6 4 true (.object "FogMap$Ways") := ⟨RX6, TX6, 5, rfl, by decide, kf_X6_40, ku_X6, rfl, tyX6_ok 4 (by decide), ⟨tyX6, tyX6_ok⟩, nmX6, rfl⟩
theorem fi_X7_25 : FI RX7 25 7 0 false .int := ⟨RX7, TX7, 9, rfl, by decide, kf_X7_25, ku_X7, rfl, tyX7_ok 0 (by decide), ⟨tyX7, tyX7_ok⟩, nmX7, rfl⟩
theorem fi_X7_7 : FI RX7 7 7 1 true (.array .int) := ⟨RX7, TX7, 9, rfl, by decide, kf_X7_7, ku_X7, rfl, tyX7_ok 1 (by decide), ⟨tyX7, tyX7_ok⟩, nmX7, rfl⟩
theorem fi_X7_13 : FI RX7 13 7 2 true (.array .int) := ⟨RX7, TX7, 9, rfl, by decide, kf_X7_13, ku_X7, rfl, tyX7_ok 2 (by decide), ⟨tyX7, tyX7_ok⟩, nmX7, rfl⟩
theorem fi_X7_16 : FI RX7 16 7 3 true (.array .int) := ⟨RX7, TX7, 9, rfl, by decide, kf_X7_16, ku_X7, rfl, tyX7_ok 3 (by decide), ⟨tyX7, tyX7_ok⟩, nmX7, rfl⟩
theorem fi_X7_29 : FI RX7 29 7 4 false .int := ⟨RX7, TX7, 9, rfl, by decide, kf_X7_29, ku_X7, rfl, tyX7_ok 4 (by decide), ⟨tyX7, tyX7_ok⟩, nmX7, rfl⟩
theorem fi_X7_19 : FI RX7 19 7 5 true (.array .int) := ⟨RX7, TX7, 9, rfl, by decide, kf_X7_19, ku_X7, rfl, tyX7_ok 5 (by decide), ⟨tyX7, tyX7_ok⟩, nmX7, rfl⟩
theorem fi_X7_101 : FI RX7 101 7 6 false .int := ⟨RX7, TX7, 9, rfl, by decide, kf_X7_101, ku_X7, rfl, tyX7_ok 6 (by decide), ⟨tyX7, tyX7_ok⟩, nmX7, rfl⟩
theorem fi_X7_104 : FI RX7 104 7 7 false .int := ⟨RX7, TX7, 9, rfl, by decide, kf_X7_104, ku_X7, rfl, tyX7_ok 7 (by decide), ⟨tyX7, tyX7_ok⟩, nmX7, rfl⟩
theorem fi_X7_22 : FI RX7 22 7 8 true (.array .int) := ⟨RX7, TX7, 9, rfl, by decide, kf_X7_22, ku_X7, rfl, tyX7_ok 8 (by decide), ⟨tyX7, tyX7_ok⟩, nmX7, rfl⟩
theorem mc_X3_init : MC mX3_init 0 := ⟨⟨by decide, by decide, by decide +kernel⟩, by decide, kc_X3_init, ki_X3⟩
theorem mk_X6_11 : KI RX6 11 mX3_init 0 := ⟨⟨"FogMap", by decide +kernel⟩, kv_X3_init, rfl, rfl, mc_X3_init⟩
theorem mc_X1_init : MC mX1_init 0 := ⟨⟨by decide, by decide, by decide +kernel⟩, by decide, kc_X1_init, ki_X1⟩
theorem mk_X3_51 : KI RX3 51 mX1_init 0 := ⟨⟨"FogMap", by decide +kernel⟩, kv_X1_init, rfl, rfl, mc_X1_init⟩
theorem mc_X2_init : MC mX2_init 0 := ⟨⟨by decide, by decide, by decide +kernel⟩, by decide, kc_X2_init, ki_X2⟩
theorem mk_X6_18 : KI RX6 18 mX2_init 0 := ⟨⟨"FogMap", by decide +kernel⟩, kv_X2_init, rfl, rfl, mc_X2_init⟩
theorem mc_X0_init : MC mX0_init 0 := ⟨⟨by decide, by decide, by decide +kernel⟩, by decide, kc_X0_init, ki_X0⟩
theorem mk_X0_24 : KI RX0 24 mX3_init 0 := ⟨⟨"FogMap", by decide +kernel⟩, kv_X3_init, rfl, rfl, mc_X3_init⟩
theorem mc_X4_init : MC mX4_init 0 := ⟨⟨by decide, by decide, by decide +kernel⟩, by decide, kc_X4_init, ki_X4⟩
theorem mk_X6_32 : KI RX6 32 mX4_init 0 := ⟨⟨"FogMap", by decide +kernel⟩, kv_X4_init, rfl, rfl, mc_X4_init⟩
theorem mc_X5_init : MC mX5_init 0 := ⟨⟨by decide, by decide, by decide +kernel⟩, by decide, kc_X5_init, ki_X5⟩
theorem mk_X6_39 : KI RX6 39 mX5_init 0 := ⟨⟨"FogMap", by decide +kernel⟩, kv_X5_init, rfl, rfl, mc_X5_init⟩
theorem mc_X6_isCell : MC mX6_isCell 2 := ⟨⟨by decide, by decide, by decide +kernel⟩, by decide, kc_X6_isCell, ki_X6⟩
theorem mk_X6_44 : KS RX6 44 mX6_isCell 2 := ⟨kl_X6_44, ks_X6_isCell, mc_X6_isCell⟩
theorem mc_X6_isWithin : MC mX6_isWithin 3 := ⟨⟨by decide, by decide, by decide +kernel⟩, by decide, kc_X6_isWithin, ki_X6⟩
theorem mk_X6_48 : KS RX6 48 mX6_isWithin 3 := ⟨kl_X6_48, ks_X6_isWithin, mc_X6_isWithin⟩
theorem mc_X6_cellAt : MC mX6_cellAt 2 := ⟨⟨by decide, by decide, by decide +kernel⟩, by decide, kc_X6_cellAt, ki_X6⟩
theorem mk_X6_52 : KS RX6 52 mX6_cellAt 2 := ⟨kl_X6_52, ks_X6_cellAt, mc_X6_cellAt⟩
theorem mc_X0_keep : MC mX0_keep 1 := ⟨⟨by decide, by decide, by decide +kernel⟩, by decide, kc_X0_keep, ki_X0⟩
theorem mk_X6_60 : KV RX6 60 mX0_keep 1 0 := ⟨kl_X6_60, kv_X0_keep, kz_X0_keep, ⟨_, rfl, rfl⟩, mc_X0_keep⟩
theorem mc_X3_copyFrom : MC mX3_copyFrom 1 := ⟨⟨by decide, by decide, by decide +kernel⟩, by decide, kc_X3_copyFrom, ki_X3⟩
theorem mk_X0_25 : KV RX0 25 mX3_copyFrom 1 3 := ⟨kl_X0_25, kv_X3_copyFrom, kz_X3_copyFrom, ⟨_, rfl, rfl⟩, mc_X3_copyFrom⟩
theorem mc_X6_copy : MC mX6_copy 2 := ⟨⟨by decide, by decide, by decide +kernel⟩, by decide, kc_X6_copy, ki_X6⟩
theorem mk_X3_56 : KN RX3 56 mX6_copy 2 := ⟨⟨"FogMap", by decide +kernel⟩, ks_X6_copy, mc_X6_copy⟩
theorem mc_J9_min_7cf53 : MC mJ9_min_7cf53 2 := ⟨⟨by decide, by decide, by decide +kernel⟩, by decide, kc_J9_min_7cf53, ki_J9⟩
theorem mk_X6_247 : KS RX6 247 mJ9_min_7cf53 2 := ⟨kl_X6_247, ks_J9_min_7cf53, mc_J9_min_7cf53⟩
theorem mc_X1_copyFrom : MC mX1_copyFrom 1 := ⟨⟨by decide, by decide, by decide +kernel⟩, by decide, kc_X1_copyFrom, ki_X1⟩
theorem mk_X3_60 : KV RX3 60 mX1_copyFrom 1 1 := ⟨kl_X3_60, kv_X1_copyFrom, kz_X1_copyFrom, ⟨_, rfl, rfl⟩, mc_X1_copyFrom⟩
theorem mk_X1_24 : KN RX1 24 mX6_copy 2 := ⟨⟨"FogMap", by decide +kernel⟩, ks_X6_copy, mc_X6_copy⟩
theorem mk_X0_29 : KS RX0 29 mJ9_min_7cf53 2 := ⟨kl_X0_29, ks_J9_min_7cf53, mc_J9_min_7cf53⟩
theorem mc_X6_look : MC mX6_look 0 := ⟨⟨by decide, by decide, by decide +kernel⟩, by decide, kc_X6_look, ki_X6⟩
theorem mk_X6_64 : KV RX6 64 mX6_look 0 6 := ⟨kl_X6_64, kv_X6_look, kz_X6_look, ⟨_, rfl, rfl⟩, mc_X6_look⟩
theorem mc_X2_refresh : MC mX2_refresh 1 := ⟨⟨by decide, by decide, by decide +kernel⟩, by decide, kc_X2_refresh, ki_X2⟩
theorem mk_X6_115 : KV RX6 115 mX2_refresh 1 2 := ⟨kl_X6_115, kv_X2_refresh, kz_X2_refresh, ⟨_, rfl, rfl⟩, mc_X2_refresh⟩
theorem mc_X3_isLit : MC mX3_isLit 1 := ⟨⟨by decide, by decide, by decide +kernel⟩, by decide, kc_X3_isLit, ki_X3⟩
theorem mk_X2_18 : KV RX2 18 mX3_isLit 1 3 := ⟨kl_X2_18, kv_X3_isLit, kz_X3_isLit, ⟨_, rfl, rfl⟩, mc_X3_isLit⟩
theorem mc_X6_distanceOf : MC mX6_distanceOf 2 := ⟨⟨by decide, by decide, by decide +kernel⟩, by decide, kc_X6_distanceOf, ki_X6⟩
theorem mk_X3_79 : KN RX3 79 mX6_distanceOf 2 := ⟨⟨"FogMap", by decide +kernel⟩, ks_X6_distanceOf, mc_X6_distanceOf⟩
theorem mc_X6_columnOf : MC mX6_columnOf 1 := ⟨⟨by decide, by decide, by decide +kernel⟩, by decide, kc_X6_columnOf, ki_X6⟩
theorem mk_X6_106 : KS RX6 106 mX6_columnOf 1 := ⟨kl_X6_106, ks_X6_columnOf, mc_X6_columnOf⟩
theorem mc_J9_abs_0f7a4 : MC mJ9_abs_0f7a4 1 := ⟨⟨by decide, by decide, by decide +kernel⟩, by decide, kc_J9_abs_0f7a4, ki_J9⟩
theorem mk_X6_239 : KS RX6 239 mJ9_abs_0f7a4 1 := ⟨kl_X6_239, ks_J9_abs_0f7a4, mc_J9_abs_0f7a4⟩
theorem mc_X6_rowOf : MC mX6_rowOf 1 := ⟨⟨by decide, by decide, by decide +kernel⟩, by decide, kc_X6_rowOf, ki_X6⟩
theorem mk_X6_109 : KS RX6 109 mX6_rowOf 1 := ⟨kl_X6_109, ks_X6_rowOf, mc_X6_rowOf⟩
theorem mc_J9_max_7cf53 : MC mJ9_max_7cf53 2 := ⟨⟨by decide, by decide, by decide +kernel⟩, by decide, kc_J9_max_7cf53, ki_J9⟩
theorem mk_X6_244 : KS RX6 244 mJ9_max_7cf53 2 := ⟨kl_X6_244, ks_J9_max_7cf53, mc_J9_max_7cf53⟩
theorem mc_X2_canSee : MC mX2_canSee 4 := ⟨⟨by decide, by decide, by decide +kernel⟩, by decide, kc_X2_canSee, ki_X2⟩
theorem mk_X2_34 : KV RX2 34 mX2_canSee 4 2 := ⟨kl_X2_34, kv_X2_canSee, kz_X2_canSee, ⟨_, rfl, rfl⟩, mc_X2_canSee⟩
theorem mk_X2_42 : KN RX2 42 mX6_distanceOf 2 := ⟨⟨"FogMap", by decide +kernel⟩, ks_X6_distanceOf, mc_X6_distanceOf⟩
theorem mc_X2_isViewFree : MC mX2_isViewFree 3 := ⟨⟨by decide, by decide, by decide +kernel⟩, by decide, kc_X2_isViewFree, ki_X2⟩
theorem mk_X2_46 : KS RX2 46 mX2_isViewFree 3 := ⟨kl_X2_46, ks_X2_isViewFree, mc_X2_isViewFree⟩
theorem mc_X2_innerCell : MC mX2_innerCell 4 := ⟨⟨by decide, by decide, by decide +kernel⟩, by decide, kc_X2_innerCell, ki_X2⟩
theorem mk_X2_57 : KS RX2 57 mX2_innerCell 4 := ⟨kl_X2_57, ks_X2_innerCell, mc_X2_innerCell⟩
theorem mk_X2_64 : KN RX2 64 mX6_columnOf 1 := ⟨⟨"FogMap", by decide +kernel⟩, ks_X6_columnOf, mc_X6_columnOf⟩
theorem mc_X2_part : MC mX2_part 2 := ⟨⟨by decide, by decide, by decide +kernel⟩, by decide, kc_X2_part, ki_X2⟩
theorem mk_X2_67 : KS RX2 67 mX2_part 2 := ⟨kl_X2_67, ks_X2_part, mc_X2_part⟩
theorem mc_J9_floorDiv_7cf53 : MC mJ9_floorDiv_7cf53 2 := ⟨⟨by decide, by decide, by decide +kernel⟩, by decide, kc_J9_floorDiv_7cf53, ki_J9⟩
theorem mk_X2_76 : KS RX2 76 mJ9_floorDiv_7cf53 2 := ⟨kl_X2_76, ks_J9_floorDiv_7cf53, mc_J9_floorDiv_7cf53⟩
theorem mk_X2_70 : KN RX2 70 mX6_rowOf 1 := ⟨⟨"FogMap", by decide +kernel⟩, ks_X6_rowOf, mc_X6_rowOf⟩
theorem mk_X2_73 : KN RX2 73 mX6_cellAt 2 := ⟨⟨"FogMap", by decide +kernel⟩, ks_X6_cellAt, mc_X6_cellAt⟩
theorem mc_X6_bitOf : MC mX6_bitOf 1 := ⟨⟨by decide, by decide, by decide +kernel⟩, by decide, kc_X6_bitOf, ki_X6⟩
theorem mk_X2_38 : KN RX2 38 mX6_bitOf 1 := ⟨⟨"FogMap", by decide +kernel⟩, ks_X6_bitOf, mc_X6_bitOf⟩
theorem mc_X3_remember : MC mX3_remember 1 := ⟨⟨by decide, by decide, by decide +kernel⟩, by decide, kc_X3_remember, ki_X3⟩
theorem mk_X6_124 : KV RX6 124 mX3_remember 1 3 := ⟨kl_X6_124, kv_X3_remember, kz_X3_remember, ⟨_, rfl, rfl⟩, mc_X3_remember⟩
theorem mc_X3_scoutsOf : MC mX3_scoutsOf 1 := ⟨⟨by decide, by decide, by decide +kernel⟩, by decide, kc_X3_scoutsOf, ki_X3⟩
theorem mk_X3_90 : KV RX3 90 mX3_scoutsOf 1 3 := ⟨kl_X3_90, kv_X3_scoutsOf, kz_X3_scoutsOf, ⟨_, rfl, rfl⟩, mc_X3_scoutsOf⟩
theorem mk_X3_68 : KN RX3 68 mX6_bitOf 1 := ⟨⟨"FogMap", by decide +kernel⟩, ks_X6_bitOf, mc_X6_bitOf⟩
theorem mc_X2_isSeen : MC mX2_isSeen 2 := ⟨⟨by decide, by decide, by decide +kernel⟩, by decide, kc_X2_isSeen, ki_X2⟩
theorem mk_X3_93 : KV RX3 93 mX2_isSeen 2 2 := ⟨kl_X3_93, kv_X2_isSeen, kz_X2_isSeen, ⟨_, rfl, rfl⟩, mc_X2_isSeen⟩
theorem mc_X3_rememberCell : MC mX3_rememberCell 2 := ⟨⟨by decide, by decide, by decide +kernel⟩, by decide, kc_X3_rememberCell, ki_X3⟩
theorem mk_X3_99 : KV RX3 99 mX3_rememberCell 2 3 := ⟨kl_X3_99, kv_X3_rememberCell, kz_X3_rememberCell, ⟨_, rfl, rfl⟩, mc_X3_rememberCell⟩
theorem mc_X3_scoutIn : MC mX3_scoutIn 1 := ⟨⟨by decide, by decide, by decide +kernel⟩, by decide, kc_X3_scoutIn, ki_X3⟩
theorem mk_X3_64 : KV RX3 64 mX3_scoutIn 1 3 := ⟨kl_X3_64, kv_X3_scoutIn, kz_X3_scoutIn, ⟨_, rfl, rfl⟩, mc_X3_scoutIn⟩
theorem mk_X6_67 : KV RX6 67 mX3_scoutIn 1 3 := ⟨kl_X6_67, kv_X3_scoutIn, kz_X3_scoutIn, ⟨_, rfl, rfl⟩, mc_X3_scoutIn⟩
theorem mc_X4_put : MC mX4_put 1 := ⟨⟨by decide, by decide, by decide +kernel⟩, by decide, kc_X4_put, ki_X4⟩
theorem mk_X6_78 : KV RX6 78 mX4_put 1 4 := ⟨kl_X6_78, kv_X4_put, kz_X4_put, ⟨_, rfl, rfl⟩, mc_X4_put⟩
theorem mc_X4_read : MC mX4_read 1 := ⟨⟨by decide, by decide, by decide +kernel⟩, by decide, kc_X4_read, ki_X4⟩
theorem mk_X6_82 : KV RX6 82 mX4_read 1 4 := ⟨kl_X6_82, kv_X4_read, kz_X4_read, ⟨_, rfl, rfl⟩, mc_X4_read⟩
theorem mc_J7_fill_53178 : MC mJ7_fill_53178 2 := ⟨⟨by decide, by decide, by decide +kernel⟩, by decide, kc_J7_fill_53178, ki_J7⟩
theorem mk_X4_22 : KS RX4 22 mJ7_fill_53178 2 := ⟨kl_X4_22, ks_J7_fill_53178, mc_J7_fill_53178⟩
theorem mc_X4_isAllowed : MC mX4_isAllowed 4 := ⟨⟨by decide, by decide, by decide +kernel⟩, by decide, kc_X4_isAllowed, ki_X4⟩
theorem mk_X4_28 : KS RX4 28 mX4_isAllowed 4 := ⟨kl_X4_28, ks_X4_isAllowed, mc_X4_isAllowed⟩
theorem mk_X4_32 : KN RX4 32 mX6_cellAt 2 := ⟨⟨"FogMap", by decide +kernel⟩, ks_X6_cellAt, mc_X6_cellAt⟩
theorem mk_X4_36 : KV RX4 36 mX3_scoutIn 1 3 := ⟨kl_X4_36, kv_X3_scoutIn, kz_X3_scoutIn, ⟨_, rfl, rfl⟩, mc_X3_scoutIn⟩
theorem mk_X4_42 : KN RX4 42 mX6_isWithin 3 := ⟨⟨"FogMap", by decide +kernel⟩, ks_X6_isWithin, mc_X6_isWithin⟩
theorem mc_X4_tellTo : MC mX4_tellTo 1 := ⟨⟨by decide, by decide, by decide +kernel⟩, by decide, kc_X4_tellTo, ki_X4⟩
theorem mk_X6_86 : KV RX6 86 mX4_tellTo 1 4 := ⟨kl_X6_86, kv_X4_tellTo, kz_X4_tellTo, ⟨_, rfl, rfl⟩, mc_X4_tellTo⟩
theorem mc_X3_isFree : MC mX3_isFree 1 := ⟨⟨by decide, by decide, by decide +kernel⟩, by decide, kc_X3_isFree, ki_X3⟩
theorem mk_X6_89 : KV RX6 89 mX3_isFree 1 3 := ⟨kl_X6_89, kv_X3_isFree, kz_X3_isFree, ⟨_, rfl, rfl⟩, mc_X3_isFree⟩
theorem mc_X3_putScout : MC mX3_putScout 3 := ⟨⟨by decide, by decide, by decide +kernel⟩, by decide, kc_X3_putScout, ki_X3⟩
theorem mk_X6_96 : KV RX6 96 mX3_putScout 3 3 := ⟨kl_X6_96, kv_X3_putScout, kz_X3_putScout, ⟨_, rfl, rfl⟩, mc_X3_putScout⟩
theorem mc_X6_isScout : MC mX6_isScout 1 := ⟨⟨by decide, by decide, by decide +kernel⟩, by decide, kc_X6_isScout, ki_X6⟩
theorem mk_X6_100 : KV RX6 100 mX6_isScout 1 6 := ⟨kl_X6_100, kv_X6_isScout, kz_X6_isScout, ⟨_, rfl, rfl⟩, mc_X6_isScout⟩
theorem mc_X6_canStep : MC mX6_canStep 2 := ⟨⟨by decide, by decide, by decide +kernel⟩, by decide, kc_X6_canStep, ki_X6⟩
theorem mk_X6_112 : KV RX6 112 mX6_canStep 2 6 := ⟨kl_X6_112, kv_X6_canStep, kz_X6_canStep, ⟨_, rfl, rfl⟩, mc_X6_canStep⟩
theorem mc_X6_countUncovered : MC mX6_countUncovered 1 := ⟨⟨by decide, by decide, by decide +kernel⟩, by decide, kc_X6_countUncovered, ki_X6⟩
theorem mk_X6_121 : KV RX6 121 mX6_countUncovered 1 6 := ⟨kl_X6_121, kv_X6_countUncovered, kz_X6_countUncovered, ⟨_, rfl, rfl⟩, mc_X6_countUncovered⟩
theorem mk_X6_171 : KV RX6 171 mX3_scoutsOf 1 3 := ⟨kl_X6_171, kv_X3_scoutsOf, kz_X3_scoutsOf, ⟨_, rfl, rfl⟩, mc_X3_scoutsOf⟩
theorem mk_X6_198 : KV RX6 198 mX2_isSeen 2 2 := ⟨kl_X6_198, kv_X2_isSeen, kz_X2_isSeen, ⟨_, rfl, rfl⟩, mc_X2_isSeen⟩
theorem mc_X3_dropScout : MC mX3_dropScout 1 := ⟨⟨by decide, by decide, by decide +kernel⟩, by decide, kc_X3_dropScout, ki_X3⟩
theorem mk_X6_128 : KV RX6 128 mX3_dropScout 1 3 := ⟨kl_X6_128, kv_X3_dropScout, kz_X3_dropScout, ⟨_, rfl, rfl⟩, mc_X3_dropScout⟩
theorem mc_X6_closeGap : MC mX6_closeGap 3 := ⟨⟨by decide, by decide, by decide +kernel⟩, by decide, kc_X6_closeGap, ki_X6⟩
theorem mk_X3_71 : KN RX3 71 mX6_closeGap 3 := ⟨⟨"FogMap", by decide +kernel⟩, ks_X6_closeGap, mc_X6_closeGap⟩
theorem mc_X3_putLight : MC mX3_putLight 3 := ⟨⟨by decide, by decide, by decide +kernel⟩, by decide, kc_X3_putLight, ki_X3⟩
theorem mk_X6_134 : KV RX6 134 mX3_putLight 3 3 := ⟨kl_X6_134, kv_X3_putLight, kz_X3_putLight, ⟨_, rfl, rfl⟩, mc_X3_putLight⟩
theorem mc_X6_isLight : MC mX6_isLight 1 := ⟨⟨by decide, by decide, by decide +kernel⟩, by decide, kc_X6_isLight, ki_X6⟩
theorem mk_X6_137 : KV RX6 137 mX6_isLight 1 6 := ⟨kl_X6_137, kv_X6_isLight, kz_X6_isLight, ⟨_, rfl, rfl⟩, mc_X6_isLight⟩
theorem mc_X3_dropLight : MC mX3_dropLight 1 := ⟨⟨by decide, by decide, by decide +kernel⟩, by decide, kc_X3_dropLight, ki_X3⟩
theorem mk_X6_143 : KV RX6 143 mX3_dropLight 1 3 := ⟨kl_X6_143, kv_X3_dropLight, kz_X3_dropLight, ⟨_, rfl, rfl⟩, mc_X3_dropLight⟩
theorem mc_X3_changeFogTime : MC mX3_changeFogTime 1 := ⟨⟨by decide, by decide, by decide +kernel⟩, by decide, kc_X3_changeFogTime, ki_X3⟩
theorem mk_X6_149 : KV RX6 149 mX3_changeFogTime 1 3 := ⟨kl_X6_149, kv_X3_changeFogTime, kz_X3_changeFogTime, ⟨_, rfl, rfl⟩, mc_X3_changeFogTime⟩
theorem mc_X1_limit : MC mX1_limit 1 := ⟨⟨by decide, by decide, by decide +kernel⟩, by decide, kc_X1_limit, ki_X1⟩
theorem mk_X3_86 : KV RX3 86 mX1_limit 1 1 := ⟨kl_X3_86, kv_X1_limit, kz_X1_limit, ⟨_, rfl, rfl⟩, mc_X1_limit⟩
theorem mk_X1_34 : KS RX1 34 mJ9_min_7cf53 2 := ⟨kl_X1_34, ks_J9_min_7cf53, mc_J9_min_7cf53⟩
theorem mc_X6_passTurn : MC mX6_passTurn 0 := ⟨⟨by decide, by decide, by decide +kernel⟩, by decide, kc_X6_passTurn, ki_X6⟩
theorem mk_X6_152 : KV RX6 152 mX6_passTurn 0 6 := ⟨kl_X6_152, kv_X6_passTurn, kz_X6_passTurn, ⟨_, rfl, rfl⟩, mc_X6_passTurn⟩
theorem mc_X3_burn : MC mX3_burn 0 := ⟨⟨by decide, by decide, by decide +kernel⟩, by decide, kc_X3_burn, ki_X3⟩
theorem mk_X6_233 : KV RX6 233 mX3_burn 0 3 := ⟨kl_X6_233, kv_X3_burn, kz_X3_burn, ⟨_, rfl, rfl⟩, mc_X3_burn⟩
theorem mc_X3_countBurning : MC mX3_countBurning 0 := ⟨⟨by decide, by decide, by decide +kernel⟩, by decide, kc_X3_countBurning, ki_X3⟩
theorem mk_X3_75 : KV RX3 75 mX3_countBurning 0 3 := ⟨kl_X3_75, kv_X3_countBurning, kz_X3_countBurning, ⟨_, rfl, rfl⟩, mc_X3_countBurning⟩
theorem mc_X3_fade : MC mX3_fade 0 := ⟨⟨by decide, by decide, by decide +kernel⟩, by decide, kc_X3_fade, ki_X3⟩
theorem mk_X6_236 : KV RX6 236 mX3_fade 0 3 := ⟨kl_X6_236, kv_X3_fade, kz_X3_fade, ⟨_, rfl, rfl⟩, mc_X3_fade⟩
theorem mc_X1_fade : MC mX1_fade 0 := ⟨⟨by decide, by decide, by decide +kernel⟩, by decide, kc_X1_fade, ki_X1⟩
theorem mk_X3_83 : KV RX3 83 mX1_fade 0 1 := ⟨kl_X3_83, kv_X1_fade, kz_X1_fade, ⟨_, rfl, rfl⟩, mc_X1_fade⟩
theorem mk_X1_28 : KS RX1 28 mJ9_max_7cf53 2 := ⟨kl_X1_28, ks_J9_max_7cf53, mc_J9_max_7cf53⟩
theorem mc_X0_restore : MC mX0_restore 1 := ⟨⟨by decide, by decide, by decide +kernel⟩, by decide, kc_X0_restore, ki_X0⟩
theorem mk_X6_159 : KV RX6 159 mX0_restore 1 0 := ⟨kl_X6_159, kv_X0_restore, kz_X0_restore, ⟨_, rfl, rfl⟩, mc_X0_restore⟩
theorem mk_X6_162 : KV RX6 162 mX3_countBurning 0 3 := ⟨kl_X6_162, kv_X3_countBurning, kz_X3_countBurning, ⟨_, rfl, rfl⟩, mc_X3_countBurning⟩
theorem mc_X2_countLit : MC mX2_countLit 0 := ⟨⟨by decide, by decide, by decide +kernel⟩, by decide, kc_X2_countLit, ki_X2⟩
theorem mk_X6_165 : KV RX6 165 mX2_countLit 0 2 := ⟨kl_X6_165, kv_X2_countLit, kz_X2_countLit, ⟨_, rfl, rfl⟩, mc_X2_countLit⟩
theorem mc_X2_countSeen : MC mX2_countSeen 1 := ⟨⟨by decide, by decide, by decide +kernel⟩, by decide, kc_X2_countSeen, ki_X2⟩
theorem mk_X6_174 : KV RX6 174 mX2_countSeen 1 2 := ⟨kl_X6_174, kv_X2_countSeen, kz_X2_countSeen, ⟨_, rfl, rfl⟩, mc_X2_countSeen⟩
theorem mk_X2_50 : KV RX2 50 mX2_isSeen 2 2 := ⟨kl_X2_50, kv_X2_isSeen, kz_X2_isSeen, ⟨_, rfl, rfl⟩, mc_X2_isSeen⟩
theorem mc_X1_countNotFogged : MC mX1_countNotFogged 0 := ⟨⟨by decide, by decide, by decide +kernel⟩, by decide, kc_X1_countNotFogged, ki_X1⟩
theorem mk_X6_181 : KV RX6 181 mX1_countNotFogged 0 1 := ⟨kl_X6_181, kv_X1_countNotFogged, kz_X1_countNotFogged, ⟨_, rfl, rfl⟩, mc_X1_countNotFogged⟩
theorem mk_X6_192 : KS RX6 192 mX6_bitOf 1 := ⟨kl_X6_192, ks_X6_bitOf, mc_X6_bitOf⟩
theorem mc_X6_otherSide : MC mX6_otherSide 1 := ⟨⟨by decide, by decide, by decide +kernel⟩, by decide, kc_X6_otherSide, ki_X6⟩
theorem mk_X6_195 : KS RX6 195 mX6_otherSide 1 := ⟨kl_X6_195, ks_X6_otherSide, mc_X6_otherSide⟩
theorem mk_X6_215 : KS RX6 215 mX2_isViewFree 3 := ⟨kl_X6_215, ks_X2_isViewFree, mc_X2_isViewFree⟩
theorem mc_X5_shortest : MC mX5_shortest 3 := ⟨⟨by decide, by decide, by decide +kernel⟩, by decide, kc_X5_shortest, ki_X5⟩
theorem mk_X6_219 : KV RX6 219 mX5_shortest 3 5 := ⟨kl_X6_219, kv_X5_shortest, kz_X5_shortest, ⟨_, rfl, rfl⟩, mc_X5_shortest⟩
theorem mk_X5_22 : KS RX5 22 mJ7_fill_53178 2 := ⟨kl_X5_22, ks_J7_fill_53178, mc_J7_fill_53178⟩
theorem mc_X5_reach : MC mX5_reach 2 := ⟨⟨by decide, by decide, by decide +kernel⟩, by decide, kc_X5_reach, ki_X5⟩
theorem mk_X5_28 : KV RX5 28 mX5_reach 2 5 := ⟨kl_X5_28, kv_X5_reach, kz_X5_reach, ⟨_, rfl, rfl⟩, mc_X5_reach⟩
theorem mc_X5_reachNeighbors : MC mX5_reachNeighbors 2 := ⟨⟨by decide, by decide, by decide +kernel⟩, by decide, kc_X5_reachNeighbors, ki_X5⟩
theorem mk_X5_32 : KV RX5 32 mX5_reachNeighbors 2 5 := ⟨kl_X5_32, kv_X5_reachNeighbors, kz_X5_reachNeighbors, ⟨_, rfl, rfl⟩, mc_X5_reachNeighbors⟩
theorem mk_X5_36 : KN RX5 36 mX6_columnOf 1 := ⟨⟨"FogMap", by decide +kernel⟩, ks_X6_columnOf, mc_X6_columnOf⟩
theorem mk_X5_40 : KN RX5 40 mX6_rowOf 1 := ⟨⟨"FogMap", by decide +kernel⟩, ks_X6_rowOf, mc_X6_rowOf⟩
theorem mk_X5_43 : KN RX5 43 mX6_isCell 2 := ⟨⟨"FogMap", by decide +kernel⟩, ks_X6_isCell, mc_X6_isCell⟩
theorem mk_X5_47 : KN RX5 47 mX6_cellAt 2 := ⟨⟨"FogMap", by decide +kernel⟩, ks_X6_cellAt, mc_X6_cellAt⟩
theorem mc_X1_canStep : MC mX1_canStep 2 := ⟨⟨by decide, by decide, by decide +kernel⟩, by decide, kc_X1_canStep, ki_X1⟩
theorem mk_X5_51 : KV RX5 51 mX1_canStep 2 1 := ⟨kl_X5_51, kv_X1_canStep, kz_X1_canStep, ⟨_, rfl, rfl⟩, mc_X1_canStep⟩
theorem mk_X1_37 : KS RX1 37 mJ9_abs_0f7a4 1 := ⟨kl_X1_37, ks_J9_abs_0f7a4, mc_J9_abs_0f7a4⟩
theorem mk_X6_223 : KS RX6 223 mX6_distanceOf 2 := ⟨kl_X6_223, ks_X6_distanceOf, mc_X6_distanceOf⟩
theorem mc_X2_countSeenFrom : MC mX2_countSeenFrom 3 := ⟨⟨by decide, by decide, by decide +kernel⟩, by decide, kc_X2_countSeenFrom, ki_X2⟩
theorem mk_X6_226 : KV RX6 226 mX2_countSeenFrom 3 2 := ⟨kl_X6_226, kv_X2_countSeenFrom, kz_X2_countSeenFrom, ⟨_, rfl, rfl⟩, mc_X2_countSeenFrom⟩
theorem mc_X7_isCell : MC mX7_isCell 2 := ⟨⟨by decide, by decide, by decide +kernel⟩, by decide, kc_X7_isCell, ki_X7⟩
theorem mk_X7_95 : KS RX7 95 mX7_isCell 2 := ⟨kl_X7_95, ks_X7_isCell, mc_X7_isCell⟩
theorem mc_X7_in : MC mX7_in 3 := ⟨⟨by decide, by decide, by decide +kernel⟩, by decide, kc_X7_in, ki_X7⟩
theorem mk_X7_32 : KS RX7 32 mX7_in 3 := ⟨kl_X7_32, ks_X7_in, mc_X7_in⟩
theorem mc_X7_at : MC mX7_at 2 := ⟨⟨by decide, by decide, by decide +kernel⟩, by decide, kc_X7_at, ki_X7⟩
theorem mk_X7_46 : KS RX7 46 mX7_at 2 := ⟨kl_X7_46, ks_X7_at, mc_X7_at⟩
theorem mc_X7_replace : MC mX7_replace 2 := ⟨⟨by decide, by decide, by decide +kernel⟩, by decide, kc_X7_replace, ki_X7⟩
theorem mk_X7_98 : KV RX7 98 mX7_replace 2 7 := ⟨kl_X7_98, kv_X7_replace, kz_X7_replace, ⟨_, rfl, rfl⟩, mc_X7_replace⟩
theorem mc_X7_act : MC mX7_act 0 := ⟨⟨by decide, by decide, by decide +kernel⟩, by decide, kc_X7_act, ki_X7⟩
theorem mk_X7_89 : KV RX7 89 mX7_act 0 7 := ⟨kl_X7_89, kv_X7_act, kz_X7_act, ⟨_, rfl, rfl⟩, mc_X7_act⟩
theorem mc_X7_look : MC mX7_look 0 := ⟨⟨by decide, by decide, by decide +kernel⟩, by decide, kc_X7_look, ki_X7⟩
theorem mk_X7_92 : KV RX7 92 mX7_look 0 7 := ⟨kl_X7_92, kv_X7_look, kz_X7_look, ⟨_, rfl, rfl⟩, mc_X7_look⟩
theorem mc_X7_sideSees : MC mX7_sideSees 2 := ⟨⟨by decide, by decide, by decide +kernel⟩, by decide, kc_X7_sideSees, ki_X7⟩
theorem mk_X7_80 : KV RX7 80 mX7_sideSees 2 7 := ⟨kl_X7_80, kv_X7_sideSees, kz_X7_sideSees, ⟨_, rfl, rfl⟩, mc_X7_sideSees⟩
theorem mc_X7_ofScout : MC mX7_ofScout 2 := ⟨⟨by decide, by decide, by decide +kernel⟩, by decide, kc_X7_ofScout, ki_X7⟩
theorem mk_X7_43 : KV RX7 43 mX7_ofScout 2 7 := ⟨kl_X7_43, kv_X7_ofScout, kz_X7_ofScout, ⟨_, rfl, rfl⟩, mc_X7_ofScout⟩
theorem mc_X7_sees : MC mX7_sees 2 := ⟨⟨by decide, by decide, by decide +kernel⟩, by decide, kc_X7_sees, ki_X7⟩
theorem mk_X7_77 : KV RX7 77 mX7_sees 2 7 := ⟨kl_X7_77, kv_X7_sees, kz_X7_sees, ⟨_, rfl, rfl⟩, mc_X7_sees⟩
theorem mc_X7_cellOf : MC mX7_cellOf 1 := ⟨⟨by decide, by decide, by decide +kernel⟩, by decide, kc_X7_cellOf, ki_X7⟩
theorem mk_X7_49 : KV RX7 49 mX7_cellOf 1 7 := ⟨kl_X7_49, kv_X7_cellOf, kz_X7_cellOf, ⟨_, rfl, rfl⟩, mc_X7_cellOf⟩
theorem mc_X7_isSeenFrom : MC mX7_isSeenFrom 3 := ⟨⟨by decide, by decide, by decide +kernel⟩, by decide, kc_X7_isSeenFrom, ki_X7⟩
theorem mk_X7_74 : KV RX7 74 mX7_isSeenFrom 3 7 := ⟨kl_X7_74, kv_X7_isSeenFrom, kz_X7_isSeenFrom, ⟨_, rfl, rfl⟩, mc_X7_isSeenFrom⟩
theorem mc_X7_distance : MC mX7_distance 2 := ⟨⟨by decide, by decide, by decide +kernel⟩, by decide, kc_X7_distance, ki_X7⟩
theorem mk_X7_56 : KS RX7 56 mX7_distance 2 := ⟨kl_X7_56, ks_X7_distance, mc_X7_distance⟩
theorem mc_X7_apart : MC mX7_apart 2 := ⟨⟨by decide, by decide, by decide +kernel⟩, by decide, kc_X7_apart, ki_X7⟩
theorem mk_X7_36 : KS RX7 36 mX7_apart 2 := ⟨kl_X7_36, ks_X7_apart, mc_X7_apart⟩
theorem mc_X7_more : MC mX7_more 2 := ⟨⟨by decide, by decide, by decide +kernel⟩, by decide, kc_X7_more, ki_X7⟩
theorem mk_X7_40 : KS RX7 40 mX7_more 2 := ⟨kl_X7_40, ks_X7_more, mc_X7_more⟩
theorem mc_X7_isLit : MC mX7_isLit 1 := ⟨⟨by decide, by decide, by decide +kernel⟩, by decide, kc_X7_isLit, ki_X7⟩
theorem mk_X7_66 : KV RX7 66 mX7_isLit 1 7 := ⟨kl_X7_66, kv_X7_isLit, kz_X7_isLit, ⟨_, rfl, rfl⟩, mc_X7_isLit⟩
theorem mc_X7_ofLight : MC mX7_ofLight 2 := ⟨⟨by decide, by decide, by decide +kernel⟩, by decide, kc_X7_ofLight, ki_X7⟩
theorem mk_X7_53 : KV RX7 53 mX7_ofLight 2 7 := ⟨kl_X7_53, kv_X7_ofLight, kz_X7_ofLight, ⟨_, rfl, rfl⟩, mc_X7_ofLight⟩
theorem mc_X7_isFree : MC mX7_isFree 2 := ⟨⟨by decide, by decide, by decide +kernel⟩, by decide, kc_X7_isFree, ki_X7⟩
theorem mk_X7_70 : KV RX7 70 mX7_isFree 2 7 := ⟨kl_X7_70, kv_X7_isFree, kz_X7_isFree, ⟨_, rfl, rfl⟩, mc_X7_isFree⟩
theorem mc_X7_inner : MC mX7_inner 4 := ⟨⟨by decide, by decide, by decide +kernel⟩, by decide, kc_X7_inner, ki_X7⟩
theorem mk_X7_62 : KS RX7 62 mX7_inner 4 := ⟨kl_X7_62, ks_X7_inner, mc_X7_inner⟩
theorem mc_X7_down : MC mX7_down 2 := ⟨⟨by decide, by decide, by decide +kernel⟩, by decide, kc_X7_down, ki_X7⟩
theorem mk_X7_59 : KS RX7 59 mX7_down 2 := ⟨kl_X7_59, ks_X7_down, mc_X7_down⟩
theorem mc_X7_scoutIn : MC mX7_scoutIn 1 := ⟨⟨by decide, by decide, by decide +kernel⟩, by decide, kc_X7_scoutIn, ki_X7⟩
theorem mk_X7_83 : KV RX7 83 mX7_scoutIn 1 7 := ⟨kl_X7_83, kv_X7_scoutIn, kz_X7_scoutIn, ⟨_, rfl, rfl⟩, mc_X7_scoutIn⟩
theorem mc_X7_here : MC mX7_here 0 := ⟨⟨by decide, by decide, by decide +kernel⟩, by decide, kc_X7_here, ki_X7⟩
theorem mk_X7_107 : KV RX7 107 mX7_here 0 7 := ⟨kl_X7_107, kv_X7_here, kz_X7_here, ⟨_, rfl, rfl⟩, mc_X7_here⟩
theorem mc_X7_readsRow : MC mX7_readsRow 1 := ⟨⟨by decide, by decide, by decide +kernel⟩, by decide, kc_X7_readsRow, ki_X7⟩
theorem mk_X7_114 : KV RX7 114 mX7_readsRow 1 7 := ⟨kl_X7_114, kv_X7_readsRow, kz_X7_readsRow, ⟨_, rfl, rfl⟩, mc_X7_readsRow⟩
theorem mc_X7_readsCell : MC mX7_readsCell 2 := ⟨⟨by decide, by decide, by decide +kernel⟩, by decide, kc_X7_readsCell, ki_X7⟩
theorem mk_X7_111 : KV RX7 111 mX7_readsCell 2 7 := ⟨kl_X7_111, kv_X7_readsCell, kz_X7_readsCell, ⟨_, rfl, rfl⟩, mc_X7_readsCell⟩
theorem mc_X7_exchange : MC mX7_exchange 0 := ⟨⟨by decide, by decide, by decide +kernel⟩, by decide, kc_X7_exchange, ki_X7⟩
theorem mk_X7_117 : KV RX7 117 mX7_exchange 0 7 := ⟨kl_X7_117, kv_X7_exchange, kz_X7_exchange, ⟨_, rfl, rfl⟩, mc_X7_exchange⟩
theorem mc_X7_isScout : MC mX7_isScout 1 := ⟨⟨by decide, by decide, by decide +kernel⟩, by decide, kc_X7_isScout, ki_X7⟩
theorem mk_X7_120 : KV RX7 120 mX7_isScout 1 7 := ⟨kl_X7_120, kv_X7_isScout, kz_X7_isScout, ⟨_, rfl, rfl⟩, mc_X7_isScout⟩
theorem mc_X7_remembered : MC mX7_remembered 1 := ⟨⟨by decide, by decide, by decide +kernel⟩, by decide, kc_X7_remembered, ki_X7⟩
theorem mk_X7_123 : KV RX7 123 mX7_remembered 1 7 := ⟨kl_X7_123, kv_X7_remembered, kz_X7_remembered, ⟨_, rfl, rfl⟩, mc_X7_remembered⟩
theorem mc_X7_memory : MC mX7_memory 2 := ⟨⟨by decide, by decide, by decide +kernel⟩, by decide, kc_X7_memory, ki_X7⟩
theorem mk_X7_86 : KV RX7 86 mX7_memory 2 7 := ⟨kl_X7_86, kv_X7_memory, kz_X7_memory, ⟨_, rfl, rfl⟩, mc_X7_memory⟩
theorem mc_X7_remove : MC mX7_remove 3 := ⟨⟨by decide, by decide, by decide +kernel⟩, by decide, kc_X7_remove, ki_X7⟩
theorem mk_X7_126 : KV RX7 126 mX7_remove 3 7 := ⟨kl_X7_126, kv_X7_remove, kz_X7_remove, ⟨_, rfl, rfl⟩, mc_X7_remove⟩
theorem mc_X7_isLight : MC mX7_isLight 1 := ⟨⟨by decide, by decide, by decide +kernel⟩, by decide, kc_X7_isLight, ki_X7⟩
theorem mk_X7_130 : KV RX7 130 mX7_isLight 1 7 := ⟨kl_X7_130, kv_X7_isLight, kz_X7_isLight, ⟨_, rfl, rfl⟩, mc_X7_isLight⟩
theorem mc_X7_turn : MC mX7_turn 0 := ⟨⟨by decide, by decide, by decide +kernel⟩, by decide, kc_X7_turn, ki_X7⟩
theorem mk_X7_133 : KV RX7 133 mX7_turn 0 7 := ⟨kl_X7_133, kv_X7_turn, kz_X7_turn, ⟨_, rfl, rfl⟩, mc_X7_turn⟩
theorem mc_X7_burning : MC mX7_burning 0 := ⟨⟨by decide, by decide, by decide +kernel⟩, by decide, kc_X7_burning, ki_X7⟩
theorem mk_X7_136 : KV RX7 136 mX7_burning 0 7 := ⟨kl_X7_136, kv_X7_burning, kz_X7_burning, ⟨_, rfl, rfl⟩, mc_X7_burning⟩
theorem mc_X7_lit : MC mX7_lit 0 := ⟨⟨by decide, by decide, by decide +kernel⟩, by decide, kc_X7_lit, ki_X7⟩
theorem mk_X7_139 : KV RX7 139 mX7_lit 0 7 := ⟨kl_X7_139, kv_X7_lit, kz_X7_lit, ⟨_, rfl, rfl⟩, mc_X7_lit⟩
theorem mc_X7_seenBy : MC mX7_seenBy 1 := ⟨⟨by decide, by decide, by decide +kernel⟩, by decide, kc_X7_seenBy, ki_X7⟩
theorem mk_X7_142 : KV RX7 142 mX7_seenBy 1 7 := ⟨kl_X7_142, kv_X7_seenBy, kz_X7_seenBy, ⟨_, rfl, rfl⟩, mc_X7_seenBy⟩
theorem mc_X7_seenFrom : MC mX7_seenFrom 2 := ⟨⟨by decide, by decide, by decide +kernel⟩, by decide, kc_X7_seenFrom, ki_X7⟩
theorem mk_X7_145 : KV RX7 145 mX7_seenFrom 2 7 := ⟨kl_X7_145, kv_X7_seenFrom, kz_X7_seenFrom, ⟨_, rfl, rfl⟩, mc_X7_seenFrom⟩
theorem mc_X7_findSteps : MC mX7_findSteps 2 := ⟨⟨by decide, by decide, by decide +kernel⟩, by decide, kc_X7_findSteps, ki_X7⟩
theorem mk_X7_151 : KV RX7 151 mX7_findSteps 2 7 := ⟨kl_X7_151, kv_X7_findSteps, kz_X7_findSteps, ⟨_, rfl, rfl⟩, mc_X7_findSteps⟩
theorem mc_X7_isKnownStep : MC mX7_isKnownStep 3 := ⟨⟨by decide, by decide, by decide +kernel⟩, by decide, kc_X7_isKnownStep, ki_X7⟩
theorem mk_X7_148 : KV RX7 148 mX7_isKnownStep 3 7 := ⟨kl_X7_148, kv_X7_isKnownStep, kz_X7_isKnownStep, ⟨_, rfl, rfl⟩, mc_X7_isKnownStep⟩
def SH : Shp := [(9, 5, [some (some 1), some (some 21), some (some 24), some (some 126), some (some 129)]), (6, 13, [some (some 2), some (some 3), none, some (some 4), some (some 5), some (some 6), none, some (some 7), some (some 8), some (some 9), none, none, some (some 10)]), (0, 120, []), (0, 120, []), (0, 10, []), (0, 10, []), (0, 10, []), (0, 6, []), (0, 6, []), (0, 6, []), (1, 2, [some (some 11), some (some 16)]), (4, 4, [some (some 12), some (some 13), some (some 14), some (some 15)]), (0, 120, []), (0, 120, []), (0, 120, []), (0, 120, []), (4, 4, [some (some 17), some (some 18), some (some 19), some (some 20)]), (0, 120, []), (0, 120, []), (0, 120, []), (0, 120, []), (5, 2, [some (some 22), some (some 23)]), (0, 120, []), (0, 120, []), (3, 3, [some (some 25), none, none]), (2, 5, [some (some 26), some (some 46), some (some 66), some (some 86), some (some 106)]), (6, 13, [some (some 27), some (some 28), none, some (some 29), some (some 30), some (some 31), none, some (some 32), some (some 33), some (some 34), none, none, some (some 35)]), (0, 120, []), (0, 120, []), (0, 10, []), (0, 10, []), (0, 10, []), (0, 6, []), (0, 6, []), (0, 6, []), (1, 2, [some (some 36), some (some 41)]), (4, 4, [some (some 37), some (some 38), some (some 39), some (some 40)]), (0, 120, []), (0, 120, []), (0, 120, []), (0, 120, []), (4, 4, [some (some 42), some (some 43), some (some 44), some (some 45)]), (0, 120, []), (0, 120, []), (0, 120, []), (0, 120, []), (6, 13, [some (some 47), some (some 48), none, some (some 49), some (some 50), some (some 51), none, some (some 52), some (some 53), some (some 54), none, none, some (some 55)]), (0, 120, []), (0, 120, []), (0, 10, []), (0, 10, []), (0, 10, []), (0, 6, []), (0, 6, []), (0, 6, []), (1, 2, [some (some 56), some (some 61)]), (4, 4, [some (some 57), some (some 58), some (some 59), some (some 60)]), (0, 120, []), (0, 120, []), (0, 120, []), (0, 120, []), (4, 4, [some (some 62), some (some 63), some (some 64), some (some 65)]), (0, 120, []), (0, 120, []), (0, 120, []), (0, 120, []), (6, 13, [some (some 67), some (some 68), none, some (some 69), some (some 70), some (some 71), none, some (some 72), some (some 73), some (some 74), none, none, some (some 75)]), (0, 120, []), (0, 120, []), (0, 10, []), (0, 10, []), (0, 10, []), (0, 6, []), (0, 6, []), (0, 6, []), (1, 2, [some (some 76), some (some 81)]), (4, 4, [some (some 77), some (some 78), some (some 79), some (some 80)]), (0, 120, []), (0, 120, []), (0, 120, []), (0, 120, []), (4, 4, [some (some 82), some (some 83), some (some 84), some (some 85)]), (0, 120, []), (0, 120, []), (0, 120, []), (0, 120, []), (6, 13, [some (some 87), some (some 88), none, some (some 89), some (some 90), some (some 91), none, some (some 92), some (some 93), some (some 94), none, none, some (some 95)]), (0, 120, []), (0, 120, []), (0, 10, []), (0, 10, []), (0, 10, []), (0, 6, []), (0, 6, []), (0, 6, []), (1, 2, [some (some 96), some (some 101)]), (4, 4, [some (some 97), some (some 98), some (some 99), some (some 100)]), (0, 120, []), (0, 120, []), (0, 120, []), (0, 120, []), (4, 4, [some (some 102), some (some 103), some (some 104), some (some 105)]), (0, 120, []), (0, 120, []), (0, 120, []), (0, 120, []), (6, 13, [some (some 107), some (some 108), none, some (some 109), some (some 110), some (some 111), none, some (some 112), some (some 113), some (some 114), none, none, some (some 115)]), (0, 120, []), (0, 120, []), (0, 10, []), (0, 10, []), (0, 10, []), (0, 6, []), (0, 6, []), (0, 6, []), (1, 2, [some (some 116), some (some 121)]), (4, 4, [some (some 117), some (some 118), some (some 119), some (some 120)]), (0, 120, []), (0, 120, []), (0, 120, []), (0, 120, []), (4, 4, [some (some 122), some (some 123), some (some 124), some (some 125)]), (0, 120, []), (0, 120, []), (0, 120, []), (0, 120, []), (7, 3, [some (some 127), none, some (some 128)]), (0, 120, []), (0, 120, []), (8, 3, [some (some 130), some (some 131), none]), (0, 120, []), (0, 120, []), (10, 9, [none, some (some 133), some (some 134), some (some 135), none, some (some 136), none, none, some (some 137)]), (0, 1268, []), (0, 1268, []), (0, 6340, []), (0, 120, []), (0, 120, [])]
theorem sh_0 : SH[0]? = some (9, 5, [some (some 1), some (some 21), some (some 24), some (some 126), some (some 129)]) := by rfl
theorem sh_1 : SH[1]? = some (6, 13, [some (some 2), some (some 3), none, some (some 4), some (some 5), some (some 6), none, some (some 7), some (some 8), some (some 9), none, none, some (some 10)]) := by rfl
theorem sh_2 : SH[2]? = some (0, 120, []) := by rfl
theorem sh_3 : SH[3]? = some (0, 120, []) := by rfl
theorem sh_4 : SH[4]? = some (0, 10, []) := by rfl
theorem sh_5 : SH[5]? = some (0, 10, []) := by rfl
theorem sh_6 : SH[6]? = some (0, 10, []) := by rfl
theorem sh_7 : SH[7]? = some (0, 6, []) := by rfl
theorem sh_8 : SH[8]? = some (0, 6, []) := by rfl
theorem sh_9 : SH[9]? = some (0, 6, []) := by rfl
theorem sh_10 : SH[10]? = some (1, 2, [some (some 11), some (some 16)]) := by rfl
theorem sh_11 : SH[11]? = some (4, 4, [some (some 12), some (some 13), some (some 14), some (some 15)]) := by rfl
theorem sh_12 : SH[12]? = some (0, 120, []) := by rfl
theorem sh_13 : SH[13]? = some (0, 120, []) := by rfl
theorem sh_14 : SH[14]? = some (0, 120, []) := by rfl
theorem sh_15 : SH[15]? = some (0, 120, []) := by rfl
theorem sh_16 : SH[16]? = some (4, 4, [some (some 17), some (some 18), some (some 19), some (some 20)]) := by rfl
theorem sh_17 : SH[17]? = some (0, 120, []) := by rfl
theorem sh_18 : SH[18]? = some (0, 120, []) := by rfl
theorem sh_19 : SH[19]? = some (0, 120, []) := by rfl
theorem sh_20 : SH[20]? = some (0, 120, []) := by rfl
theorem sh_21 : SH[21]? = some (5, 2, [some (some 22), some (some 23)]) := by rfl
theorem sh_22 : SH[22]? = some (0, 120, []) := by rfl
theorem sh_23 : SH[23]? = some (0, 120, []) := by rfl
theorem sh_24 : SH[24]? = some (3, 3, [some (some 25), none, none]) := by rfl
theorem sh_25 : SH[25]? = some (2, 5, [some (some 26), some (some 46), some (some 66), some (some 86), some (some 106)]) := by rfl
theorem sh_26 : SH[26]? = some (6, 13, [some (some 27), some (some 28), none, some (some 29), some (some 30), some (some 31), none, some (some 32), some (some 33), some (some 34), none, none, some (some 35)]) := by rfl
theorem sh_27 : SH[27]? = some (0, 120, []) := by rfl
theorem sh_28 : SH[28]? = some (0, 120, []) := by rfl
theorem sh_29 : SH[29]? = some (0, 10, []) := by rfl
theorem sh_30 : SH[30]? = some (0, 10, []) := by rfl
theorem sh_31 : SH[31]? = some (0, 10, []) := by rfl
theorem sh_32 : SH[32]? = some (0, 6, []) := by rfl
theorem sh_33 : SH[33]? = some (0, 6, []) := by rfl
theorem sh_34 : SH[34]? = some (0, 6, []) := by rfl
theorem sh_35 : SH[35]? = some (1, 2, [some (some 36), some (some 41)]) := by rfl
theorem sh_36 : SH[36]? = some (4, 4, [some (some 37), some (some 38), some (some 39), some (some 40)]) := by rfl
theorem sh_37 : SH[37]? = some (0, 120, []) := by rfl
theorem sh_38 : SH[38]? = some (0, 120, []) := by rfl
theorem sh_39 : SH[39]? = some (0, 120, []) := by rfl
theorem sh_40 : SH[40]? = some (0, 120, []) := by rfl
theorem sh_41 : SH[41]? = some (4, 4, [some (some 42), some (some 43), some (some 44), some (some 45)]) := by rfl
theorem sh_42 : SH[42]? = some (0, 120, []) := by rfl
theorem sh_43 : SH[43]? = some (0, 120, []) := by rfl
theorem sh_44 : SH[44]? = some (0, 120, []) := by rfl
theorem sh_45 : SH[45]? = some (0, 120, []) := by rfl
theorem sh_46 : SH[46]? = some (6, 13, [some (some 47), some (some 48), none, some (some 49), some (some 50), some (some 51), none, some (some 52), some (some 53), some (some 54), none, none, some (some 55)]) := by rfl
theorem sh_47 : SH[47]? = some (0, 120, []) := by rfl
theorem sh_48 : SH[48]? = some (0, 120, []) := by rfl
theorem sh_49 : SH[49]? = some (0, 10, []) := by rfl
theorem sh_50 : SH[50]? = some (0, 10, []) := by rfl
theorem sh_51 : SH[51]? = some (0, 10, []) := by rfl
theorem sh_52 : SH[52]? = some (0, 6, []) := by rfl
theorem sh_53 : SH[53]? = some (0, 6, []) := by rfl
theorem sh_54 : SH[54]? = some (0, 6, []) := by rfl
theorem sh_55 : SH[55]? = some (1, 2, [some (some 56), some (some 61)]) := by rfl
theorem sh_56 : SH[56]? = some (4, 4, [some (some 57), some (some 58), some (some 59), some (some 60)]) := by rfl
theorem sh_57 : SH[57]? = some (0, 120, []) := by rfl
theorem sh_58 : SH[58]? = some (0, 120, []) := by rfl
theorem sh_59 : SH[59]? = some (0, 120, []) := by rfl
theorem sh_60 : SH[60]? = some (0, 120, []) := by rfl
theorem sh_61 : SH[61]? = some (4, 4, [some (some 62), some (some 63), some (some 64), some (some 65)]) := by rfl
theorem sh_62 : SH[62]? = some (0, 120, []) := by rfl
theorem sh_63 : SH[63]? = some (0, 120, []) := by rfl
theorem sh_64 : SH[64]? = some (0, 120, []) := by rfl
theorem sh_65 : SH[65]? = some (0, 120, []) := by rfl
theorem sh_66 : SH[66]? = some (6, 13, [some (some 67), some (some 68), none, some (some 69), some (some 70), some (some 71), none, some (some 72), some (some 73), some (some 74), none, none, some (some 75)]) := by rfl
theorem sh_67 : SH[67]? = some (0, 120, []) := by rfl
theorem sh_68 : SH[68]? = some (0, 120, []) := by rfl
theorem sh_69 : SH[69]? = some (0, 10, []) := by rfl
theorem sh_70 : SH[70]? = some (0, 10, []) := by rfl
theorem sh_71 : SH[71]? = some (0, 10, []) := by rfl
theorem sh_72 : SH[72]? = some (0, 6, []) := by rfl
theorem sh_73 : SH[73]? = some (0, 6, []) := by rfl
theorem sh_74 : SH[74]? = some (0, 6, []) := by rfl
theorem sh_75 : SH[75]? = some (1, 2, [some (some 76), some (some 81)]) := by rfl
theorem sh_76 : SH[76]? = some (4, 4, [some (some 77), some (some 78), some (some 79), some (some 80)]) := by rfl
theorem sh_77 : SH[77]? = some (0, 120, []) := by rfl
theorem sh_78 : SH[78]? = some (0, 120, []) := by rfl
theorem sh_79 : SH[79]? = some (0, 120, []) := by rfl
theorem sh_80 : SH[80]? = some (0, 120, []) := by rfl
theorem sh_81 : SH[81]? = some (4, 4, [some (some 82), some (some 83), some (some 84), some (some 85)]) := by rfl
theorem sh_82 : SH[82]? = some (0, 120, []) := by rfl
theorem sh_83 : SH[83]? = some (0, 120, []) := by rfl
theorem sh_84 : SH[84]? = some (0, 120, []) := by rfl
theorem sh_85 : SH[85]? = some (0, 120, []) := by rfl
theorem sh_86 : SH[86]? = some (6, 13, [some (some 87), some (some 88), none, some (some 89), some (some 90), some (some 91), none, some (some 92), some (some 93), some (some 94), none, none, some (some 95)]) := by rfl
theorem sh_87 : SH[87]? = some (0, 120, []) := by rfl
theorem sh_88 : SH[88]? = some (0, 120, []) := by rfl
theorem sh_89 : SH[89]? = some (0, 10, []) := by rfl
theorem sh_90 : SH[90]? = some (0, 10, []) := by rfl
theorem sh_91 : SH[91]? = some (0, 10, []) := by rfl
theorem sh_92 : SH[92]? = some (0, 6, []) := by rfl
theorem sh_93 : SH[93]? = some (0, 6, []) := by rfl
theorem sh_94 : SH[94]? = some (0, 6, []) := by rfl
theorem sh_95 : SH[95]? = some (1, 2, [some (some 96), some (some 101)]) := by rfl
theorem sh_96 : SH[96]? = some (4, 4, [some (some 97), some (some 98), some (some 99), some (some 100)]) := by rfl
theorem sh_97 : SH[97]? = some (0, 120, []) := by rfl
theorem sh_98 : SH[98]? = some (0, 120, []) := by rfl
theorem sh_99 : SH[99]? = some (0, 120, []) := by rfl
theorem sh_100 : SH[100]? = some (0, 120, []) := by rfl
theorem sh_101 : SH[101]? = some (4, 4, [some (some 102), some (some 103), some (some 104), some (some 105)]) := by rfl
theorem sh_102 : SH[102]? = some (0, 120, []) := by rfl
theorem sh_103 : SH[103]? = some (0, 120, []) := by rfl
theorem sh_104 : SH[104]? = some (0, 120, []) := by rfl
theorem sh_105 : SH[105]? = some (0, 120, []) := by rfl
theorem sh_106 : SH[106]? = some (6, 13, [some (some 107), some (some 108), none, some (some 109), some (some 110), some (some 111), none, some (some 112), some (some 113), some (some 114), none, none, some (some 115)]) := by rfl
theorem sh_107 : SH[107]? = some (0, 120, []) := by rfl
theorem sh_108 : SH[108]? = some (0, 120, []) := by rfl
theorem sh_109 : SH[109]? = some (0, 10, []) := by rfl
theorem sh_110 : SH[110]? = some (0, 10, []) := by rfl
theorem sh_111 : SH[111]? = some (0, 10, []) := by rfl
theorem sh_112 : SH[112]? = some (0, 6, []) := by rfl
theorem sh_113 : SH[113]? = some (0, 6, []) := by rfl
theorem sh_114 : SH[114]? = some (0, 6, []) := by rfl
theorem sh_115 : SH[115]? = some (1, 2, [some (some 116), some (some 121)]) := by rfl
theorem sh_116 : SH[116]? = some (4, 4, [some (some 117), some (some 118), some (some 119), some (some 120)]) := by rfl
theorem sh_117 : SH[117]? = some (0, 120, []) := by rfl
theorem sh_118 : SH[118]? = some (0, 120, []) := by rfl
theorem sh_119 : SH[119]? = some (0, 120, []) := by rfl
theorem sh_120 : SH[120]? = some (0, 120, []) := by rfl
theorem sh_121 : SH[121]? = some (4, 4, [some (some 122), some (some 123), some (some 124), some (some 125)]) := by rfl
theorem sh_122 : SH[122]? = some (0, 120, []) := by rfl
theorem sh_123 : SH[123]? = some (0, 120, []) := by rfl
theorem sh_124 : SH[124]? = some (0, 120, []) := by rfl
theorem sh_125 : SH[125]? = some (0, 120, []) := by rfl
theorem sh_126 : SH[126]? = some (7, 3, [some (some 127), none, some (some 128)]) := by rfl
theorem sh_127 : SH[127]? = some (0, 120, []) := by rfl
theorem sh_128 : SH[128]? = some (0, 120, []) := by rfl
theorem sh_129 : SH[129]? = some (8, 3, [some (some 130), some (some 131), none]) := by rfl
theorem sh_130 : SH[130]? = some (0, 120, []) := by rfl
theorem sh_131 : SH[131]? = some (0, 120, []) := by rfl
theorem sh_132 : SH[132]? = some (10, 9, [none, some (some 133), some (some 134), some (some 135), none, some (some 136), none, none, some (some 137)]) := by rfl
theorem sh_133 : SH[133]? = some (0, 1268, []) := by rfl
theorem sh_134 : SH[134]? = some (0, 1268, []) := by rfl
theorem sh_135 : SH[135]? = some (0, 6340, []) := by rfl
theorem sh_136 : SH[136]? = some (0, 120, []) := by rfl
theorem sh_137 : SH[137]? = some (0, 120, []) := by rfl
/-- from here the method comes to its end with the answer r and the memory M2; the shapes stay -/
def VX (μ : Mu) (d pc : Nat) (lv : List (Option AV)) (st : List AV) (M : Mem) (r : Option AV) (M2 : Mem) : Prop := V μ d 0 0 pc lv st SH M 0 0 (fun r' sh' M' => r' = r ∧ sh' = SH ∧ M' = M2)
def CX (μ : Mu) (d : Nat) (vs : List AV) (M : Mem) (r : Option AV) (M2 : Mem) : Prop := CT μ d 0 0 vs SH M (fun r' sh' M' => r' = r ∧ sh' = SH ∧ M' = M2)
theorem CX.of {μ : Mu} {d : Nat} {vs : List AV} {M M2 : Mem} {r : Option AV} (hy : plainFor μ.1 = true) (hn : vs.length ≤ μ.2.2.1) (lv : List (Option AV)) (hlv : ent0 μ.2.2.1 vs = lv) (h : VX μ d 0 lv [] M r M2) : CX μ d vs M r M2 := CT.of hy hn lv hlv h
section XR
variable {μ ν : Mu} {d pc d' : Nat} {lv : List (Option AV)} {st rest As : List AV} {M M2 : Mem} {r : Option AV}
theorem X.iconst {n : Int} (hd : decode μ.2.1 pc = .ok (.iconst n, 1)) (k : VX μ d (pc + 1) lv (.inl n :: st) M r M2) : VX μ d (pc) lv (st) M r M2 := V.iconst hd k
theorem X.bipush {n : Int} (hd : decode μ.2.1 pc = .ok (.bipush n, 2)) (hn : -128 ≤ n ∧ n ≤ 127) (k : VX μ d (pc + 2) lv (.inl n :: st) M r M2) : VX μ d (pc) lv (st) M r M2 := V.bipush hd hn k
theorem X.sipush {n : Int} (hd : decode μ.2.1 pc = .ok (.sipush n, 3)) (hn : -32768 ≤ n ∧ n ≤ 32767) (k : VX μ d (pc + 3) lv (.inl n :: st) M r M2) : VX μ d (pc) lv (st) M r M2 := V.sipush hd hn k
theorem X.iload_n {j : Fin 4} {x : Int} (hd : decode μ.2.1 pc = .ok (.iload_n j, 1)) (hl : lv[(j : Nat)]? = some (some (.inl x))) (k : VX μ d (pc + 1) lv (.inl x :: st) M r M2) : VX μ d (pc) lv (st) M r M2 := V.iload_n hd hl k
theorem X.iload {i : Nat} {x : Int} (hd : decode μ.2.1 pc = .ok (.iload i, 2)) (hl : lv[i]? = some (some (.inl x))) (k : VX μ d (pc + 2) lv (.inl x :: st) M r M2) : VX μ d (pc) lv (st) M r M2 := V.iload hd hl k
theorem X.aload_n {j : Fin 4} {x : Nat} (hd : decode μ.2.1 pc = .ok (.aload_n j, 1)) (hl : lv[(j : Nat)]? = some (some (.inr (some x)))) (k : VX μ d (pc + 1) lv (.inr (some x) :: st) M r M2) : VX μ d (pc) lv (st) M r M2 := V.aload_n hd hl k
theorem X.aload {i : Nat} {x : Nat} (hd : decode μ.2.1 pc = .ok (.aload i, 2)) (hl : lv[i]? = some (some (.inr (some x)))) (k : VX μ d (pc + 2) lv (.inr (some x) :: st) M r M2) : VX μ d (pc) lv (st) M r M2 := V.aload hd hl k
theorem X.istore_n {j : Fin 4} {lv2 : List (Option AV)} {x : Int} (hd : decode μ.2.1 pc = .ok (.istore_n j, 1)) (hi : (j : Nat) < lv.length) (hl : lv.set (j : Nat) (some (.inl x)) = lv2) (k : VX μ d (pc + 1) lv2 (st) M r M2) : VX μ d (pc) lv (.inl x :: st) M r M2 := V.istore_n hd hi hl k
theorem X.istore {i : Nat} {lv2 : List (Option AV)} {x : Int} (hd : decode μ.2.1 pc = .ok (.istore i, 2)) (hi : i < lv.length) (hl : lv.set i (some (.inl x)) = lv2) (k : VX μ d (pc + 2) lv2 (st) M r M2) : VX μ d (pc) lv (.inl x :: st) M r M2 := V.istore hd hi hl k
theorem X.astore_n {j : Fin 4} {lv2 : List (Option AV)} {x : Nat} (hd : decode μ.2.1 pc = .ok (.astore_n j, 1)) (hi : (j : Nat) < lv.length) (hl : lv.set (j : Nat) (some (.inr (some x))) = lv2) (k : VX μ d (pc + 1) lv2 (st) M r M2) : VX μ d (pc) lv (.inr (some x) :: st) M r M2 := V.astore_n hd hi hl k
theorem X.astore {i : Nat} {lv2 : List (Option AV)} {x : Nat} (hd : decode μ.2.1 pc = .ok (.astore i, 2)) (hi : i < lv.length) (hl : lv.set i (some (.inr (some x))) = lv2) (k : VX μ d (pc + 2) lv2 (st) M r M2) : VX μ d (pc) lv (.inr (some x) :: st) M r M2 := V.astore hd hi hl k
theorem X.iinc {i : Nat} {n x y : Int} {lv2 : List (Option AV)} (hd : decode μ.2.1 pc = .ok (.iinc i n, 3)) (hl : lv[i]? = some (some (.inl x))) (hy : x + n = y) (h2 : lv.set i (some (.inl y)) = lv2) (k : VX μ d (pc + 3) lv2 (st) M r M2) : VX μ d (pc) lv (st) M r M2 := V.iinc hd hl hy h2 k
theorem X.iadd {a b c : Int} (hd : decode μ.2.1 pc = .ok (.iadd, 1)) (hc : a + b = c) (k : VX μ d (pc + 1) lv (.inl c :: st) M r M2) : VX μ d (pc) lv (.inl b :: .inl a :: st) M r M2 := V.iadd hd (hc ▸ k)
theorem X.isub {a b c : Int} (hd : decode μ.2.1 pc = .ok (.isub, 1)) (hc : a - b = c) (k : VX μ d (pc + 1) lv (.inl c :: st) M r M2) : VX μ d (pc) lv (.inl b :: .inl a :: st) M r M2 := V.isub hd (hc ▸ k)
theorem X.imul {a b c : Int} (hd : decode μ.2.1 pc = .ok (.imul, 1)) (hc : a * b = c) (k : VX μ d (pc + 1) lv (.inl c :: st) M r M2) : VX μ d (pc) lv (.inl b :: .inl a :: st) M r M2 := V.imul hd (hc ▸ k)
theorem X.iand {a b c : Int} (hd : decode μ.2.1 pc = .ok (.iand, 1)) (hc : iAnd a b = c) (k : VX μ d (pc + 1) lv (.inl c :: st) M r M2) : VX μ d (pc) lv (.inl b :: .inl a :: st) M r M2 := V.iand hd (hc ▸ k)
theorem X.ior {a b c : Int} (hd : decode μ.2.1 pc = .ok (.ior, 1)) (hc : iOr a b = c) (k : VX μ d (pc + 1) lv (.inl c :: st) M r M2) : VX μ d (pc) lv (.inl b :: .inl a :: st) M r M2 := V.ior hd (hc ▸ k)
theorem X.ixor {a b c : Int} (hd : decode μ.2.1 pc = .ok (.ixor, 1)) (hc : iXor a b = c) (k : VX μ d (pc + 1) lv (.inl c :: st) M r M2) : VX μ d (pc) lv (.inl b :: .inl a :: st) M r M2 := V.ixor hd (hc ▸ k)
theorem X.ishl {a b c : Int} (hd : decode μ.2.1 pc = .ok (.ishl, 1)) (hc : iShl a b = c) (k : VX μ d (pc + 1) lv (.inl c :: st) M r M2) : VX μ d (pc) lv (.inl b :: .inl a :: st) M r M2 := V.ishl hd (hc ▸ k)
theorem X.ineg {a c : Int} (hd : decode μ.2.1 pc = .ok (.ineg, 1)) (hc : -a = c) (k : VX μ d (pc + 1) lv (.inl c :: st) M r M2) : VX μ d (pc) lv (.inl a :: st) M r M2 := V.ineg hd (hc ▸ k)
theorem X.idiv {a b c : Int} (hd : decode μ.2.1 pc = .ok (.idiv, 1)) (ha : 0 ≤ a ∧ a ≤ 2147483647) (hb : 0 < b ∧ b ≤ 2147483647) (hc : a / b = c) (k : VX μ d (pc + 1) lv (.inl c :: st) M r M2) : VX μ d (pc) lv (.inl b :: .inl a :: st) M r M2 := V.idiv hd ha hb (hc ▸ k)
theorem X.irem {a b c : Int} (hd : decode μ.2.1 pc = .ok (.irem, 1)) (ha : 0 ≤ a ∧ a ≤ 2147483647) (hb : 0 < b ∧ b ≤ 2147483647) (hc : a % b = c) (k : VX μ d (pc + 1) lv (.inl c :: st) M r M2) : VX μ d (pc) lv (.inl b :: .inl a :: st) M r M2 := V.irem hd ha hb (hc ▸ k)
theorem X.idivT {a b : Int} (hd : decode μ.2.1 pc = .ok (.idiv, 1)) (ha : inR a) (hb : inR b) (h0 : b ≠ 0) (k : VX μ d (pc + 1) lv (.inl (a.tdiv b) :: st) M r M2) : VX μ d (pc) lv (.inl b :: .inl a :: st) M r M2 := V.idivT hd ha hb h0 k
theorem X.iremT {a b : Int} (hd : decode μ.2.1 pc = .ok (.irem, 1)) (ha : inR a) (hb : inR b) (h0 : b ≠ 0) (k : VX μ d (pc + 1) lv (.inl (a.tmod b) :: st) M r M2) : VX μ d (pc) lv (.inl b :: .inl a :: st) M r M2 := V.iremT hd ha hb h0 k
theorem X.icmp_eq {a b : Int} {off : Int} {tgt : Nat} (hd : decode μ.2.1 pc = .ok (.if_icmp .eq off, 3)) (ht : (pc : Int) + off = (tgt : Int)) (ha : inR a) (hb : inR b) (kt : a = b → VX μ d (tgt) lv (st) M r M2) (kf : ¬ a = b → VX μ d (pc + 3) lv (st) M r M2) : VX μ d (pc) lv (.inl b :: .inl a :: st) M r M2 := V.icmp_eq hd ht ha hb kt kf
theorem X.if_eq {a : Int} {off : Int} {tgt : Nat} (hd : decode μ.2.1 pc = .ok (.ifCond .eq off, 3)) (ht : (pc : Int) + off = (tgt : Int)) (ha : inR a) (kt : a = 0 → VX μ d (tgt) lv (st) M r M2) (kf : ¬ a = 0 → VX μ d (pc + 3) lv (st) M r M2) : VX μ d (pc) lv (.inl a :: st) M r M2 := V.if_eq hd ht ha kt kf
theorem X.icmp_ne {a b : Int} {off : Int} {tgt : Nat} (hd : decode μ.2.1 pc = .ok (.if_icmp .ne off, 3)) (ht : (pc : Int) + off = (tgt : Int)) (ha : inR a) (hb : inR b) (kt : ¬ a = b → VX μ d (tgt) lv (st) M r M2) (kf : a = b → VX μ d (pc + 3) lv (st) M r M2) : VX μ d (pc) lv (.inl b :: .inl a :: st) M r M2 := V.icmp_ne hd ht ha hb kt kf
theorem X.if_ne {a : Int} {off : Int} {tgt : Nat} (hd : decode μ.2.1 pc = .ok (.ifCond .ne off, 3)) (ht : (pc : Int) + off = (tgt : Int)) (ha : inR a) (kt : ¬ a = 0 → VX μ d (tgt) lv (st) M r M2) (kf : a = 0 → VX μ d (pc + 3) lv (st) M r M2) : VX μ d (pc) lv (.inl a :: st) M r M2 := V.if_ne hd ht ha kt kf
theorem X.icmp_lt {a b : Int} {off : Int} {tgt : Nat} (hd : decode μ.2.1 pc = .ok (.if_icmp .lt off, 3)) (ht : (pc : Int) + off = (tgt : Int)) (ha : inR a) (hb : inR b) (kt : a < b → VX μ d (tgt) lv (st) M r M2) (kf : b ≤ a → VX μ d (pc + 3) lv (st) M r M2) : VX μ d (pc) lv (.inl b :: .inl a :: st) M r M2 := V.icmp_lt hd ht ha hb kt kf
theorem X.if_lt {a : Int} {off : Int} {tgt : Nat} (hd : decode μ.2.1 pc = .ok (.ifCond .lt off, 3)) (ht : (pc : Int) + off = (tgt : Int)) (ha : inR a) (kt : a < 0 → VX μ d (tgt) lv (st) M r M2) (kf : 0 ≤ a → VX μ d (pc + 3) lv (st) M r M2) : VX μ d (pc) lv (.inl a :: st) M r M2 := V.if_lt hd ht ha kt kf
theorem X.icmp_ge {a b : Int} {off : Int} {tgt : Nat} (hd : decode μ.2.1 pc = .ok (.if_icmp .ge off, 3)) (ht : (pc : Int) + off = (tgt : Int)) (ha : inR a) (hb : inR b) (kt : b ≤ a → VX μ d (tgt) lv (st) M r M2) (kf : a < b → VX μ d (pc + 3) lv (st) M r M2) : VX μ d (pc) lv (.inl b :: .inl a :: st) M r M2 := V.icmp_ge hd ht ha hb kt kf
theorem X.if_ge {a : Int} {off : Int} {tgt : Nat} (hd : decode μ.2.1 pc = .ok (.ifCond .ge off, 3)) (ht : (pc : Int) + off = (tgt : Int)) (ha : inR a) (kt : 0 ≤ a → VX μ d (tgt) lv (st) M r M2) (kf : a < 0 → VX μ d (pc + 3) lv (st) M r M2) : VX μ d (pc) lv (.inl a :: st) M r M2 := V.if_ge hd ht ha kt kf
theorem X.icmp_gt {a b : Int} {off : Int} {tgt : Nat} (hd : decode μ.2.1 pc = .ok (.if_icmp .gt off, 3)) (ht : (pc : Int) + off = (tgt : Int)) (ha : inR a) (hb : inR b) (kt : b < a → VX μ d (tgt) lv (st) M r M2) (kf : a ≤ b → VX μ d (pc + 3) lv (st) M r M2) : VX μ d (pc) lv (.inl b :: .inl a :: st) M r M2 := V.icmp_gt hd ht ha hb kt kf
theorem X.if_gt {a : Int} {off : Int} {tgt : Nat} (hd : decode μ.2.1 pc = .ok (.ifCond .gt off, 3)) (ht : (pc : Int) + off = (tgt : Int)) (ha : inR a) (kt : 0 < a → VX μ d (tgt) lv (st) M r M2) (kf : a ≤ 0 → VX μ d (pc + 3) lv (st) M r M2) : VX μ d (pc) lv (.inl a :: st) M r M2 := V.if_gt hd ht ha kt kf
theorem X.icmp_le {a b : Int} {off : Int} {tgt : Nat} (hd : decode μ.2.1 pc = .ok (.if_icmp .le off, 3)) (ht : (pc : Int) + off = (tgt : Int)) (ha : inR a) (hb : inR b) (kt : a ≤ b → VX μ d (tgt) lv (st) M r M2) (kf : b < a → VX μ d (pc + 3) lv (st) M r M2) : VX μ d (pc) lv (.inl b :: .inl a :: st) M r M2 := V.icmp_le hd ht ha hb kt kf
theorem X.if_le {a : Int} {off : Int} {tgt : Nat} (hd : decode μ.2.1 pc = .ok (.ifCond .le off, 3)) (ht : (pc : Int) + off = (tgt : Int)) (ha : inR a) (kt : a ≤ 0 → VX μ d (tgt) lv (st) M r M2) (kf : 0 < a → VX μ d (pc + 3) lv (st) M r M2) : VX μ d (pc) lv (.inl a :: st) M r M2 := V.if_le hd ht ha kt kf
theorem X.goto {off : Int} {tgt : Nat} (hd : decode μ.2.1 pc = .ok (.goto off, 3)) (ht : (pc : Int) + off = (tgt : Int)) (k : VX μ d (tgt) lv (st) M r M2) : VX μ d (pc) lv (st) M r M2 := V.goto hd ht k
theorem X.tabOut {dflt lo hi : Int} {offs : Array Int} {len tgt : Nat} {a : Int} (hd : decode μ.2.1 pc = .ok (.tableswitch dflt lo hi offs, len)) (ha : inR a) (h : a < lo ∨ hi < a) (ht : (pc : Int) + dflt = (tgt : Int)) (k : VX μ d (tgt) lv (st) M r M2) : VX μ d (pc) lv (.inl a :: st) M r M2 := V.tabOut hd ha h ht k
theorem X.tabIn {dflt lo hi : Int} {offs : Array Int} {len tgt : Nat} {a off : Int} (hd : decode μ.2.1 pc = .ok (.tableswitch dflt lo hi offs, len)) (ha : inR a) (h1 : lo ≤ a) (h2 : a ≤ hi) (ho : offs[(a - lo).toNat]? = some off) (ht : (pc : Int) + off = (tgt : Int)) (k : VX μ d (tgt) lv (st) M r M2) : VX μ d (pc) lv (.inl a :: st) M r M2 := V.tabIn hd ha h1 h2 ho ht k
theorem X.dup {v : AV} (hd : decode μ.2.1 pc = .ok (.dup, 1)) (k : VX μ d (pc + 1) lv (v :: v :: st) M r M2) : VX μ d (pc) lv (v :: st) M r M2 := V.dup hd k
theorem X.dup2 {v x : AV} (hd : decode μ.2.1 pc = .ok (.dup2, 1)) (k : VX μ d (pc + 1) lv (v :: x :: v :: x :: st) M r M2) : VX μ d (pc) lv (v :: x :: st) M r M2 := V.dup2 hd k
theorem X.pop {v : AV} (hd : decode μ.2.1 pc = .ok (.pop, 1)) (k : VX μ d (pc + 1) lv (st) M r M2) : VX μ d (pc) lv (v :: st) M r M2 := V.pop hd k
theorem X.getI {idx a t n : Nat} (k0 : Nat) {fs : List (Option (Option Nat))} {fin : Bool} {ty : FieldType} {v : Int} (hd : decode μ.2.1 pc = .ok (.getfield idx, 3)) (hf : FI μ.1.cls idx t k0 fin ty) (hs : SH[a]? = some (t + 3, n, fs)) (hv : fs[k0]? = some none) (he : M a (k0 : Int) = v) (k : VX μ d (pc + 3) lv (.inl v :: st) M r M2) : VX μ d (pc) lv (.inr (some a) :: st) M r M2 := V.getI k0 hd hf hs hv (he ▸ k)
theorem X.getR {idx a t n k0 b : Nat} {fs : List (Option (Option Nat))} {fin : Bool} {ty : FieldType} (hd : decode μ.2.1 pc = .ok (.getfield idx, 3)) (hf : FI μ.1.cls idx t k0 fin ty) (hs : SH[a]? = some (t + 3, n, fs)) (hv : fs[k0]? = some (some (some b))) (k : VX μ d (pc + 3) lv (.inr (some b) :: st) M r M2) : VX μ d (pc) lv (.inr (some a) :: st) M r M2 := V.getR hd hf hs hv k
theorem X.putI {idx a t n : Nat} (k0 : Nat) {fs : List (Option (Option Nat))} {x : Int} (hd : decode μ.2.1 pc = .ok (.putfield idx, 3)) (hf : FI μ.1.cls idx t k0 false .int) (hs : SH[a]? = some (t + 3, n, fs)) (hn : fs.length = n) (hv : fs[k0]? = some none) (k : VX μ d (pc + 3) lv (st) (mset M a k0 x) r M2) : VX μ d (pc) lv (.inl x :: .inr (some a) :: st) M r M2 := V.putI k0 hd hf hs hn hv k
theorem X.iald {a n : Nat} {fs : List (Option (Option Nat))} {i v : Int} (hd : decode μ.2.1 pc = .ok (.iaload, 1)) (hs : SH[a]? = some (0, n, fs)) (hn : n ≤ 2147483647) (hi : 0 ≤ i ∧ i < (n : Int)) (he : M a i = v) (k : VX μ d (pc + 1) lv (.inl v :: st) M r M2) : VX μ d (pc) lv (.inl i :: .inr (some a) :: st) M r M2 := V.iald hd hs hn hi (he ▸ k)
theorem X.iast {a n : Nat} {fs : List (Option (Option Nat))} {i x : Int} (hd : decode μ.2.1 pc = .ok (.iastore, 1)) (hs : SH[a]? = some (0, n, fs)) (hn : n ≤ 2147483647) (hi : 0 ≤ i ∧ i < (n : Int)) (k : VX μ d (pc + 1) lv (st) (mset M a i x) r M2) : VX μ d (pc) lv (.inl x :: .inl i :: .inr (some a) :: st) M r M2 := V.iast hd hs hn hi k
theorem X.aald {a n t b : Nat} {fs : List (Option (Option Nat))} {i : Int} (hd : decode μ.2.1 pc = .ok (.aaload, 1)) (hs : SH[a]? = some (t, n, fs)) (ht : t = 1 ∨ t = 2) (hn : n ≤ 2147483647) (hi : 0 ≤ i ∧ i < (n : Int)) (hv : fs[i.toNat]? = some (some (some b))) (k : VX μ d (pc + 1) lv (.inr (some b) :: st) M r M2) : VX μ d (pc) lv (.inl i :: .inr (some a) :: st) M r M2 := V.aald hd hs ht hn hi hv k
theorem X.alen {a n : Nat} {fs : List (Option (Option Nat))} (hd : decode μ.2.1 pc = .ok (.arraylength, 1)) (hs : SH[a]? = some (0, n, fs)) (k : VX μ d (pc + 1) lv (.inl (n : Int) :: st) M r M2) : VX μ d (pc) lv (.inr (some a) :: st) M r M2 := V.alen hd hs k
theorem X.iret {z : Int} (hd : decode μ.2.1 pc = .ok (.ireturn, 1)) (hr : μ.2.2.2 = some .int) (e1 : some (.inl z) = r) (e2 : M = M2) : VX μ d (pc) lv ([.inl z]) M r M2 := V.iret hd hr (Nat.le_refl _) (Nat.le_refl _) ⟨e1, rfl, e2⟩
theorem X.zret {z : Int} (hd : decode μ.2.1 pc = .ok (.ireturn, 1)) (hr : μ.2.2.2 = some .boolean) (hz : z = 0 ∨ z = 1) (e1 : some (.inl z) = r) (e2 : M = M2) : VX μ d (pc) lv ([.inl z]) M r M2 := V.zret hd hr hz (Nat.le_refl _) (Nat.le_refl _) ⟨e1, rfl, e2⟩
theorem X.vret (hd : decode μ.2.1 pc = .ok (.return_, 1)) (hr : μ.2.2.2 = none) (e1 : none = r) (e2 : M = M2) : VX μ d (pc) lv ([]) M r M2 := V.vret hd hr (Nat.le_refl _) (Nat.le_refl _) ⟨e1, rfl, e2⟩
theorem X.callV {idx a t n nf : Nat} {fs : List (Option (Option Nat))} {r' : Option AV} {M' : Mem} (hd : decode μ.2.1 pc = .ok (.invokevirtual idx, 3)) (hk : KV μ.1.cls idx ν n t) (hs : SH[a]? = some (t + 3, nf, fs)) (hM : CX ν d' (.inr (some a) :: As) M r' M') (hn : As.length = n) (hdd : d' + 1 ≤ d) (hst : st = As.reverse ++ .inr (some a) :: rest) (hr : rest.length ≤ 8) (k : VX μ d (pc + 3) lv (r'.toList ++ rest) M' r M2) : VX μ d (pc) lv (st) M r M2 := V.callV hd hk hs hM hn hdd hst hr (Nat.le_refl _) (Nat.le_refl _) (fun q sh' M'' h => by obtain ⟨rfl, rfl, rfl⟩ := h; exact k)
theorem X.callS {idx n : Nat} {r' : Option AV} {M' : Mem} (hd : decode μ.2.1 pc = .ok (.invokestatic idx, 3)) (hk : KS μ.1.cls idx ν n) (hM : CX ν d' As M r' M') (hn : As.length = n) (hdd : d' + 1 ≤ d) (hst : st = As.reverse ++ rest) (hr : rest.length ≤ 8) (k : VX μ d (pc + 3) lv (r'.toList ++ rest) M' r M2) : VX μ d (pc) lv (st) M r M2 := V.callS hd hk hM hn hdd hst hr (Nat.le_refl _) (Nat.le_refl _) (fun q sh' M'' h => by obtain ⟨rfl, rfl, rfl⟩ := h; exact k)
theorem X.callN {idx n : Nat} {r' : Option AV} {M' : Mem} (hd : decode μ.2.1 pc = .ok (.invokestatic idx, 3)) (hk : KN μ.1.cls idx ν n) (hM : CX ν d' As M r' M') (hn : As.length = n) (hdd : d' + 1 ≤ d) (hst : st = As.reverse ++ rest) (hr : rest.length ≤ 8) (k : VX μ d (pc + 3) lv (r'.toList ++ rest) M' r M2) : VX μ d (pc) lv (st) M r M2 := V.callN hd hk hM hn hdd hst hr (Nat.le_refl _) (Nat.le_refl _) (fun q sh' M'' h => by obtain ⟨rfl, rfl, rfl⟩ := h; exact k)
theorem X.acopy {idx a b n : Nat} {fs gs : List (Option (Option Nat))} {len : Int} (hd : decode μ.2.1 pc = .ok (.invokestatic idx, 3)) (hk : Cond.methodLink μ.1.cls idx arraycopyName ∈ fm_TBL) (ha : SH[a]? = some (0, n, fs)) (hb : SH[b]? = some (0, n, gs)) (hln : len = (n : Int)) (hnn : n ≤ 100000) (hdd : 2 ≤ d) (hr : st.length ≤ 8) (k : VX μ d (pc + 3) lv (st) (mrow M b (M a)) r M2) : VX μ d (pc) lv (.inl len :: .inl 0 :: .inr (some b) :: .inl 0 :: .inr (some a) :: st) M r M2 := V.acopy hd hk ki_J10 ha hb hln hnn hdd hr k
theorem X.mabs {idx : Nat} {a c : Int} (hd : decode μ.2.1 pc = .ok (.invokestatic idx, 3)) (hk : Cond.methodLink μ.1.cls idx Lib.Math.abs.name ∈ fm_TBL) (ha : inR a) (hdd : 1 ≤ d) (hr : st.length ≤ 8) (hc : (if 0 ≤ a then a else -a) = c) (k : VX μ d (pc + 3) lv (.inl c :: st) M r M2) : VX μ d (pc) lv (.inl a :: st) M r M2 := V.mabs hd hk ha hdd hr (Nat.le_refl _) (Nat.le_refl _) (hc ▸ k)
theorem X.mmax {idx : Nat} {a b c : Int} (hd : decode μ.2.1 pc = .ok (.invokestatic idx, 3)) (hk : Cond.methodLink μ.1.cls idx Lib.Math.max.name ∈ fm_TBL) (ha : inR a) (hb : inR b) (hdd : 1 ≤ d) (hr : st.length ≤ 8) (hc : (if a < b then b else a) = c) (k : VX μ d (pc + 3) lv (.inl c :: st) M r M2) : VX μ d (pc) lv (.inl b :: .inl a :: st) M r M2 := V.mmax hd hk ha hb hdd hr (Nat.le_refl _) (Nat.le_refl _) (hc ▸ k)
theorem X.mmin {idx : Nat} {a b c : Int} (hd : decode μ.2.1 pc = .ok (.invokestatic idx, 3)) (hk : Cond.methodLink μ.1.cls idx Lib.Math.min.name ∈ fm_TBL) (ha : inR a) (hb : inR b) (hdd : 1 ≤ d) (hr : st.length ≤ 8) (hc : (if b < a then b else a) = c) (k : VX μ d (pc + 3) lv (.inl c :: st) M r M2) : VX μ d (pc) lv (.inl b :: .inl a :: st) M r M2 := V.mmin hd hk ha hb hdd hr (Nat.le_refl _) (Nat.le_refl _) (hc ▸ k)
end XR
end
section
section XC
variable {μ ν : Mu} {d pc d' : Nat} {lv : List (Option AV)} {st rest As : List AV} {M M2 M' : Mem} {r : Option AV} {v : AV}
theorem X.callV1 {idx a t n nf : Nat} {fs : List (Option (Option Nat))} (hd : decode μ.2.1 pc = .ok (.invokevirtual idx, 3)) (hk : KV μ.1.cls idx ν n t) (hs : SH[a]? = some (t + 3, nf, fs)) (hM : CX ν d' (.inr (some a) :: As) M (some v) M') (hn : As.length = n) (hdd : d' + 1 ≤ d) (hst : st = As.reverse ++ .inr (some a) :: rest) (hr : rest.length ≤ 8) (k : VX μ d (pc + 3) lv (v :: rest) M' r M2) : VX μ d pc lv st M r M2 := X.callV hd hk hs hM hn hdd hst hr k
theorem X.callV0 {idx a t n nf : Nat} {fs : List (Option (Option Nat))} (hd : decode μ.2.1 pc = .ok (.invokevirtual idx, 3)) (hk : KV μ.1.cls idx ν n t) (hs : SH[a]? = some (t + 3, nf, fs)) (hM : CX ν d' (.inr (some a) :: As) M none M') (hn : As.length = n) (hdd : d' + 1 ≤ d) (hst : st = As.reverse ++ .inr (some a) :: rest) (hr : rest.length ≤ 8) (k : VX μ d (pc + 3) lv rest M' r M2) : VX μ d pc lv st M r M2 := X.callV hd hk hs hM hn hdd hst hr k
theorem X.callS1 {idx n : Nat} (hd : decode μ.2.1 pc = .ok (.invokestatic idx, 3)) (hk : KS μ.1.cls idx ν n) (hM : CX ν d' As M (some v) M') (hn : As.length = n) (hdd : d' + 1 ≤ d) (hst : st = As.reverse ++ rest) (hr : rest.length ≤ 8) (k : VX μ d (pc + 3) lv (v :: rest) M' r M2) : VX μ d pc lv st M r M2 := X.callS hd hk hM hn hdd hst hr k
theorem X.callS0 {idx n : Nat} (hd : decode μ.2.1 pc = .ok (.invokestatic idx, 3)) (hk : KS μ.1.cls idx ν n) (hM : CX ν d' As M none M') (hn : As.length = n) (hdd : d' + 1 ≤ d) (hst : st = As.reverse ++ rest) (hr : rest.length ≤ 8) (k : VX μ d (pc + 3) lv rest M' r M2) : VX μ d pc lv st M r M2 := X.callS hd hk hM hn hdd hst hr k
theorem X.callN1 {idx n : Nat} (hd : decode μ.2.1 pc = .ok (.invokestatic idx, 3)) (hk : KN μ.1.cls idx ν n) (hM : CX ν d' As M (some v) M') (hn : As.length = n) (hdd : d' + 1 ≤ d) (hst : st = As.reverse ++ rest) (hr : rest.length ≤ 8) (k : VX μ d (pc + 3) lv (v :: rest) M' r M2) : VX μ d pc lv st M r M2 := X.callN hd hk hM hn hdd hst hr k
theorem X.callN0 {idx n : Nat} (hd : decode μ.2.1 pc = .ok (.invokestatic idx, 3)) (hk : KN μ.1.cls idx ν n) (hM : CX ν d' As M none M') (hn : As.length = n) (hdd : d' + 1 ≤ d) (hst : st = As.reverse ++ rest) (hr : rest.length ≤ 8) (k : VX μ d (pc + 3) lv rest M' r M2) : VX μ d pc lv st M r M2 := X.callN hd hk hM hn hdd hst hr k
end XC
/-- a truth as an int -/
noncomputable def bi (P : Prop) : Int := @ite _ P (Classical.propDecidable P) 1 0
theorem bi_t {P : Prop} (h : P) : bi P = 1 := if_pos h
theorem bi_f {P : Prop} (h : ¬ P) : bi P = 0 := if_neg h
theorem bi_01 (P : Prop) : bi P = 0 ∨ bi P = 1 := by
  by_cases h : P
  · exact Or.inr (bi_t h)
  · exact Or.inl (bi_f h)
theorem bi_1 {P : Prop} : bi P = 1 ↔ P := by
  by_cases h : P
  · rw [bi_t h]; simp [h]
  · rw [bi_f h]; simp [h]
theorem bi_0 {P : Prop} : bi P = 0 ↔ ¬ P := by
  by_cases h : P
  · rw [bi_t h]; simp [h]
  · rw [bi_f h]; simp [h]
theorem bi_iff {P Q : Prop} (h : P ↔ Q) : bi P = bi Q := by rw [propext h]
theorem bi_ge (P : Prop) : 0 ≤ bi P ∧ bi P ≤ 1 := by
  rcases bi_01 P with h | h <;> omega
/-- down a range: what holds at its end, and at k if at k + 1, holds all along -/
theorem down_ind {P : Int → Prop} (lo hi : Int) (h0 : P hi) (hs : ∀ k, lo ≤ k → k < hi → P (k + 1) → P k) : ∀ k, lo ≤ k → k ≤ hi → P k := by
  have key : ∀ (n : Nat) (k : Int), (hi - k).toNat = n → lo ≤ k → k ≤ hi → P k := by
    intro n
    induction n with
    | zero =>
      intro k hn h1 h2
      have : k = hi := by omega
      rw [this]; exact h0
    | succ n ih =>
      intro k hn h1 h2
      exact hs k h1 (by omega) (ih (k + 1) (by omega) (by omega) (by omega))
  exact fun k h1 h2 => key _ k rfl h1 h2
/-- how many of the n numbers from k on fulfil P -/
noncomputable def cnt (P : Int → Prop) : Nat → Int → Int
  | 0, _ => 0
  | n + 1, k => bi (P k) + cnt P n (k + 1)
theorem cnt_congr {P Q : Int → Prop} : ∀ (n : Nat) (k : Int), (∀ i, k ≤ i → i < k + n → (P i ↔ Q i)) → cnt P n k = cnt Q n k
  | 0, _, _ => rfl
  | n + 1, k, h => by
    simp only [cnt]
    rw [bi_iff (h k (Int.le_refl _) (by omega)), cnt_congr n (k + 1) (fun i h1 h2 => h i (by omega) (by omega))]
theorem cnt_range (P : Int → Prop) : ∀ (n : Nat) (k : Int), 0 ≤ cnt P n k ∧ cnt P n k ≤ n
  | 0, _ => ⟨by simp [cnt], by simp [cnt]⟩
  | n + 1, k => by
    have := cnt_range P n (k + 1)
    have := bi_ge (P k)
    simp only [cnt]
    omega
theorem cnt_step (P : Int → Prop) (hi k : Int) (h : k < hi) : cnt P (hi - k).toNat k = bi (P k) + cnt P (hi - (k + 1)).toNat (k + 1) := by
  have e : (hi - k).toNat = (hi - (k + 1)).toNat + 1 := by omega
  rw [e]; rfl
theorem cnt_end (P : Int → Prop) (hi : Int) : cnt P (hi - hi).toNat hi = 0 := by simp [cnt]
end
section
theorem CX.bt {μ : Mu} {d : Nat} {vs : List AV} {M M2 : Mem} {P : Prop} (h : CX μ d vs M (some (.inl (bi P))) M2) (p : P) : CX μ d vs M (some (.inl 1)) M2 := by rw [bi_t p] at h; exact h
theorem CX.bf {μ : Mu} {d : Nat} {vs : List AV} {M M2 : Mem} {P : Prop} (h : CX μ d vs M (some (.inl (bi P))) M2) (p : ¬ P) : CX μ d vs M (some (.inl 0)) M2 := by rw [bi_f p] at h; exact h
def iabs (z : Int) : Int := if 0 ≤ z then z else -z
def imax (a b : Int) : Int := if a < b then b else a
def imin (a b : Int) : Int := if b < a then b else a
def dist (a b : Int) : Int := imax (iabs (a % 12 - b % 12)) (iabs (a / 12 - b / 12))
theorem iabs_le {z n : Int} (h1 : -n ≤ z) (h2 : z ≤ n) : 0 ≤ iabs z ∧ iabs z ≤ n := by unfold iabs; split <;> omega
theorem imax_le {a b n : Int} (h1 : 0 ≤ a ∧ a ≤ n) (h2 : 0 ≤ b ∧ b ≤ n) : 0 ≤ imax a b ∧ imax a b ≤ n := by unfold imax; split <;> omega
theorem dist_le {a b : Int} (ha : 0 ≤ a ∧ a < 120) (hb : 0 ≤ b ∧ b < 120) : 0 ≤ dist a b ∧ dist a b ≤ 11 := by
  unfold dist
  exact imax_le (iabs_le (by omega) (by omega)) (iabs_le (by omega) (by omega))
theorem mul_bd {i b : Int} (h1 : 0 ≤ i) (h2 : i ≤ 11) (h3 : -11 ≤ b) (h4 : b ≤ 11) : -121 ≤ i * b ∧ i * b ≤ 121 := by
  have : i = 0 ∨ i = 1 ∨ i = 2 ∨ i = 3 ∨ i = 4 ∨ i = 5 ∨ i = 6 ∨ i = 7 ∨ i = 8 ∨ i = 9 ∨ i = 10 ∨ i = 11 := by omega
  rcases this with rfl | rfl | rfl | rfl | rfl | rfl | rfl | rfl | rfl | rfl | rfl | rfl <;> omega
theorem iXor_inR (x y : Int) : inR (iXor x y) := by
  unfold iXor
  have h1 := Int32.le_toInt (Int32.ofInt x ^^^ Int32.ofInt y)
  have h2 := Int32.toInt_lt (Int32.ofInt x ^^^ Int32.ofInt y)
  constructor <;> omega
theorem neg_msb {z : Int} (h : inR z) : z < 0 ↔ (Int32.ofInt z).toBitVec.msb = true := by
  rw [BitVec.msb_eq_toInt, decide_eq_true_iff]
  show _ ↔ (Int32.ofInt z).toInt < 0
  rw [inR_toInt h]
theorem iXor_neg {x y : Int} (hx : inR x) (hy : inR y) (h0 : 0 < y) : iXor x y < 0 ↔ x < 0 := by
  have e : iXor x y < 0 ↔ (Int32.ofInt x ^^^ Int32.ofInt y).toBitVec.msb = true := by
    unfold iXor
    rw [BitVec.msb_eq_toInt, decide_eq_true_iff]
    exact Iff.rfl
  have h1 : (Int32.ofInt y).toBitVec.msb = false := by
    cases hm : (Int32.ofInt y).toBitVec.msb with
    | false => rfl
    | true => exact absurd ((neg_msb hy).mpr hm) (by omega)
  rw [e, Int32.toBitVec_xor, BitVec.msb_xor, h1, neg_msb hx]
  simp
theorem tdiv_fl {x y : Int} (h0 : 0 < y) : (0 ≤ x → x.tdiv y = x / y) ∧ (x < 0 → x.tdiv y * y = x → x.tdiv y = x / y) ∧ (x < 0 → ¬ x.tdiv y * y = x → x.tdiv y - 1 = x / y) := by
  have hs : y.sign = 1 := Int.sign_eq_one_of_pos h0
  have ht := Int.tdiv_eq_ediv (a := x) (b := y)
  have hd : y ∣ x ↔ x.tdiv y * y = x := by
    constructor
    · intro h; exact Int.tdiv_mul_cancel h
    · intro h; exact ⟨x.tdiv y, by rw [Int.mul_comm]; exact h.symm⟩
  refine ⟨fun h => ?_, fun h h2 => ?_, fun h h2 => ?_⟩
  · rw [ht, if_pos (Or.inl h)]; omega
  · rw [ht, if_pos (Or.inr (hd.mpr h2))]; omega
  · have hn : ¬ (0 ≤ x ∨ y ∣ x) := by
      rintro (q | q)
      · omega
      · exact h2 (hd.mp q)
    rw [ht, if_neg hn, hs]; omega
theorem tmod_fl {x y : Int} (h0 : 0 < y) : (x.tmod y < 0 → x.tdiv y - 1 = x / y) ∧ (0 ≤ x.tmod y → x.tdiv y = x / y) := by
  obtain ⟨a, b, c⟩ := tdiv_fl (x := x) h0
  have hm := Int.tmod_def x y
  have hcm : x.tdiv y * y = y * x.tdiv y := Int.mul_comm _ _
  by_cases hx : 0 ≤ x
  · have := Int.tmod_nonneg y hx
    exact ⟨fun h => absurd h (by omega), fun _ => a hx⟩
  · have h1 : x.tmod y ≤ 0 := by
      have := Int.tmod_nonneg y (show 0 ≤ -x by omega)
      rw [Int.neg_tmod] at this
      omega
    refine ⟨fun h => c (by omega) (by omega), fun h => b (by omega) (by omega)⟩
theorem tdiv_inR {x y : Int} (hx : inR x) (h0 : 0 < y) : -2147483649 ≤ x / y ∧ x / y ≤ 2147483647 := by
  have h1 : x / y * y ≤ x := Int.ediv_mul_le x (by omega)
  have h2 : x < (x / y + 1) * y := Int.lt_ediv_add_one_mul_self x h0
  constructor
  · apply Int.not_lt.mp
    intro h
    have : (x / y + 1) * y ≤ (x / y + 1) * 1 := Int.mul_le_mul_of_nonpos_left (by omega) (by omega)
    omega
  · apply Int.not_lt.mp
    intro h
    have : (x / y) * 1 ≤ x / y * y := Int.mul_le_mul_of_nonneg_left (by omega) (by omega)
    omega
theorem tmod_inR {x y : Int} (hy : 0 < y ∧ y ≤ 2147483647) : inR (x.tmod y) := by
  have h1 := Int.tmod_lt_of_pos x hy.1
  have h2 := Int.lt_tmod_of_pos x hy.1
  constructor <;> omega
def inner (a b d i : Int) : Int := (a / 12 + (2 * (i * (b / 12 - a / 12)) + d) / (2 * d)) * 12 + (a % 12 + (2 * (i * (b % 12 - a % 12)) + d) / (2 * d))
set_option maxHeartbeats 4000000 in
set_option maxRecDepth 100000 in
theorem c_isWithin (M : Mem) (v lo hi : Int) (h1 : inR v) (h2 : inR lo) (h3 : inR hi) : CX mX6_isWithin 0 [.inl v, .inl lo, .inl hi] M (some (.inl (bi (lo ≤ v ∧ v ≤ hi)))) M := by
  refine CX.of (by decide +kernel) (Nat.le_of_ble_eq_true rfl) [some (.inl v), some (.inl lo), some (.inl hi)] rfl ?_
  refine X.iload_n dX6_isWithin_0 rfl ?_
  refine X.iload_n dX6_isWithin_1 rfl ?_
  refine X.icmp_lt (tgt := 14) dX6_isWithin_2 (by decide) ⟨by omega, by omega⟩ ⟨by omega, by omega⟩ (fun h1 => ?_) (fun h1 => ?_)
  · skip
    refine X.iconst dX6_isWithin_14 ?_
    exact X.zret dX6_isWithin_15 rfl (by decide) (by rw [bi_f (by omega)]) rfl
  · skip
    refine X.iload_n dX6_isWithin_5 rfl ?_
    refine X.iload_n dX6_isWithin_6 rfl ?_
    refine X.icmp_gt (tgt := 14) dX6_isWithin_7 (by decide) ⟨by omega, by omega⟩ ⟨by omega, by omega⟩ (fun h2 => ?_) (fun h2 => ?_)
    · skip
      refine X.iconst dX6_isWithin_14 ?_
      exact X.zret dX6_isWithin_15 rfl (by decide) (by rw [bi_f (by omega)]) rfl
    · skip
      refine X.iconst dX6_isWithin_10 ?_
      refine X.goto (tgt := 15) dX6_isWithin_11 (by decide) ?_
      exact X.zret dX6_isWithin_15 rfl (by decide) (by rw [bi_t (by omega)]) rfl
set_option maxHeartbeats 4000000 in
set_option maxRecDepth 100000 in
theorem c_in (M : Mem) (v lo hi : Int) (h1 : inR v) (h2 : inR lo) (h3 : inR hi) : CX mX7_in 0 [.inl v, .inl lo, .inl hi] M (some (.inl (bi (lo ≤ v ∧ v ≤ hi)))) M := by
  refine CX.of (by decide +kernel) (Nat.le_of_ble_eq_true rfl) [some (.inl v), some (.inl lo), some (.inl hi)] rfl ?_
  refine X.iload_n dX7_in_0 rfl ?_
  refine X.iload_n dX7_in_1 rfl ?_
  refine X.icmp_lt (tgt := 14) dX7_in_2 (by decide) ⟨by omega, by omega⟩ ⟨by omega, by omega⟩ (fun h1 => ?_) (fun h1 => ?_)
  · skip
    refine X.iconst dX7_in_14 ?_
    exact X.zret dX7_in_15 rfl (by decide) (by rw [bi_f (by omega)]) rfl
  · skip
    refine X.iload_n dX7_in_5 rfl ?_
    refine X.iload_n dX7_in_6 rfl ?_
    refine X.icmp_gt (tgt := 14) dX7_in_7 (by decide) ⟨by omega, by omega⟩ ⟨by omega, by omega⟩ (fun h2 => ?_) (fun h2 => ?_)
    · skip
      refine X.iconst dX7_in_14 ?_
      exact X.zret dX7_in_15 rfl (by decide) (by rw [bi_f (by omega)]) rfl
    · skip
      refine X.iconst dX7_in_10 ?_
      refine X.goto (tgt := 15) dX7_in_11 (by decide) ?_
      exact X.zret dX7_in_15 rfl (by decide) (by rw [bi_t (by omega)]) rfl
set_option maxHeartbeats 4000000 in
set_option maxRecDepth 100000 in
theorem c_isCell (M : Mem) (c r : Int) (h1 : inR c) (h2 : inR r) : CX mX6_isCell 1 [.inl c, .inl r] M (some (.inl (bi (0 ≤ c ∧ c ≤ 11 ∧ 0 ≤ r ∧ r ≤ 9)))) M := by
  refine CX.of (by decide +kernel) (Nat.le_of_ble_eq_true rfl) [some (.inl c), some (.inl r)] rfl ?_
  refine X.iload_n dX6_isCell_0 rfl ?_
  refine X.iconst dX6_isCell_1 ?_
  refine X.bipush dX6_isCell_2 (by decide) ?_
  by_cases p1 : 0 ≤ c ∧ c ≤ 11
  · skip
    refine X.callS1 (As := [.inl c, .inl 0, .inl 11]) (rest := []) dX6_isCell_4 mk_X6_48 (CX.bt (c_isWithin M c 0 11 ⟨by omega, by omega⟩ (by decide) (by decide)) p1) rfl (by decide) rfl (Nat.le_of_ble_eq_true rfl) ?_
    refine X.if_eq (tgt := 24) dX6_isCell_7 (by decide) (by decide) (fun h => absurd h (by decide)) (fun h2 => ?_)
    refine X.iload_n dX6_isCell_10 rfl ?_
    refine X.iconst dX6_isCell_11 ?_
    refine X.bipush dX6_isCell_12 (by decide) ?_
    by_cases p3 : 0 ≤ r ∧ r ≤ 9
    · skip
      refine X.callS1 (As := [.inl r, .inl 0, .inl 9]) (rest := []) dX6_isCell_14 mk_X6_48 (CX.bt (c_isWithin M r 0 9 ⟨by omega, by omega⟩ (by decide) (by decide)) p3) rfl (by decide) rfl (Nat.le_of_ble_eq_true rfl) ?_
      refine X.if_eq (tgt := 24) dX6_isCell_17 (by decide) (by decide) (fun h => absurd h (by decide)) (fun h4 => ?_)
      refine X.iconst dX6_isCell_20 ?_
      refine X.goto (tgt := 25) dX6_isCell_21 (by decide) ?_
      exact X.zret dX6_isCell_25 rfl (by decide) (by rw [bi_t (by omega)]) rfl
    · skip
      refine X.callS1 (As := [.inl r, .inl 0, .inl 9]) (rest := []) dX6_isCell_14 mk_X6_48 (CX.bf (c_isWithin M r 0 9 ⟨by omega, by omega⟩ (by decide) (by decide)) p3) rfl (by decide) rfl (Nat.le_of_ble_eq_true rfl) ?_
      refine X.if_eq (tgt := 24) dX6_isCell_17 (by decide) (by decide) (fun h5 => ?_) (fun h => absurd h (by decide))
      refine X.iconst dX6_isCell_24 ?_
      exact X.zret dX6_isCell_25 rfl (by decide) (by rw [bi_f (by omega)]) rfl
  · skip
    refine X.callS1 (As := [.inl c, .inl 0, .inl 11]) (rest := []) dX6_isCell_4 mk_X6_48 (CX.bf (c_isWithin M c 0 11 ⟨by omega, by omega⟩ (by decide) (by decide)) p1) rfl (by decide) rfl (Nat.le_of_ble_eq_true rfl) ?_
    refine X.if_eq (tgt := 24) dX6_isCell_7 (by decide) (by decide) (fun h6 => ?_) (fun h => absurd h (by decide))
    refine X.iconst dX6_isCell_24 ?_
    exact X.zret dX6_isCell_25 rfl (by decide) (by rw [bi_f (by omega)]) rfl
set_option maxHeartbeats 4000000 in
set_option maxRecDepth 100000 in
theorem c_misCell (M : Mem) (c r : Int) (h1 : inR c) (h2 : inR r) : CX mX7_isCell 1 [.inl c, .inl r] M (some (.inl (bi (0 ≤ c ∧ c ≤ 11 ∧ 0 ≤ r ∧ r ≤ 9)))) M := by
  refine CX.of (by decide +kernel) (Nat.le_of_ble_eq_true rfl) [some (.inl c), some (.inl r)] rfl ?_
  refine X.iload_n dX7_isCell_0 rfl ?_
  refine X.iconst dX7_isCell_1 ?_
  refine X.bipush dX7_isCell_2 (by decide) ?_
  by_cases p1 : 0 ≤ c ∧ c ≤ 11
  · skip
    refine X.callS1 (As := [.inl c, .inl 0, .inl 11]) (rest := []) dX7_isCell_4 mk_X7_32 (CX.bt (c_in M c 0 11 ⟨by omega, by omega⟩ (by decide) (by decide)) p1) rfl (by decide) rfl (Nat.le_of_ble_eq_true rfl) ?_
    refine X.if_eq (tgt := 24) dX7_isCell_7 (by decide) (by decide) (fun h => absurd h (by decide)) (fun h2 => ?_)
    refine X.iload_n dX7_isCell_10 rfl ?_
    refine X.iconst dX7_isCell_11 ?_
    refine X.bipush dX7_isCell_12 (by decide) ?_
    by_cases p3 : 0 ≤ r ∧ r ≤ 9
    · skip
      refine X.callS1 (As := [.inl r, .inl 0, .inl 9]) (rest := []) dX7_isCell_14 mk_X7_32 (CX.bt (c_in M r 0 9 ⟨by omega, by omega⟩ (by decide) (by decide)) p3) rfl (by decide) rfl (Nat.le_of_ble_eq_true rfl) ?_
      refine X.if_eq (tgt := 24) dX7_isCell_17 (by decide) (by decide) (fun h => absurd h (by decide)) (fun h4 => ?_)
      refine X.iconst dX7_isCell_20 ?_
      refine X.goto (tgt := 25) dX7_isCell_21 (by decide) ?_
      exact X.zret dX7_isCell_25 rfl (by decide) (by rw [bi_t (by omega)]) rfl
    · skip
      refine X.callS1 (As := [.inl r, .inl 0, .inl 9]) (rest := []) dX7_isCell_14 mk_X7_32 (CX.bf (c_in M r 0 9 ⟨by omega, by omega⟩ (by decide) (by decide)) p3) rfl (by decide) rfl (Nat.le_of_ble_eq_true rfl) ?_
      refine X.if_eq (tgt := 24) dX7_isCell_17 (by decide) (by decide) (fun h5 => ?_) (fun h => absurd h (by decide))
      refine X.iconst dX7_isCell_24 ?_
      exact X.zret dX7_isCell_25 rfl (by decide) (by rw [bi_f (by omega)]) rfl
  · skip
    refine X.callS1 (As := [.inl c, .inl 0, .inl 11]) (rest := []) dX7_isCell_4 mk_X7_32 (CX.bf (c_in M c 0 11 ⟨by omega, by omega⟩ (by decide) (by decide)) p1) rfl (by decide) rfl (Nat.le_of_ble_eq_true rfl) ?_
    refine X.if_eq (tgt := 24) dX7_isCell_7 (by decide) (by decide) (fun h6 => ?_) (fun h => absurd h (by decide))
    refine X.iconst dX7_isCell_24 ?_
    exact X.zret dX7_isCell_25 rfl (by decide) (by rw [bi_f (by omega)]) rfl
set_option maxHeartbeats 4000000 in
set_option maxRecDepth 100000 in
theorem c_cellAt (M : Mem) (c r : Int) : CX mX6_cellAt 0 [.inl c, .inl r] M (some (.inl (r * 12 + c))) M := by
  refine CX.of (by decide +kernel) (Nat.le_of_ble_eq_true rfl) [some (.inl c), some (.inl r)] rfl ?_
  refine X.iload_n dX6_cellAt_0 rfl ?_
  refine X.bipush dX6_cellAt_1 (by decide) ?_
  refine X.imul (c := r * 12) dX6_cellAt_3 rfl ?_
  refine X.iload_n dX6_cellAt_4 rfl ?_
  refine X.iadd (c := (r * 12) + c) dX6_cellAt_5 rfl ?_
  exact X.iret dX6_cellAt_6 rfl rfl rfl
set_option maxHeartbeats 4000000 in
set_option maxRecDepth 100000 in
theorem c_at (M : Mem) (c r : Int) : CX mX7_at 0 [.inl c, .inl r] M (some (.inl (r * 12 + c))) M := by
  refine CX.of (by decide +kernel) (Nat.le_of_ble_eq_true rfl) [some (.inl c), some (.inl r)] rfl ?_
  refine X.bipush dX7_at_0 (by decide) ?_
  refine X.iload_n dX7_at_2 rfl ?_
  refine X.imul (c := 12 * r) dX7_at_3 rfl ?_
  refine X.iload_n dX7_at_4 rfl ?_
  refine X.iadd (c := (12 * r) + c) dX7_at_5 rfl ?_
  exact X.iret dX7_at_6 rfl (by rw [Int.mul_comm]) rfl
set_option maxHeartbeats 4000000 in
set_option maxRecDepth 100000 in
theorem c_columnOf (M : Mem) (c : Int) (h : 0 ≤ c ∧ c ≤ 2147483647) : CX mX6_columnOf 0 [.inl c] M (some (.inl (c % 12))) M := by
  refine CX.of (by decide +kernel) (Nat.le_of_ble_eq_true rfl) [some (.inl c)] rfl ?_
  refine X.iload_n dX6_columnOf_0 rfl ?_
  refine X.bipush dX6_columnOf_1 (by decide) ?_
  refine X.irem (c := c % 12) dX6_columnOf_3 (by omega) (by decide) rfl ?_
  exact X.iret dX6_columnOf_4 rfl rfl rfl
set_option maxHeartbeats 4000000 in
set_option maxRecDepth 100000 in
theorem c_rowOf (M : Mem) (c : Int) (h : 0 ≤ c ∧ c ≤ 2147483647) : CX mX6_rowOf 0 [.inl c] M (some (.inl (c / 12))) M := by
  refine CX.of (by decide +kernel) (Nat.le_of_ble_eq_true rfl) [some (.inl c)] rfl ?_
  refine X.iload_n dX6_rowOf_0 rfl ?_
  refine X.bipush dX6_rowOf_1 (by decide) ?_
  refine X.idiv (c := c / 12) dX6_rowOf_3 (by omega) (by decide) rfl ?_
  exact X.iret dX6_rowOf_4 rfl rfl rfl
set_option maxHeartbeats 4000000 in
set_option maxRecDepth 100000 in
theorem c_distanceOf (M : Mem) (a b : Int) (ha : 0 ≤ a ∧ a < 120) (hb : 0 ≤ b ∧ b < 120) : CX mX6_distanceOf 1 [.inl a, .inl b] M (some (.inl (dist a b))) M := by
  refine CX.of (by decide +kernel) (Nat.le_of_ble_eq_true rfl) [some (.inl a), some (.inl b), none, none] rfl ?_
  refine X.iload_n dX6_distanceOf_0 rfl ?_
  refine X.callS1 (As := [.inl a]) (rest := []) dX6_distanceOf_1 mk_X6_106 (c_columnOf M a (by omega)) rfl (by decide) rfl (Nat.le_of_ble_eq_true rfl) ?_
  refine X.iload_n dX6_distanceOf_4 rfl ?_
  refine X.callS1 (As := [.inl b]) (rest := [.inl (a % 12)]) dX6_distanceOf_5 mk_X6_106 (c_columnOf M b (by omega)) rfl (by decide) rfl (Nat.le_of_ble_eq_true rfl) ?_
  refine X.isub (c := (a % 12) - (b % 12)) dX6_distanceOf_8 rfl ?_
  refine X.mabs (c := iabs ((a % 12) - (b % 12))) dX6_distanceOf_9 kl_X6_239 ⟨by omega, by omega⟩ (by decide) (Nat.le_of_ble_eq_true rfl) rfl ?_
  refine X.istore_n (lv2 := [some (.inl a), some (.inl b), some (.inl (iabs ((a % 12) - (b % 12)))), none]) dX6_distanceOf_12 (Nat.le_of_ble_eq_true rfl) rfl ?_
  refine X.iload_n dX6_distanceOf_13 rfl ?_
  refine X.callS1 (As := [.inl a]) (rest := []) dX6_distanceOf_14 mk_X6_109 (c_rowOf M a (by omega)) rfl (by decide) rfl (Nat.le_of_ble_eq_true rfl) ?_
  refine X.iload_n dX6_distanceOf_17 rfl ?_
  refine X.callS1 (As := [.inl b]) (rest := [.inl (a / 12)]) dX6_distanceOf_18 mk_X6_109 (c_rowOf M b (by omega)) rfl (by decide) rfl (Nat.le_of_ble_eq_true rfl) ?_
  refine X.isub (c := (a / 12) - (b / 12)) dX6_distanceOf_21 rfl ?_
  refine X.mabs (c := iabs ((a / 12) - (b / 12))) dX6_distanceOf_22 kl_X6_239 ⟨by omega, by omega⟩ (by decide) (Nat.le_of_ble_eq_true rfl) rfl ?_
  refine X.istore_n (lv2 := [some (.inl a), some (.inl b), some (.inl (iabs ((a % 12) - (b % 12)))), some (.inl (iabs ((a / 12) - (b / 12))))]) dX6_distanceOf_25 (Nat.le_of_ble_eq_true rfl) rfl ?_
  refine X.iload_n dX6_distanceOf_26 rfl ?_
  refine X.iload_n dX6_distanceOf_27 rfl ?_
  refine X.mmax (c := imax (iabs ((a % 12) - (b % 12))) (iabs ((a / 12) - (b / 12)))) dX6_distanceOf_28 kl_X6_244 (And.intro (Int.le_trans (by decide) (iabs_le (n := 11) (by omega) (by omega)).1) (Int.le_trans (iabs_le (n := 11) (by omega) (by omega)).2 (by decide))) (And.intro (Int.le_trans (by decide) (iabs_le (n := 11) (by omega) (by omega)).1) (Int.le_trans (iabs_le (n := 11) (by omega) (by omega)).2 (by decide))) (by decide) (Nat.le_of_ble_eq_true rfl) rfl ?_
  exact X.iret dX6_distanceOf_31 rfl rfl rfl
set_option maxHeartbeats 4000000 in
set_option maxRecDepth 100000 in
theorem c_otherSide (M : Mem) (s : Int) : CX mX6_otherSide 0 [.inl s] M (some (.inl (1 - s))) M := by
  refine CX.of (by decide +kernel) (Nat.le_of_ble_eq_true rfl) [some (.inl s)] rfl ?_
  refine X.iconst dX6_otherSide_0 ?_
  refine X.iload_n dX6_otherSide_1 rfl ?_
  refine X.isub (c := 1 - s) dX6_otherSide_2 rfl ?_
  exact X.iret dX6_otherSide_3 rfl rfl rfl
set_option maxHeartbeats 4000000 in
set_option maxRecDepth 100000 in
theorem c_bitOf (M : Mem) (k : Int) : CX mX6_bitOf 0 [.inl k] M (some (.inl (iShl 1 k))) M := by
  refine CX.of (by decide +kernel) (Nat.le_of_ble_eq_true rfl) [some (.inl k)] rfl ?_
  refine X.iconst dX6_bitOf_0 ?_
  refine X.iload_n dX6_bitOf_1 rfl ?_
  refine X.ishl (c := iShl 1 k) dX6_bitOf_2 rfl ?_
  exact X.iret dX6_bitOf_3 rfl rfl rfl
theorem mulR {x y : Int} (hx : inR x) (hy : 0 < y ∧ y ≤ 2147483647) : inR (x.tdiv y * y) := by
  have h := Int.tmod_def x y
  have h1 := Int.tmod_lt_of_pos x hy.1
  have h2 := Int.lt_tmod_of_pos x hy.1
  have h3 : x.tdiv y * y = y * x.tdiv y := Int.mul_comm _ _
  by_cases h0 : 0 ≤ x
  · have := Int.tmod_nonneg y h0
    have h5 : 0 ≤ y * x.tdiv y := Int.mul_nonneg (by omega) (Int.tdiv_nonneg h0 (by omega))
    constructor <;> omega
  · have h4 := Int.tmod_nonneg y (show 0 ≤ -x by omega)
    have h5 : 0 ≤ y * (-x).tdiv y := Int.mul_nonneg (by omega) (Int.tdiv_nonneg (by omega) (by omega))
    rw [Int.neg_tmod] at h4
    rw [Int.neg_tdiv, Int.mul_neg] at h5
    constructor <;> omega
set_option maxHeartbeats 4000000 in
set_option maxRecDepth 100000 in
theorem c_floorDiv (M : Mem) (x y : Int) (hx : inR x) (hy : 0 < y ∧ y ≤ 2147483647) : CX mJ9_floorDiv_7cf53 0 [.inl x, .inl y] M (some (.inl (x / y))) M := by
  have hyR : inR y := ⟨by omega, by omega⟩
  obtain ⟨f1, f2, f3⟩ := tdiv_fl (x := x) hy.1
  have hxn := iXor_neg hx hyR hy.1
  refine CX.of (by decide +kernel) (Nat.le_of_ble_eq_true rfl) [some (.inl x), some (.inl y), none] rfl ?_
  refine X.iload_n dJ9_floorDiv_7cf53_0 rfl ?_
  refine X.iload_n dJ9_floorDiv_7cf53_1 rfl ?_
  refine X.idivT dJ9_floorDiv_7cf53_2 (by assumption) (by assumption) (by omega) ?_
  refine X.istore_n (lv2 := [some (.inl x), some (.inl y), some (.inl (x.tdiv y))]) dJ9_floorDiv_7cf53_3 (Nat.le_of_ble_eq_true rfl) rfl ?_
  refine X.iload_n dJ9_floorDiv_7cf53_4 rfl ?_
  refine X.iload_n dJ9_floorDiv_7cf53_5 rfl ?_
  refine X.ixor (c := iXor x y) dJ9_floorDiv_7cf53_6 rfl ?_
  refine X.if_ge (tgt := 21) dJ9_floorDiv_7cf53_7 (by decide) (iXor_inR x y) (fun h7 => ?_) (fun h7 => ?_)
  · skip
    refine X.iload_n dJ9_floorDiv_7cf53_21 rfl ?_
    exact X.iret dJ9_floorDiv_7cf53_22 rfl (by first | rw [f1 (by omega)] | rw [f2 (by omega) h14]) rfl
  · skip
    refine X.iload_n dJ9_floorDiv_7cf53_10 rfl ?_
    refine X.iload_n dJ9_floorDiv_7cf53_11 rfl ?_
    refine X.imul (c := (x.tdiv y) * y) dJ9_floorDiv_7cf53_12 rfl ?_
    refine X.iload_n dJ9_floorDiv_7cf53_13 rfl ?_
    refine X.icmp_eq (tgt := 21) dJ9_floorDiv_7cf53_14 (by decide) (mulR hx hy) hx (fun h14 => ?_) (fun h14 => ?_)
    · skip
      refine X.iload_n dJ9_floorDiv_7cf53_21 rfl ?_
      exact X.iret dJ9_floorDiv_7cf53_22 rfl (by first | rw [f1 (by omega)] | rw [f2 (by omega) h14]) rfl
    · skip
      refine X.iload_n dJ9_floorDiv_7cf53_17 rfl ?_
      refine X.iconst dJ9_floorDiv_7cf53_18 ?_
      refine X.isub (c := (x.tdiv y) - 1) dJ9_floorDiv_7cf53_19 rfl ?_
      exact X.iret dJ9_floorDiv_7cf53_20 rfl (by rw [f3 (by omega) h14]) rfl
set_option maxHeartbeats 4000000 in
set_option maxRecDepth 100000 in
theorem c_part (M : Mem) (x d : Int) (hx : -1000 ≤ x ∧ x ≤ 1000) (hd : 0 < d ∧ d ≤ 1000) : CX mX2_part 1 [.inl x, .inl d] M (some (.inl ((2 * x + d) / (2 * d)))) M := by
  refine CX.of (by decide +kernel) (Nat.le_of_ble_eq_true rfl) [some (.inl x), some (.inl d)] rfl ?_
  refine X.iconst dX2_part_0 ?_
  refine X.iload_n dX2_part_1 rfl ?_
  refine X.imul (c := 2 * x) dX2_part_2 rfl ?_
  refine X.iload_n dX2_part_3 rfl ?_
  refine X.iadd (c := (2 * x) + d) dX2_part_4 rfl ?_
  refine X.iconst dX2_part_5 ?_
  refine X.iload_n dX2_part_6 rfl ?_
  refine X.imul (c := 2 * d) dX2_part_7 rfl ?_
  refine X.callS1 (As := [.inl ((2 * x) + d), .inl (2 * d)]) (rest := []) dX2_part_8 mk_X2_76 (c_floorDiv M ((2 * x) + d) (2 * d) ⟨by omega, by omega⟩ (by omega)) rfl (by decide) rfl (Nat.le_of_ble_eq_true rfl) ?_
  exact X.iret dX2_part_11 rfl rfl rfl
set_option maxHeartbeats 4000000 in
set_option maxRecDepth 100000 in
theorem c_innerCell (M : Mem) (a b d i : Int) (ha : 0 ≤ a ∧ a < 120) (hb : 0 ≤ b ∧ b < 120) (hd : 0 < d ∧ d ≤ 11) (hi : 0 ≤ i ∧ i ≤ 11) : CX mX2_innerCell 2 [.inl a, .inl b, .inl d, .inl i] M (some (.inl (inner a b d i))) M := by
  have m1 := mul_bd hi.1 hi.2 (show -11 ≤ b % 12 - a % 12 by omega) (show b % 12 - a % 12 ≤ 11 by omega)
  have m2 := mul_bd hi.1 hi.2 (show -11 ≤ b / 12 - a / 12 by omega) (show b / 12 - a / 12 ≤ 11 by omega)
  refine CX.of (by decide +kernel) (Nat.le_of_ble_eq_true rfl) [some (.inl a), some (.inl b), some (.inl d), some (.inl i), none, none] rfl ?_
  refine X.iload_n dX2_innerCell_0 rfl ?_
  refine X.iload_n dX2_innerCell_1 rfl ?_
  refine X.callN1 (As := [.inl b]) (rest := [.inl i]) dX2_innerCell_2 mk_X2_64 (c_columnOf M b (by omega)) rfl (by decide) rfl (Nat.le_of_ble_eq_true rfl) ?_
  refine X.iload_n dX2_innerCell_5 rfl ?_
  refine X.callN1 (As := [.inl a]) (rest := [.inl (b % 12), .inl i]) dX2_innerCell_6 mk_X2_64 (c_columnOf M a (by omega)) rfl (by decide) rfl (Nat.le_of_ble_eq_true rfl) ?_
  refine X.isub (c := (b % 12) - (a % 12)) dX2_innerCell_9 rfl ?_
  refine X.imul (c := i * ((b % 12) - (a % 12))) dX2_innerCell_10 rfl ?_
  refine X.iload_n dX2_innerCell_11 rfl ?_
  refine X.callS1 (As := [.inl (i * ((b % 12) - (a % 12))), .inl d]) (rest := []) dX2_innerCell_12 mk_X2_67 (c_part M (i * ((b % 12) - (a % 12))) d (by omega) (by omega)) rfl (by decide) rfl (Nat.le_of_ble_eq_true rfl) ?_
  refine X.istore (lv2 := [some (.inl a), some (.inl b), some (.inl d), some (.inl i), some (.inl ((2 * (i * ((b % 12) - (a % 12))) + d) / (2 * d))), none]) dX2_innerCell_15 (Nat.le_of_ble_eq_true rfl) rfl ?_
  refine X.iload_n dX2_innerCell_17 rfl ?_
  refine X.iload_n dX2_innerCell_18 rfl ?_
  refine X.callN1 (As := [.inl b]) (rest := [.inl i]) dX2_innerCell_19 mk_X2_70 (c_rowOf M b (by omega)) rfl (by decide) rfl (Nat.le_of_ble_eq_true rfl) ?_
  refine X.iload_n dX2_innerCell_22 rfl ?_
  refine X.callN1 (As := [.inl a]) (rest := [.inl (b / 12), .inl i]) dX2_innerCell_23 mk_X2_70 (c_rowOf M a (by omega)) rfl (by decide) rfl (Nat.le_of_ble_eq_true rfl) ?_
  refine X.isub (c := (b / 12) - (a / 12)) dX2_innerCell_26 rfl ?_
  refine X.imul (c := i * ((b / 12) - (a / 12))) dX2_innerCell_27 rfl ?_
  refine X.iload_n dX2_innerCell_28 rfl ?_
  refine X.callS1 (As := [.inl (i * ((b / 12) - (a / 12))), .inl d]) (rest := []) dX2_innerCell_29 mk_X2_67 (c_part M (i * ((b / 12) - (a / 12))) d (by omega) (by omega)) rfl (by decide) rfl (Nat.le_of_ble_eq_true rfl) ?_
  refine X.istore (lv2 := [some (.inl a), some (.inl b), some (.inl d), some (.inl i), some (.inl ((2 * (i * ((b % 12) - (a % 12))) + d) / (2 * d))), some (.inl ((2 * (i * ((b / 12) - (a / 12))) + d) / (2 * d)))]) dX2_innerCell_32 (Nat.le_of_ble_eq_true rfl) rfl ?_
  refine X.iload_n dX2_innerCell_34 rfl ?_
  refine X.callN1 (As := [.inl a]) (rest := []) dX2_innerCell_35 mk_X2_64 (c_columnOf M a (by omega)) rfl (by decide) rfl (Nat.le_of_ble_eq_true rfl) ?_
  refine X.iload dX2_innerCell_38 rfl ?_
  refine X.iadd (c := (a % 12) + ((2 * (i * ((b % 12) - (a % 12))) + d) / (2 * d))) dX2_innerCell_40 rfl ?_
  refine X.iload_n dX2_innerCell_41 rfl ?_
  refine X.callN1 (As := [.inl a]) (rest := [.inl ((a % 12) + ((2 * (i * ((b % 12) - (a % 12))) + d) / (2 * d)))]) dX2_innerCell_42 mk_X2_70 (c_rowOf M a (by omega)) rfl (by decide) rfl (Nat.le_of_ble_eq_true rfl) ?_
  refine X.iload dX2_innerCell_45 rfl ?_
  refine X.iadd (c := (a / 12) + ((2 * (i * ((b / 12) - (a / 12))) + d) / (2 * d))) dX2_innerCell_47 rfl ?_
  refine X.callN1 (As := [.inl ((a % 12) + ((2 * (i * ((b % 12) - (a % 12))) + d) / (2 * d))), .inl ((a / 12) + ((2 * (i * ((b / 12) - (a / 12))) + d) / (2 * d)))]) (rest := []) dX2_innerCell_48 mk_X2_73 (c_cellAt M ((a % 12) + ((2 * (i * ((b % 12) - (a % 12))) + d) / (2 * d))) ((a / 12) + ((2 * (i * ((b / 12) - (a / 12))) + d) / (2 * d)))) rfl (by decide) rfl (Nat.le_of_ble_eq_true rfl) ?_
  exact X.iret dX2_innerCell_51 rfl rfl rfl
set_option maxHeartbeats 4000000 in
set_option maxRecDepth 100000 in
theorem c_apart (M : Mem) (a b : Int) (ha : inR a) (hb : inR b) : CX mX7_apart 0 [.inl a, .inl b] M (some (.inl (iabs (a - b)))) M := by
  refine CX.of (by decide +kernel) (Nat.le_of_ble_eq_true rfl) [some (.inl a), some (.inl b)] rfl ?_
  refine X.iload_n dX7_apart_0 rfl ?_
  refine X.iload_n dX7_apart_1 rfl ?_
  refine X.icmp_ge (tgt := 11) dX7_apart_2 (by decide) ⟨by omega, by omega⟩ ⟨by omega, by omega⟩ (fun h1 => ?_) (fun h1 => ?_)
  · skip
    refine X.iload_n dX7_apart_11 rfl ?_
    refine X.iload_n dX7_apart_12 rfl ?_
    refine X.isub (c := a - b) dX7_apart_13 rfl ?_
    exact X.iret dX7_apart_14 rfl (congrArg (fun z => some (Sum.inl z : AV)) (by unfold iabs; split <;> omega)) rfl
  · skip
    refine X.iload_n dX7_apart_5 rfl ?_
    refine X.iload_n dX7_apart_6 rfl ?_
    refine X.isub (c := b - a) dX7_apart_7 rfl ?_
    refine X.goto (tgt := 14) dX7_apart_8 (by decide) ?_
    exact X.iret dX7_apart_14 rfl (congrArg (fun z => some (Sum.inl z : AV)) (by unfold iabs; split <;> omega)) rfl
set_option maxHeartbeats 4000000 in
set_option maxRecDepth 100000 in
theorem c_more (M : Mem) (a b : Int) (ha : inR a) (hb : inR b) : CX mX7_more 0 [.inl a, .inl b] M (some (.inl (imax a b))) M := by
  refine CX.of (by decide +kernel) (Nat.le_of_ble_eq_true rfl) [some (.inl a), some (.inl b)] rfl ?_
  refine X.iload_n dX7_more_0 rfl ?_
  refine X.iload_n dX7_more_1 rfl ?_
  refine X.icmp_le (tgt := 9) dX7_more_2 (by decide) ⟨by omega, by omega⟩ ⟨by omega, by omega⟩ (fun h1 => ?_) (fun h1 => ?_)
  · skip
    refine X.iload_n dX7_more_9 rfl ?_
    exact X.iret dX7_more_10 rfl (congrArg (fun z => some (Sum.inl z : AV)) (by unfold imax; split <;> omega)) rfl
  · skip
    refine X.iload_n dX7_more_5 rfl ?_
    refine X.goto (tgt := 10) dX7_more_6 (by decide) ?_
    exact X.iret dX7_more_10 rfl (congrArg (fun z => some (Sum.inl z : AV)) (by unfold imax; split <;> omega)) rfl
set_option maxHeartbeats 4000000 in
set_option maxRecDepth 100000 in
theorem c_distance (M : Mem) (a b : Int) (ha : 0 ≤ a ∧ a < 120) (hb : 0 ≤ b ∧ b < 120) : CX mX7_distance 1 [.inl a, .inl b] M (some (.inl (dist a b))) M := by
  refine CX.of (by decide +kernel) (Nat.le_of_ble_eq_true rfl) [some (.inl a), some (.inl b)] rfl ?_
  refine X.iload_n dX7_distance_0 rfl ?_
  refine X.bipush dX7_distance_1 (by decide) ?_
  refine X.irem (c := a % 12) dX7_distance_3 (by omega) (by decide) rfl ?_
  refine X.iload_n dX7_distance_4 rfl ?_
  refine X.bipush dX7_distance_5 (by decide) ?_
  refine X.irem (c := b % 12) dX7_distance_7 (by omega) (by decide) rfl ?_
  refine X.callS1 (As := [.inl (a % 12), .inl (b % 12)]) (rest := []) dX7_distance_8 mk_X7_36 (c_apart M (a % 12) (b % 12) ⟨by omega, by omega⟩ ⟨by omega, by omega⟩) rfl (by decide) rfl (Nat.le_of_ble_eq_true rfl) ?_
  refine X.iload_n dX7_distance_11 rfl ?_
  refine X.bipush dX7_distance_12 (by decide) ?_
  refine X.idiv (c := a / 12) dX7_distance_14 (by omega) (by decide) rfl ?_
  refine X.iload_n dX7_distance_15 rfl ?_
  refine X.bipush dX7_distance_16 (by decide) ?_
  refine X.idiv (c := b / 12) dX7_distance_18 (by omega) (by decide) rfl ?_
  refine X.callS1 (As := [.inl (a / 12), .inl (b / 12)]) (rest := [.inl (iabs ((a % 12) - (b % 12)))]) dX7_distance_19 mk_X7_36 (c_apart M (a / 12) (b / 12) ⟨by omega, by omega⟩ ⟨by omega, by omega⟩) rfl (by decide) rfl (Nat.le_of_ble_eq_true rfl) ?_
  refine X.callS1 (As := [.inl (iabs ((a % 12) - (b % 12))), .inl (iabs ((a / 12) - (b / 12)))]) (rest := []) dX7_distance_22 mk_X7_40 (c_more M (iabs ((a % 12) - (b % 12))) (iabs ((a / 12) - (b / 12))) (And.intro (Int.le_trans (by decide) (iabs_le (n := 11) (by omega) (by omega)).1) (Int.le_trans (iabs_le (n := 11) (by omega) (by omega)).2 (by decide))) (And.intro (Int.le_trans (by decide) (iabs_le (n := 11) (by omega) (by omega)).1) (Int.le_trans (iabs_le (n := 11) (by omega) (by omega)).2 (by decide)))) rfl (by decide) rfl (Nat.le_of_ble_eq_true rfl) ?_
  exact X.iret dX7_distance_25 rfl rfl rfl
set_option maxHeartbeats 4000000 in
set_option maxRecDepth 100000 in
theorem c_down (M : Mem) (x y : Int) (hx : inR x) (hy : 0 < y ∧ y ≤ 2147483647) : CX mX7_down 0 [.inl x, .inl y] M (some (.inl (x / y))) M := by
  have hyR : inR y := ⟨by omega, by omega⟩
  obtain ⟨f1, f2⟩ := tmod_fl (x := x) hy.1
  refine CX.of (by decide +kernel) (Nat.le_of_ble_eq_true rfl) [some (.inl x), some (.inl y), none] rfl ?_
  refine X.iload_n dX7_down_0 rfl ?_
  refine X.iload_n dX7_down_1 rfl ?_
  refine X.idivT dX7_down_2 (by assumption) (by assumption) (by omega) ?_
  refine X.istore_n (lv2 := [some (.inl x), some (.inl y), some (.inl (x.tdiv y))]) dX7_down_3 (Nat.le_of_ble_eq_true rfl) rfl ?_
  refine X.iload_n dX7_down_4 rfl ?_
  refine X.iload_n dX7_down_5 rfl ?_
  refine X.iremT dX7_down_6 (by assumption) (by assumption) (by omega) ?_
  refine X.if_ge (tgt := 16) dX7_down_7 (by decide) (tmod_inR hy) (fun h7 => ?_) (fun h7 => ?_)
  · skip
    refine X.iload_n dX7_down_16 rfl ?_
    exact X.iret dX7_down_17 rfl (by first | rw [f1 h7] | rw [f2 h7]) rfl
  · skip
    refine X.iload_n dX7_down_10 rfl ?_
    refine X.iconst dX7_down_11 ?_
    refine X.isub (c := (x.tdiv y) - 1) dX7_down_12 rfl ?_
    refine X.goto (tgt := 17) dX7_down_13 (by decide) ?_
    exact X.iret dX7_down_17 rfl (by first | rw [f1 h7] | rw [f2 h7]) rfl
set_option maxHeartbeats 4000000 in
set_option maxRecDepth 100000 in
theorem c_inner (M : Mem) (f y i d : Int) (hd : 0 < d ∧ d ≤ 11) (hi : 0 ≤ i ∧ i ≤ 11) (hy : -11 ≤ y ∧ y ≤ 11) : CX mX7_inner 1 [.inl f, .inl y, .inl i, .inl d] M (some (.inl (f + (2 * (i * y) + d) / (2 * d)))) M := by
  have m1 := mul_bd hi.1 hi.2 hy.1 hy.2
  have m2 : 2 * i * y = 2 * (i * y) := Int.mul_assoc 2 i y
  refine CX.of (by decide +kernel) (Nat.le_of_ble_eq_true rfl) [some (.inl f), some (.inl y), some (.inl i), some (.inl d)] rfl ?_
  refine X.iload_n dX7_inner_0 rfl ?_
  refine X.iconst dX7_inner_1 ?_
  refine X.iload_n dX7_inner_2 rfl ?_
  refine X.imul (c := 2 * i) dX7_inner_3 rfl ?_
  refine X.iload_n dX7_inner_4 rfl ?_
  refine X.imul (c := (2 * i) * y) dX7_inner_5 rfl ?_
  refine X.iload_n dX7_inner_6 rfl ?_
  refine X.iadd (c := ((2 * i) * y) + d) dX7_inner_7 rfl ?_
  refine X.iconst dX7_inner_8 ?_
  refine X.iload_n dX7_inner_9 rfl ?_
  refine X.imul (c := 2 * d) dX7_inner_10 rfl ?_
  refine X.callS1 (As := [.inl (((2 * i) * y) + d), .inl (2 * d)]) (rest := [.inl f]) dX7_inner_11 mk_X7_59 (c_down M (((2 * i) * y) + d) (2 * d) ⟨by omega, by omega⟩ (by omega)) rfl (by decide) rfl (Nat.le_of_ble_eq_true rfl) ?_
  refine X.iadd (c := f + ((((2 * i) * y) + d) / (2 * d))) dX7_inner_14 rfl ?_
  exact X.iret dX7_inner_15 rfl (by rw [m2]) rfl
end
section
/-! ===== VIEWS: what a state says, as rows of numbers; out of range all is 0 ===== -/
abbrev Vw : Type := Nat → Int → Int
def gd (n : Int) (f : Int → Int) : Int → Int := fun i => if 0 ≤ i ∧ i < n then f i else 0
theorem gd_in {n : Int} {f : Int → Int} {i : Int} (h : 0 ≤ i ∧ i < n) : gd n f i = f i := if_pos h
theorem gd_out {n : Int} {f : Int → Int} {i : Int} (h : ¬ (0 ≤ i ∧ i < n)) : gd n f i = 0 := if_neg h
theorem gd_eq {n : Int} {f g : Int → Int} (h : ∀ i, 0 ≤ i → i < n → f i = g i) : gd n f = gd n g := by
  funext i
  by_cases hi : 0 ≤ i ∧ i < n
  · rw [gd_in hi, gd_in hi, h i hi.1 hi.2]
  · rw [gd_out hi, gd_out hi]
def vF (M : Mem) (b : Nat) : Vw := fun t => match t with
  | 0 => fun i => if i = 0 then M b 2 else if i = 1 then M b 6 else if i = 2 then M b 10 else if i = 3 then M b 11 else 0
  | 1 => gd 120 (M (b + 1))
  | 2 => gd 120 (M (b + 2))
  | 3 => gd (M b 2) (M (b + 3))
  | 4 => gd (M b 2) (M (b + 4))
  | 5 => gd (M b 2) (M (b + 5))
  | 6 => gd (M b 6) (M (b + 6))
  | 7 => gd (M b 6) (M (b + 7))
  | 8 => gd (M b 6) (M (b + 8))
  | 9 => gd 120 (M (b + 11))
  | 10 => gd 120 (M (b + 12))
  | 11 => gd 120 (M (b + 13))
  | 12 => gd 120 (M (b + 14))
  | 13 => gd 120 (M (b + 16))
  | 14 => gd 120 (M (b + 17))
  | 15 => gd 120 (M (b + 18))
  | 16 => gd 120 (M (b + 19))
  | _ => fun _ => 0
theorem vF_frame {M M' : Mem} {b : Nat} (h : ∀ a, b ≤ a → a < b + 20 → M' a = M a) : vF M' b = vF M b := by
  funext t
  unfold vF
  simp only [h b (by omega) (by omega), h (b + 1) (by omega) (by omega), h (b + 2) (by omega) (by omega), h (b + 3) (by omega) (by omega), h (b + 4) (by omega) (by omega), h (b + 5) (by omega) (by omega), h (b + 6) (by omega) (by omega), h (b + 7) (by omega) (by omega), h (b + 8) (by omega) (by omega), h (b + 11) (by omega) (by omega), h (b + 12) (by omega) (by omega), h (b + 13) (by omega) (by omega), h (b + 14) (by omega) (by omega), h (b + 16) (by omega) (by omega), h (b + 17) (by omega) (by omega), h (b + 18) (by omega) (by omega), h (b + 19) (by omega) (by omega)]
/-! ===== what is seen ===== -/
def lit (v : Vw) (c : Int) : Prop := ∃ k, 0 ≤ k ∧ k < v 0 1 ∧ 0 < v 8 k ∧ dist (v 6 k) c ≤ v 7 k
def okAt (v : Vw) (a b i : Int) : Prop := 2 * v 1 (inner a b (dist a b) i) + 100 * v 2 (inner a b (dist a b) i) ≤ ((2 * v 1 a + 1) * (dist a b - i) + (2 * v 1 b + 1) * i) / dist a b
def free (v : Vw) (a b : Int) : Prop := ∀ i, 1 ≤ i → i < dist a b → okAt v a b i
def see (v : Vw) (a r c : Int) : Prop := (dist a c ≤ r ∨ (dist a c ≤ 2 * r ∧ lit v c)) ∧ free v a c
def sees (v : Vw) (k c : Int) : Prop := see v (v 4 k) (v 5 k) c
def sSees (v : Vw) (s c : Int) : Prop := ∃ k, 0 ≤ k ∧ k < v 0 0 ∧ sees v k c ∧ v 3 k = s
/-- the first of the n numbers from k on that fulfils P; -19 if none does -/
noncomputable def fst1 (P : Int → Prop) : Nat → Int → Int
  | 0, _ => -19
  | n + 1, k => @ite _ (P k) (Classical.propDecidable _) k (fst1 P n (k + 1))
noncomputable def sIn (v : Vw) (c : Int) : Int := fst1 (fun k => v 4 k = c) (v 0 0).toNat 0
theorem fst1_t {P : Int → Prop} {hi k : Int} (h : k < hi) (p : P k) : fst1 P (hi - k).toNat k = k := by
  have e : (hi - k).toNat = (hi - (k + 1)).toNat + 1 := by omega
  rw [e]; exact if_pos p
theorem fst1_f {P : Int → Prop} {hi k : Int} (h : k < hi) (p : ¬ P k) : fst1 P (hi - k).toNat k = fst1 P (hi - (k + 1)).toNat (k + 1) := by
  have e : (hi - k).toNat = (hi - (k + 1)).toNat + 1 := by omega
  rw [e]; exact if_neg p
theorem fst1_end {P : Int → Prop} {hi : Int} : fst1 P (hi - hi).toNat hi = -19 := by simp [fst1]
theorem fst1_spec (P : Int → Prop) : ∀ (n : Nat) (k : Int), (fst1 P n k = -19 ∧ ∀ i, k ≤ i → i < k + n → ¬ P i) ∨ (k ≤ fst1 P n k ∧ fst1 P n k < k + n ∧ P (fst1 P n k) ∧ ∀ i, k ≤ i → i < fst1 P n k → ¬ P i)
  | 0, k => Or.inl ⟨rfl, fun i h1 h2 => by omega⟩
  | n + 1, k => by
    by_cases p : P k
    · have e : fst1 P (n + 1) k = k := if_pos p
      rw [e]
      exact Or.inr ⟨by omega, by omega, p, fun i h1 h2 => by omega⟩
    · have e : fst1 P (n + 1) k = fst1 P n (k + 1) := if_neg p
      rw [e]
      rcases fst1_spec P n (k + 1) with ⟨h1, h2⟩ | ⟨h1, h2, h3, h4⟩
      · refine Or.inl ⟨h1, fun i a b => ?_⟩
        by_cases hi : i = k
        · rw [hi]; exact p
        · exact h2 i (by omega) (by omega)
      · refine Or.inr ⟨by omega, by omega, h3, fun i a b => ?_⟩
        by_cases hi : i = k
        · rw [hi]; exact p
        · exact h4 i (by omega) b
/-! ===== the bounds of a state ===== -/
def SI (v : Vw) : Prop := (0 ≤ v 0 0 ∧ v 0 0 ≤ 10) ∧ (0 ≤ v 0 1 ∧ v 0 1 ≤ 6) ∧ (1 ≤ v 0 2 ∧ v 0 2 ≤ 99) ∧ (∀ c, 0 ≤ v 1 c ∧ v 1 c ≤ 9) ∧ (∀ c, 0 ≤ v 2 c ∧ v 2 c ≤ 1) ∧ (∀ k, 0 ≤ v 3 k ∧ v 3 k ≤ 1) ∧ (∀ k, 0 ≤ v 4 k ∧ v 4 k < 120) ∧ (∀ k, 0 ≤ v 5 k ∧ v 5 k ≤ 8) ∧ (∀ k, 0 ≤ v 6 k ∧ v 6 k < 120) ∧ (∀ k, 0 ≤ v 7 k ∧ v 7 k ≤ 4) ∧ (∀ k, 0 ≤ v 8 k ∧ v 8 k ≤ 50) ∧
  (∀ c, 0 ≤ v 9 c ∧ v 9 c ≤ 99) ∧ (∀ c, 0 ≤ v 10 c ∧ v 10 c ≤ 9) ∧ (∀ c, 0 ≤ v 11 c ∧ v 11 c ≤ 1) ∧ (∀ c, 0 ≤ v 12 c ∧ v 12 c ≤ 1) ∧ (∀ c, 0 ≤ v 13 c ∧ v 13 c ≤ 99) ∧ (∀ c, 0 ≤ v 14 c ∧ v 14 c ≤ 9) ∧ (∀ c, 0 ≤ v 15 c ∧ v 15 c ≤ 1) ∧ (∀ c, 0 ≤ v 16 c ∧ v 16 c ≤ 1) ∧
  (∀ k, 0 ≤ k → k < v 0 0 → 1 ≤ v 5 k ∧ v 2 (v 4 k) = 0) ∧ (∀ j k, 0 ≤ j → j < k → k < v 0 0 → v 4 j ≠ v 4 k)
section SIB
variable {v : Vw}
theorem SI.n0 (h : SI v) : 0 ≤ v 0 0 ∧ v 0 0 ≤ 10 := h.1
theorem SI.n1 (h : SI v) : 0 ≤ v 0 1 ∧ v 0 1 ≤ 6 := h.2.1
theorem SI.n2 (h : SI v) : 1 ≤ v 0 2 ∧ v 0 2 ≤ 99 := h.2.2.1
theorem SI.r1 (h : SI v) (i : Int) : 0 ≤ v 1 i ∧ v 1 i ≤ 9 := h.2.2.2.1 i
theorem SI.r2 (h : SI v) (i : Int) : 0 ≤ v 2 i ∧ v 2 i ≤ 1 := h.2.2.2.2.1 i
theorem SI.r3 (h : SI v) (i : Int) : 0 ≤ v 3 i ∧ v 3 i ≤ 1 := h.2.2.2.2.2.1 i
theorem SI.r4 (h : SI v) (i : Int) : 0 ≤ v 4 i ∧ v 4 i < 120 := h.2.2.2.2.2.2.1 i
theorem SI.r5 (h : SI v) (i : Int) : 0 ≤ v 5 i ∧ v 5 i ≤ 8 := h.2.2.2.2.2.2.2.1 i
theorem SI.r6 (h : SI v) (i : Int) : 0 ≤ v 6 i ∧ v 6 i < 120 := h.2.2.2.2.2.2.2.2.1 i
theorem SI.r7 (h : SI v) (i : Int) : 0 ≤ v 7 i ∧ v 7 i ≤ 4 := h.2.2.2.2.2.2.2.2.2.1 i
theorem SI.r8 (h : SI v) (i : Int) : 0 ≤ v 8 i ∧ v 8 i ≤ 50 := h.2.2.2.2.2.2.2.2.2.2.1 i
theorem SI.r9 (h : SI v) (i : Int) : 0 ≤ v 9 i ∧ v 9 i ≤ 99 := h.2.2.2.2.2.2.2.2.2.2.2.1 i
theorem SI.r10 (h : SI v) (i : Int) : 0 ≤ v 10 i ∧ v 10 i ≤ 9 := h.2.2.2.2.2.2.2.2.2.2.2.2.1 i
theorem SI.r11 (h : SI v) (i : Int) : 0 ≤ v 11 i ∧ v 11 i ≤ 1 := h.2.2.2.2.2.2.2.2.2.2.2.2.2.1 i
theorem SI.r12 (h : SI v) (i : Int) : 0 ≤ v 12 i ∧ v 12 i ≤ 1 := h.2.2.2.2.2.2.2.2.2.2.2.2.2.2.1 i
theorem SI.r13 (h : SI v) (i : Int) : 0 ≤ v 13 i ∧ v 13 i ≤ 99 := h.2.2.2.2.2.2.2.2.2.2.2.2.2.2.2.1 i
theorem SI.r14 (h : SI v) (i : Int) : 0 ≤ v 14 i ∧ v 14 i ≤ 9 := h.2.2.2.2.2.2.2.2.2.2.2.2.2.2.2.2.1 i
theorem SI.r15 (h : SI v) (i : Int) : 0 ≤ v 15 i ∧ v 15 i ≤ 1 := h.2.2.2.2.2.2.2.2.2.2.2.2.2.2.2.2.2.1 i
theorem SI.r16 (h : SI v) (i : Int) : 0 ≤ v 16 i ∧ v 16 i ≤ 1 := h.2.2.2.2.2.2.2.2.2.2.2.2.2.2.2.2.2.2.1 i
theorem SI.on (h : SI v) {k : Int} (h1 : 0 ≤ k) (h2 : k < v 0 0) : 1 ≤ v 5 k ∧ v 2 (v 4 k) = 0 := h.2.2.2.2.2.2.2.2.2.2.2.2.2.2.2.2.2.2.2.1 k h1 h2
theorem SI.ne (h : SI v) {j k : Int} (h1 : 0 ≤ j) (h2 : j < k) (h3 : k < v 0 0) : v 4 j ≠ v 4 k := h.2.2.2.2.2.2.2.2.2.2.2.2.2.2.2.2.2.2.2.2 j k h1 h2 h3
theorem sIn_range (h : SI v) (c : Int) : sIn v c = -19 ∨ (0 ≤ sIn v c ∧ sIn v c < v 0 0 ∧ v 4 (sIn v c) = c) := by
  have := h.n0
  rcases fst1_spec (fun k => v 4 k = c) (v 0 0).toNat 0 with ⟨h1, -⟩ | ⟨h1, h2, h3, -⟩
  · exact Or.inl h1
  · exact Or.inr ⟨h1, by unfold sIn; omega, h3⟩
theorem sIn_none (h : SI v) {c : Int} : sIn v c = -19 ↔ ∀ k, 0 ≤ k → k < v 0 0 → v 4 k ≠ c := by
  have := h.n0
  constructor
  · intro e k h1 h2
    rcases fst1_spec (fun k => v 4 k = c) (v 0 0).toNat 0 with ⟨-, q⟩ | ⟨q, -⟩
    · exact q k h1 (by omega)
    · unfold sIn at e; omega
  · intro q
    rcases fst1_spec (fun k => v 4 k = c) (v 0 0).toNat 0 with ⟨e, -⟩ | ⟨h1, h2, h3, -⟩
    · exact e
    · exact absurd h3 (q _ h1 (by omega))
end SIB
/-! the reads of the first state's cells, as its view has them -/
/-- the rows of cells, scouts and lights are v's -/
def VA (M : Mem) (v : Vw) : Prop := ∀ t, t ≤ 8 → vF M 1 t = v t
/-- the rows of what the sides remember are v's -/
def VM (M : Mem) (v : Vw) : Prop := ∀ t, 9 ≤ t → t ≤ 16 → vF M 1 t = v t
theorem VA.of {M : Mem} {v : Vw} (h : vF M 1 = v) : VA M v := fun t _ => by rw [h]
theorem VM.of {M : Mem} {v : Vw} (h : vF M 1 = v) : VM M v := fun t _ _ => by rw [h]
theorem VA.frame {M M' : Mem} {v : Vw} (h : VA M v) (hf : ∀ a, 1 ≤ a → a ≤ 9 → M' a = M a) : VA M' v := by
  intro t ht
  rw [← h t ht]
  have : t = 0 ∨ t = 1 ∨ t = 2 ∨ t = 3 ∨ t = 4 ∨ t = 5 ∨ t = 6 ∨ t = 7 ∨ t = 8 := by omega
  rcases this with rfl | rfl | rfl | rfl | rfl | rfl | rfl | rfl | rfl <;> simp only [vF, hf 1 (by omega) (by omega), hf (1 + 1) (by omega) (by omega), hf (1 + 2) (by omega) (by omega), hf (1 + 3) (by omega) (by omega), hf (1 + 4) (by omega) (by omega), hf (1 + 5) (by omega) (by omega), hf (1 + 6) (by omega) (by omega), hf (1 + 7) (by omega) (by omega), hf (1 + 8) (by omega) (by omega)]
theorem VA.mset {M : Mem} {v : Vw} {a : Nat} {i x : Int} (h : VA M v) (ha : 9 < a) : VA (mset M a i x) v := h.frame fun b h1 h2 => mset_row (by omega)
theorem VA.mrow {M : Mem} {v : Vw} {a : Nat} {f : Int → Int} (h : VA M v) (ha : 9 < a) : VA (mrow M a f) v := h.frame fun b h1 h2 => mrow_row (by omega)
section RDS
variable {M : Mem} {v : Vw}
theorem gd_rd {n i : Int} {f g : Int → Int} (h : gd n f = g) (hi : 0 ≤ i ∧ i < n) : f i = g i := by rw [← h, gd_in hi]
theorem rd_0_0 (hv : VA M v) : M 1 2 = v 0 0 := by rw [← hv 0 (by decide)]; rfl
theorem rd_0_1 (hv : VA M v) : M 1 6 = v 0 1 := by rw [← hv 0 (by decide)]; rfl
theorem rd_0_2 (hv : VA M v) : M 1 10 = v 0 2 := by rw [← hv 0 (by decide)]; rfl
theorem rd_0_3 (hv : VA M v) : M 1 11 = v 0 3 := by rw [← hv 0 (by decide)]; rfl
theorem rd_1 (hv : VA M v) {i : Int} (h : 0 ≤ i ∧ i < 120) : M 2 i = v 1 i := gd_rd (hv 1 (by decide)) h
theorem rd_2 (hv : VA M v) {i : Int} (h : 0 ≤ i ∧ i < 120) : M 3 i = v 2 i := gd_rd (hv 2 (by decide)) h
theorem rd_3 (hv : VA M v) {i : Int} (h : 0 ≤ i ∧ i < v 0 0) : M 4 i = v 3 i := gd_rd (hv 3 (by decide)) (by rw [rd_0_0 hv]; exact h)
theorem rd_4 (hv : VA M v) {i : Int} (h : 0 ≤ i ∧ i < v 0 0) : M 5 i = v 4 i := gd_rd (hv 4 (by decide)) (by rw [rd_0_0 hv]; exact h)
theorem rd_5 (hv : VA M v) {i : Int} (h : 0 ≤ i ∧ i < v 0 0) : M 6 i = v 5 i := gd_rd (hv 5 (by decide)) (by rw [rd_0_0 hv]; exact h)
theorem rd_6 (hv : VA M v) {i : Int} (h : 0 ≤ i ∧ i < v 0 1) : M 7 i = v 6 i := gd_rd (hv 6 (by decide)) (by rw [rd_0_1 hv]; exact h)
theorem rd_7 (hv : VA M v) {i : Int} (h : 0 ≤ i ∧ i < v 0 1) : M 8 i = v 7 i := gd_rd (hv 7 (by decide)) (by rw [rd_0_1 hv]; exact h)
theorem rd_8 (hv : VA M v) {i : Int} (h : 0 ≤ i ∧ i < v 0 1) : M 9 i = v 8 i := gd_rd (hv 8 (by decide)) (by rw [rd_0_1 hv]; exact h)
theorem rd_9 (hv : VM M v) {i : Int} (h : 0 ≤ i ∧ i < 120) : M 12 i = v 9 i := gd_rd (hv 9 (by decide) (by decide)) h
theorem rd_10 (hv : VM M v) {i : Int} (h : 0 ≤ i ∧ i < 120) : M 13 i = v 10 i := gd_rd (hv 10 (by decide) (by decide)) h
theorem rd_11 (hv : VM M v) {i : Int} (h : 0 ≤ i ∧ i < 120) : M 14 i = v 11 i := gd_rd (hv 11 (by decide) (by decide)) h
theorem rd_12 (hv : VM M v) {i : Int} (h : 0 ≤ i ∧ i < 120) : M 15 i = v 12 i := gd_rd (hv 12 (by decide) (by decide)) h
theorem rd_13 (hv : VM M v) {i : Int} (h : 0 ≤ i ∧ i < 120) : M 17 i = v 13 i := gd_rd (hv 13 (by decide) (by decide)) h
theorem rd_14 (hv : VM M v) {i : Int} (h : 0 ≤ i ∧ i < 120) : M 18 i = v 14 i := gd_rd (hv 14 (by decide) (by decide)) h
theorem rd_15 (hv : VM M v) {i : Int} (h : 0 ≤ i ∧ i < 120) : M 19 i = v 15 i := gd_rd (hv 15 (by decide) (by decide)) h
theorem rd_16 (hv : VM M v) {i : Int} (h : 0 ≤ i ∧ i < 120) : M 20 i = v 16 i := gd_rd (hv 16 (by decide) (by decide)) h
end RDS
/-! all and some of a range, from its low end -/
def allU (P : Int → Prop) (k hi : Int) : Prop := ∀ i, k ≤ i → i < hi → P i
def exU (P : Int → Prop) (k hi : Int) : Prop := ∃ i, k ≤ i ∧ i < hi ∧ P i
theorem allU_end {P : Int → Prop} {k hi : Int} (h : hi ≤ k) : allU P k hi := fun i h1 h2 => by omega
theorem allU_t {P : Int → Prop} {k hi : Int} (p : P k) : bi (allU P k hi) = bi (allU P (k + 1) hi) := bi_iff ⟨fun h i h1 h2 => h i (by omega) h2, fun h i h1 h2 => by
  by_cases e : i = k
  · rw [e]; exact p
  · exact h i (by omega) h2⟩
theorem allU_f {P : Int → Prop} {k hi : Int} (h : k < hi) (p : ¬ P k) : ¬ allU P k hi := fun q => p (q k (Int.le_refl _) h)
theorem exU_end {P : Int → Prop} {k hi : Int} (h : hi ≤ k) : ¬ exU P k hi := fun ⟨i, h1, h2, _⟩ => by omega
theorem exU_f {P : Int → Prop} {k hi : Int} (p : ¬ P k) : bi (exU P k hi) = bi (exU P (k + 1) hi) := bi_iff ⟨fun ⟨i, h1, h2, h3⟩ => by
  by_cases e : i = k
  · rw [e] at h3; exact absurd h3 p
  · exact ⟨i, by omega, h2, h3⟩, fun ⟨i, h1, h2, h3⟩ => ⟨i, by omega, h2, h3⟩⟩
theorem exU_t {P : Int → Prop} {k hi : Int} (h : k < hi) (p : P k) : exU P k hi := ⟨k, Int.le_refl _, h, p⟩
theorem bi_inR (P : Prop) : inR (bi P) := by
  have := bi_ge P
  constructor <;> omega
theorem imax_r {a b : Int} : a ≤ imax a b ∧ b ≤ imax a b ∧ (imax a b = a ∨ imax a b = b) := by unfold imax; split <;> omega
theorem imin_r {a b : Int} : imin a b ≤ a ∧ imin a b ≤ b ∧ (imin a b = a ∨ imin a b = b) := by unfold imin; split <;> omega
theorem iabs_r {a : Int} : 0 ≤ iabs a ∧ (iabs a = a ∨ iabs a = -a) ∧ a ≤ iabs a ∧ -a ≤ iabs a := by unfold iabs; split <;> omega
/-! masks: the bit k stands where P k -/
noncomputable def mkN (P : Int → Prop) : Nat → Nat
  | 0 => 0
  | n + 1 => mkN P n + (@ite _ (P n) (Classical.propDecidable _) (2 ^ n) 0)
theorem mkN_lt (P : Int → Prop) : ∀ n, mkN P n < 2 ^ n
  | 0 => by simp [mkN]
  | n + 1 => by
    have := mkN_lt P n
    simp only [mkN]
    by_cases p : P n
    · rw [if_pos p, Nat.pow_succ]; omega
    · rw [if_neg p, Nat.pow_succ]; omega
theorem mkN_t {P : Int → Prop} {n : Nat} (p : P n) : mkN P (n + 1) = mkN P n + 2 ^ n := by simp only [mkN]; rw [if_pos p]
theorem mkN_f {P : Int → Prop} {n : Nat} (p : ¬ P n) : mkN P (n + 1) = mkN P n := by simp only [mkN]; rw [if_neg p]; rfl
theorem mkN_bit (P : Int → Prop) : ∀ (n i : Nat), (mkN P n).testBit i = true ↔ i < n ∧ P i
  | 0, i => by simp [mkN]
  | n + 1, i => by
    have ih := mkN_bit P n i
    have hl := mkN_lt P n
    by_cases p : P n
    · rw [mkN_t p, ← Nat.or_two_pow_eq_add_of_lt hl, Nat.testBit_or, Bool.or_eq_true, ih, Nat.testBit_two_pow, decide_eq_true_iff]
      constructor
      · rintro (⟨h1, h2⟩ | rfl)
        · exact ⟨by omega, h2⟩
        · exact ⟨by omega, p⟩
      · rintro ⟨h1, h2⟩
        by_cases e : n = i
        · exact Or.inr e
        · exact Or.inl ⟨by omega, h2⟩
    · rw [mkN_f p, ih]
      constructor
      · rintro ⟨h1, h2⟩; exact ⟨by omega, h2⟩
      · rintro ⟨h1, h2⟩
        refine ⟨?_, h2⟩
        by_cases e : i = n
        · subst e; exact absurd h2 p
        · omega
theorem nat_of {n : Nat} (h : n < 2 ^ 31) : (Int32.ofInt (n : Int)).toBitVec = BitVec.ofNat 32 n := by
  rw [Int32.ofInt_eq_ofNat]; rfl
theorem nat_to {n : Nat} (h : n < 2 ^ 31) (x : Int32) (e : x.toBitVec = BitVec.ofNat 32 n) : x.toInt = (n : Int) := by
  have : x = Int32.ofNat n := Int32.toBitVec_inj.mp e
  rw [this, Int32.toInt_ofNat_of_lt h]
theorem iOr_nat {a b : Nat} (ha : a < 2 ^ 31) (hb : b < 2 ^ 31) : iOr a b = ((a ||| b : Nat) : Int) := by
  refine nat_to (Nat.or_lt_two_pow ha hb) _ ?_
  rw [Int32.toBitVec_or, nat_of ha, nat_of hb, BitVec.ofNat_or]
theorem iAnd_nat {a b : Nat} (ha : a < 2 ^ 31) (hb : b < 2 ^ 31) : iAnd a b = ((a &&& b : Nat) : Int) := by
  refine nat_to (Nat.and_lt_two_pow a hb) _ ?_
  rw [Int32.toBitVec_and, nat_of ha, nat_of hb, BitVec.ofNat_and]
theorem iShl_1 {k : Int} (h : 0 ≤ k ∧ k ≤ 10) : iShl 1 k = ((2 ^ k.toNat : Nat) : Int) := by
  have : k = 0 ∨ k = 1 ∨ k = 2 ∨ k = 3 ∨ k = 4 ∨ k = 5 ∨ k = 6 ∨ k = 7 ∨ k = 8 ∨ k = 9 ∨ k = 10 := by omega
  rcases this with rfl | rfl | rfl | rfl | rfl | rfl | rfl | rfl | rfl | rfl | rfl <;> decide +kernel
theorem pow31 {n : Nat} (h : n ≤ 10) : 2 ^ n < 2 ^ 31 := Nat.pow_lt_pow_of_lt (by omega) (by omega)
theorem mkN_or {P : Int → Prop} {k : Int} (h : 0 ≤ k ∧ k < 10) (p : P k) : iOr (mkN P k.toNat) (iShl 1 k) = (mkN P (k + 1).toNat : Int) := by
  have hl := mkN_lt P k.toNat
  have h2 := pow31 (n := k.toNat) (by omega)
  have hk : ((k.toNat : Nat) : Int) = k := by omega
  rw [iShl_1 (by omega), iOr_nat (by omega) h2, Nat.or_two_pow_eq_add_of_lt hl, show (k + 1).toNat = k.toNat + 1 by omega, mkN_t (by rw [hk]; exact p)]
theorem mkN_no {P : Int → Prop} {k : Int} (h : 0 ≤ k) (p : ¬ P k) : mkN P (k + 1).toNat = mkN P k.toNat := by
  have hk : ((k.toNat : Nat) : Int) = k := by omega
  rw [show (k + 1).toNat = k.toNat + 1 by omega, mkN_f (by rw [hk]; exact p)]
theorem mkN_and {P Q : Int → Prop} (n : Nat) : mkN P n &&& mkN Q n = mkN (fun k => P k ∧ Q k) n := by
  apply Nat.eq_of_testBit_eq
  intro i
  rw [Nat.testBit_and, Bool.eq_iff_iff, Bool.and_eq_true, mkN_bit, mkN_bit, mkN_bit]
  constructor
  · rintro ⟨⟨a, b⟩, -, c⟩; exact ⟨a, b, c⟩
  · rintro ⟨a, b, c⟩; exact ⟨⟨a, b⟩, a, c⟩
theorem mkN_0 {P : Int → Prop} (n : Nat) : mkN P n = 0 ↔ ∀ k : Nat, k < n → ¬ P k := by
  constructor
  · intro e k h p
    have := (mkN_bit P n k).mpr ⟨h, p⟩
    rw [e] at this
    simp at this
  · intro h
    apply Nat.eq_of_testBit_eq
    intro i
    rw [Nat.zero_testBit]
    cases hb : (mkN P n).testBit i with
    | false => rfl
    | true => obtain ⟨a, b⟩ := (mkN_bit P n i).mp hb; exact absurd b (h i a)
theorem mkN_congr {P Q : Int → Prop} (n : Nat) (h : ∀ k : Nat, k < n → (P k ↔ Q k)) : mkN P n = mkN Q n := by
  apply Nat.eq_of_testBit_eq
  intro i
  rw [Bool.eq_iff_iff, mkN_bit, mkN_bit]
  constructor
  · rintro ⟨a, b⟩; exact ⟨a, (h i a).mp b⟩
  · rintro ⟨a, b⟩; exact ⟨a, (h i a).mpr b⟩
/-- a mask and another one have a common bit -/
theorem mask_and {P Q : Int → Prop} {n : Int} (hn : 0 ≤ n ∧ n ≤ 10) : iAnd (mkN P n.toNat) (mkN Q n.toNat) = ((mkN (fun k => P k ∧ Q k) n.toNat : Nat) : Int) := by
  have h1 := mkN_lt P n.toNat
  have h2 := mkN_lt Q n.toNat
  have h3 := pow31 (n := n.toNat) (by omega)
  rw [iAnd_nat (by omega) (by omega), mkN_and]
theorem mask_0 {P : Int → Prop} {n : Int} : ((mkN P n.toNat : Nat) : Int) = 0 ↔ ¬ ∃ k, 0 ≤ k ∧ k < n ∧ P k := by
  constructor
  · rintro e ⟨k, h1, h2, h3⟩
    have hk : ((k.toNat : Nat) : Int) = k := by omega
    exact (mkN_0 (P := P) n.toNat).mp (by omega) k.toNat (by omega) (by rw [hk]; exact h3)
  · intro h
    have : mkN P n.toNat = 0 := (mkN_0 _).mpr fun k hk p => h ⟨k, by omega, by omega, p⟩
    omega
theorem mask_inR {P : Int → Prop} {n : Int} (hn : n ≤ 10) : inR ((mkN P n.toNat : Nat) : Int) := by
  have h1 := mkN_lt P n.toNat
  have h3 := pow31 (n := n.toNat) (by omega)
  constructor <;> omega
theorem mset_mset {M : Mem} {a : Nat} {i x y : Int} : mset (mset M a i x) a i y = mset M a i y := by
  funext b j
  simp only [mset]
  by_cases h : b = a ∧ j = i
  · rw [if_pos h, if_pos h]
  · rw [if_neg h, if_neg h, if_neg h]
theorem mset_at {M : Mem} {a : Nat} {i x : Int} : mset M a i x a i = x := by simp [mset]
theorem mset_ne {M : Mem} {a b : Nat} {i j x : Int} (h : ¬ (b = a ∧ j = i)) : mset M a i x b j = M b j := if_neg h
theorem mulb {a b n : Int} (h1 : 0 ≤ a) (h2 : a ≤ n) (h3 : 0 ≤ b) (h4 : b ≤ 11) : 0 ≤ a * b ∧ a * b ≤ 11 * n := by
  have : b = 0 ∨ b = 1 ∨ b = 2 ∨ b = 3 ∨ b = 4 ∨ b = 5 ∨ b = 6 ∨ b = 7 ∨ b = 8 ∨ b = 9 ∨ b = 10 ∨ b = 11 := by omega
  rcases this with rfl | rfl | rfl | rfl | rfl | rfl | rfl | rfl | rfl | rfl | rfl | rfl <;> omega
/-- an inner cell of a line is a cell -/
theorem line_bd {p q d i : Int} (hd : 0 < d) (hd2 : d ≤ 11) (h1 : 0 ≤ i) (h2 : i ≤ d) (hpq : -d ≤ q - p ∧ q - p ≤ d) : (p ≤ q → p ≤ p + (2 * (i * (q - p)) + d) / (2 * d) ∧ p + (2 * (i * (q - p)) + d) / (2 * d) ≤ q) ∧ (q ≤ p → q ≤ p + (2 * (i * (q - p)) + d) / (2 * d) ∧ p + (2 * (i * (q - p)) + d) / (2 * d) ≤ p) := by
  generalize hw : q - p = w at *
  have key : ∀ x : Int, (0 ≤ w → 0 ≤ x ∧ x ≤ d * w) ∧ (w ≤ 0 → d * w ≤ x ∧ x ≤ 0) → (0 ≤ w → 0 ≤ (2 * x + d) / (2 * d) ∧ (2 * x + d) / (2 * d) ≤ w) ∧ (w ≤ 0 → w ≤ (2 * x + d) / (2 * d) ∧ (2 * x + d) / (2 * d) ≤ 0) := by
    intro x hx
    have : d = 1 ∨ d = 2 ∨ d = 3 ∨ d = 4 ∨ d = 5 ∨ d = 6 ∨ d = 7 ∨ d = 8 ∨ d = 9 ∨ d = 10 ∨ d = 11 := by omega
    rcases this with rfl | rfl | rfl | rfl | rfl | rfl | rfl | rfl | rfl | rfl | rfl <;> omega
  have hx : (0 ≤ w → 0 ≤ i * w ∧ i * w ≤ d * w) ∧ (w ≤ 0 → d * w ≤ i * w ∧ i * w ≤ 0) := by
    refine ⟨fun h => ⟨Int.mul_nonneg h1 h, Int.mul_le_mul_of_nonneg_right h2 h⟩, fun h => ⟨Int.mul_le_mul_of_nonpos_right h2 h, ?_⟩⟩
    have := Int.mul_nonneg h1 (show 0 ≤ -w by omega)
    rw [Int.mul_neg] at this
    omega
  have := key (i * w) hx
  constructor <;> intro h <;> omega
theorem inner_cell {a b i : Int} (ha : 0 ≤ a ∧ a < 120) (hb : 0 ≤ b ∧ b < 120) (h1 : 1 ≤ i) (h2 : i < dist a b) : 0 ≤ inner a b (dist a b) i ∧ inner a b (dist a b) i < 120 := by
  have hd := dist_le ha hb
  have hc : -dist a b ≤ b % 12 - a % 12 ∧ b % 12 - a % 12 ≤ dist a b := by
    unfold dist imax iabs; split <;> split <;> split <;> omega
  have hr : -dist a b ≤ b / 12 - a / 12 ∧ b / 12 - a / 12 ≤ dist a b := by
    unfold dist imax iabs; split <;> split <;> split <;> omega
  generalize dist a b = d at *
  have c1 := line_bd (p := a % 12) (q := b % 12) (d := d) (i := i) (by omega) (by omega) (by omega) (by omega) hc
  have c2 := line_bd (p := a / 12) (q := b / 12) (d := d) (i := i) (by omega) (by omega) (by omega) (by omega) hr
  unfold inner
  generalize (a % 12 + (2 * (i * (b % 12 - a % 12)) + d) / (2 * d)) = x at *
  generalize (a / 12 + (2 * (i * (b / 12 - a / 12)) + d) / (2 * d)) = y at *
  have hx : 0 ≤ x ∧ x ≤ 11 := by
    by_cases q : a % 12 ≤ b % 12
    · have := c1.1 q; omega
    · have := c1.2 (by omega); omega
  have hy : 0 ≤ y ∧ y ≤ 9 := by
    by_cases q : a / 12 ≤ b / 12
    · have := c2.1 q; omega
    · have := c2.2 (by omega); omega
  omega
end
section
set_option maxHeartbeats 4000000 in
set_option maxRecDepth 100000 in
theorem c_scoutIn (M : Mem) (v : Vw) (hv : VA M v) (hS : SI v) (c : Int) (hc : inR c) : CX mX3_scoutIn 0 [.inr (some 1), .inl c] M (some (.inl (sIn v c))) M := by
  have n0 := hS.n0
  have n1 := hS.n1
  have n2 := hS.n2
  refine CX.of (by decide +kernel) (Nat.le_of_ble_eq_true rfl) [some (.inr (some 1)), some (.inl c), none] rfl ?_
  refine X.iconst dX3_scoutIn_0 ?_
  refine X.istore_n (lv2 := [some (.inr (some 1)), some (.inl c), some (.inl 0)]) dX3_scoutIn_1 (Nat.le_of_ble_eq_true rfl) rfl ?_
  have L2 : ∀ k, 0 ≤ k → k ≤ (v 0 0) → VX mX3_scoutIn 0 2 [some (.inr (some 1)), some (.inl c), some (.inl k)] [] M (some (.inl (fst1 (fun k => v 4 k = c) (v 0 0 - k).toNat k))) M := by
    refine down_ind 0 (v 0 0) ?_ ?_
    · skip
      refine X.iload_n dX3_scoutIn_2 rfl ?_
      refine X.aload_n dX3_scoutIn_3 rfl ?_
      refine X.getI (v := v 0 0) 2 dX3_scoutIn_4 fi_X3_18 sh_1 rfl (rd_0_0 hv) ?_
      refine X.icmp_ge (tgt := 28) dX3_scoutIn_7 (by decide) ⟨by omega, by omega⟩ ⟨by omega, by omega⟩ (fun h1 => ?_) (fun h => by exfalso; omega)
      refine X.bipush dX3_scoutIn_28 (by decide) ?_
      exact X.iret dX3_scoutIn_30 rfl (by rw [fst1_end]) rfl
    · intro k hk1 hk2 ihk
      refine X.iload_n dX3_scoutIn_2 rfl ?_
      refine X.aload_n dX3_scoutIn_3 rfl ?_
      refine X.getI (v := v 0 0) 2 dX3_scoutIn_4 fi_X3_18 sh_1 rfl (rd_0_0 hv) ?_
      refine X.icmp_ge (tgt := 28) dX3_scoutIn_7 (by decide) ⟨by omega, by omega⟩ ⟨by omega, by omega⟩ (fun h => by exfalso; omega) (fun h2 => ?_)
      refine X.aload_n dX3_scoutIn_10 rfl ?_
      refine X.getR dX3_scoutIn_11 fi_X3_25 sh_1 rfl ?_
      refine X.iload_n dX3_scoutIn_14 rfl ?_
      have q3 := SI.r4 hS k
      refine X.iald (v := v 4 k) dX3_scoutIn_15 sh_5 (by decide) (by omega) (rd_4 hv (by omega)) ?_
      refine X.iload_n dX3_scoutIn_16 rfl ?_
      refine X.icmp_ne (tgt := 22) dX3_scoutIn_17 (by decide) ⟨by omega, by omega⟩ hc (fun h17 => ?_) (fun h17 => ?_)
      · skip
        refine X.iinc (y := k + 1) (lv2 := [some (.inr (some 1)), some (.inl c), some (.inl (k + 1))]) dX3_scoutIn_22 rfl rfl rfl ?_
        refine X.goto (tgt := 2) dX3_scoutIn_25 (by decide) ?_
        rw [fst1_f hk2 h17]
        exact ihk
      · skip
        refine X.iload_n dX3_scoutIn_20 rfl ?_
        exact X.iret dX3_scoutIn_21 rfl (by rw [fst1_t hk2 h17]) rfl
  have e := L2 0 (by omega) (by omega)
  rw [Int.sub_zero] at e
  exact e
set_option maxHeartbeats 4000000 in
set_option maxRecDepth 100000 in
theorem c_isFree (M : Mem) (v : Vw) (hv : VA M v) (hS : SI v) (c : Int) (hc : 0 ≤ c ∧ c < 120) : CX mX3_isFree 1 [.inr (some 1), .inl c] M (some (.inl (bi (v 2 c = 0 ∧ sIn v c = -19)))) M := by
  have n0 := hS.n0
  have n1 := hS.n1
  have n2 := hS.n2
  have hi := sIn_range hS c
  refine CX.of (by decide +kernel) (Nat.le_of_ble_eq_true rfl) [some (.inr (some 1)), some (.inl c)] rfl ?_
  refine X.aload_n dX3_isFree_0 rfl ?_
  refine X.getR dX3_isFree_1 fi_X3_15 sh_1 rfl ?_
  refine X.iload_n dX3_isFree_4 rfl ?_
  have q1 := SI.r2 hS c
  refine X.iald (v := v 2 c) dX3_isFree_5 sh_3 (by decide) (by omega) (rd_2 hv (by omega)) ?_
  refine X.if_ne (tgt := 23) dX3_isFree_6 (by decide) ⟨by omega, by omega⟩ (fun h2 => ?_) (fun h2 => ?_)
  · skip
    refine X.iconst dX3_isFree_23 ?_
    exact X.zret dX3_isFree_24 rfl (by decide) (by rw [bi_f (by omega)]) rfl
  · skip
    refine X.aload_n dX3_isFree_9 rfl ?_
    refine X.iload_n dX3_isFree_10 rfl ?_
    refine X.callV1 (As := [.inl c]) (rest := []) dX3_isFree_11 mk_X3_64 sh_1 (c_scoutIn M v hv hS c ⟨by omega, by omega⟩) rfl (by decide) rfl (Nat.le_of_ble_eq_true rfl) ?_
    refine X.bipush dX3_isFree_14 (by decide) ?_
    refine X.icmp_ne (tgt := 23) dX3_isFree_16 (by decide) ⟨by omega, by omega⟩ (by decide) (fun h3 => ?_) (fun h3 => ?_)
    · skip
      refine X.iconst dX3_isFree_23 ?_
      exact X.zret dX3_isFree_24 rfl (by decide) (by rw [bi_f (by omega)]) rfl
    · skip
      refine X.iconst dX3_isFree_19 ?_
      refine X.goto (tgt := 24) dX3_isFree_20 (by decide) ?_
      exact X.zret dX3_isFree_24 rfl (by decide) (by rw [bi_t (by omega)]) rfl
set_option maxHeartbeats 4000000 in
set_option maxRecDepth 100000 in
theorem c_scoutsOf (M : Mem) (v : Vw) (hv : VA M v) (hS : SI v) (s : Int) (hs : inR s) : CX mX3_scoutsOf 1 [.inr (some 1), .inl s] M (some (.inl ((mkN (fun k => v 3 k = s) (v 0 0).toNat : Nat) : Int))) M := by
  have n0 := hS.n0
  have n1 := hS.n1
  have n2 := hS.n2
  refine CX.of (by decide +kernel) (Nat.le_of_ble_eq_true rfl) [some (.inr (some 1)), some (.inl s), none, none] rfl ?_
  refine X.iconst dX3_scoutsOf_0 ?_
  refine X.istore_n (lv2 := [some (.inr (some 1)), some (.inl s), some (.inl 0), none]) dX3_scoutsOf_1 (Nat.le_of_ble_eq_true rfl) rfl ?_
  refine X.iconst dX3_scoutsOf_2 ?_
  refine X.istore_n (lv2 := [some (.inr (some 1)), some (.inl s), some (.inl 0), some (.inl 0)]) dX3_scoutsOf_3 (Nat.le_of_ble_eq_true rfl) rfl ?_
  have L4 : ∀ k, 0 ≤ k → k ≤ (v 0 0) → VX mX3_scoutsOf 1 4 [some (.inr (some 1)), some (.inl s), some (.inl ((mkN (fun k => v 3 k = s) k.toNat : Nat) : Int)), some (.inl k)] [] M (some (.inl ((mkN (fun k => v 3 k = s) (v 0 0).toNat : Nat) : Int))) M := by
    refine down_ind 0 (v 0 0) ?_ ?_
    · skip
      refine X.iload_n dX3_scoutsOf_4 rfl ?_
      refine X.aload_n dX3_scoutsOf_5 rfl ?_
      refine X.getI (v := v 0 0) 2 dX3_scoutsOf_6 fi_X3_18 sh_1 rfl (rd_0_0 hv) ?_
      refine X.icmp_ge (tgt := 35) dX3_scoutsOf_9 (by decide) ⟨by omega, by omega⟩ ⟨by omega, by omega⟩ (fun h1 => ?_) (fun h => by exfalso; omega)
      refine X.iload_n dX3_scoutsOf_35 rfl ?_
      exact X.iret dX3_scoutsOf_36 rfl rfl rfl
    · intro k hk1 hk2 ihk
      refine X.iload_n dX3_scoutsOf_4 rfl ?_
      refine X.aload_n dX3_scoutsOf_5 rfl ?_
      refine X.getI (v := v 0 0) 2 dX3_scoutsOf_6 fi_X3_18 sh_1 rfl (rd_0_0 hv) ?_
      refine X.icmp_ge (tgt := 35) dX3_scoutsOf_9 (by decide) ⟨by omega, by omega⟩ ⟨by omega, by omega⟩ (fun h => by exfalso; omega) (fun h2 => ?_)
      refine X.aload_n dX3_scoutsOf_12 rfl ?_
      refine X.getR dX3_scoutsOf_13 fi_X3_22 sh_1 rfl ?_
      refine X.iload_n dX3_scoutsOf_16 rfl ?_
      have q3 := SI.r3 hS k
      refine X.iald (v := v 3 k) dX3_scoutsOf_17 sh_4 (by decide) (by omega) (rd_3 hv (by omega)) ?_
      refine X.iload_n dX3_scoutsOf_18 rfl ?_
      refine X.icmp_ne (tgt := 29) dX3_scoutsOf_19 (by decide) ⟨by omega, by omega⟩ hs (fun h19 => ?_) (fun h19 => ?_)
      · skip
        refine X.iinc (y := k + 1) (lv2 := [some (.inr (some 1)), some (.inl s), some (.inl ((mkN (fun k => v 3 k = s) k.toNat : Nat) : Int)), some (.inl (k + 1))]) dX3_scoutsOf_29 rfl rfl rfl ?_
        refine X.goto (tgt := 4) dX3_scoutsOf_32 (by decide) ?_
        rw [mkN_no (P := fun k => v 3 k = s) (by omega) h19] at ihk
        exact ihk
      · skip
        refine X.iload_n dX3_scoutsOf_22 rfl ?_
        refine X.iload_n dX3_scoutsOf_23 rfl ?_
        refine X.callN1 (As := [.inl k]) (rest := [.inl ((mkN (fun k => v 3 k = s) k.toNat : Nat) : Int)]) dX3_scoutsOf_24 mk_X3_68 (c_bitOf M k) rfl (by decide) rfl (Nat.le_of_ble_eq_true rfl) ?_
        refine X.ior (c := ((mkN (fun k => v 3 k = s) (k + 1).toNat : Nat) : Int)) dX3_scoutsOf_27 (mkN_or (P := fun k => v 3 k = s) (by omega) h19) ?_
        refine X.istore_n (lv2 := [some (.inr (some 1)), some (.inl s), some (.inl ((mkN (fun k => v 3 k = s) (k + 1).toNat : Nat) : Int)), some (.inl k)]) dX3_scoutsOf_28 (Nat.le_of_ble_eq_true rfl) rfl ?_
        refine X.iinc (y := k + 1) (lv2 := [some (.inr (some 1)), some (.inl s), some (.inl ((mkN (fun k => v 3 k = s) (k + 1).toNat : Nat) : Int)), some (.inl (k + 1))]) dX3_scoutsOf_29 rfl rfl rfl ?_
        refine X.goto (tgt := 4) dX3_scoutsOf_32 (by decide) ?_
        exact ihk
  exact L4 0 (by omega) (by omega)
set_option maxHeartbeats 4000000 in
set_option maxRecDepth 100000 in
theorem c_countBurning (M : Mem) (v : Vw) (hv : VA M v) (hS : SI v) : CX mX3_countBurning 0 [.inr (some 1)] M (some (.inl (cnt (fun k => 0 < v 8 k) (v 0 1).toNat 0))) M := by
  have n0 := hS.n0
  have n1 := hS.n1
  have n2 := hS.n2
  refine CX.of (by decide +kernel) (Nat.le_of_ble_eq_true rfl) [some (.inr (some 1)), none, none] rfl ?_
  refine X.iconst dX3_countBurning_0 ?_
  refine X.istore_n (lv2 := [some (.inr (some 1)), some (.inl 0), none]) dX3_countBurning_1 (Nat.le_of_ble_eq_true rfl) rfl ?_
  refine X.iconst dX3_countBurning_2 ?_
  refine X.istore_n (lv2 := [some (.inr (some 1)), some (.inl 0), some (.inl 0)]) dX3_countBurning_3 (Nat.le_of_ble_eq_true rfl) rfl ?_
  have L4 : ∀ k, 0 ≤ k → k ≤ (v 0 1) → ∀ acc : Int, VX mX3_countBurning 0 4 [some (.inr (some 1)), some (.inl acc), some (.inl k)] [] M (some (.inl (acc + cnt (fun k => 0 < v 8 k) (v 0 1 - k).toNat k))) M := by
    refine down_ind 0 (v 0 1) ?_ ?_
    · skip
      intro acc
      refine X.iload_n dX3_countBurning_4 rfl ?_
      refine X.aload_n dX3_countBurning_5 rfl ?_
      refine X.getI (v := v 0 1) 6 dX3_countBurning_6 fi_X3_31 sh_1 rfl (rd_0_1 hv) ?_
      refine X.icmp_ge (tgt := 30) dX3_countBurning_9 (by decide) ⟨by omega, by omega⟩ ⟨by omega, by omega⟩ (fun h1 => ?_) (fun h => by exfalso; omega)
      refine X.iload_n dX3_countBurning_30 rfl ?_
      exact X.iret dX3_countBurning_31 rfl (by rw [cnt_end, Int.add_zero]) rfl
    · intro k hk1 hk2 ihk
      intro acc
      refine X.iload_n dX3_countBurning_4 rfl ?_
      refine X.aload_n dX3_countBurning_5 rfl ?_
      refine X.getI (v := v 0 1) 6 dX3_countBurning_6 fi_X3_31 sh_1 rfl (rd_0_1 hv) ?_
      refine X.icmp_ge (tgt := 30) dX3_countBurning_9 (by decide) ⟨by omega, by omega⟩ ⟨by omega, by omega⟩ (fun h => by exfalso; omega) (fun h2 => ?_)
      refine X.aload_n dX3_countBurning_12 rfl ?_
      refine X.getR dX3_countBurning_13 fi_X3_40 sh_1 rfl ?_
      refine X.iload_n dX3_countBurning_16 rfl ?_
      have q3 := SI.r8 hS k
      refine X.iald (v := v 8 k) dX3_countBurning_17 sh_9 (by decide) (by omega) (rd_8 hv (by omega)) ?_
      refine X.if_le (tgt := 24) dX3_countBurning_18 (by decide) ⟨by omega, by omega⟩ (fun h18 => ?_) (fun h18 => ?_)
      · skip
        have h18 : ¬ 0 < v 8 k := by omega
        refine X.iinc (y := k + 1) (lv2 := [some (.inr (some 1)), some (.inl acc), some (.inl (k + 1))]) dX3_countBurning_24 rfl rfl rfl ?_
        refine X.goto (tgt := 4) dX3_countBurning_27 (by decide) ?_
        rw [cnt_step _ _ _ hk2, bi_f h18, Int.zero_add]
        exact ihk acc
      · skip
        refine X.iinc (y := acc + 1) (lv2 := [some (.inr (some 1)), some (.inl (acc + 1)), some (.inl k)]) dX3_countBurning_21 rfl rfl rfl ?_
        refine X.iinc (y := k + 1) (lv2 := [some (.inr (some 1)), some (.inl (acc + 1)), some (.inl (k + 1))]) dX3_countBurning_24 rfl rfl rfl ?_
        refine X.goto (tgt := 4) dX3_countBurning_27 (by decide) ?_
        rw [cnt_step _ _ _ hk2, bi_t h18, ← Int.add_assoc]
        exact ihk (acc + 1)
  have e := L4 0 (by omega) (by omega) 0
  rw [Int.zero_add, Int.sub_zero] at e
  exact e
set_option maxHeartbeats 4000000 in
set_option maxRecDepth 100000 in
theorem c_isLit (M : Mem) (v : Vw) (hv : VA M v) (hS : SI v) (c : Int) (hc : 0 ≤ c ∧ c < 120) : CX mX3_isLit 2 [.inr (some 1), .inl c] M (some (.inl (bi (lit v c)))) M := by
  have n0 := hS.n0
  have n1 := hS.n1
  have n2 := hS.n2
  refine CX.of (by decide +kernel) (Nat.le_of_ble_eq_true rfl) [some (.inr (some 1)), some (.inl c), none] rfl ?_
  refine X.iconst dX3_isLit_0 ?_
  refine X.istore_n (lv2 := [some (.inr (some 1)), some (.inl c), some (.inl 0)]) dX3_isLit_1 (Nat.le_of_ble_eq_true rfl) rfl ?_
  have L2 : ∀ k, 0 ≤ k → k ≤ (v 0 1) → VX mX3_isLit 2 2 [some (.inr (some 1)), some (.inl c), some (.inl k)] [] M (some (.inl (bi (exU (fun k => 0 < v 8 k ∧ dist (v 6 k) c ≤ v 7 k) k (v 0 1))))) M := by
    refine down_ind 0 (v 0 1) ?_ ?_
    · skip
      refine X.iload_n dX3_isLit_2 rfl ?_
      refine X.aload_n dX3_isLit_3 rfl ?_
      refine X.getI (v := v 0 1) 6 dX3_isLit_4 fi_X3_31 sh_1 rfl (rd_0_1 hv) ?_
      refine X.icmp_ge (tgt := 46) dX3_isLit_7 (by decide) ⟨by omega, by omega⟩ ⟨by omega, by omega⟩ (fun h1 => ?_) (fun h => by exfalso; omega)
      refine X.iconst dX3_isLit_46 ?_
      exact X.zret dX3_isLit_47 rfl (by decide) (by rw [bi_f (exU_end (Int.le_refl _))]) rfl
    · intro k hk1 hk2 ihk
      refine X.iload_n dX3_isLit_2 rfl ?_
      refine X.aload_n dX3_isLit_3 rfl ?_
      refine X.getI (v := v 0 1) 6 dX3_isLit_4 fi_X3_31 sh_1 rfl (rd_0_1 hv) ?_
      refine X.icmp_ge (tgt := 46) dX3_isLit_7 (by decide) ⟨by omega, by omega⟩ ⟨by omega, by omega⟩ (fun h => by exfalso; omega) (fun h2 => ?_)
      refine X.aload_n dX3_isLit_10 rfl ?_
      refine X.getR dX3_isLit_11 fi_X3_40 sh_1 rfl ?_
      refine X.iload_n dX3_isLit_14 rfl ?_
      have q3 := SI.r8 hS k
      refine X.iald (v := v 8 k) dX3_isLit_15 sh_9 (by decide) (by omega) (rd_8 hv (by omega)) ?_
      refine X.if_le (tgt := 40) dX3_isLit_16 (by decide) ⟨by omega, by omega⟩ (fun h4 => ?_) (fun h4 => ?_)
      · skip
        refine X.iinc (y := k + 1) (lv2 := [some (.inr (some 1)), some (.inl c), some (.inl (k + 1))]) dX3_isLit_40 rfl rfl rfl ?_
        refine X.goto (tgt := 2) dX3_isLit_43 (by decide) ?_
        rw [exU_f (by omega)]
        exact ihk
      · skip
        refine X.aload_n dX3_isLit_19 rfl ?_
        refine X.getR dX3_isLit_20 fi_X3_34 sh_1 rfl ?_
        refine X.iload_n dX3_isLit_23 rfl ?_
        have q5 := SI.r6 hS k
        refine X.iald (v := v 6 k) dX3_isLit_24 sh_7 (by decide) (by omega) (rd_6 hv (by omega)) ?_
        refine X.iload_n dX3_isLit_25 rfl ?_
        have hd := dist_le (hS.r6 k) hc
        refine X.callN1 (As := [.inl (v 6 k), .inl c]) (rest := []) dX3_isLit_26 mk_X3_79 (c_distanceOf M (v 6 k) c (by omega) (by omega)) rfl (by decide) rfl (Nat.le_of_ble_eq_true rfl) ?_
        refine X.aload_n dX3_isLit_29 rfl ?_
        refine X.getR dX3_isLit_30 fi_X3_37 sh_1 rfl ?_
        refine X.iload_n dX3_isLit_33 rfl ?_
        have q6 := SI.r7 hS k
        refine X.iald (v := v 7 k) dX3_isLit_34 sh_8 (by decide) (by omega) (rd_7 hv (by omega)) ?_
        refine X.icmp_gt (tgt := 40) dX3_isLit_35 (by decide) ⟨by omega, by omega⟩ ⟨by omega, by omega⟩ (fun h7 => ?_) (fun h7 => ?_)
        · skip
          refine X.iinc (y := k + 1) (lv2 := [some (.inr (some 1)), some (.inl c), some (.inl (k + 1))]) dX3_isLit_40 rfl rfl rfl ?_
          refine X.goto (tgt := 2) dX3_isLit_43 (by decide) ?_
          rw [exU_f (by omega)]
          exact ihk
        · skip
          refine X.iconst dX3_isLit_38 ?_
          exact X.zret dX3_isLit_39 rfl (by decide) (by rw [bi_t (exU_t hk2 ⟨by omega, by omega⟩)]) rfl
  exact L2 0 (by omega) (by omega)
set_option maxHeartbeats 4000000 in
set_option maxRecDepth 100000 in
theorem c_isViewFree (M : Mem) (v : Vw) (hv : VA M v) (hS : SI v) (a b : Int) (ha : 0 ≤ a ∧ a < 120) (hb : 0 ≤ b ∧ b < 120) : CX mX2_isViewFree 3 [.inr (some 1), .inl a, .inl b] M (some (.inl (bi (free v a b)))) M := by
  have n0 := hS.n0
  have n1 := hS.n1
  have n2 := hS.n2
  have hd := dist_le ha hb
  refine CX.of (by decide +kernel) (Nat.le_of_ble_eq_true rfl) [some (.inr (some 1)), some (.inl a), some (.inl b), none, none, none, none, none, none, none] rfl ?_
  refine X.iload_n dX2_isViewFree_0 rfl ?_
  refine X.iload_n dX2_isViewFree_1 rfl ?_
  refine X.callN1 (As := [.inl a, .inl b]) (rest := []) dX2_isViewFree_2 mk_X2_42 (c_distanceOf M a b (by omega) (by omega)) rfl (by decide) rfl (Nat.le_of_ble_eq_true rfl) ?_
  refine X.istore_n (lv2 := [some (.inr (some 1)), some (.inl a), some (.inl b), some (.inl (dist a b)), none, none, none, none, none, none]) dX2_isViewFree_5 (Nat.le_of_ble_eq_true rfl) rfl ?_
  refine X.iconst dX2_isViewFree_6 ?_
  refine X.aload_n dX2_isViewFree_7 rfl ?_
  refine X.getR dX2_isViewFree_8 fi_X2_54 sh_1 rfl ?_
  refine X.iload_n dX2_isViewFree_11 rfl ?_
  have q1 := SI.r1 hS a
  refine X.iald (v := v 1 a) dX2_isViewFree_12 sh_2 (by decide) (by omega) (rd_1 hv (by omega)) ?_
  refine X.imul (c := 2 * (v 1 a)) dX2_isViewFree_13 rfl ?_
  refine X.iconst dX2_isViewFree_14 ?_
  refine X.iadd (c := (2 * (v 1 a)) + 1) dX2_isViewFree_15 rfl ?_
  refine X.istore (lv2 := [some (.inr (some 1)), some (.inl a), some (.inl b), some (.inl (dist a b)), some (.inl ((2 * (v 1 a)) + 1)), none, none, none, none, none]) dX2_isViewFree_16 (Nat.le_of_ble_eq_true rfl) rfl ?_
  refine X.iconst dX2_isViewFree_18 ?_
  refine X.aload_n dX2_isViewFree_19 rfl ?_
  refine X.getR dX2_isViewFree_20 fi_X2_54 sh_1 rfl ?_
  refine X.iload_n dX2_isViewFree_23 rfl ?_
  have q2 := SI.r1 hS b
  refine X.iald (v := v 1 b) dX2_isViewFree_24 sh_2 (by decide) (by omega) (rd_1 hv (by omega)) ?_
  refine X.imul (c := 2 * (v 1 b)) dX2_isViewFree_25 rfl ?_
  refine X.iconst dX2_isViewFree_26 ?_
  refine X.iadd (c := (2 * (v 1 b)) + 1) dX2_isViewFree_27 rfl ?_
  refine X.istore (lv2 := [some (.inr (some 1)), some (.inl a), some (.inl b), some (.inl (dist a b)), some (.inl ((2 * (v 1 a)) + 1)), some (.inl ((2 * (v 1 b)) + 1)), none, none, none, none]) dX2_isViewFree_28 (Nat.le_of_ble_eq_true rfl) rfl ?_
  refine X.iconst dX2_isViewFree_30 ?_
  refine X.istore (lv2 := [some (.inr (some 1)), some (.inl a), some (.inl b), some (.inl (dist a b)), some (.inl ((2 * (v 1 a)) + 1)), some (.inl ((2 * (v 1 b)) + 1)), some (.inl 1), none, none, none]) dX2_isViewFree_31 (Nat.le_of_ble_eq_true rfl) rfl ?_
  have L33 : ∀ i, 1 ≤ i → i ≤ (imax 1 (dist a b)) → ∀ x7 : Option AV, ∀ x8 : Option AV, ∀ x9 : Option AV, VX mX2_isViewFree 3 33 [some (.inr (some 1)), some (.inl a), some (.inl b), some (.inl (dist a b)), some (.inl ((2 * v 1 a) + 1)), some (.inl ((2 * v 1 b) + 1)), some (.inl i), x7, x8, x9] [] M (some (.inl (bi (allU (okAt v a b) i (dist a b))))) M := by
    refine down_ind 1 (imax 1 (dist a b)) ?_ ?_
    · skip
      intro x7 x8 x9
      have hm := imax_r (a := 1) (b := dist a b)
      refine X.iload dX2_isViewFree_33 rfl ?_
      refine X.iload_n dX2_isViewFree_35 rfl ?_
      refine X.icmp_ge (tgt := 103) dX2_isViewFree_36 (by decide) ⟨by omega, by omega⟩ ⟨by omega, by omega⟩ (fun h3 => ?_) (fun h => by exfalso; omega)
      refine X.iconst dX2_isViewFree_103 ?_
      exact X.zret dX2_isViewFree_104 rfl (by decide) (by rw [bi_t (allU_end (by omega))]) rfl
    · intro i hi1 hi2 ihi
      intro x7 x8 x9
      have hm := imax_r (a := 1) (b := dist a b)
      have hid : i < dist a b := by omega
      have hic := inner_cell ha hb hi1 hid
      refine X.iload dX2_isViewFree_33 rfl ?_
      refine X.iload_n dX2_isViewFree_35 rfl ?_
      refine X.icmp_ge (tgt := 103) dX2_isViewFree_36 (by decide) ⟨by omega, by omega⟩ ⟨by omega, by omega⟩ (fun h => by exfalso; omega) (fun h4 => ?_)
      refine X.iload_n dX2_isViewFree_39 rfl ?_
      refine X.iload_n dX2_isViewFree_40 rfl ?_
      refine X.iload_n dX2_isViewFree_41 rfl ?_
      refine X.iload dX2_isViewFree_42 rfl ?_
      refine X.callS1 (As := [.inl a, .inl b, .inl (dist a b), .inl i]) (rest := []) dX2_isViewFree_44 mk_X2_57 (c_innerCell M a b (dist a b) i (by omega) (by omega) (by omega) (by omega)) rfl (by decide) rfl (Nat.le_of_ble_eq_true rfl) ?_
      refine X.istore (lv2 := [some (.inr (some 1)), some (.inl a), some (.inl b), some (.inl (dist a b)), some (.inl ((2 * v 1 a) + 1)), some (.inl ((2 * v 1 b) + 1)), some (.inl i), some (.inl (inner a b (dist a b) i)), x8, x9]) dX2_isViewFree_47 (Nat.le_of_ble_eq_true rfl) rfl ?_
      refine X.iconst dX2_isViewFree_49 ?_
      refine X.aload_n dX2_isViewFree_50 rfl ?_
      refine X.getR dX2_isViewFree_51 fi_X2_54 sh_1 rfl ?_
      refine X.iload dX2_isViewFree_54 rfl ?_
      have q5 := SI.r1 hS (inner a b (dist a b) i)
      refine X.iald (v := v 1 (inner a b (dist a b) i)) dX2_isViewFree_56 sh_2 (by decide) (by omega) (rd_1 hv (by omega)) ?_
      refine X.imul (c := 2 * (v 1 (inner a b (dist a b) i))) dX2_isViewFree_57 rfl ?_
      refine X.bipush dX2_isViewFree_58 (by decide) ?_
      refine X.aload_n dX2_isViewFree_60 rfl ?_
      refine X.getR dX2_isViewFree_61 fi_X2_61 sh_1 rfl ?_
      refine X.iload dX2_isViewFree_64 rfl ?_
      have q6 := SI.r2 hS (inner a b (dist a b) i)
      refine X.iald (v := v 2 (inner a b (dist a b) i)) dX2_isViewFree_66 sh_3 (by decide) (by omega) (rd_2 hv (by omega)) ?_
      refine X.imul (c := 100 * (v 2 (inner a b (dist a b) i))) dX2_isViewFree_67 rfl ?_
      refine X.iadd (c := (2 * (v 1 (inner a b (dist a b) i))) + (100 * (v 2 (inner a b (dist a b) i)))) dX2_isViewFree_68 rfl ?_
      refine X.istore (lv2 := [some (.inr (some 1)), some (.inl a), some (.inl b), some (.inl (dist a b)), some (.inl ((2 * v 1 a) + 1)), some (.inl ((2 * v 1 b) + 1)), some (.inl i), some (.inl (inner a b (dist a b) i)), some (.inl ((2 * (v 1 (inner a b (dist a b) i))) + (100 * (v 2 (inner a b (dist a b) i))))), x9]) dX2_isViewFree_69 (Nat.le_of_ble_eq_true rfl) rfl ?_
      refine X.iload dX2_isViewFree_71 rfl ?_
      refine X.iload_n dX2_isViewFree_73 rfl ?_
      refine X.iload dX2_isViewFree_74 rfl ?_
      refine X.isub (c := (dist a b) - i) dX2_isViewFree_76 rfl ?_
      have hA := hS.r1 a
      have hB := hS.r1 b
      have m1 := mulb (a := 2 * v 1 a + 1) (b := dist a b - i) (n := 19) (by omega) (by omega) (by omega) (by omega)
      have m2 := mulb (a := 2 * v 1 b + 1) (b := i) (n := 19) (by omega) (by omega) (by omega) (by omega)
      refine X.imul (c := ((2 * v 1 a) + 1) * ((dist a b) - i)) dX2_isViewFree_77 rfl ?_
      refine X.iload dX2_isViewFree_78 rfl ?_
      refine X.iload dX2_isViewFree_80 rfl ?_
      refine X.imul (c := ((2 * v 1 b) + 1) * i) dX2_isViewFree_82 rfl ?_
      refine X.iadd (c := (((2 * v 1 a) + 1) * ((dist a b) - i)) + (((2 * v 1 b) + 1) * i)) dX2_isViewFree_83 rfl ?_
      refine X.iload_n dX2_isViewFree_84 rfl ?_
      refine X.idiv (c := ((2 * v 1 a + 1) * (dist a b - i) + (2 * v 1 b + 1) * i) / dist a b) dX2_isViewFree_85 ⟨by omega, by omega⟩ ⟨by omega, by omega⟩ rfl ?_
      refine X.istore (lv2 := [some (.inr (some 1)), some (.inl a), some (.inl b), some (.inl (dist a b)), some (.inl ((2 * v 1 a) + 1)), some (.inl ((2 * v 1 b) + 1)), some (.inl i), some (.inl (inner a b (dist a b) i)), some (.inl ((2 * (v 1 (inner a b (dist a b) i))) + (100 * (v 2 (inner a b (dist a b) i))))), some (.inl (((2 * v 1 a + 1) * (dist a b - i) + (2 * v 1 b + 1) * i) / dist a b))]) dX2_isViewFree_86 (Nat.le_of_ble_eq_true rfl) rfl ?_
      refine X.iload dX2_isViewFree_88 rfl ?_
      refine X.iload dX2_isViewFree_90 rfl ?_
      have hq := Int.ediv_nonneg (a := (2 * v 1 a + 1) * (dist a b - i) + (2 * v 1 b + 1) * i) (b := dist a b) (by omega) (by omega)
      have hq2 := Int.ediv_le_self (dist a b) (a := (2 * v 1 a + 1) * (dist a b - i) + (2 * v 1 b + 1) * i) (by omega)
      have hq3 := hS.r1 (inner a b (dist a b) i)
      have hq4 := hS.r2 (inner a b (dist a b) i)
      refine X.icmp_le (tgt := 97) dX2_isViewFree_92 (by decide) ⟨by omega, by omega⟩ ⟨by omega, by omega⟩ (fun h92 => ?_) (fun h92 => ?_)
      · skip
        refine X.iinc (y := i + 1) (lv2 := [some (.inr (some 1)), some (.inl a), some (.inl b), some (.inl (dist a b)), some (.inl ((2 * v 1 a) + 1)), some (.inl ((2 * v 1 b) + 1)), some (.inl (i + 1)), some (.inl (inner a b (dist a b) i)), some (.inl ((2 * (v 1 (inner a b (dist a b) i))) + (100 * (v 2 (inner a b (dist a b) i))))), some (.inl (((2 * v 1 a + 1) * (dist a b - i) + (2 * v 1 b + 1) * i) / dist a b))]) dX2_isViewFree_97 rfl rfl rfl ?_
        refine X.goto (tgt := 33) dX2_isViewFree_100 (by decide) ?_
        rw [allU_t (show okAt v a b i from h92)]
        exact ihi (some (.inl (inner a b (dist a b) i))) (some (.inl ((2 * (v 1 (inner a b (dist a b) i))) + (100 * (v 2 (inner a b (dist a b) i)))))) (some (.inl (((2 * v 1 a + 1) * (dist a b - i) + (2 * v 1 b + 1) * i) / dist a b)))
      · skip
        refine X.iconst dX2_isViewFree_95 ?_
        exact X.zret dX2_isViewFree_96 rfl (by decide) (by rw [bi_f (allU_f hid (by unfold okAt; omega))]) rfl
  exact L33 1 (by omega) (imax_r).1 none none none
set_option maxHeartbeats 4000000 in
set_option maxRecDepth 100000 in
theorem c_canSee (M : Mem) (v : Vw) (hv : VA M v) (hS : SI v) (a r c : Int) (ha : 0 ≤ a ∧ a < 120) (hr : 0 ≤ r ∧ r ≤ 8) (hc : 0 ≤ c ∧ c < 120) (hl : M 22 c = bi (lit v c)) : CX mX2_canSee 4 [.inr (some 21), .inr (some 1), .inl a, .inl r, .inl c] M (some (.inl (bi (see v a r c)))) M := by
  have n0 := hS.n0
  have n1 := hS.n1
  have n2 := hS.n2
  have hd := dist_le ha hc
  refine CX.of (by decide +kernel) (Nat.le_of_ble_eq_true rfl) [some (.inr (some 21)), some (.inr (some 1)), some (.inl a), some (.inl r), some (.inl c), none] rfl ?_
  by_cases hli : lit v c
  · skip
    refine X.aload_n dX2_canSee_0 rfl ?_
    refine X.getR dX2_canSee_1 fi_X2_9 sh_21 rfl ?_
    refine X.iload dX2_canSee_4 rfl ?_
    refine X.iald (v := 1) dX2_canSee_6 sh_22 (by decide) (by omega) (hl.trans (bi_t hli)) ?_
    refine X.iconst dX2_canSee_7 ?_
    refine X.icmp_ne (tgt := 17) dX2_canSee_8 (by decide) (by decide) (by decide) (fun h => absurd h (by decide)) (fun h1 => ?_)
    refine X.iconst dX2_canSee_11 ?_
    refine X.iload_n dX2_canSee_12 rfl ?_
    refine X.imul (c := 2 * r) dX2_canSee_13 rfl ?_
    refine X.goto (tgt := 18) dX2_canSee_14 (by decide) ?_
    refine X.istore (lv2 := [some (.inr (some 21)), some (.inr (some 1)), some (.inl a), some (.inl r), some (.inl c), some (.inl (2 * r))]) dX2_canSee_18 (Nat.le_of_ble_eq_true rfl) rfl ?_
    refine X.iload_n dX2_canSee_20 rfl ?_
    refine X.iload dX2_canSee_21 rfl ?_
    refine X.callN1 (As := [.inl a, .inl c]) (rest := []) dX2_canSee_23 mk_X2_42 (c_distanceOf M a c (by omega) (by omega)) rfl (by decide) rfl (Nat.le_of_ble_eq_true rfl) ?_
    refine X.iload dX2_canSee_26 rfl ?_
    refine X.icmp_gt (tgt := 45) dX2_canSee_28 (by decide) ⟨by omega, by omega⟩ ⟨by omega, by omega⟩ (fun h2 => ?_) (fun h2 => ?_)
    · skip
      refine X.iconst dX2_canSee_45 ?_
      exact X.zret dX2_canSee_46 rfl (by decide) (by rw [bi_f (fun q : see v a r c => by rcases q.1 with q1 | ⟨q1, q2⟩ <;> first | exact hli q2 | omega)]) rfl
    · skip
      refine X.aload_n dX2_canSee_31 rfl ?_
      refine X.iload_n dX2_canSee_32 rfl ?_
      refine X.iload dX2_canSee_33 rfl ?_
      by_cases pf : free v a c
      · skip
        refine X.callS1 (As := [.inr (some 1), .inl a, .inl c]) (rest := []) dX2_canSee_35 mk_X2_46 (CX.bt (c_isViewFree M v hv hS a c (by omega) (by omega)) pf) rfl (by decide) rfl (Nat.le_of_ble_eq_true rfl) ?_
        refine X.if_eq (tgt := 45) dX2_canSee_38 (by decide) (by decide) (fun h => absurd h (by decide)) (fun h3 => ?_)
        refine X.iconst dX2_canSee_41 ?_
        refine X.goto (tgt := 46) dX2_canSee_42 (by decide) ?_
        exact X.zret dX2_canSee_46 rfl (by decide) (by rw [bi_t (show see v a r c from ⟨Or.inr ⟨by omega, hli⟩, pf⟩)]) rfl
      · skip
        refine X.callS1 (As := [.inr (some 1), .inl a, .inl c]) (rest := []) dX2_canSee_35 mk_X2_46 (CX.bf (c_isViewFree M v hv hS a c (by omega) (by omega)) pf) rfl (by decide) rfl (Nat.le_of_ble_eq_true rfl) ?_
        refine X.if_eq (tgt := 45) dX2_canSee_38 (by decide) (by decide) (fun h4 => ?_) (fun h => absurd h (by decide))
        refine X.iconst dX2_canSee_45 ?_
        exact X.zret dX2_canSee_46 rfl (by decide) (by rw [bi_f (fun q : see v a r c => pf q.2)]) rfl
  · skip
    refine X.aload_n dX2_canSee_0 rfl ?_
    refine X.getR dX2_canSee_1 fi_X2_9 sh_21 rfl ?_
    refine X.iload dX2_canSee_4 rfl ?_
    refine X.iald (v := 0) dX2_canSee_6 sh_22 (by decide) (by omega) (hl.trans (bi_f hli)) ?_
    refine X.iconst dX2_canSee_7 ?_
    refine X.icmp_ne (tgt := 17) dX2_canSee_8 (by decide) (by decide) (by decide) (fun h5 => ?_) (fun h => absurd h (by decide))
    refine X.iload_n dX2_canSee_17 rfl ?_
    refine X.istore (lv2 := [some (.inr (some 21)), some (.inr (some 1)), some (.inl a), some (.inl r), some (.inl c), some (.inl r)]) dX2_canSee_18 (Nat.le_of_ble_eq_true rfl) rfl ?_
    refine X.iload_n dX2_canSee_20 rfl ?_
    refine X.iload dX2_canSee_21 rfl ?_
    refine X.callN1 (As := [.inl a, .inl c]) (rest := []) dX2_canSee_23 mk_X2_42 (c_distanceOf M a c (by omega) (by omega)) rfl (by decide) rfl (Nat.le_of_ble_eq_true rfl) ?_
    refine X.iload dX2_canSee_26 rfl ?_
    refine X.icmp_gt (tgt := 45) dX2_canSee_28 (by decide) ⟨by omega, by omega⟩ ⟨by omega, by omega⟩ (fun h6 => ?_) (fun h6 => ?_)
    · skip
      refine X.iconst dX2_canSee_45 ?_
      exact X.zret dX2_canSee_46 rfl (by decide) (by rw [bi_f (fun q : see v a r c => by rcases q.1 with q1 | ⟨q1, q2⟩ <;> first | exact hli q2 | omega)]) rfl
    · skip
      refine X.aload_n dX2_canSee_31 rfl ?_
      refine X.iload_n dX2_canSee_32 rfl ?_
      refine X.iload dX2_canSee_33 rfl ?_
      by_cases pf : free v a c
      · skip
        refine X.callS1 (As := [.inr (some 1), .inl a, .inl c]) (rest := []) dX2_canSee_35 mk_X2_46 (CX.bt (c_isViewFree M v hv hS a c (by omega) (by omega)) pf) rfl (by decide) rfl (Nat.le_of_ble_eq_true rfl) ?_
        refine X.if_eq (tgt := 45) dX2_canSee_38 (by decide) (by decide) (fun h => absurd h (by decide)) (fun h7 => ?_)
        refine X.iconst dX2_canSee_41 ?_
        refine X.goto (tgt := 46) dX2_canSee_42 (by decide) ?_
        exact X.zret dX2_canSee_46 rfl (by decide) (by rw [bi_t (show see v a r c from ⟨by omega, pf⟩)]) rfl
      · skip
        refine X.callS1 (As := [.inr (some 1), .inl a, .inl c]) (rest := []) dX2_canSee_35 mk_X2_46 (CX.bf (c_isViewFree M v hv hS a c (by omega) (by omega)) pf) rfl (by decide) rfl (Nat.le_of_ble_eq_true rfl) ?_
        refine X.if_eq (tgt := 45) dX2_canSee_38 (by decide) (by decide) (fun h8 => ?_) (fun h => absurd h (by decide))
        refine X.iconst dX2_canSee_45 ?_
        exact X.zret dX2_canSee_46 rfl (by decide) (by rw [bi_f (fun q : see v a r c => pf q.2)]) rfl
set_option maxHeartbeats 4000000 in
set_option maxRecDepth 100000 in
theorem c_countSeenFrom (M : Mem) (v : Vw) (hv : VA M v) (hS : SI v) (a r : Int) (ha : 0 ≤ a ∧ a < 120) (hr : 0 ≤ r ∧ r ≤ 8) (hl : ∀ c, 0 ≤ c ∧ c < 120 → M 22 c = bi (lit v c)) : CX mX2_countSeenFrom 5 [.inr (some 21), .inr (some 1), .inl a, .inl r] M (some (.inl (cnt (fun c => see v a r c) 120 0))) M := by
  have n0 := hS.n0
  have n1 := hS.n1
  have n2 := hS.n2
  refine CX.of (by decide +kernel) (Nat.le_of_ble_eq_true rfl) [some (.inr (some 21)), some (.inr (some 1)), some (.inl a), some (.inl r), none, none] rfl ?_
  refine X.iconst dX2_countSeenFrom_0 ?_
  refine X.istore (lv2 := [some (.inr (some 21)), some (.inr (some 1)), some (.inl a), some (.inl r), some (.inl 0), none]) dX2_countSeenFrom_1 (Nat.le_of_ble_eq_true rfl) rfl ?_
  refine X.iconst dX2_countSeenFrom_3 ?_
  refine X.istore (lv2 := [some (.inr (some 21)), some (.inr (some 1)), some (.inl a), some (.inl r), some (.inl 0), some (.inl 0)]) dX2_countSeenFrom_4 (Nat.le_of_ble_eq_true rfl) rfl ?_
  have L6 : ∀ k, 0 ≤ k → k ≤ 120 → ∀ acc : Int, VX mX2_countSeenFrom 5 6 [some (.inr (some 21)), some (.inr (some 1)), some (.inl a), some (.inl r), some (.inl acc), some (.inl k)] [] M (some (.inl (acc + cnt (fun k => see v a r k) (120 - k).toNat k))) M := by
    refine down_ind 0 120 ?_ ?_
    · skip
      intro acc
      refine X.iload dX2_countSeenFrom_6 rfl ?_
      refine X.bipush dX2_countSeenFrom_8 (by decide) ?_
      refine X.icmp_ge (tgt := 34) dX2_countSeenFrom_10 (by decide) ⟨by omega, by omega⟩ (by decide) (fun h1 => ?_) (fun h => by exfalso; omega)
      refine X.iload dX2_countSeenFrom_34 rfl ?_
      exact X.iret dX2_countSeenFrom_36 rfl (by rw [cnt_end, Int.add_zero]) rfl
    · intro k hk1 hk2 ihk
      intro acc
      refine X.iload dX2_countSeenFrom_6 rfl ?_
      refine X.bipush dX2_countSeenFrom_8 (by decide) ?_
      refine X.icmp_ge (tgt := 34) dX2_countSeenFrom_10 (by decide) ⟨by omega, by omega⟩ (by decide) (fun h => by exfalso; omega) (fun h2 => ?_)
      refine X.aload_n dX2_countSeenFrom_13 rfl ?_
      refine X.aload_n dX2_countSeenFrom_14 rfl ?_
      refine X.iload_n dX2_countSeenFrom_15 rfl ?_
      refine X.iload_n dX2_countSeenFrom_16 rfl ?_
      refine X.iload dX2_countSeenFrom_17 rfl ?_
      by_cases hp : see v a r k
      · skip
        refine X.callV1 (As := [.inr (some 1), .inl a, .inl r, .inl k]) (rest := []) dX2_countSeenFrom_19 mk_X2_34 sh_21 (CX.bt (c_canSee M v hv hS a r k (by omega) (by omega) (by omega) (hl k (by omega))) hp) rfl (by decide) rfl (Nat.le_of_ble_eq_true rfl) ?_
        refine X.if_eq (tgt := 28) dX2_countSeenFrom_22 (by decide) (by decide) (fun h => absurd h (by decide)) (fun h3 => ?_)
        refine X.iinc (y := acc + 1) (lv2 := [some (.inr (some 21)), some (.inr (some 1)), some (.inl a), some (.inl r), some (.inl (acc + 1)), some (.inl k)]) dX2_countSeenFrom_25 rfl rfl rfl ?_
        refine X.iinc (y := k + 1) (lv2 := [some (.inr (some 21)), some (.inr (some 1)), some (.inl a), some (.inl r), some (.inl (acc + 1)), some (.inl (k + 1))]) dX2_countSeenFrom_28 rfl rfl rfl ?_
        refine X.goto (tgt := 6) dX2_countSeenFrom_31 (by decide) ?_
        rw [cnt_step _ _ _ hk2, bi_t hp, ← Int.add_assoc]
        exact ihk (acc + 1)
      · skip
        refine X.callV1 (As := [.inr (some 1), .inl a, .inl r, .inl k]) (rest := []) dX2_countSeenFrom_19 mk_X2_34 sh_21 (CX.bf (c_canSee M v hv hS a r k (by omega) (by omega) (by omega) (hl k (by omega))) hp) rfl (by decide) rfl (Nat.le_of_ble_eq_true rfl) ?_
        refine X.if_eq (tgt := 28) dX2_countSeenFrom_22 (by decide) (by decide) (fun h4 => ?_) (fun h => absurd h (by decide))
        refine X.iinc (y := k + 1) (lv2 := [some (.inr (some 21)), some (.inr (some 1)), some (.inl a), some (.inl r), some (.inl acc), some (.inl (k + 1))]) dX2_countSeenFrom_28 rfl rfl rfl ?_
        refine X.goto (tgt := 6) dX2_countSeenFrom_31 (by decide) ?_
        rw [cnt_step _ _ _ hk2, bi_f hp, Int.zero_add]
        exact ihk acc
  have e := L6 0 (by omega) (by omega) 0
  rw [Int.zero_add, Int.sub_zero] at e
  exact e
/-- the row of watchers says of each cell which scouts see it -/
def SG (M : Mem) (v : Vw) : Prop := (∀ c, 0 ≤ c ∧ c < 120 → M 22 c = bi (lit v c)) ∧ ∀ c, 0 ≤ c ∧ c < 120 → M 23 c = ((mkN (fun k => sees v k c) (v 0 0).toNat : Nat) : Int)
theorem SG.frame {M M' : Mem} {v : Vw} (h : SG M v) (h1 : M' 22 = M 22) (h2 : M' 23 = M 23) : SG M' v := ⟨fun c hc => by rw [h1]; exact h.1 c hc, fun c hc => by rw [h2]; exact h.2 c hc⟩
theorem SG.mset {M : Mem} {v : Vw} (h : SG M v) {a : Nat} {i x : Int} (h1 : a ≠ 22 ∧ a ≠ 23) : SG (mset M a i x) v := h.frame (mset_row (Ne.symm h1.1)) (mset_row (Ne.symm h1.2))
theorem SG.meet {M : Mem} {v : Vw} (h : SG M v) (hS : SI v) (P : Int → Prop) {c : Int} (hc : 0 ≤ c ∧ c < 120) : iAnd (M 23 c) ((mkN P (v 0 0).toNat : Nat) : Int) = ((mkN (fun k => sees v k c ∧ P k) (v 0 0).toNat : Nat) : Int) := by
  rw [h.2 c hc]; exact mask_and hS.n0
set_option maxHeartbeats 4000000 in
set_option maxRecDepth 100000 in
theorem c_isSeen (M : Mem) (v : Vw) (hv : VA M v) (hS : SI v) (hG : SG M v) (c : Int) (P : Int → Prop) (hc : 0 ≤ c ∧ c < 120) : CX mX2_isSeen 0 [.inr (some 21), .inl c, .inl ((mkN P (v 0 0).toNat : Nat) : Int)] M (some (.inl (bi (∃ k, 0 ≤ k ∧ k < v 0 0 ∧ sees v k c ∧ P k)))) M := by
  have n0 := hS.n0
  have n1 := hS.n1
  have n2 := hS.n2
  refine CX.of (by decide +kernel) (Nat.le_of_ble_eq_true rfl) [some (.inr (some 21)), some (.inl c), some (.inl ((mkN P (v 0 0).toNat : Nat) : Int))] rfl ?_
  refine X.aload_n dX2_isSeen_0 rfl ?_
  refine X.getR dX2_isSeen_1 fi_X2_15 sh_21 rfl ?_
  refine X.iload_n dX2_isSeen_4 rfl ?_
  refine X.iald (v := M 23 c) dX2_isSeen_5 sh_23 (by decide) (by omega) rfl ?_
  refine X.iload_n dX2_isSeen_6 rfl ?_
  refine X.iand (c := ((mkN (fun k => sees v k c ∧ P k) (v 0 0).toNat : Nat) : Int)) dX2_isSeen_7 (hG.meet hS P hc) ?_
  refine X.if_eq (tgt := 15) dX2_isSeen_8 (by decide) (mask_inR n0.2) (fun h8 => ?_) (fun h8 => ?_)
  · skip
    refine X.iconst dX2_isSeen_15 ?_
    exact X.zret dX2_isSeen_16 rfl (by decide) (by rw [bi_f (mask_0.mp h8)]) rfl
  · skip
    refine X.iconst dX2_isSeen_11 ?_
    refine X.goto (tgt := 16) dX2_isSeen_12 (by decide) ?_
    exact X.zret dX2_isSeen_16 rfl (by decide) (by rw [bi_t (Classical.not_not.mp (fun q => h8 (mask_0.mpr q)))]) rfl
set_option maxHeartbeats 4000000 in
set_option maxRecDepth 100000 in
theorem c_countSeen (M : Mem) (v : Vw) (hv : VA M v) (hS : SI v) (hG : SG M v) (P : Int → Prop) : CX mX2_countSeen 1 [.inr (some 21), .inl ((mkN P (v 0 0).toNat : Nat) : Int)] M (some (.inl (cnt (fun c => ∃ k, 0 ≤ k ∧ k < v 0 0 ∧ sees v k c ∧ P k) 120 0))) M := by
  have n0 := hS.n0
  have n1 := hS.n1
  have n2 := hS.n2
  refine CX.of (by decide +kernel) (Nat.le_of_ble_eq_true rfl) [some (.inr (some 21)), some (.inl ((mkN P (v 0 0).toNat : Nat) : Int)), none, none] rfl ?_
  refine X.iconst dX2_countSeen_0 ?_
  refine X.istore_n (lv2 := [some (.inr (some 21)), some (.inl ((mkN P (v 0 0).toNat : Nat) : Int)), some (.inl 0), none]) dX2_countSeen_1 (Nat.le_of_ble_eq_true rfl) rfl ?_
  refine X.iconst dX2_countSeen_2 ?_
  refine X.istore_n (lv2 := [some (.inr (some 21)), some (.inl ((mkN P (v 0 0).toNat : Nat) : Int)), some (.inl 0), some (.inl 0)]) dX2_countSeen_3 (Nat.le_of_ble_eq_true rfl) rfl ?_
  have L4 : ∀ k, 0 ≤ k → k ≤ 120 → ∀ acc : Int, VX mX2_countSeen 1 4 [some (.inr (some 21)), some (.inl ((mkN P (v 0 0).toNat : Nat) : Int)), some (.inl acc), some (.inl k)] [] M (some (.inl (acc + cnt (fun k => ∃ j, 0 ≤ j ∧ j < v 0 0 ∧ sees v j k ∧ P j) (120 - k).toNat k))) M := by
    refine down_ind 0 120 ?_ ?_
    · skip
      intro acc
      refine X.iload_n dX2_countSeen_4 rfl ?_
      refine X.bipush dX2_countSeen_5 (by decide) ?_
      refine X.icmp_ge (tgt := 28) dX2_countSeen_7 (by decide) ⟨by omega, by omega⟩ (by decide) (fun h1 => ?_) (fun h => by exfalso; omega)
      refine X.iload_n dX2_countSeen_28 rfl ?_
      exact X.iret dX2_countSeen_29 rfl (by rw [cnt_end, Int.add_zero]) rfl
    · intro k hk1 hk2 ihk
      intro acc
      refine X.iload_n dX2_countSeen_4 rfl ?_
      refine X.bipush dX2_countSeen_5 (by decide) ?_
      refine X.icmp_ge (tgt := 28) dX2_countSeen_7 (by decide) ⟨by omega, by omega⟩ (by decide) (fun h => by exfalso; omega) (fun h2 => ?_)
      refine X.aload_n dX2_countSeen_10 rfl ?_
      refine X.iload_n dX2_countSeen_11 rfl ?_
      refine X.iload_n dX2_countSeen_12 rfl ?_
      by_cases hp : ∃ z, 0 ≤ z ∧ z < v 0 0 ∧ sees v z k ∧ P z
      · skip
        refine X.callV1 (As := [.inl k, .inl ((mkN P (v 0 0).toNat : Nat) : Int)]) (rest := []) dX2_countSeen_13 mk_X2_50 sh_21 (CX.bt (c_isSeen M v hv hS hG k (P) (by omega)) hp) rfl (by decide) rfl (Nat.le_of_ble_eq_true rfl) ?_
        refine X.if_eq (tgt := 22) dX2_countSeen_16 (by decide) (by decide) (fun h => absurd h (by decide)) (fun h3 => ?_)
        refine X.iinc (y := acc + 1) (lv2 := [some (.inr (some 21)), some (.inl ((mkN P (v 0 0).toNat : Nat) : Int)), some (.inl (acc + 1)), some (.inl k)]) dX2_countSeen_19 rfl rfl rfl ?_
        refine X.iinc (y := k + 1) (lv2 := [some (.inr (some 21)), some (.inl ((mkN P (v 0 0).toNat : Nat) : Int)), some (.inl (acc + 1)), some (.inl (k + 1))]) dX2_countSeen_22 rfl rfl rfl ?_
        refine X.goto (tgt := 4) dX2_countSeen_25 (by decide) ?_
        rw [cnt_step _ _ _ hk2, bi_t hp, ← Int.add_assoc]
        exact ihk (acc + 1)
      · skip
        refine X.callV1 (As := [.inl k, .inl ((mkN P (v 0 0).toNat : Nat) : Int)]) (rest := []) dX2_countSeen_13 mk_X2_50 sh_21 (CX.bf (c_isSeen M v hv hS hG k (P) (by omega)) hp) rfl (by decide) rfl (Nat.le_of_ble_eq_true rfl) ?_
        refine X.if_eq (tgt := 22) dX2_countSeen_16 (by decide) (by decide) (fun h4 => ?_) (fun h => absurd h (by decide))
        refine X.iinc (y := k + 1) (lv2 := [some (.inr (some 21)), some (.inl ((mkN P (v 0 0).toNat : Nat) : Int)), some (.inl acc), some (.inl (k + 1))]) dX2_countSeen_22 rfl rfl rfl ?_
        refine X.goto (tgt := 4) dX2_countSeen_25 (by decide) ?_
        rw [cnt_step _ _ _ hk2, bi_f hp, Int.zero_add]
        exact ihk acc
  have e := L4 0 (by omega) (by omega) 0
  rw [Int.zero_add, Int.sub_zero] at e
  exact e
set_option maxHeartbeats 4000000 in
set_option maxRecDepth 100000 in
theorem c_countLit (M : Mem) (v : Vw) (hv : VA M v) (hS : SI v) (hl : ∀ c, 0 ≤ c ∧ c < 120 → M 22 c = bi (lit v c)) : CX mX2_countLit 0 [.inr (some 21)] M (some (.inl (cnt (fun c => lit v c) 120 0))) M := by
  have n0 := hS.n0
  have n1 := hS.n1
  have n2 := hS.n2
  refine CX.of (by decide +kernel) (Nat.le_of_ble_eq_true rfl) [some (.inr (some 21)), none, none] rfl ?_
  refine X.iconst dX2_countLit_0 ?_
  refine X.istore_n (lv2 := [some (.inr (some 21)), some (.inl 0), none]) dX2_countLit_1 (Nat.le_of_ble_eq_true rfl) rfl ?_
  refine X.iconst dX2_countLit_2 ?_
  refine X.istore_n (lv2 := [some (.inr (some 21)), some (.inl 0), some (.inl 0)]) dX2_countLit_3 (Nat.le_of_ble_eq_true rfl) rfl ?_
  have L4 : ∀ k, 0 ≤ k → k ≤ 120 → ∀ acc : Int, VX mX2_countLit 0 4 [some (.inr (some 21)), some (.inl acc), some (.inl k)] [] M (some (.inl (acc + cnt (fun k => lit v k) (120 - k).toNat k))) M := by
    refine down_ind 0 120 ?_ ?_
    · skip
      intro acc
      refine X.iload_n dX2_countLit_4 rfl ?_
      refine X.bipush dX2_countLit_5 (by decide) ?_
      refine X.icmp_ge (tgt := 25) dX2_countLit_7 (by decide) ⟨by omega, by omega⟩ (by decide) (fun h1 => ?_) (fun h => by exfalso; omega)
      refine X.iload_n dX2_countLit_25 rfl ?_
      exact X.iret dX2_countLit_26 rfl (by rw [cnt_end, Int.add_zero]) rfl
    · intro k hk1 hk2 ihk
      intro acc
      refine X.iload_n dX2_countLit_4 rfl ?_
      refine X.bipush dX2_countLit_5 (by decide) ?_
      refine X.icmp_ge (tgt := 25) dX2_countLit_7 (by decide) ⟨by omega, by omega⟩ (by decide) (fun h => by exfalso; omega) (fun h2 => ?_)
      refine X.iload_n dX2_countLit_10 rfl ?_
      refine X.aload_n dX2_countLit_11 rfl ?_
      refine X.getR dX2_countLit_12 fi_X2_9 sh_21 rfl ?_
      refine X.iload_n dX2_countLit_15 rfl ?_
      refine X.iald (v := bi (lit v k)) dX2_countLit_16 sh_22 (by decide) (by omega) (hl k (by omega)) ?_
      refine X.iadd (c := acc + (bi (lit v k))) dX2_countLit_17 rfl ?_
      refine X.istore_n (lv2 := [some (.inr (some 21)), some (.inl (acc + (bi (lit v k)))), some (.inl k)]) dX2_countLit_18 (Nat.le_of_ble_eq_true rfl) rfl ?_
      refine X.iinc (y := k + 1) (lv2 := [some (.inr (some 21)), some (.inl (acc + (bi (lit v k)))), some (.inl (k + 1))]) dX2_countLit_19 rfl rfl rfl ?_
      refine X.goto (tgt := 4) dX2_countLit_22 (by decide) ?_
      rw [cnt_step _ _ _ hk2, ← Int.add_assoc]
      exact ihk (acc + (bi (lit v k)))
  have e := L4 0 (by omega) (by omega) 0
  rw [Int.zero_add, Int.sub_zero] at e
  exact e
set_option maxHeartbeats 4000000 in
set_option maxRecDepth 100000 in
theorem c_countNotFogged_0 (M : Mem) (v : Vw) (hm : VM M v) (hS : SI v) : CX mX1_countNotFogged 0 [.inr (some 11)] M (some (.inl (cnt (fun c => 0 < v 9 c) 120 0))) M := by
  refine CX.of (by decide +kernel) (Nat.le_of_ble_eq_true rfl) [some (.inr (some 11)), none, none] rfl ?_
  refine X.iconst dX1_countNotFogged_0 ?_
  refine X.istore_n (lv2 := [some (.inr (some 11)), some (.inl 0), none]) dX1_countNotFogged_1 (Nat.le_of_ble_eq_true rfl) rfl ?_
  refine X.iconst dX1_countNotFogged_2 ?_
  refine X.istore_n (lv2 := [some (.inr (some 11)), some (.inl 0), some (.inl 0)]) dX1_countNotFogged_3 (Nat.le_of_ble_eq_true rfl) rfl ?_
  have L4 : ∀ k, 0 ≤ k → k ≤ 120 → ∀ acc : Int, VX mX1_countNotFogged 0 4 [some (.inr (some 11)), some (.inl acc), some (.inl k)] [] M (some (.inl (acc + cnt (fun k => 0 < v 9 k) (120 - k).toNat k))) M := by
    refine down_ind 0 120 ?_ ?_
    · skip
      intro acc
      refine X.iload_n dX1_countNotFogged_4 rfl ?_
      refine X.bipush dX1_countNotFogged_5 (by decide) ?_
      refine X.icmp_ge (tgt := 28) dX1_countNotFogged_7 (by decide) ⟨by omega, by omega⟩ (by decide) (fun h1 => ?_) (fun h => by exfalso; omega)
      refine X.iload_n dX1_countNotFogged_28 rfl ?_
      exact X.iret dX1_countNotFogged_29 rfl (by rw [cnt_end, Int.add_zero]) rfl
    · intro k hk1 hk2 ihk
      intro acc
      refine X.iload_n dX1_countNotFogged_4 rfl ?_
      refine X.bipush dX1_countNotFogged_5 (by decide) ?_
      refine X.icmp_ge (tgt := 28) dX1_countNotFogged_7 (by decide) ⟨by omega, by omega⟩ (by decide) (fun h => by exfalso; omega) (fun h2 => ?_)
      refine X.aload_n dX1_countNotFogged_10 rfl ?_
      refine X.getR dX1_countNotFogged_11 fi_X1_9 sh_11 rfl ?_
      refine X.iload_n dX1_countNotFogged_14 rfl ?_
      have q3 := SI.r9 hS k
      refine X.iald (v := v 9 k) dX1_countNotFogged_15 sh_12 (by decide) (by omega) (rd_9 hm (by omega)) ?_
      refine X.if_le (tgt := 22) dX1_countNotFogged_16 (by decide) ⟨by omega, by omega⟩ (fun h16 => ?_) (fun h16 => ?_)
      · skip
        have h16 : ¬ 0 < v 9 k := by omega
        refine X.iinc (y := k + 1) (lv2 := [some (.inr (some 11)), some (.inl acc), some (.inl (k + 1))]) dX1_countNotFogged_22 rfl rfl rfl ?_
        refine X.goto (tgt := 4) dX1_countNotFogged_25 (by decide) ?_
        rw [cnt_step _ _ _ hk2, bi_f h16, Int.zero_add]
        exact ihk acc
      · skip
        refine X.iinc (y := acc + 1) (lv2 := [some (.inr (some 11)), some (.inl (acc + 1)), some (.inl k)]) dX1_countNotFogged_19 rfl rfl rfl ?_
        refine X.iinc (y := k + 1) (lv2 := [some (.inr (some 11)), some (.inl (acc + 1)), some (.inl (k + 1))]) dX1_countNotFogged_22 rfl rfl rfl ?_
        refine X.goto (tgt := 4) dX1_countNotFogged_25 (by decide) ?_
        rw [cnt_step _ _ _ hk2, bi_t h16, ← Int.add_assoc]
        exact ihk (acc + 1)
  have e := L4 0 (by omega) (by omega) 0
  rw [Int.zero_add, Int.sub_zero] at e
  exact e
set_option maxHeartbeats 4000000 in
set_option maxRecDepth 100000 in
theorem c_canStepM_0 (M : Mem) (v : Vw) (hm : VM M v) (hS : SI v) (a b : Int) (ha : 0 ≤ a ∧ a < 120) (hb : 0 ≤ b ∧ b < 120) : CX mX1_canStep 1 [.inr (some 11), .inl a, .inl b] M (some (.inl (bi (0 < v 9 b ∧ v 11 b = 0 ∧ v 12 b = 0 ∧ iabs (v 10 a - v 10 b) ≤ 2)))) M := by
  refine CX.of (by decide +kernel) (Nat.le_of_ble_eq_true rfl) [some (.inr (some 11)), some (.inl a), some (.inl b)] rfl ?_
  refine X.aload_n dX1_canStep_0 rfl ?_
  refine X.getR dX1_canStep_1 fi_X1_9 sh_11 rfl ?_
  refine X.iload_n dX1_canStep_4 rfl ?_
  have q1 := SI.r9 hS b
  refine X.iald (v := v 9 b) dX1_canStep_5 sh_12 (by decide) (by omega) (rd_9 hm (by omega)) ?_
  refine X.if_le (tgt := 51) dX1_canStep_6 (by decide) ⟨by omega, by omega⟩ (fun h2 => ?_) (fun h2 => ?_)
  · skip
    refine X.iconst dX1_canStep_51 ?_
    exact X.zret dX1_canStep_52 rfl (by decide) (by rw [bi_f (by omega)]) rfl
  · skip
    refine X.aload_n dX1_canStep_9 rfl ?_
    refine X.getR dX1_canStep_10 fi_X1_18 sh_11 rfl ?_
    refine X.iload_n dX1_canStep_13 rfl ?_
    have q3 := SI.r11 hS b
    refine X.iald (v := v 11 b) dX1_canStep_14 sh_14 (by decide) (by omega) (rd_11 hm (by omega)) ?_
    refine X.if_ne (tgt := 51) dX1_canStep_15 (by decide) ⟨by omega, by omega⟩ (fun h4 => ?_) (fun h4 => ?_)
    · skip
      refine X.iconst dX1_canStep_51 ?_
      exact X.zret dX1_canStep_52 rfl (by decide) (by rw [bi_f (by omega)]) rfl
    · skip
      refine X.aload_n dX1_canStep_18 rfl ?_
      refine X.getR dX1_canStep_19 fi_X1_21 sh_11 rfl ?_
      refine X.iload_n dX1_canStep_22 rfl ?_
      have q5 := SI.r12 hS b
      refine X.iald (v := v 12 b) dX1_canStep_23 sh_15 (by decide) (by omega) (rd_12 hm (by omega)) ?_
      refine X.if_ne (tgt := 51) dX1_canStep_24 (by decide) ⟨by omega, by omega⟩ (fun h6 => ?_) (fun h6 => ?_)
      · skip
        refine X.iconst dX1_canStep_51 ?_
        exact X.zret dX1_canStep_52 rfl (by decide) (by rw [bi_f (by omega)]) rfl
      · skip
        refine X.aload_n dX1_canStep_27 rfl ?_
        refine X.getR dX1_canStep_28 fi_X1_15 sh_11 rfl ?_
        refine X.iload_n dX1_canStep_31 rfl ?_
        have q7 := SI.r10 hS a
        refine X.iald (v := v 10 a) dX1_canStep_32 sh_13 (by decide) (by omega) (rd_10 hm (by omega)) ?_
        refine X.aload_n dX1_canStep_33 rfl ?_
        refine X.getR dX1_canStep_34 fi_X1_15 sh_11 rfl ?_
        refine X.iload_n dX1_canStep_37 rfl ?_
        have q8 := SI.r10 hS b
        refine X.iald (v := v 10 b) dX1_canStep_38 sh_13 (by decide) (by omega) (rd_10 hm (by omega)) ?_
        refine X.isub (c := (v 10 a) - (v 10 b)) dX1_canStep_39 rfl ?_
        refine X.mabs (c := iabs ((v 10 a) - (v 10 b))) dX1_canStep_40 kl_X1_37 ⟨by omega, by omega⟩ (by decide) (Nat.le_of_ble_eq_true rfl) rfl ?_
        refine X.iconst dX1_canStep_43 ?_
        have hi := iabs_r (a := v 10 a - v 10 b)
        refine X.icmp_gt (tgt := 51) dX1_canStep_44 (by decide) ⟨by omega, by omega⟩ (by decide) (fun h9 => ?_) (fun h9 => ?_)
        · skip
          refine X.iconst dX1_canStep_51 ?_
          exact X.zret dX1_canStep_52 rfl (by decide) (by rw [bi_f (by omega)]) rfl
        · skip
          refine X.iconst dX1_canStep_47 ?_
          refine X.goto (tgt := 52) dX1_canStep_48 (by decide) ?_
          exact X.zret dX1_canStep_52 rfl (by decide) (by rw [bi_t (by omega)]) rfl
set_option maxHeartbeats 4000000 in
set_option maxRecDepth 100000 in
theorem c_countNotFogged_1 (M : Mem) (v : Vw) (hm : VM M v) (hS : SI v) : CX mX1_countNotFogged 0 [.inr (some 16)] M (some (.inl (cnt (fun c => 0 < v 13 c) 120 0))) M := by
  refine CX.of (by decide +kernel) (Nat.le_of_ble_eq_true rfl) [some (.inr (some 16)), none, none] rfl ?_
  refine X.iconst dX1_countNotFogged_0 ?_
  refine X.istore_n (lv2 := [some (.inr (some 16)), some (.inl 0), none]) dX1_countNotFogged_1 (Nat.le_of_ble_eq_true rfl) rfl ?_
  refine X.iconst dX1_countNotFogged_2 ?_
  refine X.istore_n (lv2 := [some (.inr (some 16)), some (.inl 0), some (.inl 0)]) dX1_countNotFogged_3 (Nat.le_of_ble_eq_true rfl) rfl ?_
  have L4 : ∀ k, 0 ≤ k → k ≤ 120 → ∀ acc : Int, VX mX1_countNotFogged 0 4 [some (.inr (some 16)), some (.inl acc), some (.inl k)] [] M (some (.inl (acc + cnt (fun k => 0 < v 13 k) (120 - k).toNat k))) M := by
    refine down_ind 0 120 ?_ ?_
    · skip
      intro acc
      refine X.iload_n dX1_countNotFogged_4 rfl ?_
      refine X.bipush dX1_countNotFogged_5 (by decide) ?_
      refine X.icmp_ge (tgt := 28) dX1_countNotFogged_7 (by decide) ⟨by omega, by omega⟩ (by decide) (fun h1 => ?_) (fun h => by exfalso; omega)
      refine X.iload_n dX1_countNotFogged_28 rfl ?_
      exact X.iret dX1_countNotFogged_29 rfl (by rw [cnt_end, Int.add_zero]) rfl
    · intro k hk1 hk2 ihk
      intro acc
      refine X.iload_n dX1_countNotFogged_4 rfl ?_
      refine X.bipush dX1_countNotFogged_5 (by decide) ?_
      refine X.icmp_ge (tgt := 28) dX1_countNotFogged_7 (by decide) ⟨by omega, by omega⟩ (by decide) (fun h => by exfalso; omega) (fun h2 => ?_)
      refine X.aload_n dX1_countNotFogged_10 rfl ?_
      refine X.getR dX1_countNotFogged_11 fi_X1_9 sh_16 rfl ?_
      refine X.iload_n dX1_countNotFogged_14 rfl ?_
      have q3 := SI.r13 hS k
      refine X.iald (v := v 13 k) dX1_countNotFogged_15 sh_17 (by decide) (by omega) (rd_13 hm (by omega)) ?_
      refine X.if_le (tgt := 22) dX1_countNotFogged_16 (by decide) ⟨by omega, by omega⟩ (fun h16 => ?_) (fun h16 => ?_)
      · skip
        have h16 : ¬ 0 < v 13 k := by omega
        refine X.iinc (y := k + 1) (lv2 := [some (.inr (some 16)), some (.inl acc), some (.inl (k + 1))]) dX1_countNotFogged_22 rfl rfl rfl ?_
        refine X.goto (tgt := 4) dX1_countNotFogged_25 (by decide) ?_
        rw [cnt_step _ _ _ hk2, bi_f h16, Int.zero_add]
        exact ihk acc
      · skip
        refine X.iinc (y := acc + 1) (lv2 := [some (.inr (some 16)), some (.inl (acc + 1)), some (.inl k)]) dX1_countNotFogged_19 rfl rfl rfl ?_
        refine X.iinc (y := k + 1) (lv2 := [some (.inr (some 16)), some (.inl (acc + 1)), some (.inl (k + 1))]) dX1_countNotFogged_22 rfl rfl rfl ?_
        refine X.goto (tgt := 4) dX1_countNotFogged_25 (by decide) ?_
        rw [cnt_step _ _ _ hk2, bi_t h16, ← Int.add_assoc]
        exact ihk (acc + 1)
  have e := L4 0 (by omega) (by omega) 0
  rw [Int.zero_add, Int.sub_zero] at e
  exact e
set_option maxHeartbeats 4000000 in
set_option maxRecDepth 100000 in
theorem c_canStepM_1 (M : Mem) (v : Vw) (hm : VM M v) (hS : SI v) (a b : Int) (ha : 0 ≤ a ∧ a < 120) (hb : 0 ≤ b ∧ b < 120) : CX mX1_canStep 1 [.inr (some 16), .inl a, .inl b] M (some (.inl (bi (0 < v 13 b ∧ v 15 b = 0 ∧ v 16 b = 0 ∧ iabs (v 14 a - v 14 b) ≤ 2)))) M := by
  refine CX.of (by decide +kernel) (Nat.le_of_ble_eq_true rfl) [some (.inr (some 16)), some (.inl a), some (.inl b)] rfl ?_
  refine X.aload_n dX1_canStep_0 rfl ?_
  refine X.getR dX1_canStep_1 fi_X1_9 sh_16 rfl ?_
  refine X.iload_n dX1_canStep_4 rfl ?_
  have q1 := SI.r13 hS b
  refine X.iald (v := v 13 b) dX1_canStep_5 sh_17 (by decide) (by omega) (rd_13 hm (by omega)) ?_
  refine X.if_le (tgt := 51) dX1_canStep_6 (by decide) ⟨by omega, by omega⟩ (fun h2 => ?_) (fun h2 => ?_)
  · skip
    refine X.iconst dX1_canStep_51 ?_
    exact X.zret dX1_canStep_52 rfl (by decide) (by rw [bi_f (by omega)]) rfl
  · skip
    refine X.aload_n dX1_canStep_9 rfl ?_
    refine X.getR dX1_canStep_10 fi_X1_18 sh_16 rfl ?_
    refine X.iload_n dX1_canStep_13 rfl ?_
    have q3 := SI.r15 hS b
    refine X.iald (v := v 15 b) dX1_canStep_14 sh_19 (by decide) (by omega) (rd_15 hm (by omega)) ?_
    refine X.if_ne (tgt := 51) dX1_canStep_15 (by decide) ⟨by omega, by omega⟩ (fun h4 => ?_) (fun h4 => ?_)
    · skip
      refine X.iconst dX1_canStep_51 ?_
      exact X.zret dX1_canStep_52 rfl (by decide) (by rw [bi_f (by omega)]) rfl
    · skip
      refine X.aload_n dX1_canStep_18 rfl ?_
      refine X.getR dX1_canStep_19 fi_X1_21 sh_16 rfl ?_
      refine X.iload_n dX1_canStep_22 rfl ?_
      have q5 := SI.r16 hS b
      refine X.iald (v := v 16 b) dX1_canStep_23 sh_20 (by decide) (by omega) (rd_16 hm (by omega)) ?_
      refine X.if_ne (tgt := 51) dX1_canStep_24 (by decide) ⟨by omega, by omega⟩ (fun h6 => ?_) (fun h6 => ?_)
      · skip
        refine X.iconst dX1_canStep_51 ?_
        exact X.zret dX1_canStep_52 rfl (by decide) (by rw [bi_f (by omega)]) rfl
      · skip
        refine X.aload_n dX1_canStep_27 rfl ?_
        refine X.getR dX1_canStep_28 fi_X1_15 sh_16 rfl ?_
        refine X.iload_n dX1_canStep_31 rfl ?_
        have q7 := SI.r14 hS a
        refine X.iald (v := v 14 a) dX1_canStep_32 sh_18 (by decide) (by omega) (rd_14 hm (by omega)) ?_
        refine X.aload_n dX1_canStep_33 rfl ?_
        refine X.getR dX1_canStep_34 fi_X1_15 sh_16 rfl ?_
        refine X.iload_n dX1_canStep_37 rfl ?_
        have q8 := SI.r14 hS b
        refine X.iald (v := v 14 b) dX1_canStep_38 sh_18 (by decide) (by omega) (rd_14 hm (by omega)) ?_
        refine X.isub (c := (v 14 a) - (v 14 b)) dX1_canStep_39 rfl ?_
        refine X.mabs (c := iabs ((v 14 a) - (v 14 b))) dX1_canStep_40 kl_X1_37 ⟨by omega, by omega⟩ (by decide) (Nat.le_of_ble_eq_true rfl) rfl ?_
        refine X.iconst dX1_canStep_43 ?_
        have hi := iabs_r (a := v 14 a - v 14 b)
        refine X.icmp_gt (tgt := 51) dX1_canStep_44 (by decide) ⟨by omega, by omega⟩ (by decide) (fun h9 => ?_) (fun h9 => ?_)
        · skip
          refine X.iconst dX1_canStep_51 ?_
          exact X.zret dX1_canStep_52 rfl (by decide) (by rw [bi_f (by omega)]) rfl
        · skip
          refine X.iconst dX1_canStep_47 ?_
          refine X.goto (tgt := 52) dX1_canStep_48 (by decide) ?_
          exact X.zret dX1_canStep_52 rfl (by decide) (by rw [bi_t (by omega)]) rfl
end
section
/-! ===== what loops over rows leave ===== -/
def mgen (M : Mem) (F : Nat → Int → Option Int) (k hi : Int) : Mem := fun a j => if k ≤ j ∧ j < hi then (F a j).getD (M a j) else M a j
theorem mgen_end {M : Mem} {F : Nat → Int → Option Int} {k hi : Int} (h : hi ≤ k) : mgen M F k hi = M := by
  funext a j; unfold mgen; rw [if_neg (by omega)]
theorem mgen_step {M M' : Mem} {F : Nat → Int → Option Int} {k hi : Int} (h : k < hi) (e : ∀ a j, M' a j = if j = k then (F a j).getD (M a j) else M a j) : mgen M' F (k + 1) hi = mgen M F k hi := by
  funext a j
  unfold mgen
  by_cases hj : j = k
  · rw [if_neg (by omega), if_pos (by omega), e, if_pos hj]
  · by_cases h2 : k + 1 ≤ j ∧ j < hi
    · rw [if_pos h2, if_pos (by omega), e, if_neg hj]
    · rw [if_neg h2, if_neg (by omega), e, if_neg hj]
theorem mgen_row {M : Mem} {F : Nat → Int → Option Int} {k hi : Int} {a : Nat} (h : ∀ j, F a j = none) : mgen M F k hi a = M a := by
  funext j; unfold mgen; rw [h j]; simp
theorem mgen_in {M : Mem} {F : Nat → Int → Option Int} {k hi : Int} {a : Nat} {j x : Int} (hj : k ≤ j ∧ j < hi) (h : F a j = some x) : mgen M F k hi a j = x := by
  unfold mgen; rw [if_pos hj, h]; rfl
theorem VA.mgn {M : Mem} {v : Vw} {F : Nat → Int → Option Int} {k hi : Int} (h : VA M v) (hF : ∀ a, 1 ≤ a → a ≤ 9 → ∀ j, F a j = none) : VA (mgen M F k hi) v := h.frame fun a h1 h2 => mgen_row (hF a h1 h2)
/-- one row -/
def Frow (a : Nat) (f : Int → Int) : Nat → Int → Option Int := fun b j => if b = a then some (f j) else none
theorem Frow_step {M : Mem} {a : Nat} {f : Int → Int} {k hi x : Int} (h : k < hi) (hx : x = f k) : mgen (mset M a k x) (Frow a f) (k + 1) hi = mgen M (Frow a f) k hi := by
  refine mgen_step h fun b j => ?_
  subst hx
  unfold mset Frow
  by_cases hj : j = k
  · subst hj
    by_cases hb : b = a
    · simp [hb]
    · simp [hb]
  · simp [hj]
noncomputable def Fref (v : Vw) : Nat → Int → Option Int := fun a j => if a = 22 then some (bi (lit v j)) else if a = 23 then some ((mkN (fun k => sees v k j) (v 0 0).toNat : Nat) : Int) else none
theorem Fref_step {M : Mem} {v : Vw} {c hi x m : Int} (h : c < hi) (hx : x = bi (lit v c)) (hm : m = ((mkN (fun k => sees v k c) (v 0 0).toNat : Nat) : Int)) : mgen (mset (mset M 22 c x) 23 c m) (Fref v) (c + 1) hi = mgen M (Fref v) c hi := by
  refine mgen_step h fun a j => ?_
  subst hx; subst hm
  unfold mset Fref
  by_cases hj : j = c
  · subst hj
    by_cases h1 : a = 22
    · subst h1; simp
    · by_cases h2 : a = 23
      · subst h2; simp
      · simp [h1, h2]
  · simp [hj]
/-- what a side knows anew of a cell that it sees -/
noncomputable def nv (v : Vw) (s : Int) (t : Nat) (j : Int) : Int := if t = 0 then v 0 2 else if t = 1 then v 1 j else if t = 2 then v 2 j else bi (¬ sIn v j = -19 ∧ ¬ v 3 (sIn v j) = s)
noncomputable def Frem (v : Vw) (b : Nat) (s : Int) : Nat → Int → Option Int := fun a j => @ite _ (sSees v s j) (Classical.propDecidable _) (if b ≤ a ∧ a < b + 4 then some (nv v s (a - b) j) else none) none
theorem Frem_no {v : Vw} {b a : Nat} {s : Int} (h : ¬ (b ≤ a ∧ a < b + 4)) (j : Int) : Frem v b s a j = none := by
  unfold Frem; rw [if_neg h]; split <;> rfl
theorem Frem_step {M : Mem} {v : Vw} {b : Nat} {s c hi : Int} (h : c < hi) (p : sSees v s c) : mgen (mset (mset (mset (mset M b c (nv v s 0 c)) (b + 1) c (nv v s 1 c)) (b + 2) c (nv v s 2 c)) (b + 3) c (nv v s 3 c)) (Frem v b s) (c + 1) hi = mgen M (Frem v b s) c hi := by
  refine mgen_step h fun a j => ?_
  unfold mset
  by_cases hj : j = c
  · subst hj
    have e : Frem v b s a j = if b ≤ a ∧ a < b + 4 then some (nv v s (a - b) j) else none := if_pos p
    rw [e]
    by_cases ha : b ≤ a ∧ a < b + 4
    · have : a = b ∨ a = b + 1 ∨ a = b + 2 ∨ a = b + 3 := by omega
      rcases this with rfl | rfl | rfl | rfl
      · simp
      · simp
      · simp
      · simp
    · rw [if_neg ha]
      have h0 : a ≠ b := by omega
      have h1 : a ≠ b + 1 := by omega
      have h2 : a ≠ b + 2 := by omega
      have h3 : a ≠ b + 3 := by omega
      simp [h0, h1, h2, h3]
  · simp [hj]
theorem Frem_skip {M : Mem} {v : Vw} {b : Nat} {s c hi : Int} (h : c < hi) (p : ¬ sSees v s c) : mgen M (Frem v b s) (c + 1) hi = mgen M (Frem v b s) c hi := by
  refine mgen_step h fun a j => ?_
  by_cases hj : j = c
  · subst hj
    have e : Frem v b s a j = none := if_neg p
    rw [e]; simp
  · simp [hj]
def vrow (v : Vw) (t : Nat) (f : Int → Int) : Vw := fun s => if s = t then f else v s
def Fgap (M : Mem) (a : Nat) : Nat → Int → Option Int := Frow a (fun j => M a (j + 1))
def cpB (M : Mem) (d s : Nat) : Mem := fun a j => if a = d then (if j = 2 ∨ j = 6 ∨ j = 10 ∨ j = 11 then M s j else M d j) else if (d + 1 ≤ a ∧ a ≤ d + 8) ∨ (d + 11 ≤ a ∧ a ≤ d + 14) ∨ (d + 16 ≤ a ∧ a ≤ d + 19) then M (a - d + s) j else M a j
set_option maxHeartbeats 4000000 in
set_option maxRecDepth 100000 in
theorem c_refresh (M : Mem) (v : Vw) (hv : VA M v) (hS : SI v) : CX mX2_refresh 5 [.inr (some 21), .inr (some 1)] M none (mgen M (Fref v) 0 120) := by
  have n0 := hS.n0
  have n1 := hS.n1
  have n2 := hS.n2
  refine CX.of (by decide +kernel) (Nat.le_of_ble_eq_true rfl) [some (.inr (some 21)), some (.inr (some 1)), none, none] rfl ?_
  refine X.iconst dX2_refresh_0 ?_
  refine X.istore_n (lv2 := [some (.inr (some 21)), some (.inr (some 1)), some (.inl 0), none]) dX2_refresh_1 (Nat.le_of_ble_eq_true rfl) rfl ?_
  have L2 : ∀ c, 0 ≤ c → c ≤ 120 → ∀ x3 : Option AV, ∀ M1 : Mem, VA M1 v → VX mX2_refresh 5 2 [some (.inr (some 21)), some (.inr (some 1)), some (.inl c), x3] [] M1 none (mgen M1 (Fref v) c 120) := by
    refine down_ind 0 120 ?_ ?_
    · skip
      intro x3 M1 hv1
      refine X.iload_n dX2_refresh_2 rfl ?_
      refine X.bipush dX2_refresh_3 (by decide) ?_
      refine X.icmp_ge (tgt := 90) dX2_refresh_5 (by decide) ⟨by omega, by omega⟩ (by decide) (fun h1 => ?_) (fun h => by exfalso; omega)
      exact X.vret dX2_refresh_90 rfl rfl (mgen_end (Int.le_refl _)).symm
    · intro c hc1 hc2 ihc
      intro x3 M1 hv1
      refine X.iload_n dX2_refresh_2 rfl ?_
      refine X.bipush dX2_refresh_3 (by decide) ?_
      refine X.icmp_ge (tgt := 90) dX2_refresh_5 (by decide) ⟨by omega, by omega⟩ (by decide) (fun h => by exfalso; omega) (fun h2 => ?_)
      refine X.aload_n dX2_refresh_8 rfl ?_
      refine X.getR dX2_refresh_9 fi_X2_9 sh_21 rfl ?_
      refine X.iload_n dX2_refresh_12 rfl ?_
      refine X.aload_n dX2_refresh_13 rfl ?_
      refine X.iload_n dX2_refresh_14 rfl ?_
      by_cases hli : lit v c
      · skip
        refine X.callV1 (As := [.inl c]) (rest := [.inl c, .inr (some 22)]) dX2_refresh_15 mk_X2_18 sh_1 (CX.bt (c_isLit M1 v hv1 hS c (by omega)) hli) rfl (by decide) rfl (Nat.le_of_ble_eq_true rfl) ?_
        refine X.if_eq (tgt := 25) dX2_refresh_18 (by decide) (by decide) (fun h => absurd h (by decide)) (fun h3 => ?_)
        refine X.iconst dX2_refresh_21 ?_
        refine X.goto (tgt := 26) dX2_refresh_22 (by decide) ?_
        refine X.iast dX2_refresh_26 sh_22 (by decide) (by omega) ?_
        refine X.aload_n dX2_refresh_27 rfl ?_
        refine X.getR dX2_refresh_28 fi_X2_15 sh_21 rfl ?_
        refine X.iload_n dX2_refresh_31 rfl ?_
        refine X.iconst dX2_refresh_32 ?_
        refine X.iast dX2_refresh_33 sh_23 (by decide) (by omega) ?_
        refine X.iconst dX2_refresh_34 ?_
        refine X.istore_n (lv2 := [some (.inr (some 21)), some (.inr (some 1)), some (.inl c), some (.inl 0)]) dX2_refresh_35 (Nat.le_of_ble_eq_true rfl) rfl ?_
        have L36 : ∀ k, 0 ≤ k → k ≤ (v 0 0) → VX mX2_refresh 5 36 [some (.inr (some 21)), some (.inr (some 1)), some (.inl c), some (.inl k)] [] (mset (mset M1 22 c 1) 23 c ((mkN (fun k => sees v k c) k.toNat : Nat) : Int)) none (mgen M1 (Fref v) c 120) := by
          refine down_ind 0 (v 0 0) ?_ ?_
          · skip
            have hv2 : VA (mset (mset M1 22 c 1) 23 c ((mkN (fun k => sees v k c) (v 0 0).toNat : Nat) : Int)) v := (hv1.mset (by decide)).mset (by decide)
            have hlc : (mset (mset M1 22 c 1) 23 c ((mkN (fun k => sees v k c) (v 0 0).toNat : Nat) : Int)) 22 c = bi (lit v c) := by simp [mset, bi_t hli]
            refine X.iload_n dX2_refresh_36 rfl ?_
            refine X.aload_n dX2_refresh_37 rfl ?_
            refine X.getI (v := v 0 0) 2 dX2_refresh_38 fi_X2_24 sh_1 rfl (rd_0_0 hv2) ?_
            refine X.icmp_ge (tgt := 84) dX2_refresh_41 (by decide) ⟨by omega, by omega⟩ ⟨by omega, by omega⟩ (fun h4 => ?_) (fun h => by exfalso; omega)
            refine X.iinc (y := c + 1) (lv2 := [some (.inr (some 21)), some (.inr (some 1)), some (.inl (c + 1)), some (.inl (v 0 0))]) dX2_refresh_84 rfl rfl rfl ?_
            refine X.goto (tgt := 2) dX2_refresh_87 (by decide) ?_
            rw [← Fref_step (x := 1) (m := ((mkN (fun k => sees v k c) (v 0 0).toNat : Nat) : Int)) hc2 (bi_t hli).symm rfl]
            exact ihc (some (.inl (v 0 0))) (mset (mset M1 22 c 1) 23 c ((mkN (fun k => sees v k c) (v 0 0).toNat : Nat) : Int)) hv2
          · intro k hk1 hk2 ihk
            have hv2 : VA (mset (mset M1 22 c 1) 23 c ((mkN (fun k => sees v k c) k.toNat : Nat) : Int)) v := (hv1.mset (by decide)).mset (by decide)
            have hlc : (mset (mset M1 22 c 1) 23 c ((mkN (fun k => sees v k c) k.toNat : Nat) : Int)) 22 c = bi (lit v c) := by simp [mset, bi_t hli]
            refine X.iload_n dX2_refresh_36 rfl ?_
            refine X.aload_n dX2_refresh_37 rfl ?_
            refine X.getI (v := v 0 0) 2 dX2_refresh_38 fi_X2_24 sh_1 rfl (rd_0_0 hv2) ?_
            refine X.icmp_ge (tgt := 84) dX2_refresh_41 (by decide) ⟨by omega, by omega⟩ ⟨by omega, by omega⟩ (fun h => by exfalso; omega) (fun h5 => ?_)
            refine X.aload_n dX2_refresh_44 rfl ?_
            refine X.aload_n dX2_refresh_45 rfl ?_
            refine X.aload_n dX2_refresh_46 rfl ?_
            refine X.getR dX2_refresh_47 fi_X2_28 sh_1 rfl ?_
            refine X.iload_n dX2_refresh_50 rfl ?_
            have q6 := SI.r4 hS k
            refine X.iald (v := v 4 k) dX2_refresh_51 sh_5 (by decide) (by omega) (rd_4 hv2 (by omega)) ?_
            refine X.aload_n dX2_refresh_52 rfl ?_
            refine X.getR dX2_refresh_53 fi_X2_31 sh_1 rfl ?_
            refine X.iload_n dX2_refresh_56 rfl ?_
            have q7 := SI.r5 hS k
            refine X.iald (v := v 5 k) dX2_refresh_57 sh_6 (by decide) (by omega) (rd_5 hv2 (by omega)) ?_
            refine X.iload_n dX2_refresh_58 rfl ?_
            by_cases hp : see v (v 4 k) (v 5 k) c
            · skip
              refine X.callV1 (As := [.inr (some 1), .inl (v 4 k), .inl (v 5 k), .inl c]) (rest := []) dX2_refresh_59 mk_X2_34 sh_21 (CX.bt (c_canSee (mset (mset M1 22 c 1) 23 c ((mkN (fun k => sees v k c) k.toNat : Nat) : Int)) v hv2 hS (v 4 k) (v 5 k) c (by omega) (by omega) (by omega) hlc) hp) rfl (by decide) rfl (Nat.le_of_ble_eq_true rfl) ?_
              refine X.if_eq (tgt := 78) dX2_refresh_62 (by decide) (by decide) (fun h => absurd h (by decide)) (fun h8 => ?_)
              refine X.aload_n dX2_refresh_65 rfl ?_
              refine X.getR dX2_refresh_66 fi_X2_15 sh_21 rfl ?_
              refine X.iload_n dX2_refresh_69 rfl ?_
              refine X.dup2 dX2_refresh_70 ?_
              refine X.iald (v := ((mkN (fun k => sees v k c) k.toNat : Nat) : Int)) dX2_refresh_71 sh_23 (by decide) (by omega) mset_at ?_
              refine X.iload_n dX2_refresh_72 rfl ?_
              refine X.callN1 (As := [.inl k]) (rest := [.inl ((mkN (fun k => sees v k c) k.toNat : Nat) : Int), .inl c, .inr (some 23)]) dX2_refresh_73 mk_X2_38 (c_bitOf (mset (mset M1 22 c 1) 23 c ((mkN (fun k => sees v k c) k.toNat : Nat) : Int)) k) rfl (by decide) rfl (Nat.le_of_ble_eq_true rfl) ?_
              refine X.ior (c := ((mkN (fun k => sees v k c) (k + 1).toNat : Nat) : Int)) dX2_refresh_76 (mkN_or (P := fun k => sees v k c) (by omega) hp) ?_
              refine X.iast dX2_refresh_77 sh_23 (by decide) (by omega) ?_
              refine X.iinc (y := k + 1) (lv2 := [some (.inr (some 21)), some (.inr (some 1)), some (.inl c), some (.inl (k + 1))]) dX2_refresh_78 rfl rfl rfl ?_
              refine X.goto (tgt := 36) dX2_refresh_81 (by decide) ?_
              rw [mset_mset]
              exact ihk
            · skip
              refine X.callV1 (As := [.inr (some 1), .inl (v 4 k), .inl (v 5 k), .inl c]) (rest := []) dX2_refresh_59 mk_X2_34 sh_21 (CX.bf (c_canSee (mset (mset M1 22 c 1) 23 c ((mkN (fun k => sees v k c) k.toNat : Nat) : Int)) v hv2 hS (v 4 k) (v 5 k) c (by omega) (by omega) (by omega) hlc) hp) rfl (by decide) rfl (Nat.le_of_ble_eq_true rfl) ?_
              refine X.if_eq (tgt := 78) dX2_refresh_62 (by decide) (by decide) (fun h9 => ?_) (fun h => absurd h (by decide))
              refine X.iinc (y := k + 1) (lv2 := [some (.inr (some 21)), some (.inr (some 1)), some (.inl c), some (.inl (k + 1))]) dX2_refresh_78 rfl rfl rfl ?_
              refine X.goto (tgt := 36) dX2_refresh_81 (by decide) ?_
              rw [mkN_no (P := fun k => sees v k c) (by omega) hp] at ihk
              exact ihk
        exact L36 0 (by omega) (by omega)
      · skip
        refine X.callV1 (As := [.inl c]) (rest := [.inl c, .inr (some 22)]) dX2_refresh_15 mk_X2_18 sh_1 (CX.bf (c_isLit M1 v hv1 hS c (by omega)) hli) rfl (by decide) rfl (Nat.le_of_ble_eq_true rfl) ?_
        refine X.if_eq (tgt := 25) dX2_refresh_18 (by decide) (by decide) (fun h10 => ?_) (fun h => absurd h (by decide))
        refine X.iconst dX2_refresh_25 ?_
        refine X.iast dX2_refresh_26 sh_22 (by decide) (by omega) ?_
        refine X.aload_n dX2_refresh_27 rfl ?_
        refine X.getR dX2_refresh_28 fi_X2_15 sh_21 rfl ?_
        refine X.iload_n dX2_refresh_31 rfl ?_
        refine X.iconst dX2_refresh_32 ?_
        refine X.iast dX2_refresh_33 sh_23 (by decide) (by omega) ?_
        refine X.iconst dX2_refresh_34 ?_
        refine X.istore_n (lv2 := [some (.inr (some 21)), some (.inr (some 1)), some (.inl c), some (.inl 0)]) dX2_refresh_35 (Nat.le_of_ble_eq_true rfl) rfl ?_
        have L36 : ∀ k, 0 ≤ k → k ≤ (v 0 0) → VX mX2_refresh 5 36 [some (.inr (some 21)), some (.inr (some 1)), some (.inl c), some (.inl k)] [] (mset (mset M1 22 c 0) 23 c ((mkN (fun k => sees v k c) k.toNat : Nat) : Int)) none (mgen M1 (Fref v) c 120) := by
          refine down_ind 0 (v 0 0) ?_ ?_
          · skip
            have hv2 : VA (mset (mset M1 22 c 0) 23 c ((mkN (fun k => sees v k c) (v 0 0).toNat : Nat) : Int)) v := (hv1.mset (by decide)).mset (by decide)
            have hlc : (mset (mset M1 22 c 0) 23 c ((mkN (fun k => sees v k c) (v 0 0).toNat : Nat) : Int)) 22 c = bi (lit v c) := by simp [mset, bi_f hli]
            refine X.iload_n dX2_refresh_36 rfl ?_
            refine X.aload_n dX2_refresh_37 rfl ?_
            refine X.getI (v := v 0 0) 2 dX2_refresh_38 fi_X2_24 sh_1 rfl (rd_0_0 hv2) ?_
            refine X.icmp_ge (tgt := 84) dX2_refresh_41 (by decide) ⟨by omega, by omega⟩ ⟨by omega, by omega⟩ (fun h11 => ?_) (fun h => by exfalso; omega)
            refine X.iinc (y := c + 1) (lv2 := [some (.inr (some 21)), some (.inr (some 1)), some (.inl (c + 1)), some (.inl (v 0 0))]) dX2_refresh_84 rfl rfl rfl ?_
            refine X.goto (tgt := 2) dX2_refresh_87 (by decide) ?_
            rw [← Fref_step (x := 0) (m := ((mkN (fun k => sees v k c) (v 0 0).toNat : Nat) : Int)) hc2 (bi_f hli).symm rfl]
            exact ihc (some (.inl (v 0 0))) (mset (mset M1 22 c 0) 23 c ((mkN (fun k => sees v k c) (v 0 0).toNat : Nat) : Int)) hv2
          · intro k hk1 hk2 ihk
            have hv2 : VA (mset (mset M1 22 c 0) 23 c ((mkN (fun k => sees v k c) k.toNat : Nat) : Int)) v := (hv1.mset (by decide)).mset (by decide)
            have hlc : (mset (mset M1 22 c 0) 23 c ((mkN (fun k => sees v k c) k.toNat : Nat) : Int)) 22 c = bi (lit v c) := by simp [mset, bi_f hli]
            refine X.iload_n dX2_refresh_36 rfl ?_
            refine X.aload_n dX2_refresh_37 rfl ?_
            refine X.getI (v := v 0 0) 2 dX2_refresh_38 fi_X2_24 sh_1 rfl (rd_0_0 hv2) ?_
            refine X.icmp_ge (tgt := 84) dX2_refresh_41 (by decide) ⟨by omega, by omega⟩ ⟨by omega, by omega⟩ (fun h => by exfalso; omega) (fun h12 => ?_)
            refine X.aload_n dX2_refresh_44 rfl ?_
            refine X.aload_n dX2_refresh_45 rfl ?_
            refine X.aload_n dX2_refresh_46 rfl ?_
            refine X.getR dX2_refresh_47 fi_X2_28 sh_1 rfl ?_
            refine X.iload_n dX2_refresh_50 rfl ?_
            have q13 := SI.r4 hS k
            refine X.iald (v := v 4 k) dX2_refresh_51 sh_5 (by decide) (by omega) (rd_4 hv2 (by omega)) ?_
            refine X.aload_n dX2_refresh_52 rfl ?_
            refine X.getR dX2_refresh_53 fi_X2_31 sh_1 rfl ?_
            refine X.iload_n dX2_refresh_56 rfl ?_
            have q14 := SI.r5 hS k
            refine X.iald (v := v 5 k) dX2_refresh_57 sh_6 (by decide) (by omega) (rd_5 hv2 (by omega)) ?_
            refine X.iload_n dX2_refresh_58 rfl ?_
            by_cases hp : see v (v 4 k) (v 5 k) c
            · skip
              refine X.callV1 (As := [.inr (some 1), .inl (v 4 k), .inl (v 5 k), .inl c]) (rest := []) dX2_refresh_59 mk_X2_34 sh_21 (CX.bt (c_canSee (mset (mset M1 22 c 0) 23 c ((mkN (fun k => sees v k c) k.toNat : Nat) : Int)) v hv2 hS (v 4 k) (v 5 k) c (by omega) (by omega) (by omega) hlc) hp) rfl (by decide) rfl (Nat.le_of_ble_eq_true rfl) ?_
              refine X.if_eq (tgt := 78) dX2_refresh_62 (by decide) (by decide) (fun h => absurd h (by decide)) (fun h15 => ?_)
              refine X.aload_n dX2_refresh_65 rfl ?_
              refine X.getR dX2_refresh_66 fi_X2_15 sh_21 rfl ?_
              refine X.iload_n dX2_refresh_69 rfl ?_
              refine X.dup2 dX2_refresh_70 ?_
              refine X.iald (v := ((mkN (fun k => sees v k c) k.toNat : Nat) : Int)) dX2_refresh_71 sh_23 (by decide) (by omega) mset_at ?_
              refine X.iload_n dX2_refresh_72 rfl ?_
              refine X.callN1 (As := [.inl k]) (rest := [.inl ((mkN (fun k => sees v k c) k.toNat : Nat) : Int), .inl c, .inr (some 23)]) dX2_refresh_73 mk_X2_38 (c_bitOf (mset (mset M1 22 c 0) 23 c ((mkN (fun k => sees v k c) k.toNat : Nat) : Int)) k) rfl (by decide) rfl (Nat.le_of_ble_eq_true rfl) ?_
              refine X.ior (c := ((mkN (fun k => sees v k c) (k + 1).toNat : Nat) : Int)) dX2_refresh_76 (mkN_or (P := fun k => sees v k c) (by omega) hp) ?_
              refine X.iast dX2_refresh_77 sh_23 (by decide) (by omega) ?_
              refine X.iinc (y := k + 1) (lv2 := [some (.inr (some 21)), some (.inr (some 1)), some (.inl c), some (.inl (k + 1))]) dX2_refresh_78 rfl rfl rfl ?_
              refine X.goto (tgt := 36) dX2_refresh_81 (by decide) ?_
              rw [mset_mset]
              exact ihk
            · skip
              refine X.callV1 (As := [.inr (some 1), .inl (v 4 k), .inl (v 5 k), .inl c]) (rest := []) dX2_refresh_59 mk_X2_34 sh_21 (CX.bf (c_canSee (mset (mset M1 22 c 0) 23 c ((mkN (fun k => sees v k c) k.toNat : Nat) : Int)) v hv2 hS (v 4 k) (v 5 k) c (by omega) (by omega) (by omega) hlc) hp) rfl (by decide) rfl (Nat.le_of_ble_eq_true rfl) ?_
              refine X.if_eq (tgt := 78) dX2_refresh_62 (by decide) (by decide) (fun h16 => ?_) (fun h => absurd h (by decide))
              refine X.iinc (y := k + 1) (lv2 := [some (.inr (some 21)), some (.inr (some 1)), some (.inl c), some (.inl (k + 1))]) dX2_refresh_78 rfl rfl rfl ?_
              refine X.goto (tgt := 36) dX2_refresh_81 (by decide) ?_
              rw [mkN_no (P := fun k => sees v k c) (by omega) hp] at ihk
              exact ihk
        exact L36 0 (by omega) (by omega)
  exact L2 0 (by omega) (by omega) none M hv
set_option maxHeartbeats 4000000 in
set_option maxRecDepth 100000 in
theorem c_rememberCell_0 (M : Mem) (v : Vw) (hv : VA M v) (hS : SI v) (c : Int) (hc : 0 ≤ c ∧ c < 120) : CX mX3_rememberCell 1 [.inr (some 1), .inl 0, .inl c] M none (mset (mset (mset (mset M 12 c (nv v 0 0 c)) 13 c (nv v 0 1 c)) 14 c (nv v 0 2 c)) 15 c (nv v 0 3 c)) := by
  have n0 := hS.n0
  have n1 := hS.n1
  have n2 := hS.n2
  have hi := sIn_range hS c
  have x0 : nv v 0 0 c = v 0 2 := rfl
  have x1 : nv v 0 1 c = v 1 c := rfl
  have x2 : nv v 0 2 c = v 2 c := rfl
  have x3 : nv v 0 3 c = bi (¬ sIn v c = -19 ∧ ¬ v 3 (sIn v c) = 0) := rfl
  rw [x0, x1, x2, x3]
  refine CX.of (by decide +kernel) (Nat.le_of_ble_eq_true rfl) [some (.inr (some 1)), some (.inl 0), some (.inl c), none, none] rfl ?_
  refine X.aload_n dX3_rememberCell_0 rfl ?_
  refine X.getR dX3_rememberCell_1 fi_X3_52 sh_1 rfl ?_
  refine X.iload_n dX3_rememberCell_4 rfl ?_
  refine X.aald dX3_rememberCell_5 sh_10 (by decide) (by decide) (by decide) rfl ?_
  refine X.astore_n (lv2 := [some (.inr (some 1)), some (.inl 0), some (.inl c), some (.inr (some 11)), none]) dX3_rememberCell_6 (Nat.le_of_ble_eq_true rfl) rfl ?_
  refine X.aload_n dX3_rememberCell_7 rfl ?_
  refine X.iload_n dX3_rememberCell_8 rfl ?_
  refine X.callV1 (As := [.inl c]) (rest := []) dX3_rememberCell_9 mk_X3_64 sh_1 (c_scoutIn M v hv hS c ⟨by omega, by omega⟩) rfl (by decide) rfl (Nat.le_of_ble_eq_true rfl) ?_
  refine X.istore (lv2 := [some (.inr (some 1)), some (.inl 0), some (.inl c), some (.inr (some 11)), some (.inl (sIn v c))]) dX3_rememberCell_12 (Nat.le_of_ble_eq_true rfl) rfl ?_
  refine X.aload_n dX3_rememberCell_14 rfl ?_
  refine X.getR dX3_rememberCell_15 fi_X3_103 sh_11 rfl ?_
  refine X.iload_n dX3_rememberCell_18 rfl ?_
  refine X.aload_n dX3_rememberCell_19 rfl ?_
  refine X.getI (v := v 0 2) 10 dX3_rememberCell_20 fi_X3_43 sh_1 rfl (rd_0_2 hv) ?_
  refine X.iast dX3_rememberCell_23 sh_12 (by decide) (by omega) ?_
  refine X.aload_n dX3_rememberCell_24 rfl ?_
  refine X.getR dX3_rememberCell_25 fi_X3_106 sh_11 rfl ?_
  refine X.iload_n dX3_rememberCell_28 rfl ?_
  refine X.aload_n dX3_rememberCell_29 rfl ?_
  refine X.getR dX3_rememberCell_30 fi_X3_9 sh_1 rfl ?_
  refine X.iload_n dX3_rememberCell_33 rfl ?_
  have q1 := SI.r1 hS c
  refine X.iald (v := v 1 c) dX3_rememberCell_34 sh_2 (by decide) (by omega) (rd_1 (hv.mset (by decide)) (by omega)) ?_
  refine X.iast dX3_rememberCell_35 sh_13 (by decide) (by omega) ?_
  refine X.aload_n dX3_rememberCell_36 rfl ?_
  refine X.getR dX3_rememberCell_37 fi_X3_107 sh_11 rfl ?_
  refine X.iload_n dX3_rememberCell_40 rfl ?_
  refine X.aload_n dX3_rememberCell_41 rfl ?_
  refine X.getR dX3_rememberCell_42 fi_X3_15 sh_1 rfl ?_
  refine X.iload_n dX3_rememberCell_45 rfl ?_
  have q2 := SI.r2 hS c
  refine X.iald (v := v 2 c) dX3_rememberCell_46 sh_3 (by decide) (by omega) (rd_2 ((hv.mset (by decide)).mset (by decide)) (by omega)) ?_
  refine X.iast dX3_rememberCell_47 sh_14 (by decide) (by omega) ?_
  refine X.aload_n dX3_rememberCell_48 rfl ?_
  refine X.getR dX3_rememberCell_49 fi_X3_108 sh_11 rfl ?_
  refine X.iload_n dX3_rememberCell_52 rfl ?_
  refine X.iload dX3_rememberCell_53 rfl ?_
  refine X.bipush dX3_rememberCell_55 (by decide) ?_
  refine X.icmp_eq (tgt := 75) dX3_rememberCell_57 (by decide) ⟨by omega, by omega⟩ (by decide) (fun h3 => ?_) (fun h3 => ?_)
  · skip
    refine X.iconst dX3_rememberCell_75 ?_
    refine X.iast dX3_rememberCell_76 sh_15 (by decide) (by omega) ?_
    exact X.vret dX3_rememberCell_77 rfl rfl (by rw [bi_f (by omega)])
  · skip
    refine X.aload_n dX3_rememberCell_60 rfl ?_
    refine X.getR dX3_rememberCell_61 fi_X3_22 sh_1 rfl ?_
    refine X.iload dX3_rememberCell_64 rfl ?_
    have q4 := SI.r3 hS (sIn v c)
    refine X.iald (v := v 3 (sIn v c)) dX3_rememberCell_66 sh_4 (by decide) (by omega) (rd_3 (((hv.mset (by decide)).mset (by decide)).mset (by decide)) (by omega)) ?_
    refine X.iload_n dX3_rememberCell_67 rfl ?_
    refine X.icmp_eq (tgt := 75) dX3_rememberCell_68 (by decide) ⟨by omega, by omega⟩ (by decide) (fun h5 => ?_) (fun h5 => ?_)
    · skip
      refine X.iconst dX3_rememberCell_75 ?_
      refine X.iast dX3_rememberCell_76 sh_15 (by decide) (by omega) ?_
      exact X.vret dX3_rememberCell_77 rfl rfl (by rw [bi_f (by omega)])
    · skip
      refine X.iconst dX3_rememberCell_71 ?_
      refine X.goto (tgt := 76) dX3_rememberCell_72 (by decide) ?_
      refine X.iast dX3_rememberCell_76 sh_15 (by decide) (by omega) ?_
      exact X.vret dX3_rememberCell_77 rfl rfl (by rw [bi_t (by omega)])
set_option maxHeartbeats 4000000 in
set_option maxRecDepth 100000 in
theorem c_rememberCell_1 (M : Mem) (v : Vw) (hv : VA M v) (hS : SI v) (c : Int) (hc : 0 ≤ c ∧ c < 120) : CX mX3_rememberCell 1 [.inr (some 1), .inl 1, .inl c] M none (mset (mset (mset (mset M 17 c (nv v 1 0 c)) 18 c (nv v 1 1 c)) 19 c (nv v 1 2 c)) 20 c (nv v 1 3 c)) := by
  have n0 := hS.n0
  have n1 := hS.n1
  have n2 := hS.n2
  have hi := sIn_range hS c
  have x0 : nv v 1 0 c = v 0 2 := rfl
  have x1 : nv v 1 1 c = v 1 c := rfl
  have x2 : nv v 1 2 c = v 2 c := rfl
  have x3 : nv v 1 3 c = bi (¬ sIn v c = -19 ∧ ¬ v 3 (sIn v c) = 1) := rfl
  rw [x0, x1, x2, x3]
  refine CX.of (by decide +kernel) (Nat.le_of_ble_eq_true rfl) [some (.inr (some 1)), some (.inl 1), some (.inl c), none, none] rfl ?_
  refine X.aload_n dX3_rememberCell_0 rfl ?_
  refine X.getR dX3_rememberCell_1 fi_X3_52 sh_1 rfl ?_
  refine X.iload_n dX3_rememberCell_4 rfl ?_
  refine X.aald dX3_rememberCell_5 sh_10 (by decide) (by decide) (by decide) rfl ?_
  refine X.astore_n (lv2 := [some (.inr (some 1)), some (.inl 1), some (.inl c), some (.inr (some 16)), none]) dX3_rememberCell_6 (Nat.le_of_ble_eq_true rfl) rfl ?_
  refine X.aload_n dX3_rememberCell_7 rfl ?_
  refine X.iload_n dX3_rememberCell_8 rfl ?_
  refine X.callV1 (As := [.inl c]) (rest := []) dX3_rememberCell_9 mk_X3_64 sh_1 (c_scoutIn M v hv hS c ⟨by omega, by omega⟩) rfl (by decide) rfl (Nat.le_of_ble_eq_true rfl) ?_
  refine X.istore (lv2 := [some (.inr (some 1)), some (.inl 1), some (.inl c), some (.inr (some 16)), some (.inl (sIn v c))]) dX3_rememberCell_12 (Nat.le_of_ble_eq_true rfl) rfl ?_
  refine X.aload_n dX3_rememberCell_14 rfl ?_
  refine X.getR dX3_rememberCell_15 fi_X3_103 sh_16 rfl ?_
  refine X.iload_n dX3_rememberCell_18 rfl ?_
  refine X.aload_n dX3_rememberCell_19 rfl ?_
  refine X.getI (v := v 0 2) 10 dX3_rememberCell_20 fi_X3_43 sh_1 rfl (rd_0_2 hv) ?_
  refine X.iast dX3_rememberCell_23 sh_17 (by decide) (by omega) ?_
  refine X.aload_n dX3_rememberCell_24 rfl ?_
  refine X.getR dX3_rememberCell_25 fi_X3_106 sh_16 rfl ?_
  refine X.iload_n dX3_rememberCell_28 rfl ?_
  refine X.aload_n dX3_rememberCell_29 rfl ?_
  refine X.getR dX3_rememberCell_30 fi_X3_9 sh_1 rfl ?_
  refine X.iload_n dX3_rememberCell_33 rfl ?_
  have q1 := SI.r1 hS c
  refine X.iald (v := v 1 c) dX3_rememberCell_34 sh_2 (by decide) (by omega) (rd_1 (hv.mset (by decide)) (by omega)) ?_
  refine X.iast dX3_rememberCell_35 sh_18 (by decide) (by omega) ?_
  refine X.aload_n dX3_rememberCell_36 rfl ?_
  refine X.getR dX3_rememberCell_37 fi_X3_107 sh_16 rfl ?_
  refine X.iload_n dX3_rememberCell_40 rfl ?_
  refine X.aload_n dX3_rememberCell_41 rfl ?_
  refine X.getR dX3_rememberCell_42 fi_X3_15 sh_1 rfl ?_
  refine X.iload_n dX3_rememberCell_45 rfl ?_
  have q2 := SI.r2 hS c
  refine X.iald (v := v 2 c) dX3_rememberCell_46 sh_3 (by decide) (by omega) (rd_2 ((hv.mset (by decide)).mset (by decide)) (by omega)) ?_
  refine X.iast dX3_rememberCell_47 sh_19 (by decide) (by omega) ?_
  refine X.aload_n dX3_rememberCell_48 rfl ?_
  refine X.getR dX3_rememberCell_49 fi_X3_108 sh_16 rfl ?_
  refine X.iload_n dX3_rememberCell_52 rfl ?_
  refine X.iload dX3_rememberCell_53 rfl ?_
  refine X.bipush dX3_rememberCell_55 (by decide) ?_
  refine X.icmp_eq (tgt := 75) dX3_rememberCell_57 (by decide) ⟨by omega, by omega⟩ (by decide) (fun h3 => ?_) (fun h3 => ?_)
  · skip
    refine X.iconst dX3_rememberCell_75 ?_
    refine X.iast dX3_rememberCell_76 sh_20 (by decide) (by omega) ?_
    exact X.vret dX3_rememberCell_77 rfl rfl (by rw [bi_f (by omega)])
  · skip
    refine X.aload_n dX3_rememberCell_60 rfl ?_
    refine X.getR dX3_rememberCell_61 fi_X3_22 sh_1 rfl ?_
    refine X.iload dX3_rememberCell_64 rfl ?_
    have q4 := SI.r3 hS (sIn v c)
    refine X.iald (v := v 3 (sIn v c)) dX3_rememberCell_66 sh_4 (by decide) (by omega) (rd_3 (((hv.mset (by decide)).mset (by decide)).mset (by decide)) (by omega)) ?_
    refine X.iload_n dX3_rememberCell_67 rfl ?_
    refine X.icmp_eq (tgt := 75) dX3_rememberCell_68 (by decide) ⟨by omega, by omega⟩ (by decide) (fun h5 => ?_) (fun h5 => ?_)
    · skip
      refine X.iconst dX3_rememberCell_75 ?_
      refine X.iast dX3_rememberCell_76 sh_20 (by decide) (by omega) ?_
      exact X.vret dX3_rememberCell_77 rfl rfl (by rw [bi_f (by omega)])
    · skip
      refine X.iconst dX3_rememberCell_71 ?_
      refine X.goto (tgt := 76) dX3_rememberCell_72 (by decide) ?_
      refine X.iast dX3_rememberCell_76 sh_20 (by decide) (by omega) ?_
      exact X.vret dX3_rememberCell_77 rfl rfl (by rw [bi_t (by omega)])
noncomputable def remM (M : Mem) (v : Vw) : Mem := mgen (mgen M (Frem v 12 0) 0 120) (Frem v 17 1) 0 120
set_option maxHeartbeats 4000000 in
set_option maxRecDepth 100000 in
theorem c_remember (M : Mem) (v : Vw) (hv : VA M v) (hS : SI v) (hG : SG M v) : CX mX3_remember 2 [.inr (some 1), .inr (some 21)] M none (remM M v) := by
  have n0 := hS.n0
  have n1 := hS.n1
  have n2 := hS.n2
  unfold remM
  refine CX.of (by decide +kernel) (Nat.le_of_ble_eq_true rfl) [some (.inr (some 1)), some (.inr (some 21)), none, none, none] rfl ?_
  refine X.iconst dX3_remember_0 ?_
  refine X.istore_n (lv2 := [some (.inr (some 1)), some (.inr (some 21)), some (.inl 0), none, none]) dX3_remember_1 (Nat.le_of_ble_eq_true rfl) rfl ?_
  refine X.iload_n dX3_remember_2 rfl ?_
  refine X.iconst dX3_remember_3 ?_
  refine X.icmp_ge (tgt := 52) dX3_remember_4 (by decide) (by decide) (by decide) (fun h => absurd h (by decide)) (fun h1 => ?_)
  refine X.aload_n dX3_remember_7 rfl ?_
  refine X.iload_n dX3_remember_8 rfl ?_
  refine X.callV1 (As := [.inl 0]) (rest := []) dX3_remember_9 mk_X3_90 sh_1 (c_scoutsOf M v hv hS 0 (by decide)) rfl (by decide) rfl (Nat.le_of_ble_eq_true rfl) ?_
  refine X.istore_n (lv2 := [some (.inr (some 1)), some (.inr (some 21)), some (.inl 0), some (.inl ((mkN (fun k => v 3 k = 0) (v 0 0).toNat : Nat) : Int)), none]) dX3_remember_12 (Nat.le_of_ble_eq_true rfl) rfl ?_
  refine X.iconst dX3_remember_13 ?_
  refine X.istore (lv2 := [some (.inr (some 1)), some (.inr (some 21)), some (.inl 0), some (.inl ((mkN (fun k => v 3 k = 0) (v 0 0).toNat : Nat) : Int)), some (.inl 0)]) dX3_remember_14 (Nat.le_of_ble_eq_true rfl) rfl ?_
  have L16 : ∀ c, 0 ≤ c → c ≤ 120 → ∀ M1 : Mem, VA M1 v → SG M1 v → VX mX3_remember 2 16 [some (.inr (some 1)), some (.inr (some 21)), some (.inl 0), some (.inl ((mkN (fun k => v 3 k = 0) (v 0 0).toNat : Nat) : Int)), some (.inl c)] [] M1 none (mgen (mgen M1 (Frem v 12 0) c 120) (Frem v 17 1) 0 120) := by
    refine down_ind 0 120 ?_ ?_
    · skip
      intro M1 hv1 hG1
      rw [mgen_end (Int.le_refl _)]
      refine X.iload dX3_remember_16 rfl ?_
      refine X.bipush dX3_remember_18 (by decide) ?_
      refine X.icmp_ge (tgt := 46) dX3_remember_20 (by decide) ⟨by omega, by omega⟩ (by decide) (fun h2 => ?_) (fun h => by exfalso; omega)
      refine X.iinc (y := 1) (lv2 := [some (.inr (some 1)), some (.inr (some 21)), some (.inl 1), some (.inl ((mkN (fun k => v 3 k = 0) (v 0 0).toNat : Nat) : Int)), some (.inl 120)]) dX3_remember_46 rfl rfl rfl ?_
      refine X.goto (tgt := 2) dX3_remember_49 (by decide) ?_
      refine X.iload_n dX3_remember_2 rfl ?_
      refine X.iconst dX3_remember_3 ?_
      refine X.icmp_ge (tgt := 52) dX3_remember_4 (by decide) (by decide) (by decide) (fun h => absurd h (by decide)) (fun h3 => ?_)
      refine X.aload_n dX3_remember_7 rfl ?_
      refine X.iload_n dX3_remember_8 rfl ?_
      refine X.callV1 (As := [.inl 1]) (rest := []) dX3_remember_9 mk_X3_90 sh_1 (c_scoutsOf M1 v hv1 hS 1 (by decide)) rfl (by decide) rfl (Nat.le_of_ble_eq_true rfl) ?_
      refine X.istore_n (lv2 := [some (.inr (some 1)), some (.inr (some 21)), some (.inl 1), some (.inl ((mkN (fun k => v 3 k = 1) (v 0 0).toNat : Nat) : Int)), some (.inl 120)]) dX3_remember_12 (Nat.le_of_ble_eq_true rfl) rfl ?_
      refine X.iconst dX3_remember_13 ?_
      refine X.istore (lv2 := [some (.inr (some 1)), some (.inr (some 21)), some (.inl 1), some (.inl ((mkN (fun k => v 3 k = 1) (v 0 0).toNat : Nat) : Int)), some (.inl 0)]) dX3_remember_14 (Nat.le_of_ble_eq_true rfl) rfl ?_
      have L16 : ∀ c, 0 ≤ c → c ≤ 120 → ∀ M2 : Mem, VA M2 v → SG M2 v → VX mX3_remember 2 16 [some (.inr (some 1)), some (.inr (some 21)), some (.inl 1), some (.inl ((mkN (fun k => v 3 k = 1) (v 0 0).toNat : Nat) : Int)), some (.inl c)] [] M2 none (mgen M2 (Frem v 17 1) c 120) := by
        refine down_ind 0 120 ?_ ?_
        · skip
          intro M2 hv2 hG2
          rw [mgen_end (Int.le_refl _)]
          refine X.iload dX3_remember_16 rfl ?_
          refine X.bipush dX3_remember_18 (by decide) ?_
          refine X.icmp_ge (tgt := 46) dX3_remember_20 (by decide) ⟨by omega, by omega⟩ (by decide) (fun h4 => ?_) (fun h => by exfalso; omega)
          refine X.iinc (y := 2) (lv2 := [some (.inr (some 1)), some (.inr (some 21)), some (.inl 2), some (.inl ((mkN (fun k => v 3 k = 1) (v 0 0).toNat : Nat) : Int)), some (.inl 120)]) dX3_remember_46 rfl rfl rfl ?_
          refine X.goto (tgt := 2) dX3_remember_49 (by decide) ?_
          refine X.iload_n dX3_remember_2 rfl ?_
          refine X.iconst dX3_remember_3 ?_
          refine X.icmp_ge (tgt := 52) dX3_remember_4 (by decide) (by decide) (by decide) (fun h5 => ?_) (fun h => absurd h (by decide))
          exact X.vret dX3_remember_52 rfl rfl rfl
        · intro c hc1 hc2 ihc
          intro M2 hv2 hG2
          refine X.iload dX3_remember_16 rfl ?_
          refine X.bipush dX3_remember_18 (by decide) ?_
          refine X.icmp_ge (tgt := 46) dX3_remember_20 (by decide) ⟨by omega, by omega⟩ (by decide) (fun h => by exfalso; omega) (fun h6 => ?_)
          refine X.aload_n dX3_remember_23 rfl ?_
          refine X.iload dX3_remember_24 rfl ?_
          refine X.iload_n dX3_remember_26 rfl ?_
          by_cases hp : ∃ z, 0 ≤ z ∧ z < v 0 0 ∧ sees v z c ∧ (fun k => v 3 k = 1) z
          · skip
            refine X.callV1 (As := [.inl c, .inl ((mkN (fun k => v 3 k = 1) (v 0 0).toNat : Nat) : Int)]) (rest := []) dX3_remember_27 mk_X3_93 sh_21 (CX.bt (c_isSeen M2 v hv2 hS hG2 c (fun k => v 3 k = 1) (by omega)) hp) rfl (by decide) rfl (Nat.le_of_ble_eq_true rfl) ?_
            refine X.if_eq (tgt := 40) dX3_remember_30 (by decide) (by decide) (fun h => absurd h (by decide)) (fun h7 => ?_)
            refine X.aload_n dX3_remember_33 rfl ?_
            refine X.iload_n dX3_remember_34 rfl ?_
            refine X.iload dX3_remember_35 rfl ?_
            refine X.callV0 (As := [.inl 1, .inl c]) (rest := []) dX3_remember_37 mk_X3_99 sh_1 (c_rememberCell_1 M2 v hv2 hS c (by omega)) rfl (by decide) rfl (Nat.le_of_ble_eq_true rfl) ?_
            refine X.iinc (y := c + 1) (lv2 := [some (.inr (some 1)), some (.inr (some 21)), some (.inl 1), some (.inl ((mkN (fun k => v 3 k = 1) (v 0 0).toNat : Nat) : Int)), some (.inl (c + 1))]) dX3_remember_40 rfl rfl rfl ?_
            refine X.goto (tgt := 16) dX3_remember_43 (by decide) ?_
            rw [← Frem_step (b := 17) (s := 1) hc2 hp]
            exact ihc _ ((((hv2.mset (by decide)).mset (by decide)).mset (by decide)).mset (by decide)) ((((hG2.mset (by decide)).mset (by decide)).mset (by decide)).mset (by decide))
          · skip
            refine X.callV1 (As := [.inl c, .inl ((mkN (fun k => v 3 k = 1) (v 0 0).toNat : Nat) : Int)]) (rest := []) dX3_remember_27 mk_X3_93 sh_21 (CX.bf (c_isSeen M2 v hv2 hS hG2 c (fun k => v 3 k = 1) (by omega)) hp) rfl (by decide) rfl (Nat.le_of_ble_eq_true rfl) ?_
            refine X.if_eq (tgt := 40) dX3_remember_30 (by decide) (by decide) (fun h8 => ?_) (fun h => absurd h (by decide))
            refine X.iinc (y := c + 1) (lv2 := [some (.inr (some 1)), some (.inr (some 21)), some (.inl 1), some (.inl ((mkN (fun k => v 3 k = 1) (v 0 0).toNat : Nat) : Int)), some (.inl (c + 1))]) dX3_remember_40 rfl rfl rfl ?_
            refine X.goto (tgt := 16) dX3_remember_43 (by decide) ?_
            rw [← Frem_skip (b := 17) (s := 1) hc2 hp]
            exact ihc M2 hv2 hG2
      exact L16 0 (by omega) (by omega) M1 hv1 hG1
    · intro c hc1 hc2 ihc
      intro M1 hv1 hG1
      refine X.iload dX3_remember_16 rfl ?_
      refine X.bipush dX3_remember_18 (by decide) ?_
      refine X.icmp_ge (tgt := 46) dX3_remember_20 (by decide) ⟨by omega, by omega⟩ (by decide) (fun h => by exfalso; omega) (fun h9 => ?_)
      refine X.aload_n dX3_remember_23 rfl ?_
      refine X.iload dX3_remember_24 rfl ?_
      refine X.iload_n dX3_remember_26 rfl ?_
      by_cases hp : ∃ z, 0 ≤ z ∧ z < v 0 0 ∧ sees v z c ∧ (fun k => v 3 k = 0) z
      · skip
        refine X.callV1 (As := [.inl c, .inl ((mkN (fun k => v 3 k = 0) (v 0 0).toNat : Nat) : Int)]) (rest := []) dX3_remember_27 mk_X3_93 sh_21 (CX.bt (c_isSeen M1 v hv1 hS hG1 c (fun k => v 3 k = 0) (by omega)) hp) rfl (by decide) rfl (Nat.le_of_ble_eq_true rfl) ?_
        refine X.if_eq (tgt := 40) dX3_remember_30 (by decide) (by decide) (fun h => absurd h (by decide)) (fun h10 => ?_)
        refine X.aload_n dX3_remember_33 rfl ?_
        refine X.iload_n dX3_remember_34 rfl ?_
        refine X.iload dX3_remember_35 rfl ?_
        refine X.callV0 (As := [.inl 0, .inl c]) (rest := []) dX3_remember_37 mk_X3_99 sh_1 (c_rememberCell_0 M1 v hv1 hS c (by omega)) rfl (by decide) rfl (Nat.le_of_ble_eq_true rfl) ?_
        refine X.iinc (y := c + 1) (lv2 := [some (.inr (some 1)), some (.inr (some 21)), some (.inl 0), some (.inl ((mkN (fun k => v 3 k = 0) (v 0 0).toNat : Nat) : Int)), some (.inl (c + 1))]) dX3_remember_40 rfl rfl rfl ?_
        refine X.goto (tgt := 16) dX3_remember_43 (by decide) ?_
        rw [← Frem_step (b := 12) (s := 0) hc2 hp]
        exact ihc _ ((((hv1.mset (by decide)).mset (by decide)).mset (by decide)).mset (by decide)) ((((hG1.mset (by decide)).mset (by decide)).mset (by decide)).mset (by decide))
      · skip
        refine X.callV1 (As := [.inl c, .inl ((mkN (fun k => v 3 k = 0) (v 0 0).toNat : Nat) : Int)]) (rest := []) dX3_remember_27 mk_X3_93 sh_21 (CX.bf (c_isSeen M1 v hv1 hS hG1 c (fun k => v 3 k = 0) (by omega)) hp) rfl (by decide) rfl (Nat.le_of_ble_eq_true rfl) ?_
        refine X.if_eq (tgt := 40) dX3_remember_30 (by decide) (by decide) (fun h11 => ?_) (fun h => absurd h (by decide))
        refine X.iinc (y := c + 1) (lv2 := [some (.inr (some 1)), some (.inr (some 21)), some (.inl 0), some (.inl ((mkN (fun k => v 3 k = 0) (v 0 0).toNat : Nat) : Int)), some (.inl (c + 1))]) dX3_remember_40 rfl rfl rfl ?_
        refine X.goto (tgt := 16) dX3_remember_43 (by decide) ?_
        rw [← Frem_skip (b := 12) (s := 0) hc2 hp]
        exact ihc M1 hv1 hG1
  exact L16 0 (by omega) (by omega) M hv hG
theorem Fref_lo {v : Vw} {a : Nat} (h : a ≠ 22 ∧ a ≠ 23) (j : Int) : Fref v a j = none := by unfold Fref; rw [if_neg h.1, if_neg h.2]
theorem SG.ref {M : Mem} {v : Vw} : SG (mgen M (Fref v) 0 120) v := ⟨fun c hc => mgen_in hc (by simp [Fref]), fun c hc => mgen_in hc (by simp [Fref])⟩
theorem VAx.ref {M : Mem} {v w : Vw} (h : VA M v) : VA (mgen M (Fref w) 0 120) v := h.mgn fun a h1 h2 => Fref_lo (by omega)
theorem VA.rem {M : Mem} {v w : Vw} (h : VA M v) : VA (remM M w) v := (h.mgn fun a h1 h2 => Frem_no (by omega)).mgn fun a h1 h2 => Frem_no (by omega)
theorem SG.rem {M : Mem} {v w : Vw} (h : SG M v) : SG (remM M w) v := h.frame ((mgen_row (Frem_no (by omega))).trans (mgen_row (Frem_no (by omega)))) ((mgen_row (Frem_no (by omega))).trans (mgen_row (Frem_no (by omega))))
noncomputable def lookM (M : Mem) (v : Vw) : Mem := remM (mgen M (Fref v) 0 120) v
set_option maxHeartbeats 4000000 in
set_option maxRecDepth 100000 in
theorem c_look (M : Mem) (v : Vw) (hv : VA M v) (hS : SI v) : CX mX6_look 6 [.inr (some 0)] M none (lookM M v) := by
  refine CX.of (by decide +kernel) (Nat.le_of_ble_eq_true rfl) [some (.inr (some 0))] rfl ?_
  refine X.aload_n dX6_look_0 rfl ?_
  refine X.getR dX6_look_1 fi_X6_19 sh_0 rfl ?_
  refine X.aload_n dX6_look_4 rfl ?_
  refine X.getR dX6_look_5 fi_X6_12 sh_0 rfl ?_
  refine X.callV0 (As := [.inr (some 1)]) (rest := []) dX6_look_8 mk_X6_115 sh_21 (c_refresh M v hv hS ) rfl (by decide) rfl (Nat.le_of_ble_eq_true rfl) ?_
  refine X.aload_n dX6_look_11 rfl ?_
  refine X.getR dX6_look_12 fi_X6_12 sh_0 rfl ?_
  refine X.aload_n dX6_look_15 rfl ?_
  refine X.getR dX6_look_16 fi_X6_19 sh_0 rfl ?_
  refine X.callV0 (As := [.inr (some 21)]) (rest := []) dX6_look_19 mk_X6_124 sh_1 (c_remember (mgen M (Fref v) 0 120) v (VAx.ref hv) hS SG.ref) rfl (by decide) rfl (Nat.le_of_ble_eq_true rfl) ?_
  exact X.vret dX6_look_22 rfl rfl rfl
set_option maxHeartbeats 4000000 in
set_option maxRecDepth 100000 in
theorem c_fadeM_0 (M : Mem) (v : Vw) (hS : SI v) (hm : ∀ i, 0 ≤ i ∧ i < 120 → M 12 i = v 9 i) : CX mX1_fade 1 [.inr (some 11)] M none (mgen M (Frow 12 (fun j => imax 0 (v 9 j - 1))) 0 120) := by
  refine CX.of (by decide +kernel) (Nat.le_of_ble_eq_true rfl) [some (.inr (some 11)), none] rfl ?_
  refine X.iconst dX1_fade_0 ?_
  refine X.istore_n (lv2 := [some (.inr (some 11)), some (.inl 0)]) dX1_fade_1 (Nat.le_of_ble_eq_true rfl) rfl ?_
  have L2 : ∀ k, 0 ≤ k → k ≤ 120 → ∀ M1 : Mem, (∀ j, k ≤ j → M1 12 j = M 12 j) → VX mX1_fade 1 2 [some (.inr (some 11)), some (.inl k)] [] M1 none (mgen M1 (Frow 12 (fun j => imax 0 (v 9 j - 1))) k 120) := by
    refine down_ind 0 120 ?_ ?_
    · skip
      intro M1 hM1
      rw [mgen_end (Int.le_refl _)]
      refine X.iload_n dX1_fade_2 rfl ?_
      refine X.bipush dX1_fade_3 (by decide) ?_
      refine X.icmp_ge (tgt := 32) dX1_fade_5 (by decide) ⟨by omega, by omega⟩ (by decide) (fun h1 => ?_) (fun h => by exfalso; omega)
      exact X.vret dX1_fade_32 rfl rfl rfl
    · intro k hk1 hk2 ihk
      intro M1 hM1
      have q := hS.r9 k
      refine X.iload_n dX1_fade_2 rfl ?_
      refine X.bipush dX1_fade_3 (by decide) ?_
      refine X.icmp_ge (tgt := 32) dX1_fade_5 (by decide) ⟨by omega, by omega⟩ (by decide) (fun h => by exfalso; omega) (fun h2 => ?_)
      refine X.aload_n dX1_fade_8 rfl ?_
      refine X.getR dX1_fade_9 fi_X1_9 sh_11 rfl ?_
      refine X.iload_n dX1_fade_12 rfl ?_
      refine X.iconst dX1_fade_13 ?_
      refine X.aload_n dX1_fade_14 rfl ?_
      refine X.getR dX1_fade_15 fi_X1_9 sh_11 rfl ?_
      refine X.iload_n dX1_fade_18 rfl ?_
      refine X.iald (v := v 9 k) dX1_fade_19 sh_12 (by decide) (by omega) ((hM1 k (Int.le_refl _)).trans (hm k (by omega))) ?_
      refine X.iconst dX1_fade_20 ?_
      refine X.isub (c := (v 9 k) - 1) dX1_fade_21 rfl ?_
      refine X.mmax (c := imax 0 ((v 9 k) - 1)) dX1_fade_22 kl_X1_28 (by decide) ⟨by omega, by omega⟩ (by decide) (Nat.le_of_ble_eq_true rfl) rfl ?_
      refine X.iast dX1_fade_25 sh_12 (by decide) (by omega) ?_
      refine X.iinc (y := k + 1) (lv2 := [some (.inr (some 11)), some (.inl (k + 1))]) dX1_fade_26 rfl rfl rfl ?_
      refine X.goto (tgt := 2) dX1_fade_29 (by decide) ?_
      rw [← Frow_step (x := imax 0 (v 9 k - 1)) hk2 rfl]
      exact ihk _ (fun j hj => (mset_ne (by omega)).trans (hM1 j (by omega)))
  exact L2 0 (by omega) (by omega) M (fun _ _ => rfl)
set_option maxHeartbeats 4000000 in
set_option maxRecDepth 100000 in
theorem c_limitM_0 (M : Mem) (v : Vw) (hS : SI v) (hm : ∀ i, 0 ≤ i ∧ i < 120 → M 12 i = v 9 i) (x : Int) (hx : inR x) : CX mX1_limit 1 [.inr (some 11), .inl x] M none (mgen M (Frow 12 (fun j => imin (v 9 j) x)) 0 120) := by
  refine CX.of (by decide +kernel) (Nat.le_of_ble_eq_true rfl) [some (.inr (some 11)), some (.inl x), none] rfl ?_
  refine X.iconst dX1_limit_0 ?_
  refine X.istore_n (lv2 := [some (.inr (some 11)), some (.inl x), some (.inl 0)]) dX1_limit_1 (Nat.le_of_ble_eq_true rfl) rfl ?_
  have L2 : ∀ k, 0 ≤ k → k ≤ 120 → ∀ M1 : Mem, (∀ j, k ≤ j → M1 12 j = M 12 j) → VX mX1_limit 1 2 [some (.inr (some 11)), some (.inl x), some (.inl k)] [] M1 none (mgen M1 (Frow 12 (fun j => imin (v 9 j) x)) k 120) := by
    refine down_ind 0 120 ?_ ?_
    · skip
      intro M1 hM1
      rw [mgen_end (Int.le_refl _)]
      refine X.iload_n dX1_limit_2 rfl ?_
      refine X.bipush dX1_limit_3 (by decide) ?_
      refine X.icmp_ge (tgt := 30) dX1_limit_5 (by decide) ⟨by omega, by omega⟩ (by decide) (fun h1 => ?_) (fun h => by exfalso; omega)
      exact X.vret dX1_limit_30 rfl rfl rfl
    · intro k hk1 hk2 ihk
      intro M1 hM1
      have q := hS.r9 k
      refine X.iload_n dX1_limit_2 rfl ?_
      refine X.bipush dX1_limit_3 (by decide) ?_
      refine X.icmp_ge (tgt := 30) dX1_limit_5 (by decide) ⟨by omega, by omega⟩ (by decide) (fun h => by exfalso; omega) (fun h2 => ?_)
      refine X.aload_n dX1_limit_8 rfl ?_
      refine X.getR dX1_limit_9 fi_X1_9 sh_11 rfl ?_
      refine X.iload_n dX1_limit_12 rfl ?_
      refine X.aload_n dX1_limit_13 rfl ?_
      refine X.getR dX1_limit_14 fi_X1_9 sh_11 rfl ?_
      refine X.iload_n dX1_limit_17 rfl ?_
      refine X.iald (v := v 9 k) dX1_limit_18 sh_12 (by decide) (by omega) ((hM1 k (Int.le_refl _)).trans (hm k (by omega))) ?_
      refine X.iload_n dX1_limit_19 rfl ?_
      refine X.mmin (c := imin (v 9 k) x) dX1_limit_20 kl_X1_34 ⟨by omega, by omega⟩ hx (by decide) (Nat.le_of_ble_eq_true rfl) rfl ?_
      refine X.iast dX1_limit_23 sh_12 (by decide) (by omega) ?_
      refine X.iinc (y := k + 1) (lv2 := [some (.inr (some 11)), some (.inl x), some (.inl (k + 1))]) dX1_limit_24 rfl rfl rfl ?_
      refine X.goto (tgt := 2) dX1_limit_27 (by decide) ?_
      rw [← Frow_step (x := imin (v 9 k) x) hk2 rfl]
      exact ihk _ (fun j hj => (mset_ne (by omega)).trans (hM1 j (by omega)))
  exact L2 0 (by omega) (by omega) M (fun _ _ => rfl)
set_option maxHeartbeats 4000000 in
set_option maxRecDepth 100000 in
theorem c_fadeM_1 (M : Mem) (v : Vw) (hS : SI v) (hm : ∀ i, 0 ≤ i ∧ i < 120 → M 17 i = v 13 i) : CX mX1_fade 1 [.inr (some 16)] M none (mgen M (Frow 17 (fun j => imax 0 (v 13 j - 1))) 0 120) := by
  refine CX.of (by decide +kernel) (Nat.le_of_ble_eq_true rfl) [some (.inr (some 16)), none] rfl ?_
  refine X.iconst dX1_fade_0 ?_
  refine X.istore_n (lv2 := [some (.inr (some 16)), some (.inl 0)]) dX1_fade_1 (Nat.le_of_ble_eq_true rfl) rfl ?_
  have L2 : ∀ k, 0 ≤ k → k ≤ 120 → ∀ M1 : Mem, (∀ j, k ≤ j → M1 17 j = M 17 j) → VX mX1_fade 1 2 [some (.inr (some 16)), some (.inl k)] [] M1 none (mgen M1 (Frow 17 (fun j => imax 0 (v 13 j - 1))) k 120) := by
    refine down_ind 0 120 ?_ ?_
    · skip
      intro M1 hM1
      rw [mgen_end (Int.le_refl _)]
      refine X.iload_n dX1_fade_2 rfl ?_
      refine X.bipush dX1_fade_3 (by decide) ?_
      refine X.icmp_ge (tgt := 32) dX1_fade_5 (by decide) ⟨by omega, by omega⟩ (by decide) (fun h1 => ?_) (fun h => by exfalso; omega)
      exact X.vret dX1_fade_32 rfl rfl rfl
    · intro k hk1 hk2 ihk
      intro M1 hM1
      have q := hS.r13 k
      refine X.iload_n dX1_fade_2 rfl ?_
      refine X.bipush dX1_fade_3 (by decide) ?_
      refine X.icmp_ge (tgt := 32) dX1_fade_5 (by decide) ⟨by omega, by omega⟩ (by decide) (fun h => by exfalso; omega) (fun h2 => ?_)
      refine X.aload_n dX1_fade_8 rfl ?_
      refine X.getR dX1_fade_9 fi_X1_9 sh_16 rfl ?_
      refine X.iload_n dX1_fade_12 rfl ?_
      refine X.iconst dX1_fade_13 ?_
      refine X.aload_n dX1_fade_14 rfl ?_
      refine X.getR dX1_fade_15 fi_X1_9 sh_16 rfl ?_
      refine X.iload_n dX1_fade_18 rfl ?_
      refine X.iald (v := v 13 k) dX1_fade_19 sh_17 (by decide) (by omega) ((hM1 k (Int.le_refl _)).trans (hm k (by omega))) ?_
      refine X.iconst dX1_fade_20 ?_
      refine X.isub (c := (v 13 k) - 1) dX1_fade_21 rfl ?_
      refine X.mmax (c := imax 0 ((v 13 k) - 1)) dX1_fade_22 kl_X1_28 (by decide) ⟨by omega, by omega⟩ (by decide) (Nat.le_of_ble_eq_true rfl) rfl ?_
      refine X.iast dX1_fade_25 sh_17 (by decide) (by omega) ?_
      refine X.iinc (y := k + 1) (lv2 := [some (.inr (some 16)), some (.inl (k + 1))]) dX1_fade_26 rfl rfl rfl ?_
      refine X.goto (tgt := 2) dX1_fade_29 (by decide) ?_
      rw [← Frow_step (x := imax 0 (v 13 k - 1)) hk2 rfl]
      exact ihk _ (fun j hj => (mset_ne (by omega)).trans (hM1 j (by omega)))
  exact L2 0 (by omega) (by omega) M (fun _ _ => rfl)
set_option maxHeartbeats 4000000 in
set_option maxRecDepth 100000 in
theorem c_limitM_1 (M : Mem) (v : Vw) (hS : SI v) (hm : ∀ i, 0 ≤ i ∧ i < 120 → M 17 i = v 13 i) (x : Int) (hx : inR x) : CX mX1_limit 1 [.inr (some 16), .inl x] M none (mgen M (Frow 17 (fun j => imin (v 13 j) x)) 0 120) := by
  refine CX.of (by decide +kernel) (Nat.le_of_ble_eq_true rfl) [some (.inr (some 16)), some (.inl x), none] rfl ?_
  refine X.iconst dX1_limit_0 ?_
  refine X.istore_n (lv2 := [some (.inr (some 16)), some (.inl x), some (.inl 0)]) dX1_limit_1 (Nat.le_of_ble_eq_true rfl) rfl ?_
  have L2 : ∀ k, 0 ≤ k → k ≤ 120 → ∀ M1 : Mem, (∀ j, k ≤ j → M1 17 j = M 17 j) → VX mX1_limit 1 2 [some (.inr (some 16)), some (.inl x), some (.inl k)] [] M1 none (mgen M1 (Frow 17 (fun j => imin (v 13 j) x)) k 120) := by
    refine down_ind 0 120 ?_ ?_
    · skip
      intro M1 hM1
      rw [mgen_end (Int.le_refl _)]
      refine X.iload_n dX1_limit_2 rfl ?_
      refine X.bipush dX1_limit_3 (by decide) ?_
      refine X.icmp_ge (tgt := 30) dX1_limit_5 (by decide) ⟨by omega, by omega⟩ (by decide) (fun h1 => ?_) (fun h => by exfalso; omega)
      exact X.vret dX1_limit_30 rfl rfl rfl
    · intro k hk1 hk2 ihk
      intro M1 hM1
      have q := hS.r13 k
      refine X.iload_n dX1_limit_2 rfl ?_
      refine X.bipush dX1_limit_3 (by decide) ?_
      refine X.icmp_ge (tgt := 30) dX1_limit_5 (by decide) ⟨by omega, by omega⟩ (by decide) (fun h => by exfalso; omega) (fun h2 => ?_)
      refine X.aload_n dX1_limit_8 rfl ?_
      refine X.getR dX1_limit_9 fi_X1_9 sh_16 rfl ?_
      refine X.iload_n dX1_limit_12 rfl ?_
      refine X.aload_n dX1_limit_13 rfl ?_
      refine X.getR dX1_limit_14 fi_X1_9 sh_16 rfl ?_
      refine X.iload_n dX1_limit_17 rfl ?_
      refine X.iald (v := v 13 k) dX1_limit_18 sh_17 (by decide) (by omega) ((hM1 k (Int.le_refl _)).trans (hm k (by omega))) ?_
      refine X.iload_n dX1_limit_19 rfl ?_
      refine X.mmin (c := imin (v 13 k) x) dX1_limit_20 kl_X1_34 ⟨by omega, by omega⟩ hx (by decide) (Nat.le_of_ble_eq_true rfl) rfl ?_
      refine X.iast dX1_limit_23 sh_17 (by decide) (by omega) ?_
      refine X.iinc (y := k + 1) (lv2 := [some (.inr (some 16)), some (.inl x), some (.inl (k + 1))]) dX1_limit_24 rfl rfl rfl ?_
      refine X.goto (tgt := 2) dX1_limit_27 (by decide) ?_
      rw [← Frow_step (x := imin (v 13 k) x) hk2 rfl]
      exact ihk _ (fun j hj => (mset_ne (by omega)).trans (hM1 j (by omega)))
  exact L2 0 (by omega) (by omega) M (fun _ _ => rfl)
def fadeM (M : Mem) (v : Vw) : Mem := mgen (mgen M (Frow 12 (fun j => imax 0 (v 9 j - 1))) 0 120) (Frow 17 (fun j => imax 0 (v 13 j - 1))) 0 120
def limM (M : Mem) (v : Vw) (x : Int) : Mem := mgen (mgen M (Frow 12 (fun j => imin (v 9 j) x)) 0 120) (Frow 17 (fun j => imin (v 13 j) x)) 0 120
theorem Frow_no {a b : Nat} {f : Int → Int} (h : b ≠ a) (j : Int) : Frow a f b j = none := if_neg h
set_option maxHeartbeats 4000000 in
set_option maxRecDepth 100000 in
theorem c_fadeS (M : Mem) (v : Vw) (hS : SI v) (hm0 : ∀ i, 0 ≤ i ∧ i < 120 → M 12 i = v 9 i) (hm1 : ∀ i, 0 ≤ i ∧ i < 120 → M 17 i = v 13 i) : CX mX3_fade 2 [.inr (some 1)] M none (fadeM M v) := by
  refine CX.of (by decide +kernel) (Nat.le_of_ble_eq_true rfl) [some (.inr (some 1)), none] rfl ?_
  refine X.iconst dX3_fade_0 ?_
  refine X.istore_n (lv2 := [some (.inr (some 1)), some (.inl 0)]) dX3_fade_1 (Nat.le_of_ble_eq_true rfl) rfl ?_
  refine X.iload_n dX3_fade_2 rfl ?_
  refine X.iconst dX3_fade_3 ?_
  refine X.icmp_ge (tgt := 22) dX3_fade_4 (by decide) (by decide) (by decide) (fun h => absurd h (by decide)) (fun h1 => ?_)
  refine X.aload_n dX3_fade_7 rfl ?_
  refine X.getR dX3_fade_8 fi_X3_52 sh_1 rfl ?_
  refine X.iload_n dX3_fade_11 rfl ?_
  refine X.aald dX3_fade_12 sh_10 (by decide) (by decide) (by decide) rfl ?_
  refine X.callV0 (As := []) (rest := []) dX3_fade_13 mk_X3_83 sh_11 (c_fadeM_0 M v hS hm0  ) rfl (by decide) rfl (Nat.le_of_ble_eq_true rfl) ?_
  refine X.iinc (y := 1) (lv2 := [some (.inr (some 1)), some (.inl 1)]) dX3_fade_16 rfl rfl rfl ?_
  refine X.goto (tgt := 2) dX3_fade_19 (by decide) ?_
  refine X.iload_n dX3_fade_2 rfl ?_
  refine X.iconst dX3_fade_3 ?_
  refine X.icmp_ge (tgt := 22) dX3_fade_4 (by decide) (by decide) (by decide) (fun h => absurd h (by decide)) (fun h2 => ?_)
  refine X.aload_n dX3_fade_7 rfl ?_
  refine X.getR dX3_fade_8 fi_X3_52 sh_1 rfl ?_
  refine X.iload_n dX3_fade_11 rfl ?_
  refine X.aald dX3_fade_12 sh_10 (by decide) (by decide) (by decide) rfl ?_
  refine X.callV0 (As := []) (rest := []) dX3_fade_13 mk_X3_83 sh_16 (c_fadeM_1 (mgen M (Frow 12 (fun j => imax 0 (v 9 j - 1))) 0 120) v hS (fun i hi => (congrFun (mgen_row (Frow_no (by decide))) i).trans (hm1 i hi))  ) rfl (by decide) rfl (Nat.le_of_ble_eq_true rfl) ?_
  refine X.iinc (y := 2) (lv2 := [some (.inr (some 1)), some (.inl 2)]) dX3_fade_16 rfl rfl rfl ?_
  refine X.goto (tgt := 2) dX3_fade_19 (by decide) ?_
  refine X.iload_n dX3_fade_2 rfl ?_
  refine X.iconst dX3_fade_3 ?_
  refine X.icmp_ge (tgt := 22) dX3_fade_4 (by decide) (by decide) (by decide) (fun h3 => ?_) (fun h => absurd h (by decide))
  exact X.vret dX3_fade_22 rfl rfl rfl
set_option maxHeartbeats 4000000 in
set_option maxRecDepth 100000 in
theorem c_changeFogTime (M : Mem) (v : Vw) (hS : SI v) (hm0 : ∀ i, 0 ≤ i ∧ i < 120 → M 12 i = v 9 i) (hm1 : ∀ i, 0 ≤ i ∧ i < 120 → M 17 i = v 13 i) (x : Int) (hx : inR x) : CX mX3_changeFogTime 2 [.inr (some 1), .inl x] M none (limM (mset M 1 10 x) v x) := by
  refine CX.of (by decide +kernel) (Nat.le_of_ble_eq_true rfl) [some (.inr (some 1)), some (.inl x), none] rfl ?_
  refine X.aload_n dX3_changeFogTime_0 rfl ?_
  refine X.iload_n dX3_changeFogTime_1 rfl ?_
  refine X.putI 10 dX3_changeFogTime_2 fi_X3_43 sh_1 rfl rfl ?_
  refine X.iconst dX3_changeFogTime_5 ?_
  refine X.istore_n (lv2 := [some (.inr (some 1)), some (.inl x), some (.inl 0)]) dX3_changeFogTime_6 (Nat.le_of_ble_eq_true rfl) rfl ?_
  refine X.iload_n dX3_changeFogTime_7 rfl ?_
  refine X.iconst dX3_changeFogTime_8 ?_
  refine X.icmp_ge (tgt := 28) dX3_changeFogTime_9 (by decide) (by decide) (by decide) (fun h => absurd h (by decide)) (fun h1 => ?_)
  refine X.aload_n dX3_changeFogTime_12 rfl ?_
  refine X.getR dX3_changeFogTime_13 fi_X3_52 sh_1 rfl ?_
  refine X.iload_n dX3_changeFogTime_16 rfl ?_
  refine X.aald dX3_changeFogTime_17 sh_10 (by decide) (by decide) (by decide) rfl ?_
  refine X.iload_n dX3_changeFogTime_18 rfl ?_
  refine X.callV0 (As := [.inl x]) (rest := []) dX3_changeFogTime_19 mk_X3_86 sh_11 (c_limitM_0 (mset M 1 10 x) v hS (fun i hi => (congrFun (mset_row (by decide)) i).trans (hm0 i hi)) x hx) rfl (by decide) rfl (Nat.le_of_ble_eq_true rfl) ?_
  refine X.iinc (y := 1) (lv2 := [some (.inr (some 1)), some (.inl x), some (.inl 1)]) dX3_changeFogTime_22 rfl rfl rfl ?_
  refine X.goto (tgt := 7) dX3_changeFogTime_25 (by decide) ?_
  refine X.iload_n dX3_changeFogTime_7 rfl ?_
  refine X.iconst dX3_changeFogTime_8 ?_
  refine X.icmp_ge (tgt := 28) dX3_changeFogTime_9 (by decide) (by decide) (by decide) (fun h => absurd h (by decide)) (fun h2 => ?_)
  refine X.aload_n dX3_changeFogTime_12 rfl ?_
  refine X.getR dX3_changeFogTime_13 fi_X3_52 sh_1 rfl ?_
  refine X.iload_n dX3_changeFogTime_16 rfl ?_
  refine X.aald dX3_changeFogTime_17 sh_10 (by decide) (by decide) (by decide) rfl ?_
  refine X.iload_n dX3_changeFogTime_18 rfl ?_
  refine X.callV0 (As := [.inl x]) (rest := []) dX3_changeFogTime_19 mk_X3_86 sh_16 (c_limitM_1 (mgen (mset M 1 10 x) (Frow 12 (fun j => imin (v 9 j) x)) 0 120) v hS (fun i hi => ((congrFun (mgen_row (Frow_no (by decide))) i).trans (congrFun (mset_row (by decide)) i)).trans (hm1 i hi)) x hx) rfl (by decide) rfl (Nat.le_of_ble_eq_true rfl) ?_
  refine X.iinc (y := 2) (lv2 := [some (.inr (some 1)), some (.inl x), some (.inl 2)]) dX3_changeFogTime_22 rfl rfl rfl ?_
  refine X.goto (tgt := 7) dX3_changeFogTime_25 (by decide) ?_
  refine X.iload_n dX3_changeFogTime_7 rfl ?_
  refine X.iconst dX3_changeFogTime_8 ?_
  refine X.icmp_ge (tgt := 28) dX3_changeFogTime_9 (by decide) (by decide) (by decide) (fun h3 => ?_) (fun h => absurd h (by decide))
  exact X.vret dX3_changeFogTime_28 rfl rfl rfl
def dim1 (x : Int) : Int := if 0 < x then x - 1 else x
theorem dim_t {x : Int} (h : 0 < x) : x - 1 = dim1 x := (if_pos h).symm
theorem dim_f {x : Int} (h : ¬ 0 < x) : x = dim1 x := (if_neg h).symm
theorem Frow_skip {M : Mem} {a : Nat} {f : Int → Int} {k hi : Int} (h : k < hi) (hx : M a k = f k) : mgen M (Frow a f) (k + 1) hi = mgen M (Frow a f) k hi := by
  refine mgen_step h fun b j => ?_
  unfold Frow
  by_cases hj : j = k
  · subst hj
    by_cases hb : b = a
    · subst hb; simp [hx]
    · simp [hb]
  · simp [hj]
def burnM (M : Mem) (v : Vw) : Mem := mgen M (Frow 9 (fun j => dim1 (v 8 j))) 0 (v 0 1)
def burnV (v : Vw) : Vw := vrow v 8 (fun j => dim1 (v 8 j))
theorem vF0 {M : Mem} {b : Nat} {v : Vw} (h : vF M b = v) : M b 6 = v 0 1 := by subst h; rfl
theorem dim1_le {x : Int} (h : 0 ≤ x) : 0 ≤ dim1 x ∧ dim1 x ≤ x := by unfold dim1; split <;> omega
theorem gd_of {n : Int} {f g : Int → Int} (h1 : ∀ i, 0 ≤ i → i < n → f i = g i) (h2 : ∀ i, ¬ (0 ≤ i ∧ i < n) → g i = 0) : gd n f = g := by
  funext i
  by_cases hi : 0 ≤ i ∧ i < n
  · rw [gd_in hi, h1 i hi.1 hi.2]
  · rw [gd_out hi, h2 i hi]
/-- a view is 0 out of range -/
def V0 (v : Vw) : Prop := (∀ t, 1 ≤ t → t ≤ 2 → ∀ i, ¬ (0 ≤ i ∧ i < 120) → v t i = 0) ∧ (∀ t, 3 ≤ t → t ≤ 5 → ∀ i, ¬ (0 ≤ i ∧ i < v 0 0) → v t i = 0) ∧ (∀ t, 6 ≤ t → t ≤ 8 → ∀ i, ¬ (0 ≤ i ∧ i < v 0 1) → v t i = 0)
theorem VA.V0 {M : Mem} {v : Vw} (hv : VA M v) : V0 v := by
  refine ⟨fun t h1 h2 i hi => ?_, fun t h1 h2 i hi => ?_, fun t h1 h2 i hi => ?_⟩
  · rw [← hv t (by omega)]
    have : t = 1 ∨ t = 2 := by omega
    rcases this with rfl | rfl <;> exact gd_out hi
  · rw [← hv t (by omega)]
    rw [← rd_0_0 hv] at hi
    have : t = 3 ∨ t = 4 ∨ t = 5 := by omega
    rcases this with rfl | rfl | rfl <;> exact gd_out hi
  · rw [← hv t (by omega)]
    rw [← rd_0_1 hv] at hi
    have : t = 6 ∨ t = 7 ∨ t = 8 := by omega
    rcases this with rfl | rfl | rfl <;> exact gd_out hi
theorem VA.burn {M : Mem} {v : Vw} (hv : VA M v) : VA (burnM M v) (burnV v) := by
  intro t ht
  have e1 : ∀ a, a ≠ 9 → burnM M v a = M a := fun a ha => mgen_row (Frow_no ha)
  by_cases h8 : t = 8
  · subst h8
    show gd (burnM M v 1 6) (burnM M v 9) = fun j => dim1 (v 8 j)
    rw [e1 1 (by decide), rd_0_1 hv]
    refine gd_of (fun i h1 h2 => ?_) (fun i hi => ?_)
    · exact mgen_in ⟨h1, h2⟩ rfl
    · show dim1 (v 8 i) = 0
      rw [hv.V0.2.2 8 (by decide) (by decide) i hi]; rfl
  · have : burnV v t = v t := if_neg h8
    rw [this, ← hv t ht]
    have : t = 0 ∨ t = 1 ∨ t = 2 ∨ t = 3 ∨ t = 4 ∨ t = 5 ∨ t = 6 ∨ t = 7 := by omega
    rcases this with rfl | rfl | rfl | rfl | rfl | rfl | rfl | rfl <;> simp only [vF, e1 1 (by decide), e1 (1 + 1) (by decide), e1 (1 + 2) (by decide), e1 (1 + 3) (by decide), e1 (1 + 4) (by decide), e1 (1 + 5) (by decide), e1 (1 + 6) (by decide), e1 (1 + 7) (by decide)]
theorem SI.burn {v : Vw} (h : SI v) : SI (burnV v) := by
  obtain ⟨a1, a2, a3, a4, a5, a6, a7, a8, a9, a10, a11, a12⟩ := h
  refine ⟨a1, a2, a3, a4, a5, a6, a7, a8, a9, a10, fun k => ?_, a12⟩
  show 0 ≤ dim1 (v 8 k) ∧ dim1 (v 8 k) ≤ 50
  have := dim1_le (a11 k).1
  have := a11 k
  omega
set_option maxHeartbeats 4000000 in
set_option maxRecDepth 100000 in
theorem c_burn (M : Mem) (v : Vw) (hv : VA M v) (hS : SI v) : CX mX3_burn 1 [.inr (some 1)] M (some (.inl (cnt (fun k => 0 < v 8 k) (v 0 1).toNat 0 - cnt (fun k => 0 < burnV v 8 k) (v 0 1).toNat 0))) (burnM M v) := by
  have n0 := hS.n0
  have n1 := hS.n1
  have n2 := hS.n2
  refine CX.of (by decide +kernel) (Nat.le_of_ble_eq_true rfl) [some (.inr (some 1)), none, none] rfl ?_
  refine X.aload_n dX3_burn_0 rfl ?_
  refine X.callV1 (As := []) (rest := []) dX3_burn_1 mk_X3_75 sh_1 (c_countBurning M v hv hS ) rfl (by decide) rfl (Nat.le_of_ble_eq_true rfl) ?_
  refine X.istore_n (lv2 := [some (.inr (some 1)), some (.inl (cnt (fun k => 0 < v 8 k) (v 0 1).toNat 0)), none]) dX3_burn_4 (Nat.le_of_ble_eq_true rfl) rfl ?_
  refine X.iconst dX3_burn_5 ?_
  refine X.istore_n (lv2 := [some (.inr (some 1)), some (.inl (cnt (fun k => 0 < v 8 k) (v 0 1).toNat 0)), some (.inl 0)]) dX3_burn_6 (Nat.le_of_ble_eq_true rfl) rfl ?_
  have L7 : ∀ k, 0 ≤ k → k ≤ (v 0 1) → ∀ M1 : Mem, M1 1 = M 1 → (∀ j, k ≤ j → M1 9 j = M 9 j) → M = M → mgen M1 (Frow 9 (fun j => dim1 (v 8 j))) k (v 0 1) = burnM M v → VX mX3_burn 1 7 [some (.inr (some 1)), some (.inl (cnt (fun k => 0 < v 8 k) (v 0 1).toNat 0)), some (.inl k)] [] M1 (some (.inl (cnt (fun k => 0 < v 8 k) (v 0 1).toNat 0 - cnt (fun k => 0 < burnV v 8 k) (v 0 1).toNat 0))) (burnM M v) := by
    refine down_ind 0 (v 0 1) ?_ ?_
    · skip
      intro M1 hM0 hM1 _ hM2
      rw [mgen_end (Int.le_refl _)] at hM2
      subst hM2
      refine X.iload_n dX3_burn_7 rfl ?_
      refine X.aload_n dX3_burn_8 rfl ?_
      refine X.getI (v := v 0 1) 6 dX3_burn_9 fi_X3_31 sh_1 rfl ((congrFun hM0 6).trans (rd_0_1 hv)) ?_
      refine X.icmp_ge (tgt := 40) dX3_burn_12 (by decide) ⟨by omega, by omega⟩ ⟨by omega, by omega⟩ (fun h1 => ?_) (fun h => by exfalso; omega)
      refine X.iload_n dX3_burn_40 rfl ?_
      refine X.aload_n dX3_burn_41 rfl ?_
      refine X.callV1 (As := []) (rest := [.inl (cnt (fun k => 0 < v 8 k) (v 0 1).toNat 0)]) dX3_burn_42 mk_X3_75 sh_1 (c_countBurning (burnM M v) (burnV v) hv.burn hS.burn) rfl (by decide) rfl (Nat.le_of_ble_eq_true rfl) ?_
      refine X.isub (c := (cnt (fun k => 0 < v 8 k) (v 0 1).toNat 0) - (cnt (fun k => 0 < burnV v 8 k) (v 0 1).toNat 0)) dX3_burn_45 rfl ?_
      exact X.iret dX3_burn_46 rfl rfl rfl
    · intro k hk1 hk2 ihk
      intro M1 hM0 hM1 _ hM2
      have q := hS.r8 k
      refine X.iload_n dX3_burn_7 rfl ?_
      refine X.aload_n dX3_burn_8 rfl ?_
      refine X.getI (v := v 0 1) 6 dX3_burn_9 fi_X3_31 sh_1 rfl ((congrFun hM0 6).trans (rd_0_1 hv)) ?_
      refine X.icmp_ge (tgt := 40) dX3_burn_12 (by decide) ⟨by omega, by omega⟩ ⟨by omega, by omega⟩ (fun h => by exfalso; omega) (fun h2 => ?_)
      refine X.aload_n dX3_burn_15 rfl ?_
      refine X.getR dX3_burn_16 fi_X3_40 sh_1 rfl ?_
      refine X.iload_n dX3_burn_19 rfl ?_
      refine X.iald (v := v 8 k) dX3_burn_20 sh_9 (by decide) (by omega) ((hM1 k (Int.le_refl _)).trans (rd_8 hv (by omega))) ?_
      refine X.if_le (tgt := 34) dX3_burn_21 (by decide) ⟨by omega, by omega⟩ (fun h21 => ?_) (fun h21 => ?_)
      · skip
        refine X.iinc (y := k + 1) (lv2 := [some (.inr (some 1)), some (.inl (cnt (fun k => 0 < v 8 k) (v 0 1).toNat 0)), some (.inl (k + 1))]) dX3_burn_34 rfl rfl rfl ?_
        refine X.goto (tgt := 7) dX3_burn_37 (by decide) ?_
        exact ihk _ hM0 (fun j hj => hM1 j (by omega)) rfl ((Frow_skip (f := fun j => dim1 (v 8 j)) hk2 (((hM1 k (Int.le_refl _)).trans (rd_8 hv (by omega))).trans (dim_f (by omega)))).trans hM2)
      · skip
        refine X.aload_n dX3_burn_24 rfl ?_
        refine X.getR dX3_burn_25 fi_X3_40 sh_1 rfl ?_
        refine X.iload_n dX3_burn_28 rfl ?_
        refine X.dup2 dX3_burn_29 ?_
        refine X.iald (v := v 8 k) dX3_burn_30 sh_9 (by decide) (by omega) ((hM1 k (Int.le_refl _)).trans (rd_8 hv (by omega))) ?_
        refine X.iconst dX3_burn_31 ?_
        refine X.isub (c := (v 8 k) - 1) dX3_burn_32 rfl ?_
        refine X.iast dX3_burn_33 sh_9 (by decide) (by omega) ?_
        refine X.iinc (y := k + 1) (lv2 := [some (.inr (some 1)), some (.inl (cnt (fun k => 0 < v 8 k) (v 0 1).toNat 0)), some (.inl (k + 1))]) dX3_burn_34 rfl rfl rfl ?_
        refine X.goto (tgt := 7) dX3_burn_37 (by decide) ?_
        exact ihk _ (by rw [mset_row (by decide)]; exact hM0) (fun j hj => (mset_ne (by omega)).trans (hM1 j (by omega))) rfl ((Frow_step (f := fun j => dim1 (v 8 j)) hk2 (dim_t h21)).trans hM2)
  exact L7 0 (by omega) (by omega) M rfl (fun _ _ => rfl) rfl rfl
end
