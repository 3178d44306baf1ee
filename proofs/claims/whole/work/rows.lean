section
-- ===== PART A: goes FIRST, ahead of the names: the tables' words, and 'selects' of the private methods out of them =====
/-- a private method of a class that the tables say can be made, by its rows of tables_1 -/
def lw_okq (q : MethodName × Nat) : Prop := (q.1.cls ≠ "java/lang/invoke/MethodHandle" ∧ q.1.cls ≠ "java/lang/invoke/VarHandle") ∧ Cond.instantiable q.1.cls q.2 ∈ tables_1 ∧ Cond.privateMethod q.1 ∈ tables_1 ∧ Cond.instanceMethod q.1 ∈ tables_1
theorem lw_p0 : lw_okq (⟨"java/util/ArrayList", "add", "(Ljava/lang/Object;[Ljava/lang/Object;I)V"⟩, 3) := ⟨⟨by decide +kernel, by decide +kernel⟩, List.mem_of_getElem? (i := 25) (by decide +kernel), List.mem_of_getElem? (i := 149) (by decide +kernel), List.mem_of_getElem? (i := 150) (by decide +kernel)⟩
theorem lw_p1 : lw_okq (⟨"java/util/ArrayList", "grow", "()[Ljava/lang/Object;"⟩, 3) := ⟨⟨by decide +kernel, by decide +kernel⟩, List.mem_of_getElem? (i := 25) (by decide +kernel), List.mem_of_getElem? (i := 153) (by decide +kernel), List.mem_of_getElem? (i := 154) (by decide +kernel)⟩
theorem lw_p2 : lw_okq (⟨"java/util/ArrayList", "grow", "(I)[Ljava/lang/Object;"⟩, 3) := ⟨⟨by decide +kernel, by decide +kernel⟩, List.mem_of_getElem? (i := 25) (by decide +kernel), List.mem_of_getElem? (i := 157) (by decide +kernel), List.mem_of_getElem? (i := 158) (by decide +kernel)⟩
theorem lw_p3 : lw_okq (⟨"LinkShaper", "groupAt", "(I)LLinkShaper$Group;"⟩, 9) := ⟨⟨by decide +kernel, by decide +kernel⟩, List.mem_of_getElem? (i := 17) (by decide +kernel), List.mem_of_getElem? (i := 203) (by decide +kernel), List.mem_of_getElem? (i := 204) (by decide +kernel)⟩
theorem lw_p4 : lw_okq (⟨"LinkShaper", "hasRoomFor", "(ILLinkShaper$Group;)Z"⟩, 9) := ⟨⟨by decide +kernel, by decide +kernel⟩, List.mem_of_getElem? (i := 17) (by decide +kernel), List.mem_of_getElem? (i := 225) (by decide +kernel), List.mem_of_getElem? (i := 226) (by decide +kernel)⟩
theorem lw_p5 : lw_okq (⟨"LinkShaper", "leafAt", "(I)LLinkShaper$Leaf;"⟩, 9) := ⟨⟨by decide +kernel, by decide +kernel⟩, List.mem_of_getElem? (i := 17) (by decide +kernel), List.mem_of_getElem? (i := 303) (by decide +kernel), List.mem_of_getElem? (i := 304) (by decide +kernel)⟩
theorem lw_p6 : lw_okq (⟨"LinkShaper", "beginOne", "()V"⟩, 9) := ⟨⟨by decide +kernel, by decide +kernel⟩, List.mem_of_getElem? (i := 17) (by decide +kernel), List.mem_of_getElem? (i := 381) (by decide +kernel), List.mem_of_getElem? (i := 382) (by decide +kernel)⟩
theorem lw_p7 : lw_okq (⟨"LinkShaper", "pickDue", "()LLinkShaper$Leaf;"⟩, 9) := ⟨⟨by decide +kernel, by decide +kernel⟩, List.mem_of_getElem? (i := 17) (by decide +kernel), List.mem_of_getElem? (i := 385) (by decide +kernel), List.mem_of_getElem? (i := 386) (by decide +kernel)⟩
theorem lw_p8 : lw_okq (⟨"LinkShaper$Leaf", "removeFirst", "(I)LLinkShaper$Packet;"⟩, 18) := ⟨⟨by decide +kernel, by decide +kernel⟩, List.mem_of_getElem? (i := 229) (by decide +kernel), List.mem_of_getElem? (i := 405) (by decide +kernel), List.mem_of_getElem? (i := 406) (by decide +kernel)⟩
theorem lw_p9 : lw_okq (⟨"LinkShaper", "putOnLink", "(LLinkShaper$Packet;)V"⟩, 9) := ⟨⟨by decide +kernel, by decide +kernel⟩, List.mem_of_getElem? (i := 17) (by decide +kernel), List.mem_of_getElem? (i := 409) (by decide +kernel), List.mem_of_getElem? (i := 410) (by decide +kernel)⟩
theorem lw_p10 : lw_okq (⟨"LinkShaper", "pickExcess", "()LLinkShaper$Leaf;"⟩, 9) := ⟨⟨by decide +kernel, by decide +kernel⟩, List.mem_of_getElem? (i := 17) (by decide +kernel), List.mem_of_getElem? (i := 413) (by decide +kernel), List.mem_of_getElem? (i := 414) (by decide +kernel)⟩
theorem lw_p11 : lw_okq (⟨"LinkShaper", "pickExcessOf", "(LLinkShaper$Group;)LLinkShaper$Leaf;"⟩, 9) := ⟨⟨by decide +kernel, by decide +kernel⟩, List.mem_of_getElem? (i := 17) (by decide +kernel), List.mem_of_getElem? (i := 417) (by decide +kernel), List.mem_of_getElem? (i := 418) (by decide +kernel)⟩
theorem lw_p12 : lw_okq (⟨"LinkShaper", "countHeld", "(I)V"⟩, 9) := ⟨⟨by decide +kernel, by decide +kernel⟩, List.mem_of_getElem? (i := 17) (by decide +kernel), List.mem_of_getElem? (i := 439) (by decide +kernel), List.mem_of_getElem? (i := 440) (by decide +kernel)⟩
theorem lw_p13 : lw_okq (⟨"LinkShaper", "passBusy", "(I)V"⟩, 9) := ⟨⟨by decide +kernel, by decide +kernel⟩, List.mem_of_getElem? (i := 17) (by decide +kernel), List.mem_of_getElem? (i := 456) (by decide +kernel), List.mem_of_getElem? (i := 457) (by decide +kernel)⟩
theorem lw_p14 : lw_okq (⟨"LinkShaper", "pass", "(I)V"⟩, 9) := ⟨⟨by decide +kernel, by decide +kernel⟩, List.mem_of_getElem? (i := 17) (by decide +kernel), List.mem_of_getElem? (i := 460) (by decide +kernel), List.mem_of_getElem? (i := 461) (by decide +kernel)⟩
theorem lw_p15 : lw_okq (⟨"LinkShaper", "ticksUntilOneMayGo", "()I"⟩, 9) := ⟨⟨by decide +kernel, by decide +kernel⟩, List.mem_of_getElem? (i := 17) (by decide +kernel), List.mem_of_getElem? (i := 471) (by decide +kernel), List.mem_of_getElem? (i := 472) (by decide +kernel)⟩
def lw_privs_1 : List (MethodName × Nat) := [(⟨"java/util/ArrayList", "add", "(Ljava/lang/Object;[Ljava/lang/Object;I)V"⟩, 3), (⟨"java/util/ArrayList", "grow", "()[Ljava/lang/Object;"⟩, 3), (⟨"java/util/ArrayList", "grow", "(I)[Ljava/lang/Object;"⟩, 3), (⟨"LinkShaper", "groupAt", "(I)LLinkShaper$Group;"⟩, 9), (⟨"LinkShaper", "hasRoomFor", "(ILLinkShaper$Group;)Z"⟩, 9), (⟨"LinkShaper", "leafAt", "(I)LLinkShaper$Leaf;"⟩, 9), (⟨"LinkShaper", "beginOne", "()V"⟩, 9), (⟨"LinkShaper", "pickDue", "()LLinkShaper$Leaf;"⟩, 9), (⟨"LinkShaper$Leaf", "removeFirst", "(I)LLinkShaper$Packet;"⟩, 18), (⟨"LinkShaper", "putOnLink", "(LLinkShaper$Packet;)V"⟩, 9), (⟨"LinkShaper", "pickExcess", "()LLinkShaper$Leaf;"⟩, 9), (⟨"LinkShaper", "pickExcessOf", "(LLinkShaper$Group;)LLinkShaper$Leaf;"⟩, 9), (⟨"LinkShaper", "countHeld", "(I)V"⟩, 9), (⟨"LinkShaper", "passBusy", "(I)V"⟩, 9), (⟨"LinkShaper", "pass", "(I)V"⟩, 9), (⟨"LinkShaper", "ticksUntilOneMayGo", "()I"⟩, 9)]
theorem lw_r1 : ∀ q ∈ lw_privs_1, lw_okq q := List.forall_mem_cons.mpr ⟨lw_p0, List.forall_mem_cons.mpr ⟨lw_p1, List.forall_mem_cons.mpr ⟨lw_p2, List.forall_mem_cons.mpr ⟨lw_p3, List.forall_mem_cons.mpr ⟨lw_p4, List.forall_mem_cons.mpr ⟨lw_p5, List.forall_mem_cons.mpr ⟨lw_p6, List.forall_mem_cons.mpr ⟨lw_p7, List.forall_mem_cons.mpr ⟨lw_p8, List.forall_mem_cons.mpr ⟨lw_p9, List.forall_mem_cons.mpr ⟨lw_p10, List.forall_mem_cons.mpr ⟨lw_p11, List.forall_mem_cons.mpr ⟨lw_p12, List.forall_mem_cons.mpr ⟨lw_p13, List.forall_mem_cons.mpr ⟨lw_p14, List.forall_mem_cons.mpr ⟨lw_p15, fun _ h => absurd h List.not_mem_nil⟩⟩⟩⟩⟩⟩⟩⟩⟩⟩⟩⟩⟩⟩⟩⟩
theorem lw_p16 : lw_okq (⟨"LinkShaper", "passIdle", "(I)V"⟩, 9) := ⟨⟨by decide +kernel, by decide +kernel⟩, List.mem_of_getElem? (i := 17) (by decide +kernel), List.mem_of_getElem? (i := 488) (by decide +kernel), List.mem_of_getElem? (i := 489) (by decide +kernel)⟩
theorem lw_p17 : lw_okq (⟨"LinkShaperModel", "fill", "(III)V"⟩, 42) := ⟨⟨by decide +kernel, by decide +kernel⟩, List.mem_of_getElem? (i := 529) (by decide +kernel), List.mem_of_getElem? (i := 671) (by decide +kernel), List.mem_of_getElem? (i := 672) (by decide +kernel)⟩
theorem lw_p18 : lw_okq (⟨"LinkShaperModel", "isIdle", "()Z"⟩, 42) := ⟨⟨by decide +kernel, by decide +kernel⟩, List.mem_of_getElem? (i := 529) (by decide +kernel), List.mem_of_getElem? (i := 695) (by decide +kernel), List.mem_of_getElem? (i := 696) (by decide +kernel)⟩
theorem lw_p19 : lw_okq (⟨"LinkShaperModel", "passes", "(I)V"⟩, 42) := ⟨⟨by decide +kernel, by decide +kernel⟩, List.mem_of_getElem? (i := 529) (by decide +kernel), List.mem_of_getElem? (i := 699) (by decide +kernel), List.mem_of_getElem? (i := 700) (by decide +kernel)⟩
theorem lw_p20 : lw_okq (⟨"LinkShaperModel", "begins", "()V"⟩, 42) := ⟨⟨by decide +kernel, by decide +kernel⟩, List.mem_of_getElem? (i := 529) (by decide +kernel), List.mem_of_getElem? (i := 703) (by decide +kernel), List.mem_of_getElem? (i := 704) (by decide +kernel)⟩
theorem lw_p21 : lw_okq (⟨"LinkShaperModel", "startOf", "(I)I"⟩, 42) := ⟨⟨by decide +kernel, by decide +kernel⟩, List.mem_of_getElem? (i := 529) (by decide +kernel), List.mem_of_getElem? (i := 707) (by decide +kernel), List.mem_of_getElem? (i := 708) (by decide +kernel)⟩
theorem lw_p22 : lw_okq (⟨"LinkShaperModel", "deadlineOf", "(I)I"⟩, 42) := ⟨⟨by decide +kernel, by decide +kernel⟩, List.mem_of_getElem? (i := 529) (by decide +kernel), List.mem_of_getElem? (i := 711) (by decide +kernel), List.mem_of_getElem? (i := 712) (by decide +kernel)⟩
theorem lw_p23 : lw_okq (⟨"LinkShaperModel", "goes", "(II)I"⟩, 42) := ⟨⟨by decide +kernel, by decide +kernel⟩, List.mem_of_getElem? (i := 529) (by decide +kernel), List.mem_of_getElem? (i := 715) (by decide +kernel), List.mem_of_getElem? (i := 716) (by decide +kernel)⟩
theorem lw_p24 : lw_okq (⟨"LinkShaperModel", "excess", "()V"⟩, 42) := ⟨⟨by decide +kernel, by decide +kernel⟩, List.mem_of_getElem? (i := 529) (by decide +kernel), List.mem_of_getElem? (i := 719) (by decide +kernel), List.mem_of_getElem? (i := 720) (by decide +kernel)⟩
theorem lw_p25 : lw_okq (⟨"LinkShaperModel", "tagOf", "(I)J"⟩, 42) := ⟨⟨by decide +kernel, by decide +kernel⟩, List.mem_of_getElem? (i := 529) (by decide +kernel), List.mem_of_getElem? (i := 723) (by decide +kernel), List.mem_of_getElem? (i := 724) (by decide +kernel)⟩
theorem lw_p26 : lw_okq (⟨"LinkShaperModel", "groupTagOf", "(I)J"⟩, 42) := ⟨⟨by decide +kernel, by decide +kernel⟩, List.mem_of_getElem? (i := 529) (by decide +kernel), List.mem_of_getElem? (i := 728) (by decide +kernel), List.mem_of_getElem? (i := 729) (by decide +kernel)⟩
def lw_privs_2 : List (MethodName × Nat) := [(⟨"LinkShaper", "passIdle", "(I)V"⟩, 9), (⟨"LinkShaperModel", "fill", "(III)V"⟩, 42), (⟨"LinkShaperModel", "isIdle", "()Z"⟩, 42), (⟨"LinkShaperModel", "passes", "(I)V"⟩, 42), (⟨"LinkShaperModel", "begins", "()V"⟩, 42), (⟨"LinkShaperModel", "startOf", "(I)I"⟩, 42), (⟨"LinkShaperModel", "deadlineOf", "(I)I"⟩, 42), (⟨"LinkShaperModel", "goes", "(II)I"⟩, 42), (⟨"LinkShaperModel", "excess", "()V"⟩, 42), (⟨"LinkShaperModel", "tagOf", "(I)J"⟩, 42), (⟨"LinkShaperModel", "groupTagOf", "(I)J"⟩, 42)]
theorem lw_r2 : ∀ q ∈ lw_privs_2, lw_okq q := List.forall_mem_cons.mpr ⟨lw_p16, List.forall_mem_cons.mpr ⟨lw_p17, List.forall_mem_cons.mpr ⟨lw_p18, List.forall_mem_cons.mpr ⟨lw_p19, List.forall_mem_cons.mpr ⟨lw_p20, List.forall_mem_cons.mpr ⟨lw_p21, List.forall_mem_cons.mpr ⟨lw_p22, List.forall_mem_cons.mpr ⟨lw_p23, List.forall_mem_cons.mpr ⟨lw_p24, List.forall_mem_cons.mpr ⟨lw_p25, List.forall_mem_cons.mpr ⟨lw_p26, fun _ h => absurd h List.not_mem_nil⟩⟩⟩⟩⟩⟩⟩⟩⟩⟩⟩
def lw_privs : List (MethodName × Nat) := lw_privs_1 ++ (lw_privs_2)
def lw_tbl : List Cond := k2_sels lw_privs ++ tables_1
theorem lw_privs_ok : ∀ q ∈ lw_privs, lw_okq q := by
  show ∀ q ∈ lw_privs_1 ++ (lw_privs_2), lw_okq q
  exact List.forall_mem_append.mpr ⟨lw_r1, lw_r2⟩
end
section
/-! ===== BEGIN words of one list among another's, by their places ===== -/
theorem goodIn_r {big : List Cond} (ws : List Cond) (ps : List Nat) (hp : ws = ps.filterMap (fun i => big[i]?)) (h : ws.all goodWord = true) : GoodIn big ws := by
  intro w hw
  have h1 := List.all_eq_true.mp h w hw
  rw [hp] at hw
  obtain ⟨i, -, hi⟩ := List.mem_filterMap.mp hw
  have hm : w ∈ big := by first | exact List.mem_of_getElem? hi | exact List.getElem?_mem hi
  exact ⟨hm, good_of_word h1⟩
theorem goodIn_app {big a b : List Cond} (ha : GoodIn big a) (hb : GoodIn big b) : GoodIn big (a ++ b) := fun w h => (List.mem_append.mp h).elim (ha w) (hb w)
theorem goodIn_ca {big a b : List Cond} {c : Cond} (ha : GoodIn big (c :: a)) (hb : GoodIn big b) : GoodIn big (c :: (a ++ b)) := fun w h => (List.mem_cons.mp h).elim (fun e => ha w (List.mem_cons.mpr (Or.inl e))) (fun h => (List.mem_append.mp h).elim (fun h => ha w (List.mem_cons.mpr (Or.inr h))) (hb w))
theorem goodIn_sub {big ws : List Cond} (hm : ∀ w ∈ ws, w ∈ big) (h : ws.all goodWord = true) : GoodIn big ws := fun w hw => ⟨hm w hw, good_of_word (List.all_eq_true.mp h w hw)⟩
/-! ===== END ===== -/

/-! ===== BEGIN printed: names, fields, word lists, decode rows ===== -/
def RX0 : String := "LinkShaper$Bucket"
def TX0 : u_T := fun k => match k with
  | 0 => ("LinkShaper$Bucket", "rate", "I", true)
  | 1 => ("LinkShaper$Bucket", "most", "J", true)
  | _ => ("LinkShaper$Bucket", "level", "J", false)
def tyX0 : Nat → FieldType := fun k => match k with
  | 0 => .int
  | 1 => .long
  | _ => .long
abbrev wsX00 : List Cond := u_ws RX0 TX0 3
theorem nmX0 : ∀ a, a < 3 → ∀ b, b < 3 → a ≠ b → (TX0 a).2.1 ≠ (TX0 b).2.1 := by decide +kernel
theorem tyX0_ok : ∀ k, k < 3 → parseFieldDescriptor (TX0 k).2.2.1 = some (tyX0 k) := by decide +kernel
abbrev cX0_init : ByteArray := prog_2_method_1_code
def yX0_init : MethodName := ⟨RX0, "<init>", "(II)V"⟩
abbrev cX0_fill : ByteArray := prog_2_method_2_code
def yX0_fill : MethodName := ⟨RX0, "fill", "(I)V"⟩
abbrev cX0_covers : ByteArray := prog_2_method_3_code
def yX0_covers : MethodName := ⟨RX0, "covers", "(I)Z"⟩
abbrev cX0_take : ByteArray := prog_2_method_4_code
def yX0_take : MethodName := ⟨RX0, "take", "(I)V"⟩
abbrev cX0_ticksUntilCovers : ByteArray := prog_2_method_5_code
def yX0_ticksUntilCovers : MethodName := ⟨RX0, "ticksUntilCovers", "(I)J"⟩
def RX1 : String := "LinkShaper$Group"
def TX1 : u_T := fun k => match k with
  | 0 => ("LinkShaper$Group", "weight", "I", true)
  | 1 => ("LinkShaper$Group", "ceiling", "LLinkShaper$Bucket;", true)
  | 2 => ("LinkShaper$Group", "guarantees", "I", false)
  | 3 => ("LinkShaper$Group", "waiting", "I", false)
  | 4 => ("LinkShaper$Group", "sum", "J", false)
  | _ => ("LinkShaper$Group", "mark", "J", false)
def tyX1 : Nat → FieldType := fun k => match k with
  | 0 => .int
  | 1 => .object "LinkShaper$Bucket"
  | 2 => .int
  | 3 => .int
  | 4 => .long
  | _ => .long
abbrev wsX10 : List Cond := u_ws RX1 TX1 6
theorem nmX1 : ∀ a, a < 6 → ∀ b, b < 6 → a ≠ b → (TX1 a).2.1 ≠ (TX1 b).2.1 := by decide +kernel
theorem tyX1_ok : ∀ k, k < 6 → parseFieldDescriptor (TX1 k).2.2.1 = some (tyX1 k) := by decide +kernel
abbrev cX1_init : ByteArray := prog_3_method_1_code
def yX1_init : MethodName := ⟨RX1, "<init>", "(ILLinkShaper$Bucket;)V"⟩
abbrev cX1_tagOf : ByteArray := prog_3_method_2_code
def yX1_tagOf : MethodName := ⟨RX1, "tagOf", "(I)J"⟩
def RX2 : String := "LinkShaper$Leaf"
def TX2 : u_T := fun k => match k with
  | 0 => ("LinkShaper$Leaf", "group", "LLinkShaper$Group;", true)
  | 1 => ("LinkShaper$Leaf", "weight", "I", true)
  | 2 => ("LinkShaper$Leaf", "guarantee", "I", true)
  | 3 => ("LinkShaper$Leaf", "ceiling", "LLinkShaper$Bucket;", true)
  | 4 => ("LinkShaper$Leaf", "limit", "I", true)
  | 5 => ("LinkShaper$Leaf", "policer", "LLinkShaper$Bucket;", false)
  | 6 => ("LinkShaper$Leaf", "marks", "Z", false)
  | 7 => ("LinkShaper$Leaf", "first", "LLinkShaper$Packet;", false)
  | 8 => ("LinkShaper$Leaf", "last", "LLinkShaper$Packet;", false)
  | 9 => ("LinkShaper$Leaf", "waiting", "I", false)
  | 10 => ("LinkShaper$Leaf", "bytes", "I", false)
  | 11 => ("LinkShaper$Leaf", "dueBytes", "I", false)
  | 12 => ("LinkShaper$Leaf", "excessBytes", "I", false)
  | 13 => ("LinkShaper$Leaf", "refusedByPolicer", "I", false)
  | 14 => ("LinkShaper$Leaf", "refusedByLimit", "I", false)
  | 15 => ("LinkShaper$Leaf", "clock", "I", false)
  | 16 => ("LinkShaper$Leaf", "heldTicks", "I", false)
  | _ => ("LinkShaper$Leaf", "sum", "J", false)
def tyX2 : Nat → FieldType := fun k => match k with
  | 0 => .object "LinkShaper$Group"
  | 1 => .int
  | 2 => .int
  | 3 => .object "LinkShaper$Bucket"
  | 4 => .int
  | 5 => .object "LinkShaper$Bucket"
  | 6 => .boolean
  | 7 => .object "LinkShaper$Packet"
  | 8 => .object "LinkShaper$Packet"
  | 9 => .int
  | 10 => .int
  | 11 => .int
  | 12 => .int
  | 13 => .int
  | 14 => .int
  | 15 => .int
  | 16 => .int
  | _ => .long
abbrev wsX20 : List Cond := u_ws RX2 TX2 18
theorem nmX2 : ∀ a, a < 18 → ∀ b, b < 18 → a ≠ b → (TX2 a).2.1 ≠ (TX2 b).2.1 := by decide +kernel
theorem tyX2_ok : ∀ k, k < 18 → parseFieldDescriptor (TX2 k).2.2.1 = some (tyX2 k) := by decide +kernel
abbrev cX2_init : ByteArray := prog_4_method_1_code
def yX2_init : MethodName := ⟨RX2, "<init>", "(LLinkShaper$Group;IILLinkShaper$Bucket;I)V"⟩
abbrev cX2_paysPolicer : ByteArray := prog_4_method_2_code
def yX2_paysPolicer : MethodName := ⟨RX2, "paysPolicer", "(I)Z"⟩
abbrev cX2_catchUp : ByteArray := prog_4_method_3_code
def yX2_catchUp : MethodName := ⟨RX2, "catchUp", "(J)V"⟩
abbrev cX2_append : ByteArray := prog_4_method_4_code
def yX2_append : MethodName := ⟨RX2, "append", "(LLinkShaper$Packet;)V"⟩
abbrev cX2_start : ByteArray := prog_4_method_5_code
def yX2_start : MethodName := ⟨RX2, "start", "()I"⟩
abbrev cX2_deadline : ByteArray := prog_4_method_6_code
def yX2_deadline : MethodName := ⟨RX2, "deadline", "()I"⟩
abbrev cX2_isReady : ByteArray := prog_4_method_7_code
def yX2_isReady : MethodName := ⟨RX2, "isReady", "()Z"⟩
abbrev cX2_isHeld : ByteArray := prog_4_method_8_code
def yX2_isHeld : MethodName := ⟨RX2, "isHeld", "()Z"⟩
abbrev cX2_tagInLeaf : ByteArray := prog_4_method_9_code
def yX2_tagInLeaf : MethodName := ⟨RX2, "tagInLeaf", "()J"⟩
abbrev cX2_tagInGroup : ByteArray := prog_4_method_10_code
def yX2_tagInGroup : MethodName := ⟨RX2, "tagInGroup", "()J"⟩
abbrev cX2_ticksUntilMayGo : ByteArray := prog_4_method_11_code
def yX2_ticksUntilMayGo : MethodName := ⟨RX2, "ticksUntilMayGo", "(I)J"⟩
abbrev cX2_sendDue : ByteArray := prog_4_method_12_code
def yX2_sendDue : MethodName := ⟨RX2, "sendDue", "(I)LLinkShaper$Packet;"⟩
abbrev cX2_sendExcess : ByteArray := prog_4_method_13_code
def yX2_sendExcess : MethodName := ⟨RX2, "sendExcess", "(I)LLinkShaper$Packet;"⟩
abbrev cX2_removeFirst : ByteArray := prog_4_method_14_code
def yX2_removeFirst : MethodName := ⟨RX2, "removeFirst", "(I)LLinkShaper$Packet;"⟩
abbrev cX2_figure : ByteArray := prog_4_method_15_code
def yX2_figure : MethodName := ⟨RX2, "figure", "(I)I"⟩
def RX3 : String := "LinkShaper$Packet"
def TX3 : u_T := fun k => match k with
  | 0 => ("LinkShaper$Packet", "number", "I", true)
  | 1 => ("LinkShaper$Packet", "leaf", "I", true)
  | 2 => ("LinkShaper$Packet", "size", "I", true)
  | 3 => ("LinkShaper$Packet", "came", "I", true)
  | 4 => ("LinkShaper$Packet", "marked", "Z", true)
  | 5 => ("LinkShaper$Packet", "began", "I", false)
  | 6 => ("LinkShaper$Packet", "way", "I", false)
  | 7 => ("LinkShaper$Packet", "deadline", "I", false)
  | _ => ("LinkShaper$Packet", "next", "LLinkShaper$Packet;", false)
def tyX3 : Nat → FieldType := fun k => match k with
  | 0 => .int
  | 1 => .int
  | 2 => .int
  | 3 => .int
  | 4 => .boolean
  | 5 => .int
  | 6 => .int
  | 7 => .int
  | _ => .object "LinkShaper$Packet"
abbrev wsX30 : List Cond := u_ws RX3 TX3 9
theorem nmX3 : ∀ a, a < 9 → ∀ b, b < 9 → a ≠ b → (TX3 a).2.1 ≠ (TX3 b).2.1 := by decide +kernel
theorem tyX3_ok : ∀ k, k < 9 → parseFieldDescriptor (TX3 k).2.2.1 = some (tyX3 k) := by decide +kernel
abbrev cX3_init : ByteArray := prog_5_method_1_code
def yX3_init : MethodName := ⟨RX3, "<init>", "(IIIIZ)V"⟩
abbrev cX3_figure : ByteArray := prog_5_method_2_code
def yX3_figure : MethodName := ⟨RX3, "figure", "(I)I"⟩
def RX4 : String := "LinkShaper"
def TX4 : u_T := fun k => match k with
  | 0 => ("LinkShaper", "groups", "Ljava/util/ArrayList;", true)
  | 1 => ("LinkShaper", "leaves", "Ljava/util/ArrayList;", true)
  | 2 => ("LinkShaper", "packets", "Ljava/util/ArrayList;", true)
  | 3 => ("LinkShaper", "begun", "Ljava/util/ArrayList;", true)
  | 4 => ("LinkShaper", "tick", "I", false)
  | 5 => ("LinkShaper", "freeAt", "I", false)
  | 6 => ("LinkShaper", "busyTicks", "I", false)
  | 7 => ("LinkShaper", "guarantees", "I", false)
  | _ => ("LinkShaper", "mark", "J", false)
def tyX4 : Nat → FieldType := fun k => match k with
  | 0 => .object "java/util/ArrayList"
  | 1 => .object "java/util/ArrayList"
  | 2 => .object "java/util/ArrayList"
  | 3 => .object "java/util/ArrayList"
  | 4 => .int
  | 5 => .int
  | 6 => .int
  | 7 => .int
  | _ => .long
abbrev wsX40 : List Cond := u_ws RX4 TX4 9
theorem nmX4 : ∀ a, a < 9 → ∀ b, b < 9 → a ≠ b → (TX4 a).2.1 ≠ (TX4 b).2.1 := by decide +kernel
theorem tyX4_ok : ∀ k, k < 9 → parseFieldDescriptor (TX4 k).2.2.1 = some (tyX4 k) := by decide +kernel
abbrev cX4_init : ByteArray := prog_1_method_1_code
def yX4_init : MethodName := ⟨RX4, "<init>", "()V"⟩
abbrev cX4_group : ByteArray := prog_1_method_2_code
def yX4_group : MethodName := ⟨RX4, "group", "(III)I"⟩
abbrev cX4_leaf : ByteArray := prog_1_method_3_code
def yX4_leaf : MethodName := ⟨RX4, "leaf", "(IIIIII)I"⟩
abbrev cX4_police : ByteArray := prog_1_method_4_code
def yX4_police : MethodName := ⟨RX4, "police", "(IIIZ)Z"⟩
abbrev cX4_arrive : ByteArray := prog_1_method_5_code
def yX4_arrive : MethodName := ⟨RX4, "arrive", "(II)I"⟩
abbrev cX4_run : ByteArray := prog_1_method_6_code
def yX4_run : MethodName := ⟨RX4, "run", "(I)I"⟩
abbrev cX4_now : ByteArray := prog_1_method_7_code
def yX4_now : MethodName := ⟨RX4, "now", "()I"⟩
abbrev cX4_packet : ByteArray := prog_1_method_8_code
def yX4_packet : MethodName := ⟨RX4, "packet", "(II)I"⟩
abbrev cX4_sent : ByteArray := prog_1_method_9_code
def yX4_sent : MethodName := ⟨RX4, "sent", "(I)I"⟩
abbrev cX4_about : ByteArray := prog_1_method_10_code
def yX4_about : MethodName := ⟨RX4, "about", "(II)I"⟩
abbrev cX4_tokens : ByteArray := prog_1_method_11_code
def yX4_tokens : MethodName := ⟨RX4, "tokens", "(II)J"⟩
abbrev cX4_tag : ByteArray := prog_1_method_12_code
def yX4_tag : MethodName := ⟨RX4, "tag", "(II)J"⟩
abbrev cX4_count : ByteArray := prog_1_method_13_code
def yX4_count : MethodName := ⟨RX4, "count", "(I)I"⟩
abbrev cX4_isWithin : ByteArray := prog_1_method_14_code
def yX4_isWithin : MethodName := ⟨RX4, "isWithin", "(III)Z"⟩
abbrev cX4_isWeight : ByteArray := prog_1_method_15_code
def yX4_isWeight : MethodName := ⟨RX4, "isWeight", "(I)Z"⟩
abbrev cX4_isCeiling : ByteArray := prog_1_method_16_code
def yX4_isCeiling : MethodName := ⟨RX4, "isCeiling", "(II)Z"⟩
abbrev cX4_isGuarantee : ByteArray := prog_1_method_17_code
def yX4_isGuarantee : MethodName := ⟨RX4, "isGuarantee", "(I)Z"⟩
abbrev cX4_hasRoomFor : ByteArray := prog_1_method_18_code
def yX4_hasRoomFor : MethodName := ⟨RX4, "hasRoomFor", "(ILLinkShaper$Group;)Z"⟩
abbrev cX4_groupAt : ByteArray := prog_1_method_19_code
def yX4_groupAt : MethodName := ⟨RX4, "groupAt", "(I)LLinkShaper$Group;"⟩
abbrev cX4_leafAt : ByteArray := prog_1_method_20_code
def yX4_leafAt : MethodName := ⟨RX4, "leafAt", "(I)LLinkShaper$Leaf;"⟩
abbrev cX4_beginOne : ByteArray := prog_1_method_21_code
def yX4_beginOne : MethodName := ⟨RX4, "beginOne", "()V"⟩
abbrev cX4_putOnLink : ByteArray := prog_1_method_22_code
def yX4_putOnLink : MethodName := ⟨RX4, "putOnLink", "(LLinkShaper$Packet;)V"⟩
abbrev cX4_pickDue : ByteArray := prog_1_method_23_code
def yX4_pickDue : MethodName := ⟨RX4, "pickDue", "()LLinkShaper$Leaf;"⟩
abbrev cX4_pickExcess : ByteArray := prog_1_method_24_code
def yX4_pickExcess : MethodName := ⟨RX4, "pickExcess", "()LLinkShaper$Leaf;"⟩
abbrev cX4_pickExcessOf : ByteArray := prog_1_method_25_code
def yX4_pickExcessOf : MethodName := ⟨RX4, "pickExcessOf", "(LLinkShaper$Group;)LLinkShaper$Leaf;"⟩
abbrev cX4_ticksUntilOneMayGo : ByteArray := prog_1_method_26_code
def yX4_ticksUntilOneMayGo : MethodName := ⟨RX4, "ticksUntilOneMayGo", "()I"⟩
abbrev cX4_passBusy : ByteArray := prog_1_method_27_code
def yX4_passBusy : MethodName := ⟨RX4, "passBusy", "(I)V"⟩
abbrev cX4_passIdle : ByteArray := prog_1_method_28_code
def yX4_passIdle : MethodName := ⟨RX4, "passIdle", "(I)V"⟩
abbrev cX4_countHeld : ByteArray := prog_1_method_29_code
def yX4_countHeld : MethodName := ⟨RX4, "countHeld", "(I)V"⟩
abbrev cX4_pass : ByteArray := prog_1_method_30_code
def yX4_pass : MethodName := ⟨RX4, "pass", "(I)V"⟩
def RX5 : String := "LinkShaperModel"
def TX5 : u_T := fun k => match k with
  | 0 => ("LinkShaperModel", "thrown", "I", false)
  | 1 => ("LinkShaperModel", "now", "I", false)
  | 2 => ("LinkShaperModel", "groups", "I", false)
  | 3 => ("LinkShaperModel", "leaves", "I", false)
  | 4 => ("LinkShaperModel", "packets", "I", false)
  | 5 => ("LinkShaperModel", "began", "I", false)
  | 6 => ("LinkShaperModel", "busy", "I", false)
  | 7 => ("LinkShaperModel", "left", "I", false)
  | 8 => ("LinkShaperModel", "on", "I", false)
  | 9 => ("LinkShaperModel", "groupWeight", "[I", true)
  | 10 => ("LinkShaperModel", "groupSum", "[J", true)
  | 11 => ("LinkShaperModel", "groupMark", "[J", true)
  | 12 => ("LinkShaperModel", "linkMark", "J", false)
  | 13 => ("LinkShaperModel", "group", "[I", true)
  | 14 => ("LinkShaperModel", "weight", "[I", true)
  | 15 => ("LinkShaperModel", "guarantee", "[I", true)
  | 16 => ("LinkShaperModel", "limit", "[I", true)
  | 17 => ("LinkShaperModel", "first", "[I", true)
  | 18 => ("LinkShaperModel", "last", "[I", true)
  | 19 => ("LinkShaperModel", "waiting", "[I", true)
  | 20 => ("LinkShaperModel", "bytes", "[I", true)
  | 21 => ("LinkShaperModel", "due", "[I", true)
  | 22 => ("LinkShaperModel", "excess", "[I", true)
  | 23 => ("LinkShaperModel", "policed", "[I", true)
  | 24 => ("LinkShaperModel", "full", "[I", true)
  | 25 => ("LinkShaperModel", "clock", "[I", true)
  | 26 => ("LinkShaperModel", "held", "[I", true)
  | 27 => ("LinkShaperModel", "sum", "[J", true)
  | 28 => ("LinkShaperModel", "isPoliced", "[Z", true)
  | 29 => ("LinkShaperModel", "marks", "[Z", true)
  | 30 => ("LinkShaperModel", "rate", "[I", true)
  | 31 => ("LinkShaperModel", "burst", "[I", true)
  | 32 => ("LinkShaperModel", "tokens", "[J", true)
  | 33 => ("LinkShaperModel", "leaf", "[I", true)
  | 34 => ("LinkShaperModel", "size", "[I", true)
  | 35 => ("LinkShaperModel", "came", "[I", true)
  | 36 => ("LinkShaperModel", "begin", "[I", true)
  | 37 => ("LinkShaperModel", "how", "[I", true)
  | 38 => ("LinkShaperModel", "deadline", "[I", true)
  | 39 => ("LinkShaperModel", "behind", "[I", true)
  | 40 => ("LinkShaperModel", "order", "[I", true)
  | _ => ("LinkShaperModel", "marked", "[Z", true)
def tyX5 : Nat → FieldType := fun k => match k with
  | 0 => .int
  | 1 => .int
  | 2 => .int
  | 3 => .int
  | 4 => .int
  | 5 => .int
  | 6 => .int
  | 7 => .int
  | 8 => .int
  | 9 => .array .int
  | 10 => .array .long
  | 11 => .array .long
  | 12 => .long
  | 13 => .array .int
  | 14 => .array .int
  | 15 => .array .int
  | 16 => .array .int
  | 17 => .array .int
  | 18 => .array .int
  | 19 => .array .int
  | 20 => .array .int
  | 21 => .array .int
  | 22 => .array .int
  | 23 => .array .int
  | 24 => .array .int
  | 25 => .array .int
  | 26 => .array .int
  | 27 => .array .long
  | 28 => .array .boolean
  | 29 => .array .boolean
  | 30 => .array .int
  | 31 => .array .int
  | 32 => .array .long
  | 33 => .array .int
  | 34 => .array .int
  | 35 => .array .int
  | 36 => .array .int
  | 37 => .array .int
  | 38 => .array .int
  | 39 => .array .int
  | 40 => .array .int
  | _ => .array .boolean
abbrev wsX50 : List Cond := u_ws RX5 TX5 42
theorem nmX5 : ∀ a, a < 42 → ∀ b, b < 42 → a ≠ b → (TX5 a).2.1 ≠ (TX5 b).2.1 := by decide +kernel
theorem tyX5_ok : ∀ k, k < 42 → parseFieldDescriptor (TX5 k).2.2.1 = some (tyX5 k) := by decide +kernel
abbrev cX5_init : ByteArray := prog_7_method_1_code
def yX5_init : MethodName := ⟨RX5, "<init>", "()V"⟩
abbrev cX5_in : ByteArray := prog_7_method_3_code
def yX5_in : MethodName := ⟨RX5, "in", "(III)Z"⟩
abbrev cX5_fill : ByteArray := prog_7_method_4_code
def yX5_fill : MethodName := ⟨RX5, "fill", "(III)V"⟩
abbrev cX5_group : ByteArray := prog_7_method_5_code
def yX5_group : MethodName := ⟨RX5, "group", "(III)I"⟩
abbrev cX5_leaf : ByteArray := prog_7_method_6_code
def yX5_leaf : MethodName := ⟨RX5, "leaf", "(IIIIII)I"⟩
abbrev cX5_police : ByteArray := prog_7_method_7_code
def yX5_police : MethodName := ⟨RX5, "police", "(IIIZ)Z"⟩
abbrev cX5_arrive : ByteArray := prog_7_method_8_code
def yX5_arrive : MethodName := ⟨RX5, "arrive", "(II)I"⟩
abbrev cX5_passes : ByteArray := prog_7_method_9_code
def yX5_passes : MethodName := ⟨RX5, "passes", "(I)V"⟩
abbrev cX5_isIdle : ByteArray := prog_7_method_10_code
def yX5_isIdle : MethodName := ⟨RX5, "isIdle", "()Z"⟩
abbrev cX5_run : ByteArray := prog_7_method_11_code
def yX5_run : MethodName := ⟨RX5, "run", "(I)I"⟩
abbrev cX5_startOf : ByteArray := prog_7_method_12_code
def yX5_startOf : MethodName := ⟨RX5, "startOf", "(I)I"⟩
abbrev cX5_deadlineOf : ByteArray := prog_7_method_13_code
def yX5_deadlineOf : MethodName := ⟨RX5, "deadlineOf", "(I)I"⟩
abbrev cX5_begins : ByteArray := prog_7_method_14_code
def yX5_begins : MethodName := ⟨RX5, "begins", "()V"⟩
abbrev cX5_tagOf : ByteArray := prog_7_method_15_code
def yX5_tagOf : MethodName := ⟨RX5, "tagOf", "(I)J"⟩
abbrev cX5_groupTagOf : ByteArray := prog_7_method_16_code
def yX5_groupTagOf : MethodName := ⟨RX5, "groupTagOf", "(I)J"⟩
abbrev cX5_excess : ByteArray := prog_7_method_17_code
def yX5_excess : MethodName := ⟨RX5, "excess", "()V"⟩
abbrev cX5_goes : ByteArray := prog_7_method_18_code
def yX5_goes : MethodName := ⟨RX5, "goes", "(II)I"⟩
abbrev cX5_now : ByteArray := prog_7_method_19_code
def yX5_now : MethodName := ⟨RX5, "now", "()I"⟩
abbrev cX5_packet : ByteArray := prog_7_method_20_code
def yX5_packet : MethodName := ⟨RX5, "packet", "(II)I"⟩
abbrev cX5_sent : ByteArray := prog_7_method_21_code
def yX5_sent : MethodName := ⟨RX5, "sent", "(I)I"⟩
abbrev cX5_about : ByteArray := prog_7_method_22_code
def yX5_about : MethodName := ⟨RX5, "about", "(II)I"⟩
abbrev cX5_tokens : ByteArray := prog_7_method_23_code
def yX5_tokens : MethodName := ⟨RX5, "tokens", "(II)J"⟩
abbrev cX5_tag : ByteArray := prog_7_method_24_code
def yX5_tag : MethodName := ⟨RX5, "tag", "(II)J"⟩
abbrev cX5_count : ByteArray := prog_7_method_25_code
def yX5_count : MethodName := ⟨RX5, "count", "(I)I"⟩
def RJx145de : String := "java/io/Serializable"
def TJx145de : u_T := fun k => match k with
  | _ => ("", "", "", false)
def tyJx145de : Nat → FieldType := fun k => match k with
  | _ => .int
abbrev wsJx145de0 : List Cond := u_ws RJx145de TJx145de 0
theorem nmJx145de : ∀ a, a < 0 → ∀ b, b < 0 → a ≠ b → (TJx145de a).2.1 ≠ (TJx145de b).2.1 := by decide +kernel
theorem tyJx145de_ok : ∀ k, k < 0 → parseFieldDescriptor (TJx145de k).2.2.1 = some (tyJx145de k) := by decide +kernel
def RJx8e188 : String := "java/lang/Cloneable"
def TJx8e188 : u_T := fun k => match k with
  | _ => ("", "", "", false)
def tyJx8e188 : Nat → FieldType := fun k => match k with
  | _ => .int
abbrev wsJx8e1880 : List Cond := u_ws RJx8e188 TJx8e188 0
theorem nmJx8e188 : ∀ a, a < 0 → ∀ b, b < 0 → a ≠ b → (TJx8e188 a).2.1 ≠ (TJx8e188 b).2.1 := by decide +kernel
theorem tyJx8e188_ok : ∀ k, k < 0 → parseFieldDescriptor (TJx8e188 k).2.2.1 = some (tyJx8e188 k) := by decide +kernel
def RJxab1ab : String := "java/lang/Iterable"
def TJxab1ab : u_T := fun k => match k with
  | _ => ("", "", "", false)
def tyJxab1ab : Nat → FieldType := fun k => match k with
  | _ => .int
abbrev wsJxab1ab0 : List Cond := u_ws RJxab1ab TJxab1ab 0
theorem nmJxab1ab : ∀ a, a < 0 → ∀ b, b < 0 → a ≠ b → (TJxab1ab a).2.1 ≠ (TJxab1ab b).2.1 := by decide +kernel
theorem tyJxab1ab_ok : ∀ k, k < 0 → parseFieldDescriptor (TJxab1ab k).2.2.1 = some (tyJxab1ab k) := by decide +kernel
def RJ9 : String := "java/lang/Math"
def TJ9 : u_T := fun k => match k with
  | _ => ("", "", "", false)
def tyJ9 : Nat → FieldType := fun k => match k with
  | _ => .int
abbrev wsJ90 : List Cond := u_ws RJ9 TJ9 0
theorem nmJ9 : ∀ a, a < 0 → ∀ b, b < 0 → a ≠ b → (TJ9 a).2.1 ≠ (TJ9 b).2.1 := by decide +kernel
theorem tyJ9_ok : ∀ k, k < 0 → parseFieldDescriptor (TJ9 k).2.2.1 = some (tyJ9 k) := by decide +kernel
abbrev cJ9_max_7cf53 : ByteArray := prog_11_method_65_code
def yJ9_max_7cf53 : MethodName := ⟨RJ9, "max", "(II)I"⟩
abbrev cJ9_max_f86c9 : ByteArray := prog_11_method_66_code
def yJ9_max_f86c9 : MethodName := ⟨RJ9, "max", "(JJ)J"⟩
abbrev cJ9_min_7cf53 : ByteArray := prog_11_method_69_code
def yJ9_min_7cf53 : MethodName := ⟨RJ9, "min", "(II)I"⟩
abbrev cJ9_min_f86c9 : ByteArray := prog_11_method_70_code
def yJ9_min_f86c9 : MethodName := ⟨RJ9, "min", "(JJ)J"⟩
def RJ10 : String := "java/lang/System"
def TJ10 : u_T := fun k => match k with
  | _ => ("", "", "", false)
def tyJ10 : Nat → FieldType := fun k => match k with
  | _ => .int
abbrev wsJ100 : List Cond := u_ws RJ10 TJ10 0
theorem nmJ10 : ∀ a, a < 0 → ∀ b, b < 0 → a ≠ b → (TJ10 a).2.1 ≠ (TJ10 b).2.1 := by decide +kernel
theorem tyJ10_ok : ∀ k, k < 0 → parseFieldDescriptor (TJ10 k).2.2.1 = some (tyJ10 k) := by decide +kernel
def RJxa1e45 : String := "java/util/AbstractCollection"
def TJxa1e45 : u_T := fun k => match k with
  | _ => ("", "", "", false)
def tyJxa1e45 : Nat → FieldType := fun k => match k with
  | _ => .int
abbrev wsJxa1e450 : List Cond := u_ws RJxa1e45 TJxa1e45 0
theorem nmJxa1e45 : ∀ a, a < 0 → ∀ b, b < 0 → a ≠ b → (TJxa1e45 a).2.1 ≠ (TJxa1e45 b).2.1 := by decide +kernel
theorem tyJxa1e45_ok : ∀ k, k < 0 → parseFieldDescriptor (TJxa1e45 k).2.2.1 = some (tyJxa1e45 k) := by decide +kernel
abbrev cJxa1e45_init_da8c8 : ByteArray := prog_13_method_1_code
def yJxa1e45_init_da8c8 : MethodName := ⟨RJxa1e45, "<init>", "()V"⟩
def RJxc12de : String := "java/util/AbstractList"
def TJxc12de : u_T := fun k => match k with
  | _ => ("", "", "", false)
def tyJxc12de : Nat → FieldType := fun k => match k with
  | _ => .int
abbrev wsJxc12de0 : List Cond := u_ws RJxc12de TJxc12de 0
theorem nmJxc12de : ∀ a, a < 0 → ∀ b, b < 0 → a ≠ b → (TJxc12de a).2.1 ≠ (TJxc12de b).2.1 := by decide +kernel
theorem tyJxc12de_ok : ∀ k, k < 0 → parseFieldDescriptor (TJxc12de k).2.2.1 = some (tyJxc12de k) := by decide +kernel
abbrev cJxc12de_init_da8c8 : ByteArray := prog_14_method_1_code
def yJxc12de_init_da8c8 : MethodName := ⟨RJxc12de, "<init>", "()V"⟩
def RJx4a65c : String := "java/util/ArrayList"
def TJx4a65c : u_T := fun k => match k with
  | 0 => ("java/util/AbstractList", "modCount", "I", false)
  | 1 => ("java/util/ArrayList", "elementData", "[Ljava/lang/Object;", false)
  | _ => ("java/util/ArrayList", "size", "I", false)
def tyJx4a65c : Nat → FieldType := fun k => match k with
  | 0 => .int
  | 1 => .array (.object "java/lang/Object")
  | _ => .int
abbrev wsJx4a65c0 : List Cond := u_ws RJx4a65c TJx4a65c 3
theorem nmJx4a65c : ∀ a, a < 3 → ∀ b, b < 3 → a ≠ b → (TJx4a65c a).2.1 ≠ (TJx4a65c b).2.1 := by decide +kernel
theorem tyJx4a65c_ok : ∀ k, k < 3 → parseFieldDescriptor (TJx4a65c k).2.2.1 = some (tyJx4a65c k) := by decide +kernel
abbrev cJx4a65c_init_da8c8 : ByteArray := prog_15_method_2_code
def yJx4a65c_init_da8c8 : MethodName := ⟨RJx4a65c, "<init>", "()V"⟩
abbrev cJx4a65c_grow_92f84 : ByteArray := prog_15_method_6_code
def yJx4a65c_grow_92f84 : MethodName := ⟨RJx4a65c, "grow", "(I)[Ljava/lang/Object;"⟩
abbrev cJx4a65c_grow_d5877 : ByteArray := prog_15_method_7_code
def yJx4a65c_grow_d5877 : MethodName := ⟨RJx4a65c, "grow", "()[Ljava/lang/Object;"⟩
abbrev cJx4a65c_size_8abf5 : ByteArray := prog_15_method_8_code
def yJx4a65c_size_8abf5 : MethodName := ⟨RJx4a65c, "size", "()I"⟩
abbrev cJx4a65c_elementData_915e3 : ByteArray := prog_15_method_18_code
def yJx4a65c_elementData_915e3 : MethodName := ⟨RJx4a65c, "elementData", "(I)Ljava/lang/Object;"⟩
abbrev cJx4a65c_get_915e3 : ByteArray := prog_15_method_20_code
def yJx4a65c_get_915e3 : MethodName := ⟨RJx4a65c, "get", "(I)Ljava/lang/Object;"⟩
abbrev cJx4a65c_add_72be8 : ByteArray := prog_15_method_24_code
def yJx4a65c_add_72be8 : MethodName := ⟨RJx4a65c, "add", "(Ljava/lang/Object;[Ljava/lang/Object;I)V"⟩
abbrev cJx4a65c_add_9ea2d : ByteArray := prog_15_method_25_code
def yJx4a65c_add_9ea2d : MethodName := ⟨RJx4a65c, "add", "(Ljava/lang/Object;)Z"⟩
def RJ7 : String := "java/util/Arrays"
def TJ7 : u_T := fun k => match k with
  | _ => ("", "", "", false)
def tyJ7 : Nat → FieldType := fun k => match k with
  | _ => .int
abbrev wsJ70 : List Cond := u_ws RJ7 TJ7 0
theorem nmJ7 : ∀ a, a < 0 → ∀ b, b < 0 → a ≠ b → (TJ7 a).2.1 ≠ (TJ7 b).2.1 := by decide +kernel
theorem tyJ7_ok : ∀ k, k < 0 → parseFieldDescriptor (TJ7 k).2.2.1 = some (tyJ7 k) := by decide +kernel
abbrev cJ7_copyOf_1904c : ByteArray := prog_16_method_119_code
def yJ7_copyOf_1904c : MethodName := ⟨RJ7, "copyOf", "([Ljava/lang/Object;I)[Ljava/lang/Object;"⟩
abbrev cJ7_copyOf_6403c : ByteArray := prog_16_method_120_code
def yJ7_copyOf_6403c : MethodName := ⟨RJ7, "copyOf", "([Ljava/lang/Object;ILjava/lang/Class;)[Ljava/lang/Object;"⟩
def RJx5ef63 : String := "java/util/Collection"
def TJx5ef63 : u_T := fun k => match k with
  | _ => ("", "", "", false)
def tyJx5ef63 : Nat → FieldType := fun k => match k with
  | _ => .int
abbrev wsJx5ef630 : List Cond := u_ws RJx5ef63 TJx5ef63 0
theorem nmJx5ef63 : ∀ a, a < 0 → ∀ b, b < 0 → a ≠ b → (TJx5ef63 a).2.1 ≠ (TJx5ef63 b).2.1 := by decide +kernel
theorem tyJx5ef63_ok : ∀ k, k < 0 → parseFieldDescriptor (TJx5ef63 k).2.2.1 = some (tyJx5ef63 k) := by decide +kernel
def RJxbd725 : String := "java/util/List"
def TJxbd725 : u_T := fun k => match k with
  | _ => ("", "", "", false)
def tyJxbd725 : Nat → FieldType := fun k => match k with
  | _ => .int
abbrev wsJxbd7250 : List Cond := u_ws RJxbd725 TJxbd725 0
theorem nmJxbd725 : ∀ a, a < 0 → ∀ b, b < 0 → a ≠ b → (TJxbd725 a).2.1 ≠ (TJxbd725 b).2.1 := by decide +kernel
theorem tyJxbd725_ok : ∀ k, k < 0 → parseFieldDescriptor (TJxbd725 k).2.2.1 = some (tyJxbd725 k) := by decide +kernel
def RJ15 : String := "java/util/Objects"
def TJ15 : u_T := fun k => match k with
  | _ => ("", "", "", false)
def tyJ15 : Nat → FieldType := fun k => match k with
  | _ => .int
abbrev wsJ150 : List Cond := u_ws RJ15 TJ15 0
theorem nmJ15 : ∀ a, a < 0 → ∀ b, b < 0 → a ≠ b → (TJ15 a).2.1 ≠ (TJ15 b).2.1 := by decide +kernel
theorem tyJ15_ok : ∀ k, k < 0 → parseFieldDescriptor (TJ15 k).2.2.1 = some (tyJ15 k) := by decide +kernel
abbrev cJ15_checkIndex_7cf53 : ByteArray := prog_19_method_17_code
def yJ15_checkIndex_7cf53 : MethodName := ⟨RJ15, "checkIndex", "(II)I"⟩
def RJxf0a74 : String := "java/util/RandomAccess"
def TJxf0a74 : u_T := fun k => match k with
  | _ => ("", "", "", false)
def tyJxf0a74 : Nat → FieldType := fun k => match k with
  | _ => .int
abbrev wsJxf0a740 : List Cond := u_ws RJxf0a74 TJxf0a74 0
theorem nmJxf0a74 : ∀ a, a < 0 → ∀ b, b < 0 → a ≠ b → (TJxf0a74 a).2.1 ≠ (TJxf0a74 b).2.1 := by decide +kernel
theorem tyJxf0a74_ok : ∀ k, k < 0 → parseFieldDescriptor (TJxf0a74 k).2.2.1 = some (tyJxf0a74 k) := by decide +kernel
def RJxa66e6 : String := "java/util/SequencedCollection"
def TJxa66e6 : u_T := fun k => match k with
  | _ => ("", "", "", false)
def tyJxa66e6 : Nat → FieldType := fun k => match k with
  | _ => .int
abbrev wsJxa66e60 : List Cond := u_ws RJxa66e6 TJxa66e6 0
theorem nmJxa66e6 : ∀ a, a < 0 → ∀ b, b < 0 → a ≠ b → (TJxa66e6 a).2.1 ≠ (TJxa66e6 b).2.1 := by decide +kernel
theorem tyJxa66e6_ok : ∀ k, k < 0 → parseFieldDescriptor (TJxa66e6 k).2.2.1 = some (tyJxa66e6 k) := by decide +kernel
def RJ8 : String := "jdk/internal/util/ArraysSupport"
def TJ8 : u_T := fun k => match k with
  | _ => ("", "", "", false)
def tyJ8 : Nat → FieldType := fun k => match k with
  | _ => .int
abbrev wsJ80 : List Cond := u_ws RJ8 TJ8 0
theorem nmJ8 : ∀ a, a < 0 → ∀ b, b < 0 → a ≠ b → (TJ8 a).2.1 ≠ (TJ8 b).2.1 := by decide +kernel
theorem tyJ8_ok : ∀ k, k < 0 → parseFieldDescriptor (TJ8 k).2.2.1 = some (tyJ8 k) := by decide +kernel
abbrev cJ8_newLength_cabcc : ByteArray := prog_22_method_27_code
def yJ8_newLength_cabcc : MethodName := ⟨RJ8, "newLength", "(III)I"⟩
abbrev cJ8_hugeLength_7cf53 : ByteArray := prog_22_method_28_code
def yJ8_hugeLength_7cf53 : MethodName := ⟨RJ8, "hugeLength", "(II)I"⟩
def RJ3 : String := "jdk/internal/util/Preconditions"
def TJ3 : u_T := fun k => match k with
  | _ => ("", "", "", false)
def tyJ3 : Nat → FieldType := fun k => match k with
  | _ => .int
abbrev wsJ30 : List Cond := u_ws RJ3 TJ3 0
theorem nmJ3 : ∀ a, a < 0 → ∀ b, b < 0 → a ≠ b → (TJ3 a).2.1 ≠ (TJ3 b).2.1 := by decide +kernel
theorem tyJ3_ok : ∀ k, k < 0 → parseFieldDescriptor (TJ3 k).2.2.1 = some (tyJ3 k) := by decide +kernel
abbrev cJ3_checkIndex_8e157 : ByteArray := prog_23_method_11_code
def yJ3_checkIndex_8e157 : MethodName := ⟨RJ3, "checkIndex", "(IILjava/util/function/BiFunction;)I"⟩
def RL : String := "LinkShaperLaw"
abbrev cL_law : ByteArray := code
def yL_law : MethodName := ⟨RL, "law", "([I)Z"⟩
def wsX0_init : List Cond := .code yX0_init cX0_init 3 none :: ([.methodLink RX0 3 objectInit, .instanceMethod objectInit, .code objectInit ⟨#[0xb1]⟩ 1 none, .fieldLink RX0 9 "LinkShaper$Bucket" "rate" "I", .constantLong RX0 15 (1000), .fieldLink RX0 17 "LinkShaper$Bucket" "most" "J", .fieldLink RX0 21 "LinkShaper$Bucket" "level" "J"] ++ wsX00)
def wsX0_fill : List Cond := .code yX0_fill cX0_fill 2 none :: ([.fieldLink RX0 17 "LinkShaper$Bucket" "most" "J", .fieldLink RX0 21 "LinkShaper$Bucket" "level" "J", .fieldLink RX0 9 "LinkShaper$Bucket" "rate" "I", .methodLink RX0 24 Lib.MathLoose.min_long.x, .static Lib.MathLoose.min_long.x, .initialized "java/lang/Math", .code Lib.MathLoose.min_long.x Lib.MathLoose.min_long.code 4 (some .long)] ++ wsX00)
def wsX0_covers : List Cond := .code yX0_covers cX0_covers 2 (some .boolean) :: ([.fieldLink RX0 21 "LinkShaper$Bucket" "level" "J", .constantLong RX0 15 (1000)] ++ wsX00)
def wsX0_take : List Cond := .code yX0_take cX0_take 2 none :: ([.fieldLink RX0 21 "LinkShaper$Bucket" "level" "J", .constantLong RX0 15 (1000)] ++ wsX00)
def wsX0_ticksUntilCovers : List Cond := .code yX0_ticksUntilCovers cX0_ticksUntilCovers 4 (some .long) :: ([.constantLong RX0 15 (1000), .fieldLink RX0 21 "LinkShaper$Bucket" "level" "J", .fieldLink RX0 9 "LinkShaper$Bucket" "rate" "I", .constantLong RX0 30 (2147483647)] ++ wsX00)
def wsX1_init : List Cond := .code yX1_init cX1_init 3 none :: ([.methodLink RX1 3 objectInit, .instanceMethod objectInit, .code objectInit ⟨#[0xb1]⟩ 1 none, .fieldLink RX1 9 "LinkShaper$Group" "weight" "I", .fieldLink RX1 15 "LinkShaper$Group" "ceiling" "LLinkShaper$Bucket;"] ++ wsX10)
def wsX1_tagOf : List Cond := .code yX1_tagOf cX1_tagOf 2 (some .long) :: ([.fieldLink RX1 9 "LinkShaper$Group" "weight" "I", .fieldLink RX1 19 "LinkShaper$Group" "sum" "J", .constantLong RX1 23 (27720)] ++ wsX10)
def wsX2_init : List Cond := .code yX2_init cX2_init 6 none :: ([.methodLink RX2 3 objectInit, .instanceMethod objectInit, .code objectInit ⟨#[0xb1]⟩ 1 none, .fieldLink RX2 9 "LinkShaper$Leaf" "group" "LLinkShaper$Group;", .fieldLink RX2 15 "LinkShaper$Leaf" "weight" "I", .fieldLink RX2 19 "LinkShaper$Leaf" "guarantee" "I", .fieldLink RX2 22 "LinkShaper$Leaf" "ceiling" "LLinkShaper$Bucket;", .fieldLink RX2 26 "LinkShaper$Leaf" "limit" "I"] ++ wsX20)
def wsX2_paysPolicer : List Cond := .code yX2_paysPolicer cX2_paysPolicer 2 (some .boolean) :: ([.fieldLink RX2 29 "LinkShaper$Leaf" "policer" "LLinkShaper$Bucket;", .methodLink RX2 32 yX0_covers, .instanceMethod yX0_covers, .selects RX0 yX0_covers yX0_covers, .initialized RX0, .code yX0_covers cX0_covers 2 (some .boolean), .fieldLink RX0 21 "LinkShaper$Bucket" "level" "J", .constantLong RX0 15 (1000), .methodLink RX2 38 yX0_take, .instanceMethod yX0_take, .selects RX0 yX0_take yX0_take, .code yX0_take cX0_take 2 none] ++ wsX20 ++ wsX00)
def wsX2_catchUp : List Cond := .code yX2_catchUp cX2_catchUp 3 none :: ([.fieldLink RX2 42 "LinkShaper$Leaf" "first" "LLinkShaper$Packet;", .fieldLink RX2 46 "LinkShaper$Leaf" "sum" "J", .fieldLink RX2 9 "LinkShaper$Leaf" "group" "LLinkShaper$Group;", .fieldLink RX2 50 "LinkShaper$Group" "mark" "J", .methodLink RX2 55 Lib.MathLoose.max_long.x, .static Lib.MathLoose.max_long.x, .initialized "java/lang/Math", .code Lib.MathLoose.max_long.x Lib.MathLoose.max_long.code 4 (some .long), .fieldLink RX2 61 "LinkShaper$Group" "waiting" "I", .fieldLink RX2 64 "LinkShaper$Group" "sum" "J"] ++ wsX20 ++ wsX10)
def wsX2_append : List Cond := .code yX2_append cX2_append 2 none :: ([.fieldLink RX2 65 "LinkShaper$Leaf" "last" "LLinkShaper$Packet;", .fieldLink RX2 42 "LinkShaper$Leaf" "first" "LLinkShaper$Packet;", .fieldLink RX2 68 "LinkShaper$Packet" "next" "LLinkShaper$Packet;", .fieldLink RX2 73 "LinkShaper$Leaf" "waiting" "I", .fieldLink RX2 74 "LinkShaper$Leaf" "bytes" "I", .fieldLink RX2 77 "LinkShaper$Packet" "size" "I", .fieldLink RX2 9 "LinkShaper$Leaf" "group" "LLinkShaper$Group;", .fieldLink RX2 61 "LinkShaper$Group" "waiting" "I"] ++ wsX20 ++ wsX30 ++ wsX10)
def wsX2_start : List Cond := .code yX2_start cX2_start 1 (some .int) :: ([.fieldLink RX2 42 "LinkShaper$Leaf" "first" "LLinkShaper$Packet;", .fieldLink RX2 19 "LinkShaper$Leaf" "guarantee" "I", .constant RX2 80 (2147483647), .fieldLink RX2 81 "LinkShaper$Leaf" "clock" "I", .fieldLink RX2 84 "LinkShaper$Packet" "came" "I", .methodLink RX2 87 Lib.Math.max.name, .static Lib.Math.max.name, .initialized "java/lang/Math", .code Lib.Math.max.name Lib.Math.max.code 2 (some .int)] ++ wsX20 ++ wsX30)
def wsX2_deadline : List Cond := .code yX2_deadline cX2_deadline 1 (some .int) :: ([.fieldLink RX2 42 "LinkShaper$Leaf" "first" "LLinkShaper$Packet;", .fieldLink RX2 19 "LinkShaper$Leaf" "guarantee" "I", .constant RX2 80 (2147483647), .fieldLink RX2 77 "LinkShaper$Packet" "size" "I", .methodLink RX2 90 yX2_start, .instanceMethod yX2_start, .selects RX2 yX2_start yX2_start, .initialized RX2, .code yX2_start cX2_start 1 (some .int), .fieldLink RX2 81 "LinkShaper$Leaf" "clock" "I", .fieldLink RX2 84 "LinkShaper$Packet" "came" "I", .methodLink RX2 87 Lib.Math.max.name, .static Lib.Math.max.name, .initialized "java/lang/Math", .code Lib.Math.max.name Lib.Math.max.code 2 (some .int)] ++ wsX20 ++ wsX30)
def wsX2_isReady : List Cond := .code yX2_isReady cX2_isReady 1 (some .boolean) :: ([.fieldLink RX2 42 "LinkShaper$Leaf" "first" "LLinkShaper$Packet;", .fieldLink RX2 22 "LinkShaper$Leaf" "ceiling" "LLinkShaper$Bucket;", .fieldLink RX2 77 "LinkShaper$Packet" "size" "I", .fieldLink RX2 9 "LinkShaper$Leaf" "group" "LLinkShaper$Group;", .fieldLink RX2 94 "LinkShaper$Group" "ceiling" "LLinkShaper$Bucket;", .methodLink RX2 32 yX0_covers, .instanceMethod yX0_covers, .selects RX0 yX0_covers yX0_covers, .initialized RX0, .code yX0_covers cX0_covers 2 (some .boolean), .fieldLink RX0 21 "LinkShaper$Bucket" "level" "J", .constantLong RX0 15 (1000)] ++ wsX20 ++ wsX30 ++ wsX10 ++ wsX00)
def wsX2_isHeld : List Cond := .code yX2_isHeld cX2_isHeld 1 (some .boolean) :: ([.fieldLink RX2 42 "LinkShaper$Leaf" "first" "LLinkShaper$Packet;", .methodLink RX2 95 yX2_isReady, .instanceMethod yX2_isReady, .selects RX2 yX2_isReady yX2_isReady, .initialized RX2, .code yX2_isReady cX2_isReady 1 (some .boolean), .fieldLink RX2 22 "LinkShaper$Leaf" "ceiling" "LLinkShaper$Bucket;", .fieldLink RX2 77 "LinkShaper$Packet" "size" "I", .fieldLink RX2 9 "LinkShaper$Leaf" "group" "LLinkShaper$Group;", .fieldLink RX2 94 "LinkShaper$Group" "ceiling" "LLinkShaper$Bucket;", .methodLink RX2 32 yX0_covers, .instanceMethod yX0_covers, .selects RX0 yX0_covers yX0_covers, .initialized RX0, .code yX0_covers cX0_covers 2 (some .boolean), .fieldLink RX0 21 "LinkShaper$Bucket" "level" "J", .constantLong RX0 15 (1000)] ++ wsX20 ++ wsX30 ++ wsX10 ++ wsX00)
def wsX2_tagInLeaf : List Cond := .code yX2_tagInLeaf cX2_tagInLeaf 1 (some .long) :: ([.fieldLink RX2 42 "LinkShaper$Leaf" "first" "LLinkShaper$Packet;", .fieldLink RX2 15 "LinkShaper$Leaf" "weight" "I", .fieldLink RX2 46 "LinkShaper$Leaf" "sum" "J", .constantLong RX2 99 (27720), .fieldLink RX2 77 "LinkShaper$Packet" "size" "I"] ++ wsX20 ++ wsX30)
def wsX2_tagInGroup : List Cond := .code yX2_tagInGroup cX2_tagInGroup 1 (some .long) :: ([.fieldLink RX2 42 "LinkShaper$Leaf" "first" "LLinkShaper$Packet;", .fieldLink RX2 9 "LinkShaper$Leaf" "group" "LLinkShaper$Group;", .fieldLink RX2 64 "LinkShaper$Group" "sum" "J", .fieldLink RX2 77 "LinkShaper$Packet" "size" "I", .methodLink RX2 101 yX1_tagOf, .instanceMethod yX1_tagOf, .selects RX1 yX1_tagOf yX1_tagOf, .initialized RX1, .code yX1_tagOf cX1_tagOf 2 (some .long), .fieldLink RX1 9 "LinkShaper$Group" "weight" "I", .fieldLink RX1 19 "LinkShaper$Group" "sum" "J", .constantLong RX1 23 (27720)] ++ wsX20 ++ wsX10 ++ wsX30)
def wsX2_ticksUntilMayGo_r1 : List Cond := [Cond.fieldLink RX2 42 "LinkShaper$Leaf" "first" "LLinkShaper$Packet;", Cond.constantLong RX2 105 (2147483647), Cond.fieldLink RX2 22 "LinkShaper$Leaf" "ceiling" "LLinkShaper$Bucket;", Cond.fieldLink RX2 77 "LinkShaper$Packet" "size" "I", Cond.fieldLink RX2 9 "LinkShaper$Leaf" "group" "LLinkShaper$Group;", Cond.fieldLink RX2 94 "LinkShaper$Group" "ceiling" "LLinkShaper$Bucket;", Cond.methodLink RX2 55 Lib.MathLoose.max_long.x, Cond.static Lib.MathLoose.max_long.x, Cond.initialized "java/lang/Math", Cond.code Lib.MathLoose.max_long.x Lib.MathLoose.max_long.code 4 (some .long), Cond.methodLink RX2 110 Lib.MathLoose.min_long.x, Cond.static Lib.MathLoose.min_long.x, Cond.code Lib.MathLoose.min_long.x Lib.MathLoose.min_long.code 4 (some .long), Cond.methodLink RX2 107 yX0_ticksUntilCovers, Cond.instanceMethod yX0_ticksUntilCovers, Cond.selects RX0 yX0_ticksUntilCovers yX0_ticksUntilCovers, Cond.initialized RX0, Cond.code yX0_ticksUntilCovers cX0_ticksUntilCovers 4 (some .long), Cond.constantLong RX0 15 (1000), Cond.fieldLink RX0 21 "LinkShaper$Bucket" "level" "J", Cond.fieldLink RX0 9 "LinkShaper$Bucket" "rate" "I", Cond.constantLong RX0 30 (2147483647), Cond.methodLink RX2 90 yX2_start, Cond.instanceMethod yX2_start]
def wsX2_ticksUntilMayGo_r2 : List Cond := [Cond.selects RX2 yX2_start yX2_start, Cond.initialized RX2, Cond.code yX2_start cX2_start 1 (some .int), Cond.fieldLink RX2 19 "LinkShaper$Leaf" "guarantee" "I", Cond.constant RX2 80 (2147483647), Cond.fieldLink RX2 81 "LinkShaper$Leaf" "clock" "I", Cond.fieldLink RX2 84 "LinkShaper$Packet" "came" "I", Cond.methodLink RX2 87 Lib.Math.max.name, Cond.static Lib.Math.max.name, Cond.code Lib.Math.max.name Lib.Math.max.code 2 (some .int)]
def wsX2_ticksUntilMayGo : List Cond := .code yX2_ticksUntilMayGo cX2_ticksUntilMayGo 4 (some .long) :: ((wsX2_ticksUntilMayGo_r1 ++ wsX2_ticksUntilMayGo_r2) ++ wsX20 ++ wsX30 ++ wsX10 ++ wsX00)
def wsX2_removeFirst : List Cond := .code yX2_removeFirst cX2_removeFirst 3 (some (.object "LinkShaper$Packet")) :: ([.fieldLink RX2 42 "LinkShaper$Leaf" "first" "LLinkShaper$Packet;", .fieldLink RX2 68 "LinkShaper$Packet" "next" "LLinkShaper$Packet;", .fieldLink RX2 65 "LinkShaper$Leaf" "last" "LLinkShaper$Packet;", .fieldLink RX2 138 "LinkShaper$Packet" "began" "I", .fieldLink RX2 73 "LinkShaper$Leaf" "waiting" "I", .fieldLink RX2 74 "LinkShaper$Leaf" "bytes" "I", .fieldLink RX2 77 "LinkShaper$Packet" "size" "I", .fieldLink RX2 9 "LinkShaper$Leaf" "group" "LLinkShaper$Group;", .fieldLink RX2 61 "LinkShaper$Group" "waiting" "I", .fieldLink RX2 22 "LinkShaper$Leaf" "ceiling" "LLinkShaper$Bucket;", .fieldLink RX2 94 "LinkShaper$Group" "ceiling" "LLinkShaper$Bucket;", .methodLink RX2 38 yX0_take, .instanceMethod yX0_take, .selects RX0 yX0_take yX0_take, .initialized RX0, .code yX0_take cX0_take 2 none, .fieldLink RX0 21 "LinkShaper$Bucket" "level" "J", .constantLong RX0 15 (1000)] ++ wsX20 ++ wsX30 ++ wsX10 ++ wsX00)
def wsX2_sendDue_r1 : List Cond := [Cond.fieldLink RX2 120 "LinkShaper$Packet" "way" "I", Cond.fieldLink RX2 123 "LinkShaper$Packet" "deadline" "I", Cond.fieldLink RX2 81 "LinkShaper$Leaf" "clock" "I", Cond.fieldLink RX2 125 "LinkShaper$Leaf" "dueBytes" "I", Cond.fieldLink RX2 77 "LinkShaper$Packet" "size" "I", Cond.methodLink RX2 113 yX2_deadline, Cond.instanceMethod yX2_deadline, Cond.selects RX2 yX2_deadline yX2_deadline, Cond.initialized RX2, Cond.code yX2_deadline cX2_deadline 1 (some .int), Cond.fieldLink RX2 42 "LinkShaper$Leaf" "first" "LLinkShaper$Packet;", Cond.fieldLink RX2 19 "LinkShaper$Leaf" "guarantee" "I", Cond.constant RX2 80 (2147483647), Cond.methodLink RX2 90 yX2_start, Cond.instanceMethod yX2_start, Cond.selects RX2 yX2_start yX2_start, Cond.code yX2_start cX2_start 1 (some .int), Cond.fieldLink RX2 84 "LinkShaper$Packet" "came" "I", Cond.methodLink RX2 87 Lib.Math.max.name, Cond.static Lib.Math.max.name, Cond.initialized "java/lang/Math", Cond.code Lib.Math.max.name Lib.Math.max.code 2 (some .int), Cond.methodLink RX2 116 yX2_removeFirst, Cond.instanceMethod yX2_removeFirst]
def wsX2_sendDue_r2 : List Cond := [Cond.selects RX2 yX2_removeFirst yX2_removeFirst, Cond.code yX2_removeFirst cX2_removeFirst 3 (some (.object "LinkShaper$Packet")), Cond.fieldLink RX2 68 "LinkShaper$Packet" "next" "LLinkShaper$Packet;", Cond.fieldLink RX2 65 "LinkShaper$Leaf" "last" "LLinkShaper$Packet;", Cond.fieldLink RX2 138 "LinkShaper$Packet" "began" "I", Cond.fieldLink RX2 73 "LinkShaper$Leaf" "waiting" "I", Cond.fieldLink RX2 74 "LinkShaper$Leaf" "bytes" "I", Cond.fieldLink RX2 9 "LinkShaper$Leaf" "group" "LLinkShaper$Group;", Cond.fieldLink RX2 61 "LinkShaper$Group" "waiting" "I", Cond.fieldLink RX2 22 "LinkShaper$Leaf" "ceiling" "LLinkShaper$Bucket;", Cond.fieldLink RX2 94 "LinkShaper$Group" "ceiling" "LLinkShaper$Bucket;", Cond.methodLink RX2 38 yX0_take, Cond.instanceMethod yX0_take, Cond.selects RX0 yX0_take yX0_take, Cond.initialized RX0, Cond.code yX0_take cX0_take 2 none, Cond.fieldLink RX0 21 "LinkShaper$Bucket" "level" "J", Cond.constantLong RX0 15 (1000)]
def wsX2_sendDue : List Cond := .code yX2_sendDue cX2_sendDue 4 (some (.object "LinkShaper$Packet")) :: ((wsX2_sendDue_r1 ++ wsX2_sendDue_r2) ++ wsX30 ++ wsX20 ++ wsX10 ++ wsX00)
def wsX2_sendExcess_r1 : List Cond := [Cond.fieldLink RX2 120 "LinkShaper$Packet" "way" "I", Cond.fieldLink RX2 46 "LinkShaper$Leaf" "sum" "J", Cond.fieldLink RX2 9 "LinkShaper$Leaf" "group" "LLinkShaper$Group;", Cond.fieldLink RX2 50 "LinkShaper$Group" "mark" "J", Cond.methodLink RX2 55 Lib.MathLoose.max_long.x, Cond.static Lib.MathLoose.max_long.x, Cond.initialized "java/lang/Math", Cond.code Lib.MathLoose.max_long.x Lib.MathLoose.max_long.code 4 (some .long), Cond.fieldLink RX2 64 "LinkShaper$Group" "sum" "J", Cond.fieldLink RX2 135 "LinkShaper$Leaf" "excessBytes" "I", Cond.fieldLink RX2 77 "LinkShaper$Packet" "size" "I", Cond.methodLink RX2 128 yX2_tagInLeaf, Cond.instanceMethod yX2_tagInLeaf, Cond.selects RX2 yX2_tagInLeaf yX2_tagInLeaf, Cond.initialized RX2, Cond.code yX2_tagInLeaf cX2_tagInLeaf 1 (some .long), Cond.fieldLink RX2 42 "LinkShaper$Leaf" "first" "LLinkShaper$Packet;", Cond.fieldLink RX2 15 "LinkShaper$Leaf" "weight" "I", Cond.constantLong RX2 99 (27720), Cond.methodLink RX2 132 yX2_tagInGroup, Cond.instanceMethod yX2_tagInGroup, Cond.selects RX2 yX2_tagInGroup yX2_tagInGroup, Cond.code yX2_tagInGroup cX2_tagInGroup 1 (some .long), Cond.methodLink RX2 101 yX1_tagOf]
def wsX2_sendExcess_r2 : List Cond := [Cond.instanceMethod yX1_tagOf, Cond.selects RX1 yX1_tagOf yX1_tagOf, Cond.initialized RX1, Cond.code yX1_tagOf cX1_tagOf 2 (some .long), Cond.fieldLink RX1 9 "LinkShaper$Group" "weight" "I", Cond.fieldLink RX1 19 "LinkShaper$Group" "sum" "J", Cond.constantLong RX1 23 (27720), Cond.methodLink RX2 116 yX2_removeFirst, Cond.instanceMethod yX2_removeFirst, Cond.selects RX2 yX2_removeFirst yX2_removeFirst, Cond.code yX2_removeFirst cX2_removeFirst 3 (some (.object "LinkShaper$Packet")), Cond.fieldLink RX2 68 "LinkShaper$Packet" "next" "LLinkShaper$Packet;", Cond.fieldLink RX2 65 "LinkShaper$Leaf" "last" "LLinkShaper$Packet;", Cond.fieldLink RX2 138 "LinkShaper$Packet" "began" "I", Cond.fieldLink RX2 73 "LinkShaper$Leaf" "waiting" "I", Cond.fieldLink RX2 74 "LinkShaper$Leaf" "bytes" "I", Cond.fieldLink RX2 61 "LinkShaper$Group" "waiting" "I", Cond.fieldLink RX2 22 "LinkShaper$Leaf" "ceiling" "LLinkShaper$Bucket;", Cond.fieldLink RX2 94 "LinkShaper$Group" "ceiling" "LLinkShaper$Bucket;", Cond.methodLink RX2 38 yX0_take, Cond.instanceMethod yX0_take, Cond.selects RX0 yX0_take yX0_take, Cond.initialized RX0, Cond.code yX0_take cX0_take 2 none]
def wsX2_sendExcess_r3 : List Cond := [Cond.fieldLink RX0 21 "LinkShaper$Bucket" "level" "J", Cond.constantLong RX0 15 (1000)]
def wsX2_sendExcess : List Cond := .code yX2_sendExcess cX2_sendExcess 7 (some (.object "LinkShaper$Packet")) :: ((wsX2_sendExcess_r1 ++ (wsX2_sendExcess_r2 ++ wsX2_sendExcess_r3)) ++ wsX30 ++ wsX20 ++ wsX10 ++ wsX00)
def wsX2_figure : List Cond := .code yX2_figure cX2_figure 2 (some .int) :: ([.fieldLink RX2 73 "LinkShaper$Leaf" "waiting" "I", .fieldLink RX2 74 "LinkShaper$Leaf" "bytes" "I", .fieldLink RX2 125 "LinkShaper$Leaf" "dueBytes" "I", .fieldLink RX2 135 "LinkShaper$Leaf" "excessBytes" "I", .fieldLink RX2 141 "LinkShaper$Leaf" "refusedByPolicer" "I", .fieldLink RX2 144 "LinkShaper$Leaf" "refusedByLimit" "I", .fieldLink RX2 81 "LinkShaper$Leaf" "clock" "I", .fieldLink RX2 147 "LinkShaper$Leaf" "heldTicks" "I"] ++ wsX20)
def wsX3_init : List Cond := .code yX3_init cX3_init 6 none :: ([.methodLink RX3 3 objectInit, .instanceMethod objectInit, .code objectInit ⟨#[0xb1]⟩ 1 none, .fieldLink RX3 9 "LinkShaper$Packet" "number" "I", .fieldLink RX3 15 "LinkShaper$Packet" "leaf" "I", .fieldLink RX3 18 "LinkShaper$Packet" "size" "I", .fieldLink RX3 21 "LinkShaper$Packet" "came" "I", .fieldLink RX3 24 "LinkShaper$Packet" "marked" "Z", .fieldLink RX3 28 "LinkShaper$Packet" "began" "I", .fieldLink RX3 31 "LinkShaper$Packet" "way" "I", .fieldLink RX3 34 "LinkShaper$Packet" "deadline" "I"] ++ wsX30)
def wsX3_figure : List Cond := .code yX3_figure cX3_figure 2 (some .int) :: ([.fieldLink RX3 15 "LinkShaper$Packet" "leaf" "I", .fieldLink RX3 18 "LinkShaper$Packet" "size" "I", .fieldLink RX3 21 "LinkShaper$Packet" "came" "I", .fieldLink RX3 28 "LinkShaper$Packet" "began" "I", .fieldLink RX3 31 "LinkShaper$Packet" "way" "I", .fieldLink RX3 34 "LinkShaper$Packet" "deadline" "I", .fieldLink RX3 24 "LinkShaper$Packet" "marked" "Z"] ++ wsX30)
def wsJxa1e45_init_da8c8 : List Cond := .code yJxa1e45_init_da8c8 cJxa1e45_init_da8c8 1 none :: ([.methodLink RJxa1e45 1 objectInit, .instanceMethod objectInit, .code objectInit ⟨#[0xb1]⟩ 1 none])
def wsJxc12de_init_da8c8 : List Cond := .code yJxc12de_init_da8c8 cJxc12de_init_da8c8 1 none :: ([.fieldLink RJxc12de 7 "java/util/AbstractList" "modCount" "I", .methodLink RJxc12de 1 yJxa1e45_init_da8c8, .instanceMethod yJxa1e45_init_da8c8, .initialized RJxa1e45, .code yJxa1e45_init_da8c8 cJxa1e45_init_da8c8 1 none, .methodLink RJxa1e45 1 objectInit, .instanceMethod objectInit, .code objectInit ⟨#[0xb1]⟩ 1 none] ++ wsJx4a65c0)
def wsJx4a65c_init_da8c8 : List Cond := .code yJx4a65c_init_da8c8 cJx4a65c_init_da8c8 1 none :: ([.fieldLink RJx4a65c 39 "java/util/ArrayList" "DEFAULTCAPACITY_EMPTY_ELEMENTDATA" "[Ljava/lang/Object;", .fieldLink RJx4a65c 9 "java/util/ArrayList" "elementData" "[Ljava/lang/Object;", .methodLink RJx4a65c 1 yJxc12de_init_da8c8, .instanceMethod yJxc12de_init_da8c8, .initialized RJxc12de, .code yJxc12de_init_da8c8 cJxc12de_init_da8c8 1 none, .fieldLink RJxc12de 7 "java/util/AbstractList" "modCount" "I", .methodLink RJxc12de 1 yJxa1e45_init_da8c8, .instanceMethod yJxa1e45_init_da8c8, .initialized RJxa1e45, .code yJxa1e45_init_da8c8 cJxa1e45_init_da8c8 1 none, .methodLink RJxa1e45 1 objectInit, .instanceMethod objectInit, .code objectInit ⟨#[0xb1]⟩ 1 none] ++ wsJx4a65c0)
def wsX4_init_r1 : List Cond := [Cond.methodLink RX4 3 objectInit, Cond.instanceMethod objectInit, Cond.code objectInit ⟨#[0xb1]⟩ 1 none, Cond.classLink RX4 9 RJx4a65c, Cond.instantiable RJx4a65c 3, Cond.initialized RJx4a65c, Cond.fieldLink RX4 12 "LinkShaper" "groups" "Ljava/util/ArrayList;", Cond.fieldLink RX4 18 "LinkShaper" "leaves" "Ljava/util/ArrayList;", Cond.fieldLink RX4 21 "LinkShaper" "packets" "Ljava/util/ArrayList;", Cond.fieldLink RX4 24 "LinkShaper" "begun" "Ljava/util/ArrayList;", Cond.fieldLink RX4 27 "LinkShaper" "tick" "I", Cond.fieldLink RX4 31 "LinkShaper" "freeAt" "I", Cond.fieldLink RX4 34 "LinkShaper" "busyTicks" "I", Cond.fieldLink RX4 37 "LinkShaper" "guarantees" "I", Cond.fieldLink RX4 40 "LinkShaper" "mark" "J", Cond.methodLink RX4 11 yJx4a65c_init_da8c8, Cond.instanceMethod yJx4a65c_init_da8c8, Cond.code yJx4a65c_init_da8c8 cJx4a65c_init_da8c8 1 none, Cond.fieldLink RJx4a65c 39 "java/util/ArrayList" "DEFAULTCAPACITY_EMPTY_ELEMENTDATA" "[Ljava/lang/Object;", Cond.fieldLink RJx4a65c 9 "java/util/ArrayList" "elementData" "[Ljava/lang/Object;", Cond.methodLink RJx4a65c 1 yJxc12de_init_da8c8, Cond.instanceMethod yJxc12de_init_da8c8, Cond.initialized RJxc12de, Cond.code yJxc12de_init_da8c8 cJxc12de_init_da8c8 1 none]
def wsX4_init_r2 : List Cond := [Cond.fieldLink RJxc12de 7 "java/util/AbstractList" "modCount" "I", Cond.methodLink RJxc12de 1 yJxa1e45_init_da8c8, Cond.instanceMethod yJxa1e45_init_da8c8, Cond.initialized RJxa1e45, Cond.code yJxa1e45_init_da8c8 cJxa1e45_init_da8c8 1 none, Cond.methodLink RJxa1e45 1 objectInit]
def wsX4_init : List Cond := .code yX4_init cX4_init 1 none :: ((wsX4_init_r1 ++ wsX4_init_r2) ++ wsJx4a65c0 ++ wsX40)
def wsJx4a65c_size_8abf5 : List Cond := .code yJx4a65c_size_8abf5 cJx4a65c_size_8abf5 1 (some .int) :: ([.fieldLink RJx4a65c 48 "java/util/ArrayList" "size" "I"] ++ wsJx4a65c0)
def wsX4_isWithin : List Cond := .code yX4_isWithin cX4_isWithin 3 (some .boolean) :: ([])
def wsX4_isWeight : List Cond := .code yX4_isWeight cX4_isWeight 1 (some .boolean) :: ([.methodLink RX4 75 yX4_isWithin, .static yX4_isWithin, .initialized RX4, .code yX4_isWithin cX4_isWithin 3 (some .boolean)])
def wsX4_isCeiling : List Cond := .code yX4_isCeiling cX4_isCeiling 2 (some .boolean) :: ([.methodLink RX4 75 yX4_isWithin, .static yX4_isWithin, .initialized RX4, .code yX4_isWithin cX4_isWithin 3 (some .boolean)])
def wsJ8_hugeLength_7cf53 : List Cond := .code yJ8_hugeLength_7cf53 cJ8_hugeLength_7cf53 3 (some .int) :: ([.constant RJ8 200 (2147483639)])
def wsJ8_newLength_cabcc : List Cond := .code yJ8_newLength_cabcc cJ8_newLength_cabcc 4 (some .int) :: ([.methodLink RJ8 194 Lib.Math.max.name, .static Lib.Math.max.name, .initialized "java/lang/Math", .code Lib.Math.max.name Lib.Math.max.code 2 (some .int), .constant RJ8 200 (2147483639), .methodLink RJ8 201 yJ8_hugeLength_7cf53, .static yJ8_hugeLength_7cf53, .initialized RJ8, .code yJ8_hugeLength_7cf53 cJ8_hugeLength_7cf53 3 (some .int)])
def wsJ7_copyOf_6403c : List Cond := .code yJ7_copyOf_6403c cJ7_copyOf_6403c 4 (some (.array (.object "java/lang/Object"))) :: ([.classLink RJ7 110 "[Ljava/lang/Object;", .classLink RJ7 2 "java/lang/Object", .methodLink RJ7 304 Lib.Math.min.name, .static Lib.Math.min.name, .initialized "java/lang/Math", .code Lib.Math.min.name Lib.Math.min.code 2 (some .int), .methodLink RJ7 150 arraycopyName, .native arraycopyName, .static arraycopyName, .initialized "java/lang/System"])
def wsJ7_copyOf_1904c : List Cond := .code yJ7_copyOf_1904c cJ7_copyOf_1904c 2 (some (.array (.object "java/lang/Object"))) :: ([.methodLink RJ7 86 ⟨"java/lang/Object", "getClass", "()Ljava/lang/Class;"⟩, .selects "[Ljava/lang/Object;" ⟨"java/lang/Object", "getClass", "()Ljava/lang/Class;"⟩ ⟨"java/lang/Object", "getClass", "()Ljava/lang/Class;"⟩, .instanceMethod ⟨"java/lang/Object", "getClass", "()Ljava/lang/Class;"⟩, .native ⟨"java/lang/Object", "getClass", "()Ljava/lang/Class;"⟩, .methodLink RJ7 300 yJ7_copyOf_6403c, .static yJ7_copyOf_6403c, .initialized RJ7, .code yJ7_copyOf_6403c cJ7_copyOf_6403c 4 (some (.array (.object "java/lang/Object"))), .classLink RJ7 110 "[Ljava/lang/Object;", .classLink RJ7 2 "java/lang/Object", .methodLink RJ7 304 Lib.Math.min.name, .static Lib.Math.min.name, .initialized "java/lang/Math", .code Lib.Math.min.name Lib.Math.min.code 2 (some .int), .methodLink RJ7 150 arraycopyName, .native arraycopyName, .static arraycopyName, .initialized "java/lang/System"])
def wsJx4a65c_grow_92f84_r1 : List Cond := [Cond.fieldLink RJx4a65c 9 "java/util/ArrayList" "elementData" "[Ljava/lang/Object;", Cond.fieldLink RJx4a65c 39 "java/util/ArrayList" "DEFAULTCAPACITY_EMPTY_ELEMENTDATA" "[Ljava/lang/Object;", Cond.methodLink RJx4a65c 79 Lib.Math.max.name, Cond.static Lib.Math.max.name, Cond.initialized "java/lang/Math", Cond.code Lib.Math.max.name Lib.Math.max.code 2 (some .int), Cond.classLink RJx4a65c 7 "java/lang/Object", Cond.methodLink RJx4a65c 73 yJ8_newLength_cabcc, Cond.static yJ8_newLength_cabcc, Cond.initialized RJ8, Cond.code yJ8_newLength_cabcc cJ8_newLength_cabcc 4 (some .int), Cond.methodLink RJ8 194 Lib.Math.max.name, Cond.constant RJ8 200 (2147483639), Cond.methodLink RJ8 201 yJ8_hugeLength_7cf53, Cond.static yJ8_hugeLength_7cf53, Cond.code yJ8_hugeLength_7cf53 cJ8_hugeLength_7cf53 3 (some .int), Cond.methodLink RJx4a65c 66 yJ7_copyOf_1904c, Cond.static yJ7_copyOf_1904c, Cond.initialized RJ7, Cond.code yJ7_copyOf_1904c cJ7_copyOf_1904c 2 (some (.array (.object "java/lang/Object"))), Cond.methodLink RJ7 86 ⟨"java/lang/Object", "getClass", "()Ljava/lang/Class;"⟩, Cond.selects "[Ljava/lang/Object;" ⟨"java/lang/Object", "getClass", "()Ljava/lang/Class;"⟩ ⟨"java/lang/Object", "getClass", "()Ljava/lang/Class;"⟩, Cond.instanceMethod ⟨"java/lang/Object", "getClass", "()Ljava/lang/Class;"⟩, Cond.native ⟨"java/lang/Object", "getClass", "()Ljava/lang/Class;"⟩]
def wsJx4a65c_grow_92f84_r2 : List Cond := [Cond.methodLink RJ7 300 yJ7_copyOf_6403c, Cond.static yJ7_copyOf_6403c, Cond.code yJ7_copyOf_6403c cJ7_copyOf_6403c 4 (some (.array (.object "java/lang/Object"))), Cond.classLink RJ7 110 "[Ljava/lang/Object;", Cond.classLink RJ7 2 "java/lang/Object", Cond.methodLink RJ7 304 Lib.Math.min.name, Cond.static Lib.Math.min.name, Cond.code Lib.Math.min.name Lib.Math.min.code 2 (some .int), Cond.methodLink RJ7 150 arraycopyName, Cond.native arraycopyName, Cond.static arraycopyName, Cond.initialized "java/lang/System"]
def wsJx4a65c_grow_92f84 : List Cond := .code yJx4a65c_grow_92f84 cJx4a65c_grow_92f84 4 (some (.array (.object "java/lang/Object"))) :: ((wsJx4a65c_grow_92f84_r1 ++ wsJx4a65c_grow_92f84_r2) ++ wsJx4a65c0)
def wsJx4a65c_grow_d5877_r1 : List Cond := [Cond.fieldLink RJx4a65c 48 "java/util/ArrayList" "size" "I", Cond.methodLink RJx4a65c 69 yJx4a65c_grow_92f84, Cond.instanceMethod yJx4a65c_grow_92f84, Cond.selects RJx4a65c yJx4a65c_grow_92f84 yJx4a65c_grow_92f84, Cond.initialized RJx4a65c, Cond.code yJx4a65c_grow_92f84 cJx4a65c_grow_92f84 4 (some (.array (.object "java/lang/Object"))), Cond.fieldLink RJx4a65c 9 "java/util/ArrayList" "elementData" "[Ljava/lang/Object;", Cond.fieldLink RJx4a65c 39 "java/util/ArrayList" "DEFAULTCAPACITY_EMPTY_ELEMENTDATA" "[Ljava/lang/Object;", Cond.methodLink RJx4a65c 79 Lib.Math.max.name, Cond.static Lib.Math.max.name, Cond.initialized "java/lang/Math", Cond.code Lib.Math.max.name Lib.Math.max.code 2 (some .int), Cond.classLink RJx4a65c 7 "java/lang/Object", Cond.methodLink RJx4a65c 73 yJ8_newLength_cabcc, Cond.static yJ8_newLength_cabcc, Cond.initialized RJ8, Cond.code yJ8_newLength_cabcc cJ8_newLength_cabcc 4 (some .int), Cond.methodLink RJ8 194 Lib.Math.max.name, Cond.constant RJ8 200 (2147483639), Cond.methodLink RJ8 201 yJ8_hugeLength_7cf53, Cond.static yJ8_hugeLength_7cf53, Cond.code yJ8_hugeLength_7cf53 cJ8_hugeLength_7cf53 3 (some .int), Cond.methodLink RJx4a65c 66 yJ7_copyOf_1904c, Cond.static yJ7_copyOf_1904c]
def wsJx4a65c_grow_d5877_r2 : List Cond := [Cond.initialized RJ7, Cond.code yJ7_copyOf_1904c cJ7_copyOf_1904c 2 (some (.array (.object "java/lang/Object"))), Cond.methodLink RJ7 86 ⟨"java/lang/Object", "getClass", "()Ljava/lang/Class;"⟩, Cond.selects "[Ljava/lang/Object;" ⟨"java/lang/Object", "getClass", "()Ljava/lang/Class;"⟩ ⟨"java/lang/Object", "getClass", "()Ljava/lang/Class;"⟩, Cond.instanceMethod ⟨"java/lang/Object", "getClass", "()Ljava/lang/Class;"⟩, Cond.native ⟨"java/lang/Object", "getClass", "()Ljava/lang/Class;"⟩, Cond.methodLink RJ7 300 yJ7_copyOf_6403c, Cond.static yJ7_copyOf_6403c, Cond.code yJ7_copyOf_6403c cJ7_copyOf_6403c 4 (some (.array (.object "java/lang/Object"))), Cond.classLink RJ7 110 "[Ljava/lang/Object;", Cond.classLink RJ7 2 "java/lang/Object", Cond.methodLink RJ7 304 Lib.Math.min.name, Cond.static Lib.Math.min.name, Cond.code Lib.Math.min.name Lib.Math.min.code 2 (some .int), Cond.methodLink RJ7 150 arraycopyName, Cond.native arraycopyName, Cond.static arraycopyName, Cond.initialized "java/lang/System"]
def wsJx4a65c_grow_d5877 : List Cond := .code yJx4a65c_grow_d5877 cJx4a65c_grow_d5877 1 (some (.array (.object "java/lang/Object"))) :: ((wsJx4a65c_grow_d5877_r1 ++ wsJx4a65c_grow_d5877_r2) ++ wsJx4a65c0)
def wsJx4a65c_add_72be8_r1 : List Cond := [Cond.fieldLink RJx4a65c 48 "java/util/ArrayList" "size" "I", Cond.methodLink RJx4a65c 129 yJx4a65c_grow_d5877, Cond.instanceMethod yJx4a65c_grow_d5877, Cond.selects RJx4a65c yJx4a65c_grow_d5877 yJx4a65c_grow_d5877, Cond.initialized RJx4a65c, Cond.code yJx4a65c_grow_d5877 cJx4a65c_grow_d5877 1 (some (.array (.object "java/lang/Object"))), Cond.methodLink RJx4a65c 69 yJx4a65c_grow_92f84, Cond.instanceMethod yJx4a65c_grow_92f84, Cond.selects RJx4a65c yJx4a65c_grow_92f84 yJx4a65c_grow_92f84, Cond.code yJx4a65c_grow_92f84 cJx4a65c_grow_92f84 4 (some (.array (.object "java/lang/Object"))), Cond.fieldLink RJx4a65c 9 "java/util/ArrayList" "elementData" "[Ljava/lang/Object;", Cond.fieldLink RJx4a65c 39 "java/util/ArrayList" "DEFAULTCAPACITY_EMPTY_ELEMENTDATA" "[Ljava/lang/Object;", Cond.methodLink RJx4a65c 79 Lib.Math.max.name, Cond.static Lib.Math.max.name, Cond.initialized "java/lang/Math", Cond.code Lib.Math.max.name Lib.Math.max.code 2 (some .int), Cond.classLink RJx4a65c 7 "java/lang/Object", Cond.methodLink RJx4a65c 73 yJ8_newLength_cabcc, Cond.static yJ8_newLength_cabcc, Cond.initialized RJ8, Cond.code yJ8_newLength_cabcc cJ8_newLength_cabcc 4 (some .int), Cond.methodLink RJ8 194 Lib.Math.max.name, Cond.constant RJ8 200 (2147483639), Cond.methodLink RJ8 201 yJ8_hugeLength_7cf53]
def wsJx4a65c_add_72be8_r2 : List Cond := [Cond.static yJ8_hugeLength_7cf53, Cond.code yJ8_hugeLength_7cf53 cJ8_hugeLength_7cf53 3 (some .int), Cond.methodLink RJx4a65c 66 yJ7_copyOf_1904c, Cond.static yJ7_copyOf_1904c, Cond.initialized RJ7, Cond.code yJ7_copyOf_1904c cJ7_copyOf_1904c 2 (some (.array (.object "java/lang/Object"))), Cond.methodLink RJ7 86 ⟨"java/lang/Object", "getClass", "()Ljava/lang/Class;"⟩, Cond.selects "[Ljava/lang/Object;" ⟨"java/lang/Object", "getClass", "()Ljava/lang/Class;"⟩ ⟨"java/lang/Object", "getClass", "()Ljava/lang/Class;"⟩, Cond.instanceMethod ⟨"java/lang/Object", "getClass", "()Ljava/lang/Class;"⟩, Cond.native ⟨"java/lang/Object", "getClass", "()Ljava/lang/Class;"⟩, Cond.methodLink RJ7 300 yJ7_copyOf_6403c, Cond.static yJ7_copyOf_6403c, Cond.code yJ7_copyOf_6403c cJ7_copyOf_6403c 4 (some (.array (.object "java/lang/Object"))), Cond.classLink RJ7 110 "[Ljava/lang/Object;", Cond.classLink RJ7 2 "java/lang/Object", Cond.methodLink RJ7 304 Lib.Math.min.name, Cond.static Lib.Math.min.name, Cond.code Lib.Math.min.name Lib.Math.min.code 2 (some .int), Cond.methodLink RJ7 150 arraycopyName, Cond.native arraycopyName, Cond.static arraycopyName, Cond.initialized "java/lang/System"]
def wsJx4a65c_add_72be8 : List Cond := .code yJx4a65c_add_72be8 cJx4a65c_add_72be8 4 none :: ((wsJx4a65c_add_72be8_r1 ++ wsJx4a65c_add_72be8_r2) ++ wsJx4a65c0)
def wsJx4a65c_add_9ea2d_r1 : List Cond := [Cond.fieldLink RJx4a65c 63 "java/util/ArrayList" "modCount" "I", Cond.sameField "java/util/ArrayList" "java/util/AbstractList" "modCount" "I", Cond.fieldLink RJx4a65c 9 "java/util/ArrayList" "elementData" "[Ljava/lang/Object;", Cond.fieldLink RJx4a65c 48 "java/util/ArrayList" "size" "I", Cond.methodLink RJx4a65c 131 yJx4a65c_add_72be8, Cond.instanceMethod yJx4a65c_add_72be8, Cond.selects RJx4a65c yJx4a65c_add_72be8 yJx4a65c_add_72be8, Cond.initialized RJx4a65c, Cond.code yJx4a65c_add_72be8 cJx4a65c_add_72be8 4 none, Cond.methodLink RJx4a65c 129 yJx4a65c_grow_d5877, Cond.instanceMethod yJx4a65c_grow_d5877, Cond.selects RJx4a65c yJx4a65c_grow_d5877 yJx4a65c_grow_d5877, Cond.code yJx4a65c_grow_d5877 cJx4a65c_grow_d5877 1 (some (.array (.object "java/lang/Object"))), Cond.methodLink RJx4a65c 69 yJx4a65c_grow_92f84, Cond.instanceMethod yJx4a65c_grow_92f84, Cond.selects RJx4a65c yJx4a65c_grow_92f84 yJx4a65c_grow_92f84, Cond.code yJx4a65c_grow_92f84 cJx4a65c_grow_92f84 4 (some (.array (.object "java/lang/Object"))), Cond.fieldLink RJx4a65c 39 "java/util/ArrayList" "DEFAULTCAPACITY_EMPTY_ELEMENTDATA" "[Ljava/lang/Object;", Cond.methodLink RJx4a65c 79 Lib.Math.max.name, Cond.static Lib.Math.max.name, Cond.initialized "java/lang/Math", Cond.code Lib.Math.max.name Lib.Math.max.code 2 (some .int), Cond.classLink RJx4a65c 7 "java/lang/Object", Cond.methodLink RJx4a65c 73 yJ8_newLength_cabcc]
def wsJx4a65c_add_9ea2d_r2 : List Cond := [Cond.static yJ8_newLength_cabcc, Cond.initialized RJ8, Cond.code yJ8_newLength_cabcc cJ8_newLength_cabcc 4 (some .int), Cond.methodLink RJ8 194 Lib.Math.max.name, Cond.constant RJ8 200 (2147483639), Cond.methodLink RJ8 201 yJ8_hugeLength_7cf53, Cond.static yJ8_hugeLength_7cf53, Cond.code yJ8_hugeLength_7cf53 cJ8_hugeLength_7cf53 3 (some .int), Cond.methodLink RJx4a65c 66 yJ7_copyOf_1904c, Cond.static yJ7_copyOf_1904c, Cond.initialized RJ7, Cond.code yJ7_copyOf_1904c cJ7_copyOf_1904c 2 (some (.array (.object "java/lang/Object"))), Cond.methodLink RJ7 86 ⟨"java/lang/Object", "getClass", "()Ljava/lang/Class;"⟩, Cond.selects "[Ljava/lang/Object;" ⟨"java/lang/Object", "getClass", "()Ljava/lang/Class;"⟩ ⟨"java/lang/Object", "getClass", "()Ljava/lang/Class;"⟩, Cond.instanceMethod ⟨"java/lang/Object", "getClass", "()Ljava/lang/Class;"⟩, Cond.native ⟨"java/lang/Object", "getClass", "()Ljava/lang/Class;"⟩, Cond.methodLink RJ7 300 yJ7_copyOf_6403c, Cond.static yJ7_copyOf_6403c, Cond.code yJ7_copyOf_6403c cJ7_copyOf_6403c 4 (some (.array (.object "java/lang/Object"))), Cond.classLink RJ7 110 "[Ljava/lang/Object;", Cond.classLink RJ7 2 "java/lang/Object", Cond.methodLink RJ7 304 Lib.Math.min.name, Cond.static Lib.Math.min.name, Cond.code Lib.Math.min.name Lib.Math.min.code 2 (some .int)]
def wsJx4a65c_add_9ea2d_r3 : List Cond := [Cond.methodLink RJ7 150 arraycopyName, Cond.native arraycopyName, Cond.static arraycopyName, Cond.initialized "java/lang/System"]
def wsJx4a65c_add_9ea2d : List Cond := .code yJx4a65c_add_9ea2d cJx4a65c_add_9ea2d 2 (some .boolean) :: ((wsJx4a65c_add_9ea2d_r1 ++ (wsJx4a65c_add_9ea2d_r2 ++ wsJx4a65c_add_9ea2d_r3)) ++ wsJx4a65c0)
def wsX4_group_r1 : List Cond := [Cond.fieldLink RX4 12 "LinkShaper" "groups" "Ljava/util/ArrayList;", Cond.classLink RX4 56 RX1, Cond.instantiable RX1 6, Cond.initialized RX1, Cond.classLink RX4 58 RX0, Cond.instantiable RX0 3, Cond.initialized RX0, Cond.methodLink RX4 44 yJx4a65c_size_8abf5, Cond.instanceMethod yJx4a65c_size_8abf5, Cond.selects RJx4a65c yJx4a65c_size_8abf5 yJx4a65c_size_8abf5, Cond.initialized RJx4a65c, Cond.code yJx4a65c_size_8abf5 cJx4a65c_size_8abf5 1 (some .int), Cond.fieldLink RJx4a65c 48 "java/util/ArrayList" "size" "I", Cond.methodLink RX4 48 yX4_isWeight, Cond.static yX4_isWeight, Cond.initialized RX4, Cond.code yX4_isWeight cX4_isWeight 1 (some .boolean), Cond.methodLink RX4 75 yX4_isWithin, Cond.static yX4_isWithin, Cond.code yX4_isWithin cX4_isWithin 3 (some .boolean), Cond.methodLink RX4 52 yX4_isCeiling, Cond.static yX4_isCeiling, Cond.code yX4_isCeiling cX4_isCeiling 2 (some .boolean), Cond.methodLink RX4 60 yX0_init]
def wsX4_group_r2 : List Cond := [Cond.instanceMethod yX0_init, Cond.code yX0_init cX0_init 3 none, Cond.methodLink RX0 3 objectInit, Cond.instanceMethod objectInit, Cond.code objectInit ⟨#[0xb1]⟩ 1 none, Cond.fieldLink RX0 9 "LinkShaper$Bucket" "rate" "I", Cond.constantLong RX0 15 (1000), Cond.fieldLink RX0 17 "LinkShaper$Bucket" "most" "J", Cond.fieldLink RX0 21 "LinkShaper$Bucket" "level" "J", Cond.methodLink RX4 63 yX1_init, Cond.instanceMethod yX1_init, Cond.code yX1_init cX1_init 3 none, Cond.methodLink RX1 3 objectInit, Cond.fieldLink RX1 9 "LinkShaper$Group" "weight" "I", Cond.fieldLink RX1 15 "LinkShaper$Group" "ceiling" "LLinkShaper$Bucket;", Cond.methodLink RX4 66 yJx4a65c_add_9ea2d, Cond.instanceMethod yJx4a65c_add_9ea2d, Cond.selects RJx4a65c yJx4a65c_add_9ea2d yJx4a65c_add_9ea2d, Cond.code yJx4a65c_add_9ea2d cJx4a65c_add_9ea2d 2 (some .boolean), Cond.fieldLink RJx4a65c 63 "java/util/ArrayList" "modCount" "I", Cond.sameField "java/util/ArrayList" "java/util/AbstractList" "modCount" "I", Cond.fieldLink RJx4a65c 9 "java/util/ArrayList" "elementData" "[Ljava/lang/Object;", Cond.methodLink RJx4a65c 131 yJx4a65c_add_72be8, Cond.instanceMethod yJx4a65c_add_72be8]
def wsX4_group_r3 : List Cond := [Cond.selects RJx4a65c yJx4a65c_add_72be8 yJx4a65c_add_72be8, Cond.code yJx4a65c_add_72be8 cJx4a65c_add_72be8 4 none, Cond.methodLink RJx4a65c 129 yJx4a65c_grow_d5877, Cond.instanceMethod yJx4a65c_grow_d5877, Cond.selects RJx4a65c yJx4a65c_grow_d5877 yJx4a65c_grow_d5877, Cond.code yJx4a65c_grow_d5877 cJx4a65c_grow_d5877 1 (some (.array (.object "java/lang/Object"))), Cond.methodLink RJx4a65c 69 yJx4a65c_grow_92f84, Cond.instanceMethod yJx4a65c_grow_92f84, Cond.selects RJx4a65c yJx4a65c_grow_92f84 yJx4a65c_grow_92f84, Cond.code yJx4a65c_grow_92f84 cJx4a65c_grow_92f84 4 (some (.array (.object "java/lang/Object"))), Cond.fieldLink RJx4a65c 39 "java/util/ArrayList" "DEFAULTCAPACITY_EMPTY_ELEMENTDATA" "[Ljava/lang/Object;", Cond.methodLink RJx4a65c 79 Lib.Math.max.name, Cond.static Lib.Math.max.name, Cond.initialized "java/lang/Math", Cond.code Lib.Math.max.name Lib.Math.max.code 2 (some .int), Cond.classLink RJx4a65c 7 "java/lang/Object", Cond.methodLink RJx4a65c 73 yJ8_newLength_cabcc, Cond.static yJ8_newLength_cabcc, Cond.initialized RJ8, Cond.code yJ8_newLength_cabcc cJ8_newLength_cabcc 4 (some .int), Cond.methodLink RJ8 194 Lib.Math.max.name, Cond.constant RJ8 200 (2147483639), Cond.methodLink RJ8 201 yJ8_hugeLength_7cf53, Cond.static yJ8_hugeLength_7cf53]
def wsX4_group_r4 : List Cond := [Cond.code yJ8_hugeLength_7cf53 cJ8_hugeLength_7cf53 3 (some .int), Cond.methodLink RJx4a65c 66 yJ7_copyOf_1904c, Cond.static yJ7_copyOf_1904c, Cond.initialized RJ7, Cond.code yJ7_copyOf_1904c cJ7_copyOf_1904c 2 (some (.array (.object "java/lang/Object"))), Cond.methodLink RJ7 86 ⟨"java/lang/Object", "getClass", "()Ljava/lang/Class;"⟩, Cond.selects "[Ljava/lang/Object;" ⟨"java/lang/Object", "getClass", "()Ljava/lang/Class;"⟩ ⟨"java/lang/Object", "getClass", "()Ljava/lang/Class;"⟩, Cond.instanceMethod ⟨"java/lang/Object", "getClass", "()Ljava/lang/Class;"⟩, Cond.native ⟨"java/lang/Object", "getClass", "()Ljava/lang/Class;"⟩, Cond.methodLink RJ7 300 yJ7_copyOf_6403c, Cond.static yJ7_copyOf_6403c, Cond.code yJ7_copyOf_6403c cJ7_copyOf_6403c 4 (some (.array (.object "java/lang/Object"))), Cond.classLink RJ7 110 "[Ljava/lang/Object;", Cond.classLink RJ7 2 "java/lang/Object", Cond.methodLink RJ7 304 Lib.Math.min.name, Cond.static Lib.Math.min.name, Cond.code Lib.Math.min.name Lib.Math.min.code 2 (some .int), Cond.methodLink RJ7 150 arraycopyName, Cond.native arraycopyName, Cond.static arraycopyName, Cond.initialized "java/lang/System"]
def wsX4_group : List Cond := .code yX4_group cX4_group 4 (some .int) :: ((wsX4_group_r1 ++ (wsX4_group_r2 ++ (wsX4_group_r3 ++ wsX4_group_r4))) ++ wsX40 ++ wsX10 ++ wsX00 ++ wsJx4a65c0)
def wsJ3_checkIndex_8e157 : List Cond := .code yJ3_checkIndex_8e157 cJ3_checkIndex_8e157 3 (some .int) :: ([])
def wsJ15_checkIndex_7cf53 : List Cond := .code yJ15_checkIndex_7cf53 cJ15_checkIndex_7cf53 2 (some .int) :: ([.methodLink RJ15 105 yJ3_checkIndex_8e157, .static yJ3_checkIndex_8e157, .initialized RJ3, .code yJ3_checkIndex_8e157 cJ3_checkIndex_8e157 3 (some .int)])
def wsJx4a65c_elementData_915e3 : List Cond := .code yJx4a65c_elementData_915e3 cJx4a65c_elementData_915e3 2 (some (.object "java/lang/Object")) :: ([.fieldLink RJx4a65c 9 "java/util/ArrayList" "elementData" "[Ljava/lang/Object;"] ++ wsJx4a65c0)
def wsJx4a65c_get_915e3 : List Cond := .code yJx4a65c_get_915e3 cJx4a65c_get_915e3 2 (some (.object "java/lang/Object")) :: ([.fieldLink RJx4a65c 48 "java/util/ArrayList" "size" "I", .methodLink RJx4a65c 118 yJ15_checkIndex_7cf53, .static yJ15_checkIndex_7cf53, .initialized RJ15, .code yJ15_checkIndex_7cf53 cJ15_checkIndex_7cf53 2 (some .int), .methodLink RJ15 105 yJ3_checkIndex_8e157, .static yJ3_checkIndex_8e157, .initialized RJ3, .code yJ3_checkIndex_8e157 cJ3_checkIndex_8e157 3 (some .int), .methodLink RJx4a65c 123 yJx4a65c_elementData_915e3, .instanceMethod yJx4a65c_elementData_915e3, .selects RJx4a65c yJx4a65c_elementData_915e3 yJx4a65c_elementData_915e3, .initialized RJx4a65c, .code yJx4a65c_elementData_915e3 cJx4a65c_elementData_915e3 2 (some (.object "java/lang/Object")), .fieldLink RJx4a65c 9 "java/util/ArrayList" "elementData" "[Ljava/lang/Object;"] ++ wsJx4a65c0)
def wsX4_groupAt_r1 : List Cond := [Cond.fieldLink RX4 12 "LinkShaper" "groups" "Ljava/util/ArrayList;", Cond.classLink RX4 56 "LinkShaper$Group", Cond.methodLink RX4 44 yJx4a65c_size_8abf5, Cond.instanceMethod yJx4a65c_size_8abf5, Cond.selects RJx4a65c yJx4a65c_size_8abf5 yJx4a65c_size_8abf5, Cond.initialized RJx4a65c, Cond.code yJx4a65c_size_8abf5 cJx4a65c_size_8abf5 1 (some .int), Cond.fieldLink RJx4a65c 48 "java/util/ArrayList" "size" "I", Cond.methodLink RX4 156 yJx4a65c_get_915e3, Cond.instanceMethod yJx4a65c_get_915e3, Cond.selects RJx4a65c yJx4a65c_get_915e3 yJx4a65c_get_915e3, Cond.code yJx4a65c_get_915e3 cJx4a65c_get_915e3 2 (some (.object "java/lang/Object")), Cond.methodLink RJx4a65c 118 yJ15_checkIndex_7cf53, Cond.static yJ15_checkIndex_7cf53, Cond.initialized RJ15, Cond.code yJ15_checkIndex_7cf53 cJ15_checkIndex_7cf53 2 (some .int), Cond.methodLink RJ15 105 yJ3_checkIndex_8e157, Cond.static yJ3_checkIndex_8e157, Cond.initialized RJ3, Cond.code yJ3_checkIndex_8e157 cJ3_checkIndex_8e157 3 (some .int), Cond.methodLink RJx4a65c 123 yJx4a65c_elementData_915e3, Cond.instanceMethod yJx4a65c_elementData_915e3, Cond.selects RJx4a65c yJx4a65c_elementData_915e3 yJx4a65c_elementData_915e3, Cond.code yJx4a65c_elementData_915e3 cJx4a65c_elementData_915e3 2 (some (.object "java/lang/Object"))]
def wsX4_groupAt_r2 : List Cond := [Cond.fieldLink RJx4a65c 9 "java/util/ArrayList" "elementData" "[Ljava/lang/Object;"]
def wsX4_groupAt : List Cond := .code yX4_groupAt cX4_groupAt 2 (some (.object "LinkShaper$Group")) :: ((wsX4_groupAt_r1 ++ wsX4_groupAt_r2) ++ wsX40 ++ wsJx4a65c0)
def wsX4_isGuarantee : List Cond := .code yX4_isGuarantee cX4_isGuarantee 1 (some .boolean) :: ([.methodLink RX4 75 yX4_isWithin, .static yX4_isWithin, .initialized RX4, .code yX4_isWithin cX4_isWithin 3 (some .boolean)])
def wsX4_hasRoomFor : List Cond := .code yX4_hasRoomFor cX4_hasRoomFor 3 (some .boolean) :: ([.fieldLink RX4 37 "LinkShaper" "guarantees" "I", .fieldLink RX4 171 "LinkShaper$Group" "ceiling" "LLinkShaper$Bucket;", .fieldLink RX4 180 "LinkShaper$Bucket" "rate" "I", .fieldLink RX4 91 "LinkShaper$Group" "guarantees" "I"] ++ wsX40 ++ wsX10 ++ wsX00)
def wsX4_leaf_r1 : List Cond := [Cond.fieldLink RX4 18 "LinkShaper" "leaves" "Ljava/util/ArrayList;", Cond.constant RX4 74 (60000), Cond.classLink RX4 86 RX2, Cond.instantiable RX2 18, Cond.initialized RX2, Cond.classLink RX4 58 RX0, Cond.instantiable RX0 3, Cond.initialized RX0, Cond.fieldLink RX4 91 "LinkShaper$Group" "guarantees" "I", Cond.fieldLink RX4 37 "LinkShaper" "guarantees" "I", Cond.methodLink RX4 70 yX4_groupAt, Cond.instanceMethod yX4_groupAt, Cond.selects RX4 yX4_groupAt yX4_groupAt, Cond.initialized RX4, Cond.code yX4_groupAt cX4_groupAt 2 (some (.object "LinkShaper$Group")), Cond.fieldLink RX4 12 "LinkShaper" "groups" "Ljava/util/ArrayList;", Cond.classLink RX4 56 "LinkShaper$Group", Cond.methodLink RX4 44 yJx4a65c_size_8abf5, Cond.instanceMethod yJx4a65c_size_8abf5, Cond.selects RJx4a65c yJx4a65c_size_8abf5 yJx4a65c_size_8abf5, Cond.initialized RJx4a65c, Cond.code yJx4a65c_size_8abf5 cJx4a65c_size_8abf5 1 (some .int), Cond.fieldLink RJx4a65c 48 "java/util/ArrayList" "size" "I", Cond.methodLink RX4 156 yJx4a65c_get_915e3]
def wsX4_leaf_r2 : List Cond := [Cond.instanceMethod yJx4a65c_get_915e3, Cond.selects RJx4a65c yJx4a65c_get_915e3 yJx4a65c_get_915e3, Cond.code yJx4a65c_get_915e3 cJx4a65c_get_915e3 2 (some (.object "java/lang/Object")), Cond.methodLink RJx4a65c 118 yJ15_checkIndex_7cf53, Cond.static yJ15_checkIndex_7cf53, Cond.initialized RJ15, Cond.code yJ15_checkIndex_7cf53 cJ15_checkIndex_7cf53 2 (some .int), Cond.methodLink RJ15 105 yJ3_checkIndex_8e157, Cond.static yJ3_checkIndex_8e157, Cond.initialized RJ3, Cond.code yJ3_checkIndex_8e157 cJ3_checkIndex_8e157 3 (some .int), Cond.methodLink RJx4a65c 123 yJx4a65c_elementData_915e3, Cond.instanceMethod yJx4a65c_elementData_915e3, Cond.selects RJx4a65c yJx4a65c_elementData_915e3 yJx4a65c_elementData_915e3, Cond.code yJx4a65c_elementData_915e3 cJx4a65c_elementData_915e3 2 (some (.object "java/lang/Object")), Cond.fieldLink RJx4a65c 9 "java/util/ArrayList" "elementData" "[Ljava/lang/Object;", Cond.methodLink RX4 48 yX4_isWeight, Cond.static yX4_isWeight, Cond.code yX4_isWeight cX4_isWeight 1 (some .boolean), Cond.methodLink RX4 75 yX4_isWithin, Cond.static yX4_isWithin, Cond.code yX4_isWithin cX4_isWithin 3 (some .boolean), Cond.methodLink RX4 52 yX4_isCeiling, Cond.static yX4_isCeiling]
def wsX4_leaf_r3 : List Cond := [Cond.code yX4_isCeiling cX4_isCeiling 2 (some .boolean), Cond.methodLink RX4 79 yX4_isGuarantee, Cond.static yX4_isGuarantee, Cond.code yX4_isGuarantee cX4_isGuarantee 1 (some .boolean), Cond.methodLink RX4 82 yX4_hasRoomFor, Cond.instanceMethod yX4_hasRoomFor, Cond.selects RX4 yX4_hasRoomFor yX4_hasRoomFor, Cond.code yX4_hasRoomFor cX4_hasRoomFor 3 (some .boolean), Cond.fieldLink RX4 171 "LinkShaper$Group" "ceiling" "LLinkShaper$Bucket;", Cond.fieldLink RX4 180 "LinkShaper$Bucket" "rate" "I", Cond.methodLink RX4 60 yX0_init, Cond.instanceMethod yX0_init, Cond.code yX0_init cX0_init 3 none, Cond.methodLink RX0 3 objectInit, Cond.instanceMethod objectInit, Cond.code objectInit ⟨#[0xb1]⟩ 1 none, Cond.fieldLink RX0 9 "LinkShaper$Bucket" "rate" "I", Cond.constantLong RX0 15 (1000), Cond.fieldLink RX0 17 "LinkShaper$Bucket" "most" "J", Cond.fieldLink RX0 21 "LinkShaper$Bucket" "level" "J", Cond.methodLink RX4 88 yX2_init, Cond.instanceMethod yX2_init, Cond.code yX2_init cX2_init 6 none, Cond.methodLink RX2 3 objectInit]
def wsX4_leaf_r4 : List Cond := [Cond.fieldLink RX2 9 "LinkShaper$Leaf" "group" "LLinkShaper$Group;", Cond.fieldLink RX2 15 "LinkShaper$Leaf" "weight" "I", Cond.fieldLink RX2 19 "LinkShaper$Leaf" "guarantee" "I", Cond.fieldLink RX2 22 "LinkShaper$Leaf" "ceiling" "LLinkShaper$Bucket;", Cond.fieldLink RX2 26 "LinkShaper$Leaf" "limit" "I", Cond.methodLink RX4 66 yJx4a65c_add_9ea2d, Cond.instanceMethod yJx4a65c_add_9ea2d, Cond.selects RJx4a65c yJx4a65c_add_9ea2d yJx4a65c_add_9ea2d, Cond.code yJx4a65c_add_9ea2d cJx4a65c_add_9ea2d 2 (some .boolean), Cond.fieldLink RJx4a65c 63 "java/util/ArrayList" "modCount" "I", Cond.sameField "java/util/ArrayList" "java/util/AbstractList" "modCount" "I", Cond.methodLink RJx4a65c 131 yJx4a65c_add_72be8, Cond.instanceMethod yJx4a65c_add_72be8, Cond.selects RJx4a65c yJx4a65c_add_72be8 yJx4a65c_add_72be8, Cond.code yJx4a65c_add_72be8 cJx4a65c_add_72be8 4 none, Cond.methodLink RJx4a65c 129 yJx4a65c_grow_d5877, Cond.instanceMethod yJx4a65c_grow_d5877, Cond.selects RJx4a65c yJx4a65c_grow_d5877 yJx4a65c_grow_d5877, Cond.code yJx4a65c_grow_d5877 cJx4a65c_grow_d5877 1 (some (.array (.object "java/lang/Object"))), Cond.methodLink RJx4a65c 69 yJx4a65c_grow_92f84, Cond.instanceMethod yJx4a65c_grow_92f84, Cond.selects RJx4a65c yJx4a65c_grow_92f84 yJx4a65c_grow_92f84, Cond.code yJx4a65c_grow_92f84 cJx4a65c_grow_92f84 4 (some (.array (.object "java/lang/Object"))), Cond.fieldLink RJx4a65c 39 "java/util/ArrayList" "DEFAULTCAPACITY_EMPTY_ELEMENTDATA" "[Ljava/lang/Object;"]
def wsX4_leaf_r5 : List Cond := [Cond.methodLink RJx4a65c 79 Lib.Math.max.name, Cond.static Lib.Math.max.name, Cond.initialized "java/lang/Math", Cond.code Lib.Math.max.name Lib.Math.max.code 2 (some .int), Cond.classLink RJx4a65c 7 "java/lang/Object", Cond.methodLink RJx4a65c 73 yJ8_newLength_cabcc, Cond.static yJ8_newLength_cabcc, Cond.initialized RJ8, Cond.code yJ8_newLength_cabcc cJ8_newLength_cabcc 4 (some .int), Cond.methodLink RJ8 194 Lib.Math.max.name, Cond.constant RJ8 200 (2147483639), Cond.methodLink RJ8 201 yJ8_hugeLength_7cf53, Cond.static yJ8_hugeLength_7cf53, Cond.code yJ8_hugeLength_7cf53 cJ8_hugeLength_7cf53 3 (some .int), Cond.methodLink RJx4a65c 66 yJ7_copyOf_1904c, Cond.static yJ7_copyOf_1904c, Cond.initialized RJ7, Cond.code yJ7_copyOf_1904c cJ7_copyOf_1904c 2 (some (.array (.object "java/lang/Object"))), Cond.methodLink RJ7 86 ⟨"java/lang/Object", "getClass", "()Ljava/lang/Class;"⟩, Cond.selects "[Ljava/lang/Object;" ⟨"java/lang/Object", "getClass", "()Ljava/lang/Class;"⟩ ⟨"java/lang/Object", "getClass", "()Ljava/lang/Class;"⟩, Cond.instanceMethod ⟨"java/lang/Object", "getClass", "()Ljava/lang/Class;"⟩, Cond.native ⟨"java/lang/Object", "getClass", "()Ljava/lang/Class;"⟩, Cond.methodLink RJ7 300 yJ7_copyOf_6403c, Cond.static yJ7_copyOf_6403c]
def wsX4_leaf_r6 : List Cond := [Cond.code yJ7_copyOf_6403c cJ7_copyOf_6403c 4 (some (.array (.object "java/lang/Object"))), Cond.classLink RJ7 110 "[Ljava/lang/Object;", Cond.classLink RJ7 2 "java/lang/Object", Cond.methodLink RJ7 304 Lib.Math.min.name, Cond.static Lib.Math.min.name, Cond.code Lib.Math.min.name Lib.Math.min.code 2 (some .int), Cond.methodLink RJ7 150 arraycopyName, Cond.native arraycopyName, Cond.static arraycopyName, Cond.initialized "java/lang/System"]
def wsX4_leaf : List Cond := .code yX4_leaf cX4_leaf 8 (some .int) :: ((wsX4_leaf_r1 ++ (wsX4_leaf_r2 ++ (wsX4_leaf_r3 ++ (wsX4_leaf_r4 ++ (wsX4_leaf_r5 ++ wsX4_leaf_r6))))) ++ wsX40 ++ wsX20 ++ wsX00 ++ wsX10 ++ wsJx4a65c0)
def wsX4_leafAt_r1 : List Cond := [Cond.fieldLink RX4 18 "LinkShaper" "leaves" "Ljava/util/ArrayList;", Cond.classLink RX4 86 "LinkShaper$Leaf", Cond.methodLink RX4 44 yJx4a65c_size_8abf5, Cond.instanceMethod yJx4a65c_size_8abf5, Cond.selects RJx4a65c yJx4a65c_size_8abf5 yJx4a65c_size_8abf5, Cond.initialized RJx4a65c, Cond.code yJx4a65c_size_8abf5 cJx4a65c_size_8abf5 1 (some .int), Cond.fieldLink RJx4a65c 48 "java/util/ArrayList" "size" "I", Cond.methodLink RX4 156 yJx4a65c_get_915e3, Cond.instanceMethod yJx4a65c_get_915e3, Cond.selects RJx4a65c yJx4a65c_get_915e3 yJx4a65c_get_915e3, Cond.code yJx4a65c_get_915e3 cJx4a65c_get_915e3 2 (some (.object "java/lang/Object")), Cond.methodLink RJx4a65c 118 yJ15_checkIndex_7cf53, Cond.static yJ15_checkIndex_7cf53, Cond.initialized RJ15, Cond.code yJ15_checkIndex_7cf53 cJ15_checkIndex_7cf53 2 (some .int), Cond.methodLink RJ15 105 yJ3_checkIndex_8e157, Cond.static yJ3_checkIndex_8e157, Cond.initialized RJ3, Cond.code yJ3_checkIndex_8e157 cJ3_checkIndex_8e157 3 (some .int), Cond.methodLink RJx4a65c 123 yJx4a65c_elementData_915e3, Cond.instanceMethod yJx4a65c_elementData_915e3, Cond.selects RJx4a65c yJx4a65c_elementData_915e3 yJx4a65c_elementData_915e3, Cond.code yJx4a65c_elementData_915e3 cJx4a65c_elementData_915e3 2 (some (.object "java/lang/Object"))]
def wsX4_leafAt_r2 : List Cond := [Cond.fieldLink RJx4a65c 9 "java/util/ArrayList" "elementData" "[Ljava/lang/Object;"]
def wsX4_leafAt : List Cond := .code yX4_leafAt cX4_leafAt 2 (some (.object "LinkShaper$Leaf")) :: ((wsX4_leafAt_r1 ++ wsX4_leafAt_r2) ++ wsX40 ++ wsJx4a65c0)
def wsX4_police_r1 : List Cond := [Cond.classLink RX4 58 RX0, Cond.instantiable RX0 3, Cond.initialized RX0, Cond.fieldLink RX4 96 "LinkShaper$Leaf" "policer" "LLinkShaper$Bucket;", Cond.fieldLink RX4 100 "LinkShaper$Leaf" "marks" "Z", Cond.methodLink RX4 92 yX4_leafAt, Cond.instanceMethod yX4_leafAt, Cond.selects RX4 yX4_leafAt yX4_leafAt, Cond.initialized RX4, Cond.code yX4_leafAt cX4_leafAt 2 (some (.object "LinkShaper$Leaf")), Cond.fieldLink RX4 18 "LinkShaper" "leaves" "Ljava/util/ArrayList;", Cond.classLink RX4 86 "LinkShaper$Leaf", Cond.methodLink RX4 44 yJx4a65c_size_8abf5, Cond.instanceMethod yJx4a65c_size_8abf5, Cond.selects RJx4a65c yJx4a65c_size_8abf5 yJx4a65c_size_8abf5, Cond.initialized RJx4a65c, Cond.code yJx4a65c_size_8abf5 cJx4a65c_size_8abf5 1 (some .int), Cond.fieldLink RJx4a65c 48 "java/util/ArrayList" "size" "I", Cond.methodLink RX4 156 yJx4a65c_get_915e3, Cond.instanceMethod yJx4a65c_get_915e3, Cond.selects RJx4a65c yJx4a65c_get_915e3 yJx4a65c_get_915e3, Cond.code yJx4a65c_get_915e3 cJx4a65c_get_915e3 2 (some (.object "java/lang/Object")), Cond.methodLink RJx4a65c 118 yJ15_checkIndex_7cf53, Cond.static yJ15_checkIndex_7cf53]
def wsX4_police_r2 : List Cond := [Cond.initialized RJ15, Cond.code yJ15_checkIndex_7cf53 cJ15_checkIndex_7cf53 2 (some .int), Cond.methodLink RJ15 105 yJ3_checkIndex_8e157, Cond.static yJ3_checkIndex_8e157, Cond.initialized RJ3, Cond.code yJ3_checkIndex_8e157 cJ3_checkIndex_8e157 3 (some .int), Cond.methodLink RJx4a65c 123 yJx4a65c_elementData_915e3, Cond.instanceMethod yJx4a65c_elementData_915e3, Cond.selects RJx4a65c yJx4a65c_elementData_915e3 yJx4a65c_elementData_915e3, Cond.code yJx4a65c_elementData_915e3 cJx4a65c_elementData_915e3 2 (some (.object "java/lang/Object")), Cond.fieldLink RJx4a65c 9 "java/util/ArrayList" "elementData" "[Ljava/lang/Object;", Cond.methodLink RX4 75 yX4_isWithin, Cond.static yX4_isWithin, Cond.code yX4_isWithin cX4_isWithin 3 (some .boolean), Cond.methodLink RX4 60 yX0_init, Cond.instanceMethod yX0_init, Cond.code yX0_init cX0_init 3 none, Cond.methodLink RX0 3 objectInit, Cond.instanceMethod objectInit, Cond.code objectInit ⟨#[0xb1]⟩ 1 none, Cond.fieldLink RX0 9 "LinkShaper$Bucket" "rate" "I", Cond.constantLong RX0 15 (1000), Cond.fieldLink RX0 17 "LinkShaper$Bucket" "most" "J", Cond.fieldLink RX0 21 "LinkShaper$Bucket" "level" "J"]
def wsX4_police : List Cond := .code yX4_police cX4_police 6 (some .boolean) :: ((wsX4_police_r1 ++ wsX4_police_r2) ++ wsX00 ++ wsX20 ++ wsX40 ++ wsJx4a65c0)
def wsX4_arrive_r1 : List Cond := [Cond.fieldLink RX4 21 "LinkShaper" "packets" "Ljava/util/ArrayList;", Cond.fieldLink RX4 100 "LinkShaper$Leaf" "marks" "Z", Cond.fieldLink RX4 107 "LinkShaper$Leaf" "refusedByPolicer" "I", Cond.fieldLink RX4 110 "LinkShaper$Leaf" "limit" "I", Cond.fieldLink RX4 113 "LinkShaper$Leaf" "bytes" "I", Cond.fieldLink RX4 116 "LinkShaper$Leaf" "refusedByLimit" "I", Cond.classLink RX4 119 RX3, Cond.instantiable RX3 9, Cond.initialized RX3, Cond.fieldLink RX4 27 "LinkShaper" "tick" "I", Cond.fieldLink RX4 40 "LinkShaper" "mark" "J", Cond.fieldLink RX4 132 "LinkShaper$Packet" "number" "I", Cond.methodLink RX4 92 yX4_leafAt, Cond.instanceMethod yX4_leafAt, Cond.selects RX4 yX4_leafAt yX4_leafAt, Cond.initialized RX4, Cond.code yX4_leafAt cX4_leafAt 2 (some (.object "LinkShaper$Leaf")), Cond.fieldLink RX4 18 "LinkShaper" "leaves" "Ljava/util/ArrayList;", Cond.classLink RX4 86 "LinkShaper$Leaf", Cond.methodLink RX4 44 yJx4a65c_size_8abf5, Cond.instanceMethod yJx4a65c_size_8abf5, Cond.selects RJx4a65c yJx4a65c_size_8abf5 yJx4a65c_size_8abf5, Cond.initialized RJx4a65c, Cond.code yJx4a65c_size_8abf5 cJx4a65c_size_8abf5 1 (some .int)]
def wsX4_arrive_r2 : List Cond := [Cond.fieldLink RJx4a65c 48 "java/util/ArrayList" "size" "I", Cond.methodLink RX4 156 yJx4a65c_get_915e3, Cond.instanceMethod yJx4a65c_get_915e3, Cond.selects RJx4a65c yJx4a65c_get_915e3 yJx4a65c_get_915e3, Cond.code yJx4a65c_get_915e3 cJx4a65c_get_915e3 2 (some (.object "java/lang/Object")), Cond.methodLink RJx4a65c 118 yJ15_checkIndex_7cf53, Cond.static yJ15_checkIndex_7cf53, Cond.initialized RJ15, Cond.code yJ15_checkIndex_7cf53 cJ15_checkIndex_7cf53 2 (some .int), Cond.methodLink RJ15 105 yJ3_checkIndex_8e157, Cond.static yJ3_checkIndex_8e157, Cond.initialized RJ3, Cond.code yJ3_checkIndex_8e157 cJ3_checkIndex_8e157 3 (some .int), Cond.methodLink RJx4a65c 123 yJx4a65c_elementData_915e3, Cond.instanceMethod yJx4a65c_elementData_915e3, Cond.selects RJx4a65c yJx4a65c_elementData_915e3 yJx4a65c_elementData_915e3, Cond.code yJx4a65c_elementData_915e3 cJx4a65c_elementData_915e3 2 (some (.object "java/lang/Object")), Cond.fieldLink RJx4a65c 9 "java/util/ArrayList" "elementData" "[Ljava/lang/Object;", Cond.methodLink RX4 75 yX4_isWithin, Cond.static yX4_isWithin, Cond.code yX4_isWithin cX4_isWithin 3 (some .boolean), Cond.methodLink RX4 104 yX2_paysPolicer, Cond.instanceMethod yX2_paysPolicer, Cond.selects RX2 yX2_paysPolicer yX2_paysPolicer]
def wsX4_arrive_r3 : List Cond := [Cond.initialized RX2, Cond.code yX2_paysPolicer cX2_paysPolicer 2 (some .boolean), Cond.fieldLink RX2 29 "LinkShaper$Leaf" "policer" "LLinkShaper$Bucket;", Cond.methodLink RX2 32 yX0_covers, Cond.instanceMethod yX0_covers, Cond.selects RX0 yX0_covers yX0_covers, Cond.initialized RX0, Cond.code yX0_covers cX0_covers 2 (some .boolean), Cond.fieldLink RX0 21 "LinkShaper$Bucket" "level" "J", Cond.constantLong RX0 15 (1000), Cond.methodLink RX2 38 yX0_take, Cond.instanceMethod yX0_take, Cond.selects RX0 yX0_take yX0_take, Cond.code yX0_take cX0_take 2 none, Cond.methodLink RX4 121 yX3_init, Cond.instanceMethod yX3_init, Cond.code yX3_init cX3_init 6 none, Cond.methodLink RX3 3 objectInit, Cond.instanceMethod objectInit, Cond.code objectInit ⟨#[0xb1]⟩ 1 none, Cond.fieldLink RX3 9 "LinkShaper$Packet" "number" "I", Cond.fieldLink RX3 15 "LinkShaper$Packet" "leaf" "I", Cond.fieldLink RX3 18 "LinkShaper$Packet" "size" "I", Cond.fieldLink RX3 21 "LinkShaper$Packet" "came" "I"]
def wsX4_arrive_r4 : List Cond := [Cond.fieldLink RX3 24 "LinkShaper$Packet" "marked" "Z", Cond.fieldLink RX3 28 "LinkShaper$Packet" "began" "I", Cond.fieldLink RX3 31 "LinkShaper$Packet" "way" "I", Cond.fieldLink RX3 34 "LinkShaper$Packet" "deadline" "I", Cond.methodLink RX4 124 yX2_catchUp, Cond.instanceMethod yX2_catchUp, Cond.selects RX2 yX2_catchUp yX2_catchUp, Cond.code yX2_catchUp cX2_catchUp 3 none, Cond.fieldLink RX2 42 "LinkShaper$Leaf" "first" "LLinkShaper$Packet;", Cond.fieldLink RX2 46 "LinkShaper$Leaf" "sum" "J", Cond.fieldLink RX2 9 "LinkShaper$Leaf" "group" "LLinkShaper$Group;", Cond.fieldLink RX2 50 "LinkShaper$Group" "mark" "J", Cond.methodLink RX2 55 Lib.MathLoose.max_long.x, Cond.static Lib.MathLoose.max_long.x, Cond.initialized "java/lang/Math", Cond.code Lib.MathLoose.max_long.x Lib.MathLoose.max_long.code 4 (some .long), Cond.fieldLink RX2 61 "LinkShaper$Group" "waiting" "I", Cond.fieldLink RX2 64 "LinkShaper$Group" "sum" "J", Cond.methodLink RX4 128 yX2_append, Cond.instanceMethod yX2_append, Cond.selects RX2 yX2_append yX2_append, Cond.code yX2_append cX2_append 2 none, Cond.fieldLink RX2 65 "LinkShaper$Leaf" "last" "LLinkShaper$Packet;", Cond.fieldLink RX2 68 "LinkShaper$Packet" "next" "LLinkShaper$Packet;"]
def wsX4_arrive_r5 : List Cond := [Cond.fieldLink RX2 73 "LinkShaper$Leaf" "waiting" "I", Cond.fieldLink RX2 74 "LinkShaper$Leaf" "bytes" "I", Cond.fieldLink RX2 77 "LinkShaper$Packet" "size" "I", Cond.methodLink RX4 66 yJx4a65c_add_9ea2d, Cond.instanceMethod yJx4a65c_add_9ea2d, Cond.selects RJx4a65c yJx4a65c_add_9ea2d yJx4a65c_add_9ea2d, Cond.code yJx4a65c_add_9ea2d cJx4a65c_add_9ea2d 2 (some .boolean), Cond.fieldLink RJx4a65c 63 "java/util/ArrayList" "modCount" "I", Cond.sameField "java/util/ArrayList" "java/util/AbstractList" "modCount" "I", Cond.methodLink RJx4a65c 131 yJx4a65c_add_72be8, Cond.instanceMethod yJx4a65c_add_72be8, Cond.selects RJx4a65c yJx4a65c_add_72be8 yJx4a65c_add_72be8, Cond.code yJx4a65c_add_72be8 cJx4a65c_add_72be8 4 none, Cond.methodLink RJx4a65c 129 yJx4a65c_grow_d5877, Cond.instanceMethod yJx4a65c_grow_d5877, Cond.selects RJx4a65c yJx4a65c_grow_d5877 yJx4a65c_grow_d5877, Cond.code yJx4a65c_grow_d5877 cJx4a65c_grow_d5877 1 (some (.array (.object "java/lang/Object"))), Cond.methodLink RJx4a65c 69 yJx4a65c_grow_92f84, Cond.instanceMethod yJx4a65c_grow_92f84, Cond.selects RJx4a65c yJx4a65c_grow_92f84 yJx4a65c_grow_92f84, Cond.code yJx4a65c_grow_92f84 cJx4a65c_grow_92f84 4 (some (.array (.object "java/lang/Object"))), Cond.fieldLink RJx4a65c 39 "java/util/ArrayList" "DEFAULTCAPACITY_EMPTY_ELEMENTDATA" "[Ljava/lang/Object;", Cond.methodLink RJx4a65c 79 Lib.Math.max.name, Cond.static Lib.Math.max.name]
def wsX4_arrive_r6 : List Cond := [Cond.code Lib.Math.max.name Lib.Math.max.code 2 (some .int), Cond.classLink RJx4a65c 7 "java/lang/Object", Cond.methodLink RJx4a65c 73 yJ8_newLength_cabcc, Cond.static yJ8_newLength_cabcc, Cond.initialized RJ8, Cond.code yJ8_newLength_cabcc cJ8_newLength_cabcc 4 (some .int), Cond.methodLink RJ8 194 Lib.Math.max.name, Cond.constant RJ8 200 (2147483639), Cond.methodLink RJ8 201 yJ8_hugeLength_7cf53, Cond.static yJ8_hugeLength_7cf53, Cond.code yJ8_hugeLength_7cf53 cJ8_hugeLength_7cf53 3 (some .int), Cond.methodLink RJx4a65c 66 yJ7_copyOf_1904c, Cond.static yJ7_copyOf_1904c, Cond.initialized RJ7, Cond.code yJ7_copyOf_1904c cJ7_copyOf_1904c 2 (some (.array (.object "java/lang/Object"))), Cond.methodLink RJ7 86 ⟨"java/lang/Object", "getClass", "()Ljava/lang/Class;"⟩, Cond.selects "[Ljava/lang/Object;" ⟨"java/lang/Object", "getClass", "()Ljava/lang/Class;"⟩ ⟨"java/lang/Object", "getClass", "()Ljava/lang/Class;"⟩, Cond.instanceMethod ⟨"java/lang/Object", "getClass", "()Ljava/lang/Class;"⟩, Cond.native ⟨"java/lang/Object", "getClass", "()Ljava/lang/Class;"⟩, Cond.methodLink RJ7 300 yJ7_copyOf_6403c, Cond.static yJ7_copyOf_6403c, Cond.code yJ7_copyOf_6403c cJ7_copyOf_6403c 4 (some (.array (.object "java/lang/Object"))), Cond.classLink RJ7 110 "[Ljava/lang/Object;", Cond.classLink RJ7 2 "java/lang/Object"]
def wsX4_arrive_r7 : List Cond := [Cond.methodLink RJ7 304 Lib.Math.min.name, Cond.static Lib.Math.min.name, Cond.code Lib.Math.min.name Lib.Math.min.code 2 (some .int), Cond.methodLink RJ7 150 arraycopyName, Cond.native arraycopyName, Cond.static arraycopyName, Cond.initialized "java/lang/System"]
def wsX4_arrive : List Cond := .code yX4_arrive cX4_arrive 6 (some .int) :: ((wsX4_arrive_r1 ++ (wsX4_arrive_r2 ++ (wsX4_arrive_r3 ++ (wsX4_arrive_r4 ++ (wsX4_arrive_r5 ++ (wsX4_arrive_r6 ++ wsX4_arrive_r7)))))) ++ wsX40 ++ wsX20 ++ wsX30 ++ wsJx4a65c0 ++ wsX00 ++ wsX10)
def wsX4_pickDue_r1 : List Cond := [Cond.fieldLink RX4 18 "LinkShaper" "leaves" "Ljava/util/ArrayList;", Cond.classLink RX4 86 "LinkShaper$Leaf", Cond.fieldLink RX4 27 "LinkShaper" "tick" "I", Cond.methodLink RX4 44 yJx4a65c_size_8abf5, Cond.instanceMethod yJx4a65c_size_8abf5, Cond.selects RJx4a65c yJx4a65c_size_8abf5 yJx4a65c_size_8abf5, Cond.initialized RJx4a65c, Cond.code yJx4a65c_size_8abf5 cJx4a65c_size_8abf5 1 (some .int), Cond.fieldLink RJx4a65c 48 "java/util/ArrayList" "size" "I", Cond.methodLink RX4 156 yJx4a65c_get_915e3, Cond.instanceMethod yJx4a65c_get_915e3, Cond.selects RJx4a65c yJx4a65c_get_915e3 yJx4a65c_get_915e3, Cond.code yJx4a65c_get_915e3 cJx4a65c_get_915e3 2 (some (.object "java/lang/Object")), Cond.methodLink RJx4a65c 118 yJ15_checkIndex_7cf53, Cond.static yJ15_checkIndex_7cf53, Cond.initialized RJ15, Cond.code yJ15_checkIndex_7cf53 cJ15_checkIndex_7cf53 2 (some .int), Cond.methodLink RJ15 105 yJ3_checkIndex_8e157, Cond.static yJ3_checkIndex_8e157, Cond.initialized RJ3, Cond.code yJ3_checkIndex_8e157 cJ3_checkIndex_8e157 3 (some .int), Cond.methodLink RJx4a65c 123 yJx4a65c_elementData_915e3, Cond.instanceMethod yJx4a65c_elementData_915e3, Cond.selects RJx4a65c yJx4a65c_elementData_915e3 yJx4a65c_elementData_915e3]
def wsX4_pickDue_r2 : List Cond := [Cond.code yJx4a65c_elementData_915e3 cJx4a65c_elementData_915e3 2 (some (.object "java/lang/Object")), Cond.fieldLink RJx4a65c 9 "java/util/ArrayList" "elementData" "[Ljava/lang/Object;", Cond.methodLink RX4 213 yX2_start, Cond.instanceMethod yX2_start, Cond.selects RX2 yX2_start yX2_start, Cond.initialized RX2, Cond.code yX2_start cX2_start 1 (some .int), Cond.fieldLink RX2 42 "LinkShaper$Leaf" "first" "LLinkShaper$Packet;", Cond.fieldLink RX2 19 "LinkShaper$Leaf" "guarantee" "I", Cond.constant RX2 80 (2147483647), Cond.fieldLink RX2 81 "LinkShaper$Leaf" "clock" "I", Cond.fieldLink RX2 84 "LinkShaper$Packet" "came" "I", Cond.methodLink RX2 87 Lib.Math.max.name, Cond.static Lib.Math.max.name, Cond.initialized "java/lang/Math", Cond.code Lib.Math.max.name Lib.Math.max.code 2 (some .int), Cond.methodLink RX4 216 yX2_deadline, Cond.instanceMethod yX2_deadline, Cond.selects RX2 yX2_deadline yX2_deadline, Cond.code yX2_deadline cX2_deadline 1 (some .int), Cond.fieldLink RX2 77 "LinkShaper$Packet" "size" "I", Cond.methodLink RX2 90 yX2_start]
def wsX4_pickDue : List Cond := .code yX4_pickDue cX4_pickDue 4 (some (.object "LinkShaper$Leaf")) :: ((wsX4_pickDue_r1 ++ wsX4_pickDue_r2) ++ wsX40 ++ wsJx4a65c0 ++ wsX20 ++ wsX30)
def wsX4_putOnLink_r1 : List Cond := [Cond.fieldLink RX4 24 "LinkShaper" "begun" "Ljava/util/ArrayList;", Cond.fieldLink RX4 27 "LinkShaper" "tick" "I", Cond.fieldLink RX4 211 "LinkShaper$Packet" "size" "I", Cond.fieldLink RX4 31 "LinkShaper" "freeAt" "I", Cond.methodLink RX4 66 yJx4a65c_add_9ea2d, Cond.instanceMethod yJx4a65c_add_9ea2d, Cond.selects RJx4a65c yJx4a65c_add_9ea2d yJx4a65c_add_9ea2d, Cond.initialized RJx4a65c, Cond.code yJx4a65c_add_9ea2d cJx4a65c_add_9ea2d 2 (some .boolean), Cond.fieldLink RJx4a65c 63 "java/util/ArrayList" "modCount" "I", Cond.sameField "java/util/ArrayList" "java/util/AbstractList" "modCount" "I", Cond.fieldLink RJx4a65c 9 "java/util/ArrayList" "elementData" "[Ljava/lang/Object;", Cond.fieldLink RJx4a65c 48 "java/util/ArrayList" "size" "I", Cond.methodLink RJx4a65c 131 yJx4a65c_add_72be8, Cond.instanceMethod yJx4a65c_add_72be8, Cond.selects RJx4a65c yJx4a65c_add_72be8 yJx4a65c_add_72be8, Cond.code yJx4a65c_add_72be8 cJx4a65c_add_72be8 4 none, Cond.methodLink RJx4a65c 129 yJx4a65c_grow_d5877, Cond.instanceMethod yJx4a65c_grow_d5877, Cond.selects RJx4a65c yJx4a65c_grow_d5877 yJx4a65c_grow_d5877, Cond.code yJx4a65c_grow_d5877 cJx4a65c_grow_d5877 1 (some (.array (.object "java/lang/Object"))), Cond.methodLink RJx4a65c 69 yJx4a65c_grow_92f84, Cond.instanceMethod yJx4a65c_grow_92f84, Cond.selects RJx4a65c yJx4a65c_grow_92f84 yJx4a65c_grow_92f84]
def wsX4_putOnLink_r2 : List Cond := [Cond.code yJx4a65c_grow_92f84 cJx4a65c_grow_92f84 4 (some (.array (.object "java/lang/Object"))), Cond.fieldLink RJx4a65c 39 "java/util/ArrayList" "DEFAULTCAPACITY_EMPTY_ELEMENTDATA" "[Ljava/lang/Object;", Cond.methodLink RJx4a65c 79 Lib.Math.max.name, Cond.static Lib.Math.max.name, Cond.initialized "java/lang/Math", Cond.code Lib.Math.max.name Lib.Math.max.code 2 (some .int), Cond.classLink RJx4a65c 7 "java/lang/Object", Cond.methodLink RJx4a65c 73 yJ8_newLength_cabcc, Cond.static yJ8_newLength_cabcc, Cond.initialized RJ8, Cond.code yJ8_newLength_cabcc cJ8_newLength_cabcc 4 (some .int), Cond.methodLink RJ8 194 Lib.Math.max.name, Cond.constant RJ8 200 (2147483639), Cond.methodLink RJ8 201 yJ8_hugeLength_7cf53, Cond.static yJ8_hugeLength_7cf53, Cond.code yJ8_hugeLength_7cf53 cJ8_hugeLength_7cf53 3 (some .int), Cond.methodLink RJx4a65c 66 yJ7_copyOf_1904c, Cond.static yJ7_copyOf_1904c, Cond.initialized RJ7, Cond.code yJ7_copyOf_1904c cJ7_copyOf_1904c 2 (some (.array (.object "java/lang/Object"))), Cond.methodLink RJ7 86 ⟨"java/lang/Object", "getClass", "()Ljava/lang/Class;"⟩, Cond.selects "[Ljava/lang/Object;" ⟨"java/lang/Object", "getClass", "()Ljava/lang/Class;"⟩ ⟨"java/lang/Object", "getClass", "()Ljava/lang/Class;"⟩, Cond.instanceMethod ⟨"java/lang/Object", "getClass", "()Ljava/lang/Class;"⟩, Cond.native ⟨"java/lang/Object", "getClass", "()Ljava/lang/Class;"⟩]
def wsX4_putOnLink_r3 : List Cond := [Cond.methodLink RJ7 300 yJ7_copyOf_6403c, Cond.static yJ7_copyOf_6403c, Cond.code yJ7_copyOf_6403c cJ7_copyOf_6403c 4 (some (.array (.object "java/lang/Object"))), Cond.classLink RJ7 110 "[Ljava/lang/Object;", Cond.classLink RJ7 2 "java/lang/Object", Cond.methodLink RJ7 304 Lib.Math.min.name, Cond.static Lib.Math.min.name, Cond.code Lib.Math.min.name Lib.Math.min.code 2 (some .int), Cond.methodLink RJ7 150 arraycopyName, Cond.native arraycopyName, Cond.static arraycopyName, Cond.initialized "java/lang/System"]
def wsX4_putOnLink : List Cond := .code yX4_putOnLink cX4_putOnLink 2 none :: ((wsX4_putOnLink_r1 ++ (wsX4_putOnLink_r2 ++ wsX4_putOnLink_r3)) ++ wsX40 ++ wsX30 ++ wsJx4a65c0)
def wsX4_pickExcessOf_r1 : List Cond := [Cond.fieldLink RX4 18 "LinkShaper" "leaves" "Ljava/util/ArrayList;", Cond.classLink RX4 86 "LinkShaper$Leaf", Cond.fieldLink RX4 223 "LinkShaper$Leaf" "group" "LLinkShaper$Group;", Cond.methodLink RX4 44 yJx4a65c_size_8abf5, Cond.instanceMethod yJx4a65c_size_8abf5, Cond.selects RJx4a65c yJx4a65c_size_8abf5 yJx4a65c_size_8abf5, Cond.initialized RJx4a65c, Cond.code yJx4a65c_size_8abf5 cJx4a65c_size_8abf5 1 (some .int), Cond.fieldLink RJx4a65c 48 "java/util/ArrayList" "size" "I", Cond.methodLink RX4 156 yJx4a65c_get_915e3, Cond.instanceMethod yJx4a65c_get_915e3, Cond.selects RJx4a65c yJx4a65c_get_915e3 yJx4a65c_get_915e3, Cond.code yJx4a65c_get_915e3 cJx4a65c_get_915e3 2 (some (.object "java/lang/Object")), Cond.methodLink RJx4a65c 118 yJ15_checkIndex_7cf53, Cond.static yJ15_checkIndex_7cf53, Cond.initialized RJ15, Cond.code yJ15_checkIndex_7cf53 cJ15_checkIndex_7cf53 2 (some .int), Cond.methodLink RJ15 105 yJ3_checkIndex_8e157, Cond.static yJ3_checkIndex_8e157, Cond.initialized RJ3, Cond.code yJ3_checkIndex_8e157 cJ3_checkIndex_8e157 3 (some .int), Cond.methodLink RJx4a65c 123 yJx4a65c_elementData_915e3, Cond.instanceMethod yJx4a65c_elementData_915e3, Cond.selects RJx4a65c yJx4a65c_elementData_915e3 yJx4a65c_elementData_915e3]
def wsX4_pickExcessOf_r2 : List Cond := [Cond.code yJx4a65c_elementData_915e3 cJx4a65c_elementData_915e3 2 (some (.object "java/lang/Object")), Cond.fieldLink RJx4a65c 9 "java/util/ArrayList" "elementData" "[Ljava/lang/Object;", Cond.methodLink RX4 227 yX2_isReady, Cond.instanceMethod yX2_isReady, Cond.selects RX2 yX2_isReady yX2_isReady, Cond.initialized RX2, Cond.code yX2_isReady cX2_isReady 1 (some .boolean), Cond.fieldLink RX2 42 "LinkShaper$Leaf" "first" "LLinkShaper$Packet;", Cond.fieldLink RX2 22 "LinkShaper$Leaf" "ceiling" "LLinkShaper$Bucket;", Cond.fieldLink RX2 77 "LinkShaper$Packet" "size" "I", Cond.fieldLink RX2 9 "LinkShaper$Leaf" "group" "LLinkShaper$Group;", Cond.fieldLink RX2 94 "LinkShaper$Group" "ceiling" "LLinkShaper$Bucket;", Cond.methodLink RX2 32 yX0_covers, Cond.instanceMethod yX0_covers, Cond.selects RX0 yX0_covers yX0_covers, Cond.initialized RX0, Cond.code yX0_covers cX0_covers 2 (some .boolean), Cond.fieldLink RX0 21 "LinkShaper$Bucket" "level" "J", Cond.constantLong RX0 15 (1000), Cond.methodLink RX4 231 yX2_tagInLeaf, Cond.instanceMethod yX2_tagInLeaf, Cond.selects RX2 yX2_tagInLeaf yX2_tagInLeaf, Cond.code yX2_tagInLeaf cX2_tagInLeaf 1 (some .long), Cond.fieldLink RX2 15 "LinkShaper$Leaf" "weight" "I"]
def wsX4_pickExcessOf_r3 : List Cond := [Cond.fieldLink RX2 46 "LinkShaper$Leaf" "sum" "J", Cond.constantLong RX2 99 (27720)]
def wsX4_pickExcessOf : List Cond := .code yX4_pickExcessOf cX4_pickExcessOf 5 (some (.object "LinkShaper$Leaf")) :: ((wsX4_pickExcessOf_r1 ++ (wsX4_pickExcessOf_r2 ++ wsX4_pickExcessOf_r3)) ++ wsX40 ++ wsX20 ++ wsJx4a65c0 ++ wsX30 ++ wsX10 ++ wsX00)
def wsX4_pickExcess_r1 : List Cond := [Cond.fieldLink RX4 12 "LinkShaper" "groups" "Ljava/util/ArrayList;", Cond.classLink RX4 56 "LinkShaper$Group", Cond.methodLink RX4 44 yJx4a65c_size_8abf5, Cond.instanceMethod yJx4a65c_size_8abf5, Cond.selects RJx4a65c yJx4a65c_size_8abf5 yJx4a65c_size_8abf5, Cond.initialized RJx4a65c, Cond.code yJx4a65c_size_8abf5 cJx4a65c_size_8abf5 1 (some .int), Cond.fieldLink RJx4a65c 48 "java/util/ArrayList" "size" "I", Cond.methodLink RX4 156 yJx4a65c_get_915e3, Cond.instanceMethod yJx4a65c_get_915e3, Cond.selects RJx4a65c yJx4a65c_get_915e3 yJx4a65c_get_915e3, Cond.code yJx4a65c_get_915e3 cJx4a65c_get_915e3 2 (some (.object "java/lang/Object")), Cond.methodLink RJx4a65c 118 yJ15_checkIndex_7cf53, Cond.static yJ15_checkIndex_7cf53, Cond.initialized RJ15, Cond.code yJ15_checkIndex_7cf53 cJ15_checkIndex_7cf53 2 (some .int), Cond.methodLink RJ15 105 yJ3_checkIndex_8e157, Cond.static yJ3_checkIndex_8e157, Cond.initialized RJ3, Cond.code yJ3_checkIndex_8e157 cJ3_checkIndex_8e157 3 (some .int), Cond.methodLink RJx4a65c 123 yJx4a65c_elementData_915e3, Cond.instanceMethod yJx4a65c_elementData_915e3, Cond.selects RJx4a65c yJx4a65c_elementData_915e3 yJx4a65c_elementData_915e3, Cond.code yJx4a65c_elementData_915e3 cJx4a65c_elementData_915e3 2 (some (.object "java/lang/Object"))]
def wsX4_pickExcess_r2 : List Cond := [Cond.fieldLink RJx4a65c 9 "java/util/ArrayList" "elementData" "[Ljava/lang/Object;", Cond.methodLink RX4 219 yX4_pickExcessOf, Cond.instanceMethod yX4_pickExcessOf, Cond.selects RX4 yX4_pickExcessOf yX4_pickExcessOf, Cond.initialized RX4, Cond.code yX4_pickExcessOf cX4_pickExcessOf 5 (some (.object "LinkShaper$Leaf")), Cond.fieldLink RX4 18 "LinkShaper" "leaves" "Ljava/util/ArrayList;", Cond.classLink RX4 86 "LinkShaper$Leaf", Cond.fieldLink RX4 223 "LinkShaper$Leaf" "group" "LLinkShaper$Group;", Cond.methodLink RX4 227 yX2_isReady, Cond.instanceMethod yX2_isReady, Cond.selects RX2 yX2_isReady yX2_isReady, Cond.initialized RX2, Cond.code yX2_isReady cX2_isReady 1 (some .boolean), Cond.fieldLink RX2 42 "LinkShaper$Leaf" "first" "LLinkShaper$Packet;", Cond.fieldLink RX2 22 "LinkShaper$Leaf" "ceiling" "LLinkShaper$Bucket;", Cond.fieldLink RX2 77 "LinkShaper$Packet" "size" "I", Cond.fieldLink RX2 9 "LinkShaper$Leaf" "group" "LLinkShaper$Group;", Cond.fieldLink RX2 94 "LinkShaper$Group" "ceiling" "LLinkShaper$Bucket;", Cond.methodLink RX2 32 yX0_covers, Cond.instanceMethod yX0_covers, Cond.selects RX0 yX0_covers yX0_covers, Cond.initialized RX0, Cond.code yX0_covers cX0_covers 2 (some .boolean)]
def wsX4_pickExcess_r3 : List Cond := [Cond.fieldLink RX0 21 "LinkShaper$Bucket" "level" "J", Cond.constantLong RX0 15 (1000), Cond.methodLink RX4 231 yX2_tagInLeaf, Cond.instanceMethod yX2_tagInLeaf, Cond.selects RX2 yX2_tagInLeaf yX2_tagInLeaf, Cond.code yX2_tagInLeaf cX2_tagInLeaf 1 (some .long), Cond.fieldLink RX2 15 "LinkShaper$Leaf" "weight" "I", Cond.fieldLink RX2 46 "LinkShaper$Leaf" "sum" "J", Cond.constantLong RX2 99 (27720), Cond.methodLink RX4 200 yX2_tagInGroup, Cond.instanceMethod yX2_tagInGroup, Cond.selects RX2 yX2_tagInGroup yX2_tagInGroup, Cond.code yX2_tagInGroup cX2_tagInGroup 1 (some .long), Cond.fieldLink RX2 64 "LinkShaper$Group" "sum" "J", Cond.methodLink RX2 101 yX1_tagOf, Cond.instanceMethod yX1_tagOf, Cond.selects RX1 yX1_tagOf yX1_tagOf, Cond.initialized RX1, Cond.code yX1_tagOf cX1_tagOf 2 (some .long), Cond.fieldLink RX1 9 "LinkShaper$Group" "weight" "I", Cond.fieldLink RX1 19 "LinkShaper$Group" "sum" "J", Cond.constantLong RX1 23 (27720)]
def wsX4_pickExcess : List Cond := .code yX4_pickExcess cX4_pickExcess 4 (some (.object "LinkShaper$Leaf")) :: ((wsX4_pickExcess_r1 ++ (wsX4_pickExcess_r2 ++ wsX4_pickExcess_r3)) ++ wsX40 ++ wsJx4a65c0 ++ wsX20 ++ wsX30 ++ wsX10 ++ wsX00)
def wsX4_countHeld_r1 : List Cond := [Cond.fieldLink RX4 18 "LinkShaper" "leaves" "Ljava/util/ArrayList;", Cond.classLink RX4 86 "LinkShaper$Leaf", Cond.fieldLink RX4 248 "LinkShaper$Leaf" "heldTicks" "I", Cond.methodLink RX4 44 yJx4a65c_size_8abf5, Cond.instanceMethod yJx4a65c_size_8abf5, Cond.selects RJx4a65c yJx4a65c_size_8abf5 yJx4a65c_size_8abf5, Cond.initialized RJx4a65c, Cond.code yJx4a65c_size_8abf5 cJx4a65c_size_8abf5 1 (some .int), Cond.fieldLink RJx4a65c 48 "java/util/ArrayList" "size" "I", Cond.methodLink RX4 156 yJx4a65c_get_915e3, Cond.instanceMethod yJx4a65c_get_915e3, Cond.selects RJx4a65c yJx4a65c_get_915e3 yJx4a65c_get_915e3, Cond.code yJx4a65c_get_915e3 cJx4a65c_get_915e3 2 (some (.object "java/lang/Object")), Cond.methodLink RJx4a65c 118 yJ15_checkIndex_7cf53, Cond.static yJ15_checkIndex_7cf53, Cond.initialized RJ15, Cond.code yJ15_checkIndex_7cf53 cJ15_checkIndex_7cf53 2 (some .int), Cond.methodLink RJ15 105 yJ3_checkIndex_8e157, Cond.static yJ3_checkIndex_8e157, Cond.initialized RJ3, Cond.code yJ3_checkIndex_8e157 cJ3_checkIndex_8e157 3 (some .int), Cond.methodLink RJx4a65c 123 yJx4a65c_elementData_915e3, Cond.instanceMethod yJx4a65c_elementData_915e3, Cond.selects RJx4a65c yJx4a65c_elementData_915e3 yJx4a65c_elementData_915e3]
def wsX4_countHeld_r2 : List Cond := [Cond.code yJx4a65c_elementData_915e3 cJx4a65c_elementData_915e3 2 (some (.object "java/lang/Object")), Cond.fieldLink RJx4a65c 9 "java/util/ArrayList" "elementData" "[Ljava/lang/Object;", Cond.methodLink RX4 245 yX2_isHeld, Cond.instanceMethod yX2_isHeld, Cond.selects RX2 yX2_isHeld yX2_isHeld, Cond.initialized RX2, Cond.code yX2_isHeld cX2_isHeld 1 (some .boolean), Cond.fieldLink RX2 42 "LinkShaper$Leaf" "first" "LLinkShaper$Packet;", Cond.methodLink RX2 95 yX2_isReady, Cond.instanceMethod yX2_isReady, Cond.selects RX2 yX2_isReady yX2_isReady, Cond.code yX2_isReady cX2_isReady 1 (some .boolean), Cond.fieldLink RX2 22 "LinkShaper$Leaf" "ceiling" "LLinkShaper$Bucket;", Cond.fieldLink RX2 77 "LinkShaper$Packet" "size" "I", Cond.fieldLink RX2 9 "LinkShaper$Leaf" "group" "LLinkShaper$Group;", Cond.fieldLink RX2 94 "LinkShaper$Group" "ceiling" "LLinkShaper$Bucket;", Cond.methodLink RX2 32 yX0_covers, Cond.instanceMethod yX0_covers, Cond.selects RX0 yX0_covers yX0_covers, Cond.initialized RX0, Cond.code yX0_covers cX0_covers 2 (some .boolean), Cond.fieldLink RX0 21 "LinkShaper$Bucket" "level" "J", Cond.constantLong RX0 15 (1000)]
def wsX4_countHeld : List Cond := .code yX4_countHeld cX4_countHeld 4 none :: ((wsX4_countHeld_r1 ++ wsX4_countHeld_r2) ++ wsX40 ++ wsX20 ++ wsJx4a65c0 ++ wsX30 ++ wsX10 ++ wsX00)
def wsX4_beginOne_r1 : List Cond := [Cond.fieldLink RX4 27 "LinkShaper" "tick" "I", Cond.fieldLink RX4 40 "LinkShaper" "mark" "J", Cond.methodLink RX4 204 Lib.MathLoose.max_long.x, Cond.static Lib.MathLoose.max_long.x, Cond.initialized "java/lang/Math", Cond.code Lib.MathLoose.max_long.x Lib.MathLoose.max_long.code 4 (some .long), Cond.methodLink RX4 183 yX4_pickDue, Cond.instanceMethod yX4_pickDue, Cond.selects RX4 yX4_pickDue yX4_pickDue, Cond.initialized RX4, Cond.code yX4_pickDue cX4_pickDue 4 (some (.object "LinkShaper$Leaf")), Cond.fieldLink RX4 18 "LinkShaper" "leaves" "Ljava/util/ArrayList;", Cond.classLink RX4 86 "LinkShaper$Leaf", Cond.methodLink RX4 44 yJx4a65c_size_8abf5, Cond.instanceMethod yJx4a65c_size_8abf5, Cond.selects RJx4a65c yJx4a65c_size_8abf5 yJx4a65c_size_8abf5, Cond.initialized RJx4a65c, Cond.code yJx4a65c_size_8abf5 cJx4a65c_size_8abf5 1 (some .int), Cond.fieldLink RJx4a65c 48 "java/util/ArrayList" "size" "I", Cond.methodLink RX4 156 yJx4a65c_get_915e3, Cond.instanceMethod yJx4a65c_get_915e3, Cond.selects RJx4a65c yJx4a65c_get_915e3 yJx4a65c_get_915e3, Cond.code yJx4a65c_get_915e3 cJx4a65c_get_915e3 2 (some (.object "java/lang/Object")), Cond.methodLink RJx4a65c 118 yJ15_checkIndex_7cf53]
def wsX4_beginOne_r2 : List Cond := [Cond.static yJ15_checkIndex_7cf53, Cond.initialized RJ15, Cond.code yJ15_checkIndex_7cf53 cJ15_checkIndex_7cf53 2 (some .int), Cond.methodLink RJ15 105 yJ3_checkIndex_8e157, Cond.static yJ3_checkIndex_8e157, Cond.initialized RJ3, Cond.code yJ3_checkIndex_8e157 cJ3_checkIndex_8e157 3 (some .int), Cond.methodLink RJx4a65c 123 yJx4a65c_elementData_915e3, Cond.instanceMethod yJx4a65c_elementData_915e3, Cond.selects RJx4a65c yJx4a65c_elementData_915e3 yJx4a65c_elementData_915e3, Cond.code yJx4a65c_elementData_915e3 cJx4a65c_elementData_915e3 2 (some (.object "java/lang/Object")), Cond.fieldLink RJx4a65c 9 "java/util/ArrayList" "elementData" "[Ljava/lang/Object;", Cond.methodLink RX4 213 yX2_start, Cond.instanceMethod yX2_start, Cond.selects RX2 yX2_start yX2_start, Cond.initialized RX2, Cond.code yX2_start cX2_start 1 (some .int), Cond.fieldLink RX2 42 "LinkShaper$Leaf" "first" "LLinkShaper$Packet;", Cond.fieldLink RX2 19 "LinkShaper$Leaf" "guarantee" "I", Cond.constant RX2 80 (2147483647), Cond.fieldLink RX2 81 "LinkShaper$Leaf" "clock" "I", Cond.fieldLink RX2 84 "LinkShaper$Packet" "came" "I", Cond.methodLink RX2 87 Lib.Math.max.name, Cond.static Lib.Math.max.name]
def wsX4_beginOne_r3 : List Cond := [Cond.code Lib.Math.max.name Lib.Math.max.code 2 (some .int), Cond.methodLink RX4 216 yX2_deadline, Cond.instanceMethod yX2_deadline, Cond.selects RX2 yX2_deadline yX2_deadline, Cond.code yX2_deadline cX2_deadline 1 (some .int), Cond.fieldLink RX2 77 "LinkShaper$Packet" "size" "I", Cond.methodLink RX2 90 yX2_start, Cond.methodLink RX4 187 yX2_sendDue, Cond.instanceMethod yX2_sendDue, Cond.selects RX2 yX2_sendDue yX2_sendDue, Cond.code yX2_sendDue cX2_sendDue 4 (some (.object "LinkShaper$Packet")), Cond.fieldLink RX2 120 "LinkShaper$Packet" "way" "I", Cond.fieldLink RX2 123 "LinkShaper$Packet" "deadline" "I", Cond.fieldLink RX2 125 "LinkShaper$Leaf" "dueBytes" "I", Cond.methodLink RX2 113 yX2_deadline, Cond.methodLink RX2 116 yX2_removeFirst, Cond.instanceMethod yX2_removeFirst, Cond.selects RX2 yX2_removeFirst yX2_removeFirst, Cond.code yX2_removeFirst cX2_removeFirst 3 (some (.object "LinkShaper$Packet")), Cond.fieldLink RX2 68 "LinkShaper$Packet" "next" "LLinkShaper$Packet;", Cond.fieldLink RX2 65 "LinkShaper$Leaf" "last" "LLinkShaper$Packet;", Cond.fieldLink RX2 138 "LinkShaper$Packet" "began" "I", Cond.fieldLink RX2 73 "LinkShaper$Leaf" "waiting" "I", Cond.fieldLink RX2 74 "LinkShaper$Leaf" "bytes" "I"]
def wsX4_beginOne_r4 : List Cond := [Cond.fieldLink RX2 9 "LinkShaper$Leaf" "group" "LLinkShaper$Group;", Cond.fieldLink RX2 61 "LinkShaper$Group" "waiting" "I", Cond.fieldLink RX2 22 "LinkShaper$Leaf" "ceiling" "LLinkShaper$Bucket;", Cond.fieldLink RX2 94 "LinkShaper$Group" "ceiling" "LLinkShaper$Bucket;", Cond.methodLink RX2 38 yX0_take, Cond.instanceMethod yX0_take, Cond.selects RX0 yX0_take yX0_take, Cond.initialized RX0, Cond.code yX0_take cX0_take 2 none, Cond.fieldLink RX0 21 "LinkShaper$Bucket" "level" "J", Cond.constantLong RX0 15 (1000), Cond.methodLink RX4 191 yX4_putOnLink, Cond.instanceMethod yX4_putOnLink, Cond.selects RX4 yX4_putOnLink yX4_putOnLink, Cond.code yX4_putOnLink cX4_putOnLink 2 none, Cond.fieldLink RX4 24 "LinkShaper" "begun" "Ljava/util/ArrayList;", Cond.fieldLink RX4 211 "LinkShaper$Packet" "size" "I", Cond.fieldLink RX4 31 "LinkShaper" "freeAt" "I", Cond.methodLink RX4 66 yJx4a65c_add_9ea2d, Cond.instanceMethod yJx4a65c_add_9ea2d, Cond.selects RJx4a65c yJx4a65c_add_9ea2d yJx4a65c_add_9ea2d, Cond.code yJx4a65c_add_9ea2d cJx4a65c_add_9ea2d 2 (some .boolean), Cond.fieldLink RJx4a65c 63 "java/util/ArrayList" "modCount" "I", Cond.sameField "java/util/ArrayList" "java/util/AbstractList" "modCount" "I"]
def wsX4_beginOne_r5 : List Cond := [Cond.methodLink RJx4a65c 131 yJx4a65c_add_72be8, Cond.instanceMethod yJx4a65c_add_72be8, Cond.selects RJx4a65c yJx4a65c_add_72be8 yJx4a65c_add_72be8, Cond.code yJx4a65c_add_72be8 cJx4a65c_add_72be8 4 none, Cond.methodLink RJx4a65c 129 yJx4a65c_grow_d5877, Cond.instanceMethod yJx4a65c_grow_d5877, Cond.selects RJx4a65c yJx4a65c_grow_d5877 yJx4a65c_grow_d5877, Cond.code yJx4a65c_grow_d5877 cJx4a65c_grow_d5877 1 (some (.array (.object "java/lang/Object"))), Cond.methodLink RJx4a65c 69 yJx4a65c_grow_92f84, Cond.instanceMethod yJx4a65c_grow_92f84, Cond.selects RJx4a65c yJx4a65c_grow_92f84 yJx4a65c_grow_92f84, Cond.code yJx4a65c_grow_92f84 cJx4a65c_grow_92f84 4 (some (.array (.object "java/lang/Object"))), Cond.fieldLink RJx4a65c 39 "java/util/ArrayList" "DEFAULTCAPACITY_EMPTY_ELEMENTDATA" "[Ljava/lang/Object;", Cond.methodLink RJx4a65c 79 Lib.Math.max.name, Cond.classLink RJx4a65c 7 "java/lang/Object", Cond.methodLink RJx4a65c 73 yJ8_newLength_cabcc, Cond.static yJ8_newLength_cabcc, Cond.initialized RJ8, Cond.code yJ8_newLength_cabcc cJ8_newLength_cabcc 4 (some .int), Cond.methodLink RJ8 194 Lib.Math.max.name, Cond.constant RJ8 200 (2147483639), Cond.methodLink RJ8 201 yJ8_hugeLength_7cf53, Cond.static yJ8_hugeLength_7cf53, Cond.code yJ8_hugeLength_7cf53 cJ8_hugeLength_7cf53 3 (some .int)]
def wsX4_beginOne_r6 : List Cond := [Cond.methodLink RJx4a65c 66 yJ7_copyOf_1904c, Cond.static yJ7_copyOf_1904c, Cond.initialized RJ7, Cond.code yJ7_copyOf_1904c cJ7_copyOf_1904c 2 (some (.array (.object "java/lang/Object"))), Cond.methodLink RJ7 86 ⟨"java/lang/Object", "getClass", "()Ljava/lang/Class;"⟩, Cond.selects "[Ljava/lang/Object;" ⟨"java/lang/Object", "getClass", "()Ljava/lang/Class;"⟩ ⟨"java/lang/Object", "getClass", "()Ljava/lang/Class;"⟩, Cond.instanceMethod ⟨"java/lang/Object", "getClass", "()Ljava/lang/Class;"⟩, Cond.native ⟨"java/lang/Object", "getClass", "()Ljava/lang/Class;"⟩, Cond.methodLink RJ7 300 yJ7_copyOf_6403c, Cond.static yJ7_copyOf_6403c, Cond.code yJ7_copyOf_6403c cJ7_copyOf_6403c 4 (some (.array (.object "java/lang/Object"))), Cond.classLink RJ7 110 "[Ljava/lang/Object;", Cond.classLink RJ7 2 "java/lang/Object", Cond.methodLink RJ7 304 Lib.Math.min.name, Cond.static Lib.Math.min.name, Cond.code Lib.Math.min.name Lib.Math.min.code 2 (some .int), Cond.methodLink RJ7 150 arraycopyName, Cond.native arraycopyName, Cond.static arraycopyName, Cond.initialized "java/lang/System", Cond.methodLink RX4 194 yX4_pickExcess, Cond.instanceMethod yX4_pickExcess, Cond.selects RX4 yX4_pickExcess yX4_pickExcess, Cond.code yX4_pickExcess cX4_pickExcess 4 (some (.object "LinkShaper$Leaf"))]
def wsX4_beginOne_r7 : List Cond := [Cond.fieldLink RX4 12 "LinkShaper" "groups" "Ljava/util/ArrayList;", Cond.classLink RX4 56 "LinkShaper$Group", Cond.methodLink RX4 219 yX4_pickExcessOf, Cond.instanceMethod yX4_pickExcessOf, Cond.selects RX4 yX4_pickExcessOf yX4_pickExcessOf, Cond.code yX4_pickExcessOf cX4_pickExcessOf 5 (some (.object "LinkShaper$Leaf")), Cond.fieldLink RX4 223 "LinkShaper$Leaf" "group" "LLinkShaper$Group;", Cond.methodLink RX4 227 yX2_isReady, Cond.instanceMethod yX2_isReady, Cond.selects RX2 yX2_isReady yX2_isReady, Cond.code yX2_isReady cX2_isReady 1 (some .boolean), Cond.methodLink RX2 32 yX0_covers, Cond.instanceMethod yX0_covers, Cond.selects RX0 yX0_covers yX0_covers, Cond.code yX0_covers cX0_covers 2 (some .boolean), Cond.methodLink RX4 231 yX2_tagInLeaf, Cond.instanceMethod yX2_tagInLeaf, Cond.selects RX2 yX2_tagInLeaf yX2_tagInLeaf, Cond.code yX2_tagInLeaf cX2_tagInLeaf 1 (some .long), Cond.fieldLink RX2 15 "LinkShaper$Leaf" "weight" "I", Cond.fieldLink RX2 46 "LinkShaper$Leaf" "sum" "J", Cond.constantLong RX2 99 (27720), Cond.methodLink RX4 200 yX2_tagInGroup, Cond.instanceMethod yX2_tagInGroup]
def wsX4_beginOne_r8 : List Cond := [Cond.selects RX2 yX2_tagInGroup yX2_tagInGroup, Cond.code yX2_tagInGroup cX2_tagInGroup 1 (some .long), Cond.fieldLink RX2 64 "LinkShaper$Group" "sum" "J", Cond.methodLink RX2 101 yX1_tagOf, Cond.instanceMethod yX1_tagOf, Cond.selects RX1 yX1_tagOf yX1_tagOf, Cond.initialized RX1, Cond.code yX1_tagOf cX1_tagOf 2 (some .long), Cond.fieldLink RX1 9 "LinkShaper$Group" "weight" "I", Cond.fieldLink RX1 19 "LinkShaper$Group" "sum" "J", Cond.constantLong RX1 23 (27720), Cond.methodLink RX4 197 yX4_countHeld, Cond.instanceMethod yX4_countHeld, Cond.selects RX4 yX4_countHeld yX4_countHeld, Cond.code yX4_countHeld cX4_countHeld 4 none, Cond.fieldLink RX4 248 "LinkShaper$Leaf" "heldTicks" "I", Cond.methodLink RX4 245 yX2_isHeld, Cond.instanceMethod yX2_isHeld, Cond.selects RX2 yX2_isHeld yX2_isHeld, Cond.code yX2_isHeld cX2_isHeld 1 (some .boolean), Cond.methodLink RX2 95 yX2_isReady, Cond.methodLink RX4 208 yX2_sendExcess, Cond.instanceMethod yX2_sendExcess, Cond.selects RX2 yX2_sendExcess yX2_sendExcess]
def wsX4_beginOne_r9 : List Cond := [Cond.code yX2_sendExcess cX2_sendExcess 7 (some (.object "LinkShaper$Packet")), Cond.fieldLink RX2 50 "LinkShaper$Group" "mark" "J", Cond.methodLink RX2 55 Lib.MathLoose.max_long.x, Cond.fieldLink RX2 135 "LinkShaper$Leaf" "excessBytes" "I", Cond.methodLink RX2 128 yX2_tagInLeaf, Cond.methodLink RX2 132 yX2_tagInGroup]
def wsX4_beginOne : List Cond := .code yX4_beginOne cX4_beginOne 3 none :: ((wsX4_beginOne_r1 ++ (wsX4_beginOne_r2 ++ (wsX4_beginOne_r3 ++ (wsX4_beginOne_r4 ++ (wsX4_beginOne_r5 ++ (wsX4_beginOne_r6 ++ (wsX4_beginOne_r7 ++ (wsX4_beginOne_r8 ++ wsX4_beginOne_r9)))))))) ++ wsX40 ++ wsJx4a65c0 ++ wsX20 ++ wsX30 ++ wsX10 ++ wsX00)
def wsX4_pass_r1 : List Cond := [Cond.fieldLink RX4 12 "LinkShaper" "groups" "Ljava/util/ArrayList;", Cond.classLink RX4 56 "LinkShaper$Group", Cond.fieldLink RX4 171 "LinkShaper$Group" "ceiling" "LLinkShaper$Bucket;", Cond.fieldLink RX4 18 "LinkShaper" "leaves" "Ljava/util/ArrayList;", Cond.classLink RX4 86 "LinkShaper$Leaf", Cond.fieldLink RX4 165 "LinkShaper$Leaf" "ceiling" "LLinkShaper$Bucket;", Cond.fieldLink RX4 96 "LinkShaper$Leaf" "policer" "LLinkShaper$Bucket;", Cond.fieldLink RX4 27 "LinkShaper" "tick" "I", Cond.methodLink RX4 44 yJx4a65c_size_8abf5, Cond.instanceMethod yJx4a65c_size_8abf5, Cond.selects RJx4a65c yJx4a65c_size_8abf5 yJx4a65c_size_8abf5, Cond.initialized RJx4a65c, Cond.code yJx4a65c_size_8abf5 cJx4a65c_size_8abf5 1 (some .int), Cond.fieldLink RJx4a65c 48 "java/util/ArrayList" "size" "I", Cond.methodLink RX4 156 yJx4a65c_get_915e3, Cond.instanceMethod yJx4a65c_get_915e3, Cond.selects RJx4a65c yJx4a65c_get_915e3 yJx4a65c_get_915e3, Cond.code yJx4a65c_get_915e3 cJx4a65c_get_915e3 2 (some (.object "java/lang/Object")), Cond.methodLink RJx4a65c 118 yJ15_checkIndex_7cf53, Cond.static yJ15_checkIndex_7cf53, Cond.initialized RJ15, Cond.code yJ15_checkIndex_7cf53 cJ15_checkIndex_7cf53 2 (some .int), Cond.methodLink RJ15 105 yJ3_checkIndex_8e157, Cond.static yJ3_checkIndex_8e157]
def wsX4_pass_r2 : List Cond := [Cond.initialized RJ3, Cond.code yJ3_checkIndex_8e157 cJ3_checkIndex_8e157 3 (some .int), Cond.methodLink RJx4a65c 123 yJx4a65c_elementData_915e3, Cond.instanceMethod yJx4a65c_elementData_915e3, Cond.selects RJx4a65c yJx4a65c_elementData_915e3 yJx4a65c_elementData_915e3, Cond.code yJx4a65c_elementData_915e3 cJx4a65c_elementData_915e3 2 (some (.object "java/lang/Object")), Cond.fieldLink RJx4a65c 9 "java/util/ArrayList" "elementData" "[Ljava/lang/Object;", Cond.methodLink RX4 251 yX0_fill, Cond.instanceMethod yX0_fill, Cond.selects RX0 yX0_fill yX0_fill, Cond.initialized RX0, Cond.code yX0_fill cX0_fill 2 none, Cond.fieldLink RX0 17 "LinkShaper$Bucket" "most" "J", Cond.fieldLink RX0 21 "LinkShaper$Bucket" "level" "J", Cond.fieldLink RX0 9 "LinkShaper$Bucket" "rate" "I", Cond.methodLink RX0 24 Lib.MathLoose.min_long.x, Cond.static Lib.MathLoose.min_long.x, Cond.initialized "java/lang/Math", Cond.code Lib.MathLoose.min_long.x Lib.MathLoose.min_long.code 4 (some .long)]
def wsX4_pass : List Cond := .code yX4_pass cX4_pass 4 none :: ((wsX4_pass_r1 ++ wsX4_pass_r2) ++ wsX40 ++ wsX10 ++ wsX20 ++ wsJx4a65c0 ++ wsX00)
def wsX4_passBusy_r1 : List Cond := [Cond.fieldLink RX4 34 "LinkShaper" "busyTicks" "I", Cond.methodLink RX4 242 yX4_pass, Cond.instanceMethod yX4_pass, Cond.selects RX4 yX4_pass yX4_pass, Cond.initialized RX4, Cond.code yX4_pass cX4_pass 4 none, Cond.fieldLink RX4 12 "LinkShaper" "groups" "Ljava/util/ArrayList;", Cond.classLink RX4 56 "LinkShaper$Group", Cond.fieldLink RX4 171 "LinkShaper$Group" "ceiling" "LLinkShaper$Bucket;", Cond.fieldLink RX4 18 "LinkShaper" "leaves" "Ljava/util/ArrayList;", Cond.classLink RX4 86 "LinkShaper$Leaf", Cond.fieldLink RX4 165 "LinkShaper$Leaf" "ceiling" "LLinkShaper$Bucket;", Cond.fieldLink RX4 96 "LinkShaper$Leaf" "policer" "LLinkShaper$Bucket;", Cond.fieldLink RX4 27 "LinkShaper" "tick" "I", Cond.methodLink RX4 44 yJx4a65c_size_8abf5, Cond.instanceMethod yJx4a65c_size_8abf5, Cond.selects RJx4a65c yJx4a65c_size_8abf5 yJx4a65c_size_8abf5, Cond.initialized RJx4a65c, Cond.code yJx4a65c_size_8abf5 cJx4a65c_size_8abf5 1 (some .int), Cond.fieldLink RJx4a65c 48 "java/util/ArrayList" "size" "I", Cond.methodLink RX4 156 yJx4a65c_get_915e3, Cond.instanceMethod yJx4a65c_get_915e3, Cond.selects RJx4a65c yJx4a65c_get_915e3 yJx4a65c_get_915e3, Cond.code yJx4a65c_get_915e3 cJx4a65c_get_915e3 2 (some (.object "java/lang/Object"))]
def wsX4_passBusy_r2 : List Cond := [Cond.methodLink RJx4a65c 118 yJ15_checkIndex_7cf53, Cond.static yJ15_checkIndex_7cf53, Cond.initialized RJ15, Cond.code yJ15_checkIndex_7cf53 cJ15_checkIndex_7cf53 2 (some .int), Cond.methodLink RJ15 105 yJ3_checkIndex_8e157, Cond.static yJ3_checkIndex_8e157, Cond.initialized RJ3, Cond.code yJ3_checkIndex_8e157 cJ3_checkIndex_8e157 3 (some .int), Cond.methodLink RJx4a65c 123 yJx4a65c_elementData_915e3, Cond.instanceMethod yJx4a65c_elementData_915e3, Cond.selects RJx4a65c yJx4a65c_elementData_915e3 yJx4a65c_elementData_915e3, Cond.code yJx4a65c_elementData_915e3 cJx4a65c_elementData_915e3 2 (some (.object "java/lang/Object")), Cond.fieldLink RJx4a65c 9 "java/util/ArrayList" "elementData" "[Ljava/lang/Object;", Cond.methodLink RX4 251 yX0_fill, Cond.instanceMethod yX0_fill, Cond.selects RX0 yX0_fill yX0_fill, Cond.initialized RX0, Cond.code yX0_fill cX0_fill 2 none, Cond.fieldLink RX0 17 "LinkShaper$Bucket" "most" "J", Cond.fieldLink RX0 21 "LinkShaper$Bucket" "level" "J", Cond.fieldLink RX0 9 "LinkShaper$Bucket" "rate" "I", Cond.methodLink RX0 24 Lib.MathLoose.min_long.x, Cond.static Lib.MathLoose.min_long.x, Cond.initialized "java/lang/Math"]
def wsX4_passBusy_r3 : List Cond := [Cond.code Lib.MathLoose.min_long.x Lib.MathLoose.min_long.code 4 (some .long)]
def wsX4_passBusy : List Cond := .code yX4_passBusy cX4_passBusy 2 none :: ((wsX4_passBusy_r1 ++ (wsX4_passBusy_r2 ++ wsX4_passBusy_r3)) ++ wsX40 ++ wsX10 ++ wsX20 ++ wsJx4a65c0 ++ wsX00)
def wsX4_ticksUntilOneMayGo_r1 : List Cond := [Cond.constantLong RX4 234 (2147483647), Cond.fieldLink RX4 18 "LinkShaper" "leaves" "Ljava/util/ArrayList;", Cond.classLink RX4 86 "LinkShaper$Leaf", Cond.fieldLink RX4 27 "LinkShaper" "tick" "I", Cond.methodLink RX4 240 Lib.MathLoose.min_long.x, Cond.static Lib.MathLoose.min_long.x, Cond.initialized "java/lang/Math", Cond.code Lib.MathLoose.min_long.x Lib.MathLoose.min_long.code 4 (some .long), Cond.methodLink RX4 44 yJx4a65c_size_8abf5, Cond.instanceMethod yJx4a65c_size_8abf5, Cond.selects RJx4a65c yJx4a65c_size_8abf5 yJx4a65c_size_8abf5, Cond.initialized RJx4a65c, Cond.code yJx4a65c_size_8abf5 cJx4a65c_size_8abf5 1 (some .int), Cond.fieldLink RJx4a65c 48 "java/util/ArrayList" "size" "I", Cond.methodLink RX4 156 yJx4a65c_get_915e3, Cond.instanceMethod yJx4a65c_get_915e3, Cond.selects RJx4a65c yJx4a65c_get_915e3 yJx4a65c_get_915e3, Cond.code yJx4a65c_get_915e3 cJx4a65c_get_915e3 2 (some (.object "java/lang/Object")), Cond.methodLink RJx4a65c 118 yJ15_checkIndex_7cf53, Cond.static yJ15_checkIndex_7cf53, Cond.initialized RJ15, Cond.code yJ15_checkIndex_7cf53 cJ15_checkIndex_7cf53 2 (some .int), Cond.methodLink RJ15 105 yJ3_checkIndex_8e157, Cond.static yJ3_checkIndex_8e157]
def wsX4_ticksUntilOneMayGo_r2 : List Cond := [Cond.initialized RJ3, Cond.code yJ3_checkIndex_8e157 cJ3_checkIndex_8e157 3 (some .int), Cond.methodLink RJx4a65c 123 yJx4a65c_elementData_915e3, Cond.instanceMethod yJx4a65c_elementData_915e3, Cond.selects RJx4a65c yJx4a65c_elementData_915e3 yJx4a65c_elementData_915e3, Cond.code yJx4a65c_elementData_915e3 cJx4a65c_elementData_915e3 2 (some (.object "java/lang/Object")), Cond.fieldLink RJx4a65c 9 "java/util/ArrayList" "elementData" "[Ljava/lang/Object;", Cond.methodLink RX4 236 yX2_ticksUntilMayGo, Cond.instanceMethod yX2_ticksUntilMayGo, Cond.selects RX2 yX2_ticksUntilMayGo yX2_ticksUntilMayGo, Cond.initialized RX2, Cond.code yX2_ticksUntilMayGo cX2_ticksUntilMayGo 4 (some .long), Cond.fieldLink RX2 42 "LinkShaper$Leaf" "first" "LLinkShaper$Packet;", Cond.constantLong RX2 105 (2147483647), Cond.fieldLink RX2 22 "LinkShaper$Leaf" "ceiling" "LLinkShaper$Bucket;", Cond.fieldLink RX2 77 "LinkShaper$Packet" "size" "I", Cond.fieldLink RX2 9 "LinkShaper$Leaf" "group" "LLinkShaper$Group;", Cond.fieldLink RX2 94 "LinkShaper$Group" "ceiling" "LLinkShaper$Bucket;", Cond.methodLink RX2 55 Lib.MathLoose.max_long.x, Cond.static Lib.MathLoose.max_long.x, Cond.code Lib.MathLoose.max_long.x Lib.MathLoose.max_long.code 4 (some .long), Cond.methodLink RX2 110 Lib.MathLoose.min_long.x, Cond.methodLink RX2 107 yX0_ticksUntilCovers, Cond.instanceMethod yX0_ticksUntilCovers]
def wsX4_ticksUntilOneMayGo_r3 : List Cond := [Cond.selects RX0 yX0_ticksUntilCovers yX0_ticksUntilCovers, Cond.initialized RX0, Cond.code yX0_ticksUntilCovers cX0_ticksUntilCovers 4 (some .long), Cond.constantLong RX0 15 (1000), Cond.fieldLink RX0 21 "LinkShaper$Bucket" "level" "J", Cond.fieldLink RX0 9 "LinkShaper$Bucket" "rate" "I", Cond.constantLong RX0 30 (2147483647), Cond.methodLink RX2 90 yX2_start, Cond.instanceMethod yX2_start, Cond.selects RX2 yX2_start yX2_start, Cond.code yX2_start cX2_start 1 (some .int), Cond.fieldLink RX2 19 "LinkShaper$Leaf" "guarantee" "I", Cond.constant RX2 80 (2147483647), Cond.fieldLink RX2 81 "LinkShaper$Leaf" "clock" "I", Cond.fieldLink RX2 84 "LinkShaper$Packet" "came" "I", Cond.methodLink RX2 87 Lib.Math.max.name, Cond.static Lib.Math.max.name, Cond.code Lib.Math.max.name Lib.Math.max.code 2 (some .int)]
def wsX4_ticksUntilOneMayGo : List Cond := .code yX4_ticksUntilOneMayGo cX4_ticksUntilOneMayGo 4 (some .int) :: ((wsX4_ticksUntilOneMayGo_r1 ++ (wsX4_ticksUntilOneMayGo_r2 ++ wsX4_ticksUntilOneMayGo_r3)) ++ wsX40 ++ wsJx4a65c0 ++ wsX20 ++ wsX30 ++ wsX10 ++ wsX00)
def wsX4_passIdle_r1 : List Cond := [Cond.methodLink RX4 197 yX4_countHeld, Cond.instanceMethod yX4_countHeld, Cond.selects RX4 yX4_countHeld yX4_countHeld, Cond.initialized RX4, Cond.code yX4_countHeld cX4_countHeld 4 none, Cond.fieldLink RX4 18 "LinkShaper" "leaves" "Ljava/util/ArrayList;", Cond.classLink RX4 86 "LinkShaper$Leaf", Cond.fieldLink RX4 248 "LinkShaper$Leaf" "heldTicks" "I", Cond.methodLink RX4 44 yJx4a65c_size_8abf5, Cond.instanceMethod yJx4a65c_size_8abf5, Cond.selects RJx4a65c yJx4a65c_size_8abf5 yJx4a65c_size_8abf5, Cond.initialized RJx4a65c, Cond.code yJx4a65c_size_8abf5 cJx4a65c_size_8abf5 1 (some .int), Cond.fieldLink RJx4a65c 48 "java/util/ArrayList" "size" "I", Cond.methodLink RX4 156 yJx4a65c_get_915e3, Cond.instanceMethod yJx4a65c_get_915e3, Cond.selects RJx4a65c yJx4a65c_get_915e3 yJx4a65c_get_915e3, Cond.code yJx4a65c_get_915e3 cJx4a65c_get_915e3 2 (some (.object "java/lang/Object")), Cond.methodLink RJx4a65c 118 yJ15_checkIndex_7cf53, Cond.static yJ15_checkIndex_7cf53, Cond.initialized RJ15, Cond.code yJ15_checkIndex_7cf53 cJ15_checkIndex_7cf53 2 (some .int), Cond.methodLink RJ15 105 yJ3_checkIndex_8e157, Cond.static yJ3_checkIndex_8e157]
def wsX4_passIdle_r2 : List Cond := [Cond.initialized RJ3, Cond.code yJ3_checkIndex_8e157 cJ3_checkIndex_8e157 3 (some .int), Cond.methodLink RJx4a65c 123 yJx4a65c_elementData_915e3, Cond.instanceMethod yJx4a65c_elementData_915e3, Cond.selects RJx4a65c yJx4a65c_elementData_915e3 yJx4a65c_elementData_915e3, Cond.code yJx4a65c_elementData_915e3 cJx4a65c_elementData_915e3 2 (some (.object "java/lang/Object")), Cond.fieldLink RJx4a65c 9 "java/util/ArrayList" "elementData" "[Ljava/lang/Object;", Cond.methodLink RX4 245 yX2_isHeld, Cond.instanceMethod yX2_isHeld, Cond.selects RX2 yX2_isHeld yX2_isHeld, Cond.initialized RX2, Cond.code yX2_isHeld cX2_isHeld 1 (some .boolean), Cond.fieldLink RX2 42 "LinkShaper$Leaf" "first" "LLinkShaper$Packet;", Cond.methodLink RX2 95 yX2_isReady, Cond.instanceMethod yX2_isReady, Cond.selects RX2 yX2_isReady yX2_isReady, Cond.code yX2_isReady cX2_isReady 1 (some .boolean), Cond.fieldLink RX2 22 "LinkShaper$Leaf" "ceiling" "LLinkShaper$Bucket;", Cond.fieldLink RX2 77 "LinkShaper$Packet" "size" "I", Cond.fieldLink RX2 9 "LinkShaper$Leaf" "group" "LLinkShaper$Group;", Cond.fieldLink RX2 94 "LinkShaper$Group" "ceiling" "LLinkShaper$Bucket;", Cond.methodLink RX2 32 yX0_covers, Cond.instanceMethod yX0_covers, Cond.selects RX0 yX0_covers yX0_covers]
def wsX4_passIdle_r3 : List Cond := [Cond.initialized RX0, Cond.code yX0_covers cX0_covers 2 (some .boolean), Cond.fieldLink RX0 21 "LinkShaper$Bucket" "level" "J", Cond.constantLong RX0 15 (1000), Cond.methodLink RX4 242 yX4_pass, Cond.instanceMethod yX4_pass, Cond.selects RX4 yX4_pass yX4_pass, Cond.code yX4_pass cX4_pass 4 none, Cond.fieldLink RX4 12 "LinkShaper" "groups" "Ljava/util/ArrayList;", Cond.classLink RX4 56 "LinkShaper$Group", Cond.fieldLink RX4 171 "LinkShaper$Group" "ceiling" "LLinkShaper$Bucket;", Cond.fieldLink RX4 165 "LinkShaper$Leaf" "ceiling" "LLinkShaper$Bucket;", Cond.fieldLink RX4 96 "LinkShaper$Leaf" "policer" "LLinkShaper$Bucket;", Cond.fieldLink RX4 27 "LinkShaper" "tick" "I", Cond.methodLink RX4 251 yX0_fill, Cond.instanceMethod yX0_fill, Cond.selects RX0 yX0_fill yX0_fill, Cond.code yX0_fill cX0_fill 2 none, Cond.fieldLink RX0 17 "LinkShaper$Bucket" "most" "J", Cond.fieldLink RX0 9 "LinkShaper$Bucket" "rate" "I", Cond.methodLink RX0 24 Lib.MathLoose.min_long.x, Cond.static Lib.MathLoose.min_long.x, Cond.initialized "java/lang/Math", Cond.code Lib.MathLoose.min_long.x Lib.MathLoose.min_long.code 4 (some .long)]
def wsX4_passIdle : List Cond := .code yX4_passIdle cX4_passIdle 2 none :: ((wsX4_passIdle_r1 ++ (wsX4_passIdle_r2 ++ wsX4_passIdle_r3)) ++ wsX40 ++ wsX20 ++ wsJx4a65c0 ++ wsX30 ++ wsX10 ++ wsX00)
def wsX4_run_r1 : List Cond := [Cond.constant RX4 135 (100000), Cond.fieldLink RX4 27 "LinkShaper" "tick" "I", Cond.constant RX4 136 (1000000000), Cond.fieldLink RX4 24 "LinkShaper" "begun" "Ljava/util/ArrayList;", Cond.fieldLink RX4 31 "LinkShaper" "freeAt" "I", Cond.methodLink RX4 140 Lib.Math.min.name, Cond.static Lib.Math.min.name, Cond.initialized "java/lang/Math", Cond.code Lib.Math.min.name Lib.Math.min.code 2 (some .int), Cond.methodLink RX4 75 yX4_isWithin, Cond.static yX4_isWithin, Cond.initialized RX4, Cond.code yX4_isWithin cX4_isWithin 3 (some .boolean), Cond.methodLink RX4 44 yJx4a65c_size_8abf5, Cond.instanceMethod yJx4a65c_size_8abf5, Cond.selects RJx4a65c yJx4a65c_size_8abf5 yJx4a65c_size_8abf5, Cond.initialized RJx4a65c, Cond.code yJx4a65c_size_8abf5 cJx4a65c_size_8abf5 1 (some .int), Cond.fieldLink RJx4a65c 48 "java/util/ArrayList" "size" "I", Cond.methodLink RX4 137 yX4_beginOne, Cond.instanceMethod yX4_beginOne, Cond.selects RX4 yX4_beginOne yX4_beginOne, Cond.code yX4_beginOne cX4_beginOne 3 none, Cond.fieldLink RX4 40 "LinkShaper" "mark" "J"]
def wsX4_run_r2 : List Cond := [Cond.methodLink RX4 204 Lib.MathLoose.max_long.x, Cond.static Lib.MathLoose.max_long.x, Cond.code Lib.MathLoose.max_long.x Lib.MathLoose.max_long.code 4 (some .long), Cond.methodLink RX4 183 yX4_pickDue, Cond.instanceMethod yX4_pickDue, Cond.selects RX4 yX4_pickDue yX4_pickDue, Cond.code yX4_pickDue cX4_pickDue 4 (some (.object "LinkShaper$Leaf")), Cond.fieldLink RX4 18 "LinkShaper" "leaves" "Ljava/util/ArrayList;", Cond.classLink RX4 86 "LinkShaper$Leaf", Cond.methodLink RX4 156 yJx4a65c_get_915e3, Cond.instanceMethod yJx4a65c_get_915e3, Cond.selects RJx4a65c yJx4a65c_get_915e3 yJx4a65c_get_915e3, Cond.code yJx4a65c_get_915e3 cJx4a65c_get_915e3 2 (some (.object "java/lang/Object")), Cond.methodLink RJx4a65c 118 yJ15_checkIndex_7cf53, Cond.static yJ15_checkIndex_7cf53, Cond.initialized RJ15, Cond.code yJ15_checkIndex_7cf53 cJ15_checkIndex_7cf53 2 (some .int), Cond.methodLink RJ15 105 yJ3_checkIndex_8e157, Cond.static yJ3_checkIndex_8e157, Cond.initialized RJ3, Cond.code yJ3_checkIndex_8e157 cJ3_checkIndex_8e157 3 (some .int), Cond.methodLink RJx4a65c 123 yJx4a65c_elementData_915e3, Cond.instanceMethod yJx4a65c_elementData_915e3, Cond.selects RJx4a65c yJx4a65c_elementData_915e3 yJx4a65c_elementData_915e3]
def wsX4_run_r3 : List Cond := [Cond.code yJx4a65c_elementData_915e3 cJx4a65c_elementData_915e3 2 (some (.object "java/lang/Object")), Cond.fieldLink RJx4a65c 9 "java/util/ArrayList" "elementData" "[Ljava/lang/Object;", Cond.methodLink RX4 213 yX2_start, Cond.instanceMethod yX2_start, Cond.selects RX2 yX2_start yX2_start, Cond.initialized RX2, Cond.code yX2_start cX2_start 1 (some .int), Cond.fieldLink RX2 42 "LinkShaper$Leaf" "first" "LLinkShaper$Packet;", Cond.fieldLink RX2 19 "LinkShaper$Leaf" "guarantee" "I", Cond.constant RX2 80 (2147483647), Cond.fieldLink RX2 81 "LinkShaper$Leaf" "clock" "I", Cond.fieldLink RX2 84 "LinkShaper$Packet" "came" "I", Cond.methodLink RX2 87 Lib.Math.max.name, Cond.static Lib.Math.max.name, Cond.code Lib.Math.max.name Lib.Math.max.code 2 (some .int), Cond.methodLink RX4 216 yX2_deadline, Cond.instanceMethod yX2_deadline, Cond.selects RX2 yX2_deadline yX2_deadline, Cond.code yX2_deadline cX2_deadline 1 (some .int), Cond.fieldLink RX2 77 "LinkShaper$Packet" "size" "I", Cond.methodLink RX2 90 yX2_start, Cond.methodLink RX4 187 yX2_sendDue, Cond.instanceMethod yX2_sendDue, Cond.selects RX2 yX2_sendDue yX2_sendDue]
def wsX4_run_r4 : List Cond := [Cond.code yX2_sendDue cX2_sendDue 4 (some (.object "LinkShaper$Packet")), Cond.fieldLink RX2 120 "LinkShaper$Packet" "way" "I", Cond.fieldLink RX2 123 "LinkShaper$Packet" "deadline" "I", Cond.fieldLink RX2 125 "LinkShaper$Leaf" "dueBytes" "I", Cond.methodLink RX2 113 yX2_deadline, Cond.methodLink RX2 116 yX2_removeFirst, Cond.instanceMethod yX2_removeFirst, Cond.selects RX2 yX2_removeFirst yX2_removeFirst, Cond.code yX2_removeFirst cX2_removeFirst 3 (some (.object "LinkShaper$Packet")), Cond.fieldLink RX2 68 "LinkShaper$Packet" "next" "LLinkShaper$Packet;", Cond.fieldLink RX2 65 "LinkShaper$Leaf" "last" "LLinkShaper$Packet;", Cond.fieldLink RX2 138 "LinkShaper$Packet" "began" "I", Cond.fieldLink RX2 73 "LinkShaper$Leaf" "waiting" "I", Cond.fieldLink RX2 74 "LinkShaper$Leaf" "bytes" "I", Cond.fieldLink RX2 9 "LinkShaper$Leaf" "group" "LLinkShaper$Group;", Cond.fieldLink RX2 61 "LinkShaper$Group" "waiting" "I", Cond.fieldLink RX2 22 "LinkShaper$Leaf" "ceiling" "LLinkShaper$Bucket;", Cond.fieldLink RX2 94 "LinkShaper$Group" "ceiling" "LLinkShaper$Bucket;", Cond.methodLink RX2 38 yX0_take, Cond.instanceMethod yX0_take, Cond.selects RX0 yX0_take yX0_take, Cond.initialized RX0, Cond.code yX0_take cX0_take 2 none, Cond.fieldLink RX0 21 "LinkShaper$Bucket" "level" "J"]
def wsX4_run_r5 : List Cond := [Cond.constantLong RX0 15 (1000), Cond.methodLink RX4 191 yX4_putOnLink, Cond.instanceMethod yX4_putOnLink, Cond.selects RX4 yX4_putOnLink yX4_putOnLink, Cond.code yX4_putOnLink cX4_putOnLink 2 none, Cond.fieldLink RX4 211 "LinkShaper$Packet" "size" "I", Cond.methodLink RX4 66 yJx4a65c_add_9ea2d, Cond.instanceMethod yJx4a65c_add_9ea2d, Cond.selects RJx4a65c yJx4a65c_add_9ea2d yJx4a65c_add_9ea2d, Cond.code yJx4a65c_add_9ea2d cJx4a65c_add_9ea2d 2 (some .boolean), Cond.fieldLink RJx4a65c 63 "java/util/ArrayList" "modCount" "I", Cond.sameField "java/util/ArrayList" "java/util/AbstractList" "modCount" "I", Cond.methodLink RJx4a65c 131 yJx4a65c_add_72be8, Cond.instanceMethod yJx4a65c_add_72be8, Cond.selects RJx4a65c yJx4a65c_add_72be8 yJx4a65c_add_72be8, Cond.code yJx4a65c_add_72be8 cJx4a65c_add_72be8 4 none, Cond.methodLink RJx4a65c 129 yJx4a65c_grow_d5877, Cond.instanceMethod yJx4a65c_grow_d5877, Cond.selects RJx4a65c yJx4a65c_grow_d5877 yJx4a65c_grow_d5877, Cond.code yJx4a65c_grow_d5877 cJx4a65c_grow_d5877 1 (some (.array (.object "java/lang/Object"))), Cond.methodLink RJx4a65c 69 yJx4a65c_grow_92f84, Cond.instanceMethod yJx4a65c_grow_92f84, Cond.selects RJx4a65c yJx4a65c_grow_92f84 yJx4a65c_grow_92f84, Cond.code yJx4a65c_grow_92f84 cJx4a65c_grow_92f84 4 (some (.array (.object "java/lang/Object")))]
def wsX4_run_r6 : List Cond := [Cond.fieldLink RJx4a65c 39 "java/util/ArrayList" "DEFAULTCAPACITY_EMPTY_ELEMENTDATA" "[Ljava/lang/Object;", Cond.methodLink RJx4a65c 79 Lib.Math.max.name, Cond.classLink RJx4a65c 7 "java/lang/Object", Cond.methodLink RJx4a65c 73 yJ8_newLength_cabcc, Cond.static yJ8_newLength_cabcc, Cond.initialized RJ8, Cond.code yJ8_newLength_cabcc cJ8_newLength_cabcc 4 (some .int), Cond.methodLink RJ8 194 Lib.Math.max.name, Cond.constant RJ8 200 (2147483639), Cond.methodLink RJ8 201 yJ8_hugeLength_7cf53, Cond.static yJ8_hugeLength_7cf53, Cond.code yJ8_hugeLength_7cf53 cJ8_hugeLength_7cf53 3 (some .int), Cond.methodLink RJx4a65c 66 yJ7_copyOf_1904c, Cond.static yJ7_copyOf_1904c, Cond.initialized RJ7, Cond.code yJ7_copyOf_1904c cJ7_copyOf_1904c 2 (some (.array (.object "java/lang/Object"))), Cond.methodLink RJ7 86 ⟨"java/lang/Object", "getClass", "()Ljava/lang/Class;"⟩, Cond.selects "[Ljava/lang/Object;" ⟨"java/lang/Object", "getClass", "()Ljava/lang/Class;"⟩ ⟨"java/lang/Object", "getClass", "()Ljava/lang/Class;"⟩, Cond.instanceMethod ⟨"java/lang/Object", "getClass", "()Ljava/lang/Class;"⟩, Cond.native ⟨"java/lang/Object", "getClass", "()Ljava/lang/Class;"⟩, Cond.methodLink RJ7 300 yJ7_copyOf_6403c, Cond.static yJ7_copyOf_6403c, Cond.code yJ7_copyOf_6403c cJ7_copyOf_6403c 4 (some (.array (.object "java/lang/Object"))), Cond.classLink RJ7 110 "[Ljava/lang/Object;"]
def wsX4_run_r7 : List Cond := [Cond.classLink RJ7 2 "java/lang/Object", Cond.methodLink RJ7 304 Lib.Math.min.name, Cond.methodLink RJ7 150 arraycopyName, Cond.native arraycopyName, Cond.static arraycopyName, Cond.initialized "java/lang/System", Cond.methodLink RX4 194 yX4_pickExcess, Cond.instanceMethod yX4_pickExcess, Cond.selects RX4 yX4_pickExcess yX4_pickExcess, Cond.code yX4_pickExcess cX4_pickExcess 4 (some (.object "LinkShaper$Leaf")), Cond.fieldLink RX4 12 "LinkShaper" "groups" "Ljava/util/ArrayList;", Cond.classLink RX4 56 "LinkShaper$Group", Cond.methodLink RX4 219 yX4_pickExcessOf, Cond.instanceMethod yX4_pickExcessOf, Cond.selects RX4 yX4_pickExcessOf yX4_pickExcessOf, Cond.code yX4_pickExcessOf cX4_pickExcessOf 5 (some (.object "LinkShaper$Leaf")), Cond.fieldLink RX4 223 "LinkShaper$Leaf" "group" "LLinkShaper$Group;", Cond.methodLink RX4 227 yX2_isReady, Cond.instanceMethod yX2_isReady, Cond.selects RX2 yX2_isReady yX2_isReady, Cond.code yX2_isReady cX2_isReady 1 (some .boolean), Cond.methodLink RX2 32 yX0_covers, Cond.instanceMethod yX0_covers, Cond.selects RX0 yX0_covers yX0_covers]
def wsX4_run_r8 : List Cond := [Cond.code yX0_covers cX0_covers 2 (some .boolean), Cond.methodLink RX4 231 yX2_tagInLeaf, Cond.instanceMethod yX2_tagInLeaf, Cond.selects RX2 yX2_tagInLeaf yX2_tagInLeaf, Cond.code yX2_tagInLeaf cX2_tagInLeaf 1 (some .long), Cond.fieldLink RX2 15 "LinkShaper$Leaf" "weight" "I", Cond.fieldLink RX2 46 "LinkShaper$Leaf" "sum" "J", Cond.constantLong RX2 99 (27720), Cond.methodLink RX4 200 yX2_tagInGroup, Cond.instanceMethod yX2_tagInGroup, Cond.selects RX2 yX2_tagInGroup yX2_tagInGroup, Cond.code yX2_tagInGroup cX2_tagInGroup 1 (some .long), Cond.fieldLink RX2 64 "LinkShaper$Group" "sum" "J", Cond.methodLink RX2 101 yX1_tagOf, Cond.instanceMethod yX1_tagOf, Cond.selects RX1 yX1_tagOf yX1_tagOf, Cond.initialized RX1, Cond.code yX1_tagOf cX1_tagOf 2 (some .long), Cond.fieldLink RX1 9 "LinkShaper$Group" "weight" "I", Cond.fieldLink RX1 19 "LinkShaper$Group" "sum" "J", Cond.constantLong RX1 23 (27720), Cond.methodLink RX4 197 yX4_countHeld, Cond.instanceMethod yX4_countHeld, Cond.selects RX4 yX4_countHeld yX4_countHeld]
def wsX4_run_r9 : List Cond := [Cond.code yX4_countHeld cX4_countHeld 4 none, Cond.fieldLink RX4 248 "LinkShaper$Leaf" "heldTicks" "I", Cond.methodLink RX4 245 yX2_isHeld, Cond.instanceMethod yX2_isHeld, Cond.selects RX2 yX2_isHeld yX2_isHeld, Cond.code yX2_isHeld cX2_isHeld 1 (some .boolean), Cond.methodLink RX2 95 yX2_isReady, Cond.methodLink RX4 208 yX2_sendExcess, Cond.instanceMethod yX2_sendExcess, Cond.selects RX2 yX2_sendExcess yX2_sendExcess, Cond.code yX2_sendExcess cX2_sendExcess 7 (some (.object "LinkShaper$Packet")), Cond.fieldLink RX2 50 "LinkShaper$Group" "mark" "J", Cond.methodLink RX2 55 Lib.MathLoose.max_long.x, Cond.fieldLink RX2 135 "LinkShaper$Leaf" "excessBytes" "I", Cond.methodLink RX2 128 yX2_tagInLeaf, Cond.methodLink RX2 132 yX2_tagInGroup, Cond.methodLink RX4 146 yX4_passBusy, Cond.instanceMethod yX4_passBusy, Cond.selects RX4 yX4_passBusy yX4_passBusy, Cond.code yX4_passBusy cX4_passBusy 2 none, Cond.fieldLink RX4 34 "LinkShaper" "busyTicks" "I", Cond.methodLink RX4 242 yX4_pass, Cond.instanceMethod yX4_pass, Cond.selects RX4 yX4_pass yX4_pass]
def wsX4_run_r10 : List Cond := [Cond.code yX4_pass cX4_pass 4 none, Cond.fieldLink RX4 171 "LinkShaper$Group" "ceiling" "LLinkShaper$Bucket;", Cond.fieldLink RX4 165 "LinkShaper$Leaf" "ceiling" "LLinkShaper$Bucket;", Cond.fieldLink RX4 96 "LinkShaper$Leaf" "policer" "LLinkShaper$Bucket;", Cond.methodLink RX4 251 yX0_fill, Cond.instanceMethod yX0_fill, Cond.selects RX0 yX0_fill yX0_fill, Cond.code yX0_fill cX0_fill 2 none, Cond.fieldLink RX0 17 "LinkShaper$Bucket" "most" "J", Cond.fieldLink RX0 9 "LinkShaper$Bucket" "rate" "I", Cond.methodLink RX0 24 Lib.MathLoose.min_long.x, Cond.static Lib.MathLoose.min_long.x, Cond.code Lib.MathLoose.min_long.x Lib.MathLoose.min_long.code 4 (some .long), Cond.methodLink RX4 150 yX4_ticksUntilOneMayGo, Cond.instanceMethod yX4_ticksUntilOneMayGo, Cond.selects RX4 yX4_ticksUntilOneMayGo yX4_ticksUntilOneMayGo, Cond.code yX4_ticksUntilOneMayGo cX4_ticksUntilOneMayGo 4 (some .int), Cond.constantLong RX4 234 (2147483647), Cond.methodLink RX4 240 Lib.MathLoose.min_long.x, Cond.methodLink RX4 236 yX2_ticksUntilMayGo, Cond.instanceMethod yX2_ticksUntilMayGo, Cond.selects RX2 yX2_ticksUntilMayGo yX2_ticksUntilMayGo, Cond.code yX2_ticksUntilMayGo cX2_ticksUntilMayGo 4 (some .long), Cond.constantLong RX2 105 (2147483647)]
def wsX4_run_r11 : List Cond := [Cond.methodLink RX2 110 Lib.MathLoose.min_long.x, Cond.methodLink RX2 107 yX0_ticksUntilCovers, Cond.instanceMethod yX0_ticksUntilCovers, Cond.selects RX0 yX0_ticksUntilCovers yX0_ticksUntilCovers, Cond.code yX0_ticksUntilCovers cX0_ticksUntilCovers 4 (some .long), Cond.constantLong RX0 30 (2147483647), Cond.methodLink RX4 153 yX4_passIdle, Cond.instanceMethod yX4_passIdle, Cond.selects RX4 yX4_passIdle yX4_passIdle, Cond.code yX4_passIdle cX4_passIdle 2 none]
def wsX4_run : List Cond := .code yX4_run cX4_run 5 (some .int) :: ((wsX4_run_r1 ++ (wsX4_run_r2 ++ (wsX4_run_r3 ++ (wsX4_run_r4 ++ (wsX4_run_r5 ++ (wsX4_run_r6 ++ (wsX4_run_r7 ++ (wsX4_run_r8 ++ (wsX4_run_r9 ++ (wsX4_run_r10 ++ wsX4_run_r11)))))))))) ++ wsX40 ++ wsJx4a65c0 ++ wsX20 ++ wsX30 ++ wsX10 ++ wsX00)
def wsX4_now : List Cond := .code yX4_now cX4_now 1 (some .int) :: ([.fieldLink RX4 27 "LinkShaper" "tick" "I"] ++ wsX40)
def wsX4_packet_r1 : List Cond := [Cond.fieldLink RX4 21 "LinkShaper" "packets" "Ljava/util/ArrayList;", Cond.classLink RX4 119 "LinkShaper$Packet", Cond.methodLink RX4 44 yJx4a65c_size_8abf5, Cond.instanceMethod yJx4a65c_size_8abf5, Cond.selects RJx4a65c yJx4a65c_size_8abf5 yJx4a65c_size_8abf5, Cond.initialized RJx4a65c, Cond.code yJx4a65c_size_8abf5 cJx4a65c_size_8abf5 1 (some .int), Cond.fieldLink RJx4a65c 48 "java/util/ArrayList" "size" "I", Cond.methodLink RX4 156 yJx4a65c_get_915e3, Cond.instanceMethod yJx4a65c_get_915e3, Cond.selects RJx4a65c yJx4a65c_get_915e3 yJx4a65c_get_915e3, Cond.code yJx4a65c_get_915e3 cJx4a65c_get_915e3 2 (some (.object "java/lang/Object")), Cond.methodLink RJx4a65c 118 yJ15_checkIndex_7cf53, Cond.static yJ15_checkIndex_7cf53, Cond.initialized RJ15, Cond.code yJ15_checkIndex_7cf53 cJ15_checkIndex_7cf53 2 (some .int), Cond.methodLink RJ15 105 yJ3_checkIndex_8e157, Cond.static yJ3_checkIndex_8e157, Cond.initialized RJ3, Cond.code yJ3_checkIndex_8e157 cJ3_checkIndex_8e157 3 (some .int), Cond.methodLink RJx4a65c 123 yJx4a65c_elementData_915e3, Cond.instanceMethod yJx4a65c_elementData_915e3, Cond.selects RJx4a65c yJx4a65c_elementData_915e3 yJx4a65c_elementData_915e3, Cond.code yJx4a65c_elementData_915e3 cJx4a65c_elementData_915e3 2 (some (.object "java/lang/Object"))]
def wsX4_packet_r2 : List Cond := [Cond.fieldLink RJx4a65c 9 "java/util/ArrayList" "elementData" "[Ljava/lang/Object;", Cond.methodLink RX4 160 yX3_figure, Cond.instanceMethod yX3_figure, Cond.selects RX3 yX3_figure yX3_figure, Cond.initialized RX3, Cond.code yX3_figure cX3_figure 2 (some .int), Cond.fieldLink RX3 15 "LinkShaper$Packet" "leaf" "I", Cond.fieldLink RX3 18 "LinkShaper$Packet" "size" "I", Cond.fieldLink RX3 21 "LinkShaper$Packet" "came" "I", Cond.fieldLink RX3 28 "LinkShaper$Packet" "began" "I", Cond.fieldLink RX3 31 "LinkShaper$Packet" "way" "I", Cond.fieldLink RX3 34 "LinkShaper$Packet" "deadline" "I", Cond.fieldLink RX3 24 "LinkShaper$Packet" "marked" "Z"]
def wsX4_packet : List Cond := .code yX4_packet cX4_packet 3 (some .int) :: ((wsX4_packet_r1 ++ wsX4_packet_r2) ++ wsX40 ++ wsJx4a65c0 ++ wsX30)
def wsX4_sent_r1 : List Cond := [Cond.fieldLink RX4 24 "LinkShaper" "begun" "Ljava/util/ArrayList;", Cond.classLink RX4 119 "LinkShaper$Packet", Cond.fieldLink RX4 132 "LinkShaper$Packet" "number" "I", Cond.methodLink RX4 44 yJx4a65c_size_8abf5, Cond.instanceMethod yJx4a65c_size_8abf5, Cond.selects RJx4a65c yJx4a65c_size_8abf5 yJx4a65c_size_8abf5, Cond.initialized RJx4a65c, Cond.code yJx4a65c_size_8abf5 cJx4a65c_size_8abf5 1 (some .int), Cond.fieldLink RJx4a65c 48 "java/util/ArrayList" "size" "I", Cond.methodLink RX4 156 yJx4a65c_get_915e3, Cond.instanceMethod yJx4a65c_get_915e3, Cond.selects RJx4a65c yJx4a65c_get_915e3 yJx4a65c_get_915e3, Cond.code yJx4a65c_get_915e3 cJx4a65c_get_915e3 2 (some (.object "java/lang/Object")), Cond.methodLink RJx4a65c 118 yJ15_checkIndex_7cf53, Cond.static yJ15_checkIndex_7cf53, Cond.initialized RJ15, Cond.code yJ15_checkIndex_7cf53 cJ15_checkIndex_7cf53 2 (some .int), Cond.methodLink RJ15 105 yJ3_checkIndex_8e157, Cond.static yJ3_checkIndex_8e157, Cond.initialized RJ3, Cond.code yJ3_checkIndex_8e157 cJ3_checkIndex_8e157 3 (some .int), Cond.methodLink RJx4a65c 123 yJx4a65c_elementData_915e3, Cond.instanceMethod yJx4a65c_elementData_915e3, Cond.selects RJx4a65c yJx4a65c_elementData_915e3 yJx4a65c_elementData_915e3]
def wsX4_sent_r2 : List Cond := [Cond.code yJx4a65c_elementData_915e3 cJx4a65c_elementData_915e3 2 (some (.object "java/lang/Object")), Cond.fieldLink RJx4a65c 9 "java/util/ArrayList" "elementData" "[Ljava/lang/Object;"]
def wsX4_sent : List Cond := .code yX4_sent cX4_sent 2 (some .int) :: ((wsX4_sent_r1 ++ wsX4_sent_r2) ++ wsX40 ++ wsX30 ++ wsJx4a65c0)
def wsX4_about_r1 : List Cond := [Cond.methodLink RX4 92 yX4_leafAt, Cond.instanceMethod yX4_leafAt, Cond.selects RX4 yX4_leafAt yX4_leafAt, Cond.initialized RX4, Cond.code yX4_leafAt cX4_leafAt 2 (some (.object "LinkShaper$Leaf")), Cond.fieldLink RX4 18 "LinkShaper" "leaves" "Ljava/util/ArrayList;", Cond.classLink RX4 86 "LinkShaper$Leaf", Cond.methodLink RX4 44 yJx4a65c_size_8abf5, Cond.instanceMethod yJx4a65c_size_8abf5, Cond.selects RJx4a65c yJx4a65c_size_8abf5 yJx4a65c_size_8abf5, Cond.initialized RJx4a65c, Cond.code yJx4a65c_size_8abf5 cJx4a65c_size_8abf5 1 (some .int), Cond.fieldLink RJx4a65c 48 "java/util/ArrayList" "size" "I", Cond.methodLink RX4 156 yJx4a65c_get_915e3, Cond.instanceMethod yJx4a65c_get_915e3, Cond.selects RJx4a65c yJx4a65c_get_915e3 yJx4a65c_get_915e3, Cond.code yJx4a65c_get_915e3 cJx4a65c_get_915e3 2 (some (.object "java/lang/Object")), Cond.methodLink RJx4a65c 118 yJ15_checkIndex_7cf53, Cond.static yJ15_checkIndex_7cf53, Cond.initialized RJ15, Cond.code yJ15_checkIndex_7cf53 cJ15_checkIndex_7cf53 2 (some .int), Cond.methodLink RJ15 105 yJ3_checkIndex_8e157, Cond.static yJ3_checkIndex_8e157, Cond.initialized RJ3]
def wsX4_about_r2 : List Cond := [Cond.code yJ3_checkIndex_8e157 cJ3_checkIndex_8e157 3 (some .int), Cond.methodLink RJx4a65c 123 yJx4a65c_elementData_915e3, Cond.instanceMethod yJx4a65c_elementData_915e3, Cond.selects RJx4a65c yJx4a65c_elementData_915e3 yJx4a65c_elementData_915e3, Cond.code yJx4a65c_elementData_915e3 cJx4a65c_elementData_915e3 2 (some (.object "java/lang/Object")), Cond.fieldLink RJx4a65c 9 "java/util/ArrayList" "elementData" "[Ljava/lang/Object;", Cond.methodLink RX4 164 yX2_figure, Cond.instanceMethod yX2_figure, Cond.selects RX2 yX2_figure yX2_figure, Cond.initialized RX2, Cond.code yX2_figure cX2_figure 2 (some .int), Cond.fieldLink RX2 73 "LinkShaper$Leaf" "waiting" "I", Cond.fieldLink RX2 74 "LinkShaper$Leaf" "bytes" "I", Cond.fieldLink RX2 125 "LinkShaper$Leaf" "dueBytes" "I", Cond.fieldLink RX2 135 "LinkShaper$Leaf" "excessBytes" "I", Cond.fieldLink RX2 141 "LinkShaper$Leaf" "refusedByPolicer" "I", Cond.fieldLink RX2 144 "LinkShaper$Leaf" "refusedByLimit" "I", Cond.fieldLink RX2 81 "LinkShaper$Leaf" "clock" "I", Cond.fieldLink RX2 147 "LinkShaper$Leaf" "heldTicks" "I"]
def wsX4_about : List Cond := .code yX4_about cX4_about 4 (some .int) :: ((wsX4_about_r1 ++ wsX4_about_r2) ++ wsX40 ++ wsJx4a65c0 ++ wsX20)
def wsX4_tokens_r1 : List Cond := [Cond.fieldLink RX4 165 "LinkShaper$Leaf" "ceiling" "LLinkShaper$Bucket;", Cond.fieldLink RX4 168 "LinkShaper$Bucket" "level" "J", Cond.fieldLink RX4 171 "LinkShaper$Group" "ceiling" "LLinkShaper$Bucket;", Cond.fieldLink RX4 96 "LinkShaper$Leaf" "policer" "LLinkShaper$Bucket;", Cond.methodLink RX4 92 yX4_leafAt, Cond.instanceMethod yX4_leafAt, Cond.selects RX4 yX4_leafAt yX4_leafAt, Cond.initialized RX4, Cond.code yX4_leafAt cX4_leafAt 2 (some (.object "LinkShaper$Leaf")), Cond.fieldLink RX4 18 "LinkShaper" "leaves" "Ljava/util/ArrayList;", Cond.classLink RX4 86 "LinkShaper$Leaf", Cond.methodLink RX4 44 yJx4a65c_size_8abf5, Cond.instanceMethod yJx4a65c_size_8abf5, Cond.selects RJx4a65c yJx4a65c_size_8abf5 yJx4a65c_size_8abf5, Cond.initialized RJx4a65c, Cond.code yJx4a65c_size_8abf5 cJx4a65c_size_8abf5 1 (some .int), Cond.fieldLink RJx4a65c 48 "java/util/ArrayList" "size" "I", Cond.methodLink RX4 156 yJx4a65c_get_915e3, Cond.instanceMethod yJx4a65c_get_915e3, Cond.selects RJx4a65c yJx4a65c_get_915e3 yJx4a65c_get_915e3, Cond.code yJx4a65c_get_915e3 cJx4a65c_get_915e3 2 (some (.object "java/lang/Object")), Cond.methodLink RJx4a65c 118 yJ15_checkIndex_7cf53, Cond.static yJ15_checkIndex_7cf53, Cond.initialized RJ15]
def wsX4_tokens_r2 : List Cond := [Cond.code yJ15_checkIndex_7cf53 cJ15_checkIndex_7cf53 2 (some .int), Cond.methodLink RJ15 105 yJ3_checkIndex_8e157, Cond.static yJ3_checkIndex_8e157, Cond.initialized RJ3, Cond.code yJ3_checkIndex_8e157 cJ3_checkIndex_8e157 3 (some .int), Cond.methodLink RJx4a65c 123 yJx4a65c_elementData_915e3, Cond.instanceMethod yJx4a65c_elementData_915e3, Cond.selects RJx4a65c yJx4a65c_elementData_915e3 yJx4a65c_elementData_915e3, Cond.code yJx4a65c_elementData_915e3 cJx4a65c_elementData_915e3 2 (some (.object "java/lang/Object")), Cond.fieldLink RJx4a65c 9 "java/util/ArrayList" "elementData" "[Ljava/lang/Object;", Cond.methodLink RX4 70 yX4_groupAt, Cond.instanceMethod yX4_groupAt, Cond.selects RX4 yX4_groupAt yX4_groupAt, Cond.code yX4_groupAt cX4_groupAt 2 (some (.object "LinkShaper$Group")), Cond.fieldLink RX4 12 "LinkShaper" "groups" "Ljava/util/ArrayList;", Cond.classLink RX4 56 "LinkShaper$Group"]
def wsX4_tokens : List Cond := .code yX4_tokens cX4_tokens 5 (some .long) :: ((wsX4_tokens_r1 ++ wsX4_tokens_r2) ++ wsX20 ++ wsX00 ++ wsX10 ++ wsX40 ++ wsJx4a65c0)
def wsX4_tag_r1 : List Cond := [Cond.fieldLink RX4 172 "LinkShaper$Leaf" "sum" "J", Cond.fieldLink RX4 175 "LinkShaper$Group" "sum" "J", Cond.fieldLink RX4 176 "LinkShaper$Group" "mark" "J", Cond.fieldLink RX4 40 "LinkShaper" "mark" "J", Cond.methodLink RX4 92 yX4_leafAt, Cond.instanceMethod yX4_leafAt, Cond.selects RX4 yX4_leafAt yX4_leafAt, Cond.initialized RX4, Cond.code yX4_leafAt cX4_leafAt 2 (some (.object "LinkShaper$Leaf")), Cond.fieldLink RX4 18 "LinkShaper" "leaves" "Ljava/util/ArrayList;", Cond.classLink RX4 86 "LinkShaper$Leaf", Cond.methodLink RX4 44 yJx4a65c_size_8abf5, Cond.instanceMethod yJx4a65c_size_8abf5, Cond.selects RJx4a65c yJx4a65c_size_8abf5 yJx4a65c_size_8abf5, Cond.initialized RJx4a65c, Cond.code yJx4a65c_size_8abf5 cJx4a65c_size_8abf5 1 (some .int), Cond.fieldLink RJx4a65c 48 "java/util/ArrayList" "size" "I", Cond.methodLink RX4 156 yJx4a65c_get_915e3, Cond.instanceMethod yJx4a65c_get_915e3, Cond.selects RJx4a65c yJx4a65c_get_915e3 yJx4a65c_get_915e3, Cond.code yJx4a65c_get_915e3 cJx4a65c_get_915e3 2 (some (.object "java/lang/Object")), Cond.methodLink RJx4a65c 118 yJ15_checkIndex_7cf53, Cond.static yJ15_checkIndex_7cf53, Cond.initialized RJ15]
def wsX4_tag_r2 : List Cond := [Cond.code yJ15_checkIndex_7cf53 cJ15_checkIndex_7cf53 2 (some .int), Cond.methodLink RJ15 105 yJ3_checkIndex_8e157, Cond.static yJ3_checkIndex_8e157, Cond.initialized RJ3, Cond.code yJ3_checkIndex_8e157 cJ3_checkIndex_8e157 3 (some .int), Cond.methodLink RJx4a65c 123 yJx4a65c_elementData_915e3, Cond.instanceMethod yJx4a65c_elementData_915e3, Cond.selects RJx4a65c yJx4a65c_elementData_915e3 yJx4a65c_elementData_915e3, Cond.code yJx4a65c_elementData_915e3 cJx4a65c_elementData_915e3 2 (some (.object "java/lang/Object")), Cond.fieldLink RJx4a65c 9 "java/util/ArrayList" "elementData" "[Ljava/lang/Object;", Cond.methodLink RX4 70 yX4_groupAt, Cond.instanceMethod yX4_groupAt, Cond.selects RX4 yX4_groupAt yX4_groupAt, Cond.code yX4_groupAt cX4_groupAt 2 (some (.object "LinkShaper$Group")), Cond.fieldLink RX4 12 "LinkShaper" "groups" "Ljava/util/ArrayList;", Cond.classLink RX4 56 "LinkShaper$Group"]
def wsX4_tag : List Cond := .code yX4_tag cX4_tag 5 (some .long) :: ((wsX4_tag_r1 ++ wsX4_tag_r2) ++ wsX20 ++ wsX10 ++ wsX40 ++ wsJx4a65c0)
def wsX4_count_r1 : List Cond := [Cond.fieldLink RX4 12 "LinkShaper" "groups" "Ljava/util/ArrayList;", Cond.fieldLink RX4 18 "LinkShaper" "leaves" "Ljava/util/ArrayList;", Cond.fieldLink RX4 21 "LinkShaper" "packets" "Ljava/util/ArrayList;", Cond.fieldLink RX4 24 "LinkShaper" "begun" "Ljava/util/ArrayList;", Cond.fieldLink RX4 34 "LinkShaper" "busyTicks" "I", Cond.fieldLink RX4 27 "LinkShaper" "tick" "I", Cond.fieldLink RX4 31 "LinkShaper" "freeAt" "I", Cond.methodLink RX4 44 yJx4a65c_size_8abf5, Cond.instanceMethod yJx4a65c_size_8abf5, Cond.selects RJx4a65c yJx4a65c_size_8abf5 yJx4a65c_size_8abf5, Cond.initialized RJx4a65c, Cond.code yJx4a65c_size_8abf5 cJx4a65c_size_8abf5 1 (some .int), Cond.fieldLink RJx4a65c 48 "java/util/ArrayList" "size" "I", Cond.methodLink RX4 177 yX4_sent, Cond.instanceMethod yX4_sent, Cond.selects RX4 yX4_sent yX4_sent, Cond.initialized RX4, Cond.code yX4_sent cX4_sent 2 (some .int), Cond.classLink RX4 119 "LinkShaper$Packet", Cond.fieldLink RX4 132 "LinkShaper$Packet" "number" "I", Cond.methodLink RX4 156 yJx4a65c_get_915e3, Cond.instanceMethod yJx4a65c_get_915e3, Cond.selects RJx4a65c yJx4a65c_get_915e3 yJx4a65c_get_915e3, Cond.code yJx4a65c_get_915e3 cJx4a65c_get_915e3 2 (some (.object "java/lang/Object"))]
def wsX4_count_r2 : List Cond := [Cond.methodLink RJx4a65c 118 yJ15_checkIndex_7cf53, Cond.static yJ15_checkIndex_7cf53, Cond.initialized RJ15, Cond.code yJ15_checkIndex_7cf53 cJ15_checkIndex_7cf53 2 (some .int), Cond.methodLink RJ15 105 yJ3_checkIndex_8e157, Cond.static yJ3_checkIndex_8e157, Cond.initialized RJ3, Cond.code yJ3_checkIndex_8e157 cJ3_checkIndex_8e157 3 (some .int), Cond.methodLink RJx4a65c 123 yJx4a65c_elementData_915e3, Cond.instanceMethod yJx4a65c_elementData_915e3, Cond.selects RJx4a65c yJx4a65c_elementData_915e3 yJx4a65c_elementData_915e3, Cond.code yJx4a65c_elementData_915e3 cJx4a65c_elementData_915e3 2 (some (.object "java/lang/Object")), Cond.fieldLink RJx4a65c 9 "java/util/ArrayList" "elementData" "[Ljava/lang/Object;"]
def wsX4_count : List Cond := .code yX4_count cX4_count 2 (some .int) :: ((wsX4_count_r1 ++ wsX4_count_r2) ++ wsX40 ++ wsJx4a65c0 ++ wsX30)
def wsX5_init_r1 : List Cond := [Cond.methodLink RX5 1 objectInit, Cond.instanceMethod objectInit, Cond.code objectInit ⟨#[0xb1]⟩ 1 none, Cond.fieldLink RX5 9 "LinkShaperModel" "on" "I", Cond.arrayClass .int, Cond.fieldLink RX5 13 "LinkShaperModel" "groupWeight" "[I", Cond.arrayClass .long, Cond.fieldLink RX5 17 "LinkShaperModel" "groupSum" "[J", Cond.fieldLink RX5 21 "LinkShaperModel" "groupMark" "[J", Cond.fieldLink RX5 24 "LinkShaperModel" "group" "[I", Cond.fieldLink RX5 27 "LinkShaperModel" "weight" "[I", Cond.fieldLink RX5 30 "LinkShaperModel" "guarantee" "[I", Cond.fieldLink RX5 33 "LinkShaperModel" "limit" "[I", Cond.fieldLink RX5 36 "LinkShaperModel" "first" "[I", Cond.fieldLink RX5 39 "LinkShaperModel" "last" "[I", Cond.fieldLink RX5 42 "LinkShaperModel" "waiting" "[I", Cond.fieldLink RX5 45 "LinkShaperModel" "bytes" "[I", Cond.fieldLink RX5 48 "LinkShaperModel" "due" "[I", Cond.fieldLink RX5 51 "LinkShaperModel" "excess" "[I", Cond.fieldLink RX5 54 "LinkShaperModel" "policed" "[I", Cond.fieldLink RX5 57 "LinkShaperModel" "full" "[I", Cond.fieldLink RX5 60 "LinkShaperModel" "clock" "[I", Cond.fieldLink RX5 63 "LinkShaperModel" "held" "[I", Cond.fieldLink RX5 66 "LinkShaperModel" "sum" "[J"]
def wsX5_init_r2 : List Cond := [Cond.arrayClass .boolean, Cond.fieldLink RX5 69 "LinkShaperModel" "isPoliced" "[Z", Cond.fieldLink RX5 73 "LinkShaperModel" "marks" "[Z", Cond.fieldLink RX5 76 "LinkShaperModel" "rate" "[I", Cond.fieldLink RX5 79 "LinkShaperModel" "burst" "[I", Cond.fieldLink RX5 82 "LinkShaperModel" "tokens" "[J", Cond.fieldLink RX5 85 "LinkShaperModel" "leaf" "[I", Cond.fieldLink RX5 88 "LinkShaperModel" "size" "[I", Cond.fieldLink RX5 91 "LinkShaperModel" "came" "[I", Cond.fieldLink RX5 94 "LinkShaperModel" "begin" "[I", Cond.fieldLink RX5 97 "LinkShaperModel" "how" "[I", Cond.fieldLink RX5 100 "LinkShaperModel" "deadline" "[I", Cond.fieldLink RX5 103 "LinkShaperModel" "behind" "[I", Cond.fieldLink RX5 106 "LinkShaperModel" "order" "[I", Cond.fieldLink RX5 109 "LinkShaperModel" "marked" "[Z"]
def wsX5_init : List Cond := .code yX5_init cX5_init 1 none :: ((wsX5_init_r1 ++ wsX5_init_r2) ++ wsX50)
def wsX5_in : List Cond := .code yX5_in cX5_in 3 (some .boolean) :: ([])
def wsX5_fill : List Cond := .code yX5_fill cX5_fill 4 none :: ([.fieldLink RX5 76 "LinkShaperModel" "rate" "[I", .fieldLink RX5 79 "LinkShaperModel" "burst" "[I", .fieldLink RX5 82 "LinkShaperModel" "tokens" "[J", .constantLong RX5 115 (1000)] ++ wsX50)
def wsX5_group : List Cond := .code yX5_group cX5_group 4 (some .int) :: ([.fieldLink RX5 117 "LinkShaperModel" "groups" "I", .fieldLink RX5 13 "LinkShaperModel" "groupWeight" "[I", .methodLink RX5 120 yX5_in, .static yX5_in, .initialized RX5, .code yX5_in cX5_in 3 (some .boolean), .methodLink RX5 124 yX5_fill, .instanceMethod yX5_fill, .selects RX5 yX5_fill yX5_fill, .code yX5_fill cX5_fill 4 none, .fieldLink RX5 76 "LinkShaperModel" "rate" "[I", .fieldLink RX5 79 "LinkShaperModel" "burst" "[I", .fieldLink RX5 82 "LinkShaperModel" "tokens" "[J", .constantLong RX5 115 (1000)] ++ wsX50)
def wsX5_leaf : List Cond := .code yX5_leaf cX5_leaf 10 (some .int) :: ([.fieldLink RX5 128 "LinkShaperModel" "leaves" "I", .fieldLink RX5 117 "LinkShaperModel" "groups" "I", .constant RX5 131 (60000), .fieldLink RX5 30 "LinkShaperModel" "guarantee" "[I", .fieldLink RX5 24 "LinkShaperModel" "group" "[I", .fieldLink RX5 76 "LinkShaperModel" "rate" "[I", .fieldLink RX5 27 "LinkShaperModel" "weight" "[I", .fieldLink RX5 33 "LinkShaperModel" "limit" "[I", .fieldLink RX5 36 "LinkShaperModel" "first" "[I", .fieldLink RX5 39 "LinkShaperModel" "last" "[I", .methodLink RX5 120 yX5_in, .static yX5_in, .initialized RX5, .code yX5_in cX5_in 3 (some .boolean), .methodLink RX5 124 yX5_fill, .instanceMethod yX5_fill, .selects RX5 yX5_fill yX5_fill, .code yX5_fill cX5_fill 4 none, .fieldLink RX5 79 "LinkShaperModel" "burst" "[I", .fieldLink RX5 82 "LinkShaperModel" "tokens" "[J", .constantLong RX5 115 (1000)] ++ wsX50)
def wsX5_police : List Cond := .code yX5_police cX5_police 5 (some .boolean) :: ([.fieldLink RX5 128 "LinkShaperModel" "leaves" "I", .fieldLink RX5 69 "LinkShaperModel" "isPoliced" "[Z", .fieldLink RX5 73 "LinkShaperModel" "marks" "[Z", .methodLink RX5 120 yX5_in, .static yX5_in, .initialized RX5, .code yX5_in cX5_in 3 (some .boolean), .methodLink RX5 124 yX5_fill, .instanceMethod yX5_fill, .selects RX5 yX5_fill yX5_fill, .code yX5_fill cX5_fill 4 none, .fieldLink RX5 76 "LinkShaperModel" "rate" "[I", .fieldLink RX5 79 "LinkShaperModel" "burst" "[I", .fieldLink RX5 82 "LinkShaperModel" "tokens" "[J", .constantLong RX5 115 (1000)] ++ wsX50)
def wsX5_arrive_r1 : List Cond := [Cond.fieldLink RX5 128 "LinkShaperModel" "leaves" "I", Cond.fieldLink RX5 132 "LinkShaperModel" "packets" "I", Cond.fieldLink RX5 69 "LinkShaperModel" "isPoliced" "[Z", Cond.fieldLink RX5 82 "LinkShaperModel" "tokens" "[J", Cond.constantLong RX5 115 (1000), Cond.fieldLink RX5 73 "LinkShaperModel" "marks" "[Z", Cond.fieldLink RX5 54 "LinkShaperModel" "policed" "[I", Cond.fieldLink RX5 45 "LinkShaperModel" "bytes" "[I", Cond.fieldLink RX5 33 "LinkShaperModel" "limit" "[I", Cond.fieldLink RX5 57 "LinkShaperModel" "full" "[I", Cond.fieldLink RX5 24 "LinkShaperModel" "group" "[I", Cond.fieldLink RX5 42 "LinkShaperModel" "waiting" "[I", Cond.fieldLink RX5 66 "LinkShaperModel" "sum" "[J", Cond.fieldLink RX5 21 "LinkShaperModel" "groupMark" "[J", Cond.fieldLink RX5 17 "LinkShaperModel" "groupSum" "[J", Cond.fieldLink RX5 135 "LinkShaperModel" "linkMark" "J", Cond.fieldLink RX5 85 "LinkShaperModel" "leaf" "[I", Cond.fieldLink RX5 88 "LinkShaperModel" "size" "[I", Cond.fieldLink RX5 91 "LinkShaperModel" "came" "[I", Cond.fieldLink RX5 139 "LinkShaperModel" "now" "I", Cond.fieldLink RX5 94 "LinkShaperModel" "begin" "[I", Cond.fieldLink RX5 97 "LinkShaperModel" "how" "[I", Cond.fieldLink RX5 100 "LinkShaperModel" "deadline" "[I", Cond.fieldLink RX5 103 "LinkShaperModel" "behind" "[I"]
def wsX5_arrive_r2 : List Cond := [Cond.fieldLink RX5 109 "LinkShaperModel" "marked" "[Z", Cond.fieldLink RX5 36 "LinkShaperModel" "first" "[I", Cond.fieldLink RX5 39 "LinkShaperModel" "last" "[I", Cond.methodLink RX5 120 yX5_in, Cond.static yX5_in, Cond.initialized RX5, Cond.code yX5_in cX5_in 3 (some .boolean)]
def wsX5_arrive : List Cond := .code yX5_arrive cX5_arrive 7 (some .int) :: ((wsX5_arrive_r1 ++ wsX5_arrive_r2) ++ wsX50)
def wsX5_passes : List Cond := .code yX5_passes cX5_passes 7 none :: ([.fieldLink RX5 139 "LinkShaperModel" "now" "I", .constantLong RX5 115 (1000), .fieldLink RX5 79 "LinkShaperModel" "burst" "[I", .fieldLink RX5 82 "LinkShaperModel" "tokens" "[J", .fieldLink RX5 76 "LinkShaperModel" "rate" "[I"] ++ wsX50)
def wsX5_isIdle : List Cond := .code yX5_isIdle cX5_isIdle 3 (some .boolean) :: ([.fieldLink RX5 142 "LinkShaperModel" "left" "I", .fieldLink RX5 128 "LinkShaperModel" "leaves" "I", .fieldLink RX5 42 "LinkShaperModel" "waiting" "[I"] ++ wsX50)
def wsX5_startOf : List Cond := .code yX5_startOf cX5_startOf 3 (some .int) :: ([.fieldLink RX5 91 "LinkShaperModel" "came" "[I", .fieldLink RX5 36 "LinkShaperModel" "first" "[I", .fieldLink RX5 60 "LinkShaperModel" "clock" "[I"] ++ wsX50)
def wsX5_deadlineOf : List Cond := .code yX5_deadlineOf cX5_deadlineOf 3 (some .int) :: ([.fieldLink RX5 30 "LinkShaperModel" "guarantee" "[I", .fieldLink RX5 88 "LinkShaperModel" "size" "[I", .fieldLink RX5 36 "LinkShaperModel" "first" "[I", .methodLink RX5 164 yX5_startOf, .instanceMethod yX5_startOf, .selects RX5 yX5_startOf yX5_startOf, .initialized RX5, .code yX5_startOf cX5_startOf 3 (some .int), .fieldLink RX5 91 "LinkShaperModel" "came" "[I", .fieldLink RX5 60 "LinkShaperModel" "clock" "[I"] ++ wsX50)
def wsX5_goes : List Cond := .code yX5_goes cX5_goes 4 (some .int) :: ([.fieldLink RX5 36 "LinkShaperModel" "first" "[I", .fieldLink RX5 103 "LinkShaperModel" "behind" "[I", .fieldLink RX5 42 "LinkShaperModel" "waiting" "[I", .fieldLink RX5 45 "LinkShaperModel" "bytes" "[I", .fieldLink RX5 88 "LinkShaperModel" "size" "[I", .fieldLink RX5 94 "LinkShaperModel" "begin" "[I", .fieldLink RX5 139 "LinkShaperModel" "now" "I", .fieldLink RX5 97 "LinkShaperModel" "how" "[I", .fieldLink RX5 106 "LinkShaperModel" "order" "[I", .fieldLink RX5 147 "LinkShaperModel" "began" "I", .fieldLink RX5 9 "LinkShaperModel" "on" "I", .fieldLink RX5 142 "LinkShaperModel" "left" "I", .fieldLink RX5 82 "LinkShaperModel" "tokens" "[J", .constantLong RX5 115 (1000), .fieldLink RX5 24 "LinkShaperModel" "group" "[I"] ++ wsX50)
def wsX5_tagOf : List Cond := .code yX5_tagOf cX5_tagOf 2 (some .long) :: ([.fieldLink RX5 66 "LinkShaperModel" "sum" "[J", .constantLong RX5 177 (27720), .fieldLink RX5 27 "LinkShaperModel" "weight" "[I", .fieldLink RX5 88 "LinkShaperModel" "size" "[I", .fieldLink RX5 36 "LinkShaperModel" "first" "[I"] ++ wsX50)
def wsX5_groupTagOf : List Cond := .code yX5_groupTagOf cX5_groupTagOf 3 (some .long) :: ([.fieldLink RX5 24 "LinkShaperModel" "group" "[I", .fieldLink RX5 17 "LinkShaperModel" "groupSum" "[J", .constantLong RX5 177 (27720), .fieldLink RX5 13 "LinkShaperModel" "groupWeight" "[I", .fieldLink RX5 88 "LinkShaperModel" "size" "[I", .fieldLink RX5 36 "LinkShaperModel" "first" "[I"] ++ wsX50)
def wsX5_excess_r1 : List Cond := [Cond.fieldLink RX5 117 "LinkShaperModel" "groups" "I", Cond.fieldLink RX5 128 "LinkShaperModel" "leaves" "I", Cond.fieldLink RX5 24 "LinkShaperModel" "group" "[I", Cond.fieldLink RX5 42 "LinkShaperModel" "waiting" "[I", Cond.constantLong RX5 115 (1000), Cond.fieldLink RX5 88 "LinkShaperModel" "size" "[I", Cond.fieldLink RX5 36 "LinkShaperModel" "first" "[I", Cond.fieldLink RX5 82 "LinkShaperModel" "tokens" "[J", Cond.fieldLink RX5 63 "LinkShaperModel" "held" "[I", Cond.fieldLink RX5 66 "LinkShaperModel" "sum" "[J", Cond.fieldLink RX5 21 "LinkShaperModel" "groupMark" "[J", Cond.fieldLink RX5 17 "LinkShaperModel" "groupSum" "[J", Cond.fieldLink RX5 135 "LinkShaperModel" "linkMark" "J", Cond.fieldLink RX5 51 "LinkShaperModel" "excess" "[I", Cond.methodLink RX5 179 yX5_tagOf, Cond.instanceMethod yX5_tagOf, Cond.selects RX5 yX5_tagOf yX5_tagOf, Cond.initialized RX5, Cond.code yX5_tagOf cX5_tagOf 2 (some .long), Cond.constantLong RX5 177 (27720), Cond.fieldLink RX5 27 "LinkShaperModel" "weight" "[I", Cond.methodLink RX5 183 yX5_groupTagOf, Cond.instanceMethod yX5_groupTagOf, Cond.selects RX5 yX5_groupTagOf yX5_groupTagOf]
def wsX5_excess_r2 : List Cond := [Cond.code yX5_groupTagOf cX5_groupTagOf 3 (some .long), Cond.fieldLink RX5 13 "LinkShaperModel" "groupWeight" "[I", Cond.methodLink RX5 171 yX5_goes, Cond.instanceMethod yX5_goes, Cond.selects RX5 yX5_goes yX5_goes, Cond.code yX5_goes cX5_goes 4 (some .int), Cond.fieldLink RX5 103 "LinkShaperModel" "behind" "[I", Cond.fieldLink RX5 45 "LinkShaperModel" "bytes" "[I", Cond.fieldLink RX5 94 "LinkShaperModel" "begin" "[I", Cond.fieldLink RX5 139 "LinkShaperModel" "now" "I", Cond.fieldLink RX5 97 "LinkShaperModel" "how" "[I", Cond.fieldLink RX5 106 "LinkShaperModel" "order" "[I", Cond.fieldLink RX5 147 "LinkShaperModel" "began" "I", Cond.fieldLink RX5 9 "LinkShaperModel" "on" "I", Cond.fieldLink RX5 142 "LinkShaperModel" "left" "I"]
def wsX5_excess : List Cond := .code yX5_excess cX5_excess 8 none :: ((wsX5_excess_r1 ++ wsX5_excess_r2) ++ wsX50)
def wsX5_begins_r1 : List Cond := [Cond.fieldLink RX5 128 "LinkShaperModel" "leaves" "I", Cond.fieldLink RX5 42 "LinkShaperModel" "waiting" "[I", Cond.fieldLink RX5 30 "LinkShaperModel" "guarantee" "[I", Cond.fieldLink RX5 139 "LinkShaperModel" "now" "I", Cond.fieldLink RX5 60 "LinkShaperModel" "clock" "[I", Cond.fieldLink RX5 100 "LinkShaperModel" "deadline" "[I", Cond.fieldLink RX5 48 "LinkShaperModel" "due" "[I", Cond.fieldLink RX5 88 "LinkShaperModel" "size" "[I", Cond.methodLink RX5 164 yX5_startOf, Cond.instanceMethod yX5_startOf, Cond.selects RX5 yX5_startOf yX5_startOf, Cond.initialized RX5, Cond.code yX5_startOf cX5_startOf 3 (some .int), Cond.fieldLink RX5 91 "LinkShaperModel" "came" "[I", Cond.fieldLink RX5 36 "LinkShaperModel" "first" "[I", Cond.methodLink RX5 168 yX5_deadlineOf, Cond.instanceMethod yX5_deadlineOf, Cond.selects RX5 yX5_deadlineOf yX5_deadlineOf, Cond.code yX5_deadlineOf cX5_deadlineOf 3 (some .int), Cond.methodLink RX5 171 yX5_goes, Cond.instanceMethod yX5_goes, Cond.selects RX5 yX5_goes yX5_goes, Cond.code yX5_goes cX5_goes 4 (some .int), Cond.fieldLink RX5 103 "LinkShaperModel" "behind" "[I"]
def wsX5_begins_r2 : List Cond := [Cond.fieldLink RX5 45 "LinkShaperModel" "bytes" "[I", Cond.fieldLink RX5 94 "LinkShaperModel" "begin" "[I", Cond.fieldLink RX5 97 "LinkShaperModel" "how" "[I", Cond.fieldLink RX5 106 "LinkShaperModel" "order" "[I", Cond.fieldLink RX5 147 "LinkShaperModel" "began" "I", Cond.fieldLink RX5 9 "LinkShaperModel" "on" "I", Cond.fieldLink RX5 142 "LinkShaperModel" "left" "I", Cond.fieldLink RX5 82 "LinkShaperModel" "tokens" "[J", Cond.constantLong RX5 115 (1000), Cond.fieldLink RX5 24 "LinkShaperModel" "group" "[I", Cond.methodLink RX5 175 yX5_excess, Cond.instanceMethod yX5_excess, Cond.selects RX5 yX5_excess yX5_excess, Cond.code yX5_excess cX5_excess 8 none, Cond.fieldLink RX5 117 "LinkShaperModel" "groups" "I", Cond.fieldLink RX5 63 "LinkShaperModel" "held" "[I", Cond.fieldLink RX5 66 "LinkShaperModel" "sum" "[J", Cond.fieldLink RX5 21 "LinkShaperModel" "groupMark" "[J", Cond.fieldLink RX5 17 "LinkShaperModel" "groupSum" "[J", Cond.fieldLink RX5 135 "LinkShaperModel" "linkMark" "J", Cond.fieldLink RX5 51 "LinkShaperModel" "excess" "[I", Cond.methodLink RX5 179 yX5_tagOf, Cond.instanceMethod yX5_tagOf, Cond.selects RX5 yX5_tagOf yX5_tagOf]
def wsX5_begins_r3 : List Cond := [Cond.code yX5_tagOf cX5_tagOf 2 (some .long), Cond.constantLong RX5 177 (27720), Cond.fieldLink RX5 27 "LinkShaperModel" "weight" "[I", Cond.methodLink RX5 183 yX5_groupTagOf, Cond.instanceMethod yX5_groupTagOf, Cond.selects RX5 yX5_groupTagOf yX5_groupTagOf, Cond.code yX5_groupTagOf cX5_groupTagOf 3 (some .long), Cond.fieldLink RX5 13 "LinkShaperModel" "groupWeight" "[I"]
def wsX5_begins : List Cond := .code yX5_begins cX5_begins 4 none :: ((wsX5_begins_r1 ++ (wsX5_begins_r2 ++ wsX5_begins_r3)) ++ wsX50)
def wsX5_run_r1 : List Cond := [Cond.constant RX5 145 (100000), Cond.fieldLink RX5 139 "LinkShaperModel" "now" "I", Cond.constant RX5 146 (1000000000), Cond.fieldLink RX5 147 "LinkShaperModel" "began" "I", Cond.fieldLink RX5 142 "LinkShaperModel" "left" "I", Cond.fieldLink RX5 161 "LinkShaperModel" "busy" "I", Cond.fieldLink RX5 9 "LinkShaperModel" "on" "I", Cond.methodLink RX5 120 yX5_in, Cond.static yX5_in, Cond.initialized RX5, Cond.code yX5_in cX5_in 3 (some .boolean), Cond.methodLink RX5 150 yX5_isIdle, Cond.instanceMethod yX5_isIdle, Cond.selects RX5 yX5_isIdle yX5_isIdle, Cond.code yX5_isIdle cX5_isIdle 3 (some .boolean), Cond.fieldLink RX5 128 "LinkShaperModel" "leaves" "I", Cond.fieldLink RX5 42 "LinkShaperModel" "waiting" "[I", Cond.methodLink RX5 154 yX5_passes, Cond.instanceMethod yX5_passes, Cond.selects RX5 yX5_passes yX5_passes, Cond.code yX5_passes cX5_passes 7 none, Cond.constantLong RX5 115 (1000), Cond.fieldLink RX5 79 "LinkShaperModel" "burst" "[I", Cond.fieldLink RX5 82 "LinkShaperModel" "tokens" "[J"]
def wsX5_run_r2 : List Cond := [Cond.fieldLink RX5 76 "LinkShaperModel" "rate" "[I", Cond.methodLink RX5 158 yX5_begins, Cond.instanceMethod yX5_begins, Cond.selects RX5 yX5_begins yX5_begins, Cond.code yX5_begins cX5_begins 4 none, Cond.fieldLink RX5 30 "LinkShaperModel" "guarantee" "[I", Cond.fieldLink RX5 60 "LinkShaperModel" "clock" "[I", Cond.fieldLink RX5 100 "LinkShaperModel" "deadline" "[I", Cond.fieldLink RX5 48 "LinkShaperModel" "due" "[I", Cond.fieldLink RX5 88 "LinkShaperModel" "size" "[I", Cond.methodLink RX5 164 yX5_startOf, Cond.instanceMethod yX5_startOf, Cond.selects RX5 yX5_startOf yX5_startOf, Cond.code yX5_startOf cX5_startOf 3 (some .int), Cond.fieldLink RX5 91 "LinkShaperModel" "came" "[I", Cond.fieldLink RX5 36 "LinkShaperModel" "first" "[I", Cond.methodLink RX5 168 yX5_deadlineOf, Cond.instanceMethod yX5_deadlineOf, Cond.selects RX5 yX5_deadlineOf yX5_deadlineOf, Cond.code yX5_deadlineOf cX5_deadlineOf 3 (some .int), Cond.methodLink RX5 171 yX5_goes, Cond.instanceMethod yX5_goes, Cond.selects RX5 yX5_goes yX5_goes, Cond.code yX5_goes cX5_goes 4 (some .int)]
def wsX5_run_r3 : List Cond := [Cond.fieldLink RX5 103 "LinkShaperModel" "behind" "[I", Cond.fieldLink RX5 45 "LinkShaperModel" "bytes" "[I", Cond.fieldLink RX5 94 "LinkShaperModel" "begin" "[I", Cond.fieldLink RX5 97 "LinkShaperModel" "how" "[I", Cond.fieldLink RX5 106 "LinkShaperModel" "order" "[I", Cond.fieldLink RX5 24 "LinkShaperModel" "group" "[I", Cond.methodLink RX5 175 yX5_excess, Cond.instanceMethod yX5_excess, Cond.selects RX5 yX5_excess yX5_excess, Cond.code yX5_excess cX5_excess 8 none, Cond.fieldLink RX5 117 "LinkShaperModel" "groups" "I", Cond.fieldLink RX5 63 "LinkShaperModel" "held" "[I", Cond.fieldLink RX5 66 "LinkShaperModel" "sum" "[J", Cond.fieldLink RX5 21 "LinkShaperModel" "groupMark" "[J", Cond.fieldLink RX5 17 "LinkShaperModel" "groupSum" "[J", Cond.fieldLink RX5 135 "LinkShaperModel" "linkMark" "J", Cond.fieldLink RX5 51 "LinkShaperModel" "excess" "[I", Cond.methodLink RX5 179 yX5_tagOf, Cond.instanceMethod yX5_tagOf, Cond.selects RX5 yX5_tagOf yX5_tagOf, Cond.code yX5_tagOf cX5_tagOf 2 (some .long), Cond.constantLong RX5 177 (27720), Cond.fieldLink RX5 27 "LinkShaperModel" "weight" "[I", Cond.methodLink RX5 183 yX5_groupTagOf]
def wsX5_run_r4 : List Cond := [Cond.instanceMethod yX5_groupTagOf, Cond.selects RX5 yX5_groupTagOf yX5_groupTagOf, Cond.code yX5_groupTagOf cX5_groupTagOf 3 (some .long), Cond.fieldLink RX5 13 "LinkShaperModel" "groupWeight" "[I"]
def wsX5_run : List Cond := .code yX5_run cX5_run 5 (some .int) :: ((wsX5_run_r1 ++ (wsX5_run_r2 ++ (wsX5_run_r3 ++ wsX5_run_r4))) ++ wsX50)
def wsX5_now : List Cond := .code yX5_now cX5_now 1 (some .int) :: ([.fieldLink RX5 139 "LinkShaperModel" "now" "I"] ++ wsX50)
def wsX5_packet : List Cond := .code yX5_packet cX5_packet 3 (some .int) :: ([.fieldLink RX5 132 "LinkShaperModel" "packets" "I", .fieldLink RX5 85 "LinkShaperModel" "leaf" "[I", .fieldLink RX5 88 "LinkShaperModel" "size" "[I", .fieldLink RX5 91 "LinkShaperModel" "came" "[I", .fieldLink RX5 94 "LinkShaperModel" "begin" "[I", .fieldLink RX5 97 "LinkShaperModel" "how" "[I", .fieldLink RX5 100 "LinkShaperModel" "deadline" "[I", .fieldLink RX5 109 "LinkShaperModel" "marked" "[Z", .methodLink RX5 120 yX5_in, .static yX5_in, .initialized RX5, .code yX5_in cX5_in 3 (some .boolean)] ++ wsX50)
def wsX5_sent : List Cond := .code yX5_sent cX5_sent 2 (some .int) :: ([.fieldLink RX5 147 "LinkShaperModel" "began" "I", .fieldLink RX5 106 "LinkShaperModel" "order" "[I", .methodLink RX5 120 yX5_in, .static yX5_in, .initialized RX5, .code yX5_in cX5_in 3 (some .boolean)] ++ wsX50)
def wsX5_about : List Cond := .code yX5_about cX5_about 3 (some .int) :: ([.fieldLink RX5 128 "LinkShaperModel" "leaves" "I", .fieldLink RX5 42 "LinkShaperModel" "waiting" "[I", .fieldLink RX5 45 "LinkShaperModel" "bytes" "[I", .fieldLink RX5 48 "LinkShaperModel" "due" "[I", .fieldLink RX5 51 "LinkShaperModel" "excess" "[I", .fieldLink RX5 54 "LinkShaperModel" "policed" "[I", .fieldLink RX5 57 "LinkShaperModel" "full" "[I", .fieldLink RX5 60 "LinkShaperModel" "clock" "[I", .fieldLink RX5 63 "LinkShaperModel" "held" "[I", .methodLink RX5 120 yX5_in, .static yX5_in, .initialized RX5, .code yX5_in cX5_in 3 (some .boolean)] ++ wsX50)
def wsX5_tokens : List Cond := .code yX5_tokens cX5_tokens 3 (some .long) :: ([.fieldLink RX5 117 "LinkShaperModel" "groups" "I", .fieldLink RX5 82 "LinkShaperModel" "tokens" "[J", .fieldLink RX5 128 "LinkShaperModel" "leaves" "I", .methodLink RX5 120 yX5_in, .static yX5_in, .initialized RX5, .code yX5_in cX5_in 3 (some .boolean)] ++ wsX50)
def wsX5_tag : List Cond := .code yX5_tag cX5_tag 4 (some .long) :: ([.fieldLink RX5 135 "LinkShaperModel" "linkMark" "J", .fieldLink RX5 128 "LinkShaperModel" "leaves" "I", .fieldLink RX5 66 "LinkShaperModel" "sum" "[J", .fieldLink RX5 117 "LinkShaperModel" "groups" "I", .fieldLink RX5 17 "LinkShaperModel" "groupSum" "[J", .fieldLink RX5 21 "LinkShaperModel" "groupMark" "[J", .methodLink RX5 120 yX5_in, .static yX5_in, .initialized RX5, .code yX5_in cX5_in 3 (some .boolean)] ++ wsX50)
def wsX5_count : List Cond := .code yX5_count cX5_count 2 (some .int) :: ([.fieldLink RX5 117 "LinkShaperModel" "groups" "I", .fieldLink RX5 128 "LinkShaperModel" "leaves" "I", .fieldLink RX5 132 "LinkShaperModel" "packets" "I", .fieldLink RX5 147 "LinkShaperModel" "began" "I", .fieldLink RX5 161 "LinkShaperModel" "busy" "I", .fieldLink RX5 9 "LinkShaperModel" "on" "I"] ++ wsX50)
def wsJ9_max_7cf53 : List Cond := .code yJ9_max_7cf53 cJ9_max_7cf53 2 (some .int) :: ([])
def wsJ9_max_f86c9 : List Cond := .code yJ9_max_f86c9 cJ9_max_f86c9 4 (some .long) :: ([])
def wsJ9_min_7cf53 : List Cond := .code yJ9_min_7cf53 cJ9_min_7cf53 2 (some .int) :: ([])
def wsJ9_min_f86c9 : List Cond := .code yJ9_min_f86c9 cJ9_min_f86c9 4 (some .long) :: ([])
def wsL_law_r1 : List Cond := [Cond.classLink RL 7 RX4, Cond.instantiable RX4 9, Cond.initialized RX4, Cond.classLink RL 10 RX5, Cond.instantiable RX5 42, Cond.initialized RX5, Cond.methodLink RL 9 yX4_init, Cond.instanceMethod yX4_init, Cond.code yX4_init cX4_init 1 none, Cond.methodLink RX4 3 objectInit, Cond.instanceMethod objectInit, Cond.code objectInit ⟨#[0xb1]⟩ 1 none, Cond.classLink RX4 9 RJx4a65c, Cond.instantiable RJx4a65c 3, Cond.initialized RJx4a65c, Cond.fieldLink RX4 12 "LinkShaper" "groups" "Ljava/util/ArrayList;", Cond.fieldLink RX4 18 "LinkShaper" "leaves" "Ljava/util/ArrayList;", Cond.fieldLink RX4 21 "LinkShaper" "packets" "Ljava/util/ArrayList;", Cond.fieldLink RX4 24 "LinkShaper" "begun" "Ljava/util/ArrayList;", Cond.fieldLink RX4 27 "LinkShaper" "tick" "I", Cond.fieldLink RX4 31 "LinkShaper" "freeAt" "I", Cond.fieldLink RX4 34 "LinkShaper" "busyTicks" "I", Cond.fieldLink RX4 37 "LinkShaper" "guarantees" "I", Cond.fieldLink RX4 40 "LinkShaper" "mark" "J"]
def wsL_law_r2 : List Cond := [Cond.methodLink RX4 11 yJx4a65c_init_da8c8, Cond.instanceMethod yJx4a65c_init_da8c8, Cond.code yJx4a65c_init_da8c8 cJx4a65c_init_da8c8 1 none, Cond.fieldLink RJx4a65c 39 "java/util/ArrayList" "DEFAULTCAPACITY_EMPTY_ELEMENTDATA" "[Ljava/lang/Object;", Cond.fieldLink RJx4a65c 9 "java/util/ArrayList" "elementData" "[Ljava/lang/Object;", Cond.methodLink RJx4a65c 1 yJxc12de_init_da8c8, Cond.instanceMethod yJxc12de_init_da8c8, Cond.initialized RJxc12de, Cond.code yJxc12de_init_da8c8 cJxc12de_init_da8c8 1 none, Cond.fieldLink RJxc12de 7 "java/util/AbstractList" "modCount" "I", Cond.methodLink RJxc12de 1 yJxa1e45_init_da8c8, Cond.instanceMethod yJxa1e45_init_da8c8, Cond.initialized RJxa1e45, Cond.code yJxa1e45_init_da8c8 cJxa1e45_init_da8c8 1 none, Cond.methodLink RJxa1e45 1 objectInit, Cond.methodLink RL 12 yX5_init, Cond.instanceMethod yX5_init, Cond.code yX5_init cX5_init 1 none, Cond.methodLink RX5 1 objectInit, Cond.fieldLink RX5 9 "LinkShaperModel" "on" "I", Cond.arrayClass .int, Cond.fieldLink RX5 13 "LinkShaperModel" "groupWeight" "[I", Cond.arrayClass .long, Cond.fieldLink RX5 17 "LinkShaperModel" "groupSum" "[J"]
def wsL_law_r3 : List Cond := [Cond.fieldLink RX5 21 "LinkShaperModel" "groupMark" "[J", Cond.fieldLink RX5 24 "LinkShaperModel" "group" "[I", Cond.fieldLink RX5 27 "LinkShaperModel" "weight" "[I", Cond.fieldLink RX5 30 "LinkShaperModel" "guarantee" "[I", Cond.fieldLink RX5 33 "LinkShaperModel" "limit" "[I", Cond.fieldLink RX5 36 "LinkShaperModel" "first" "[I", Cond.fieldLink RX5 39 "LinkShaperModel" "last" "[I", Cond.fieldLink RX5 42 "LinkShaperModel" "waiting" "[I", Cond.fieldLink RX5 45 "LinkShaperModel" "bytes" "[I", Cond.fieldLink RX5 48 "LinkShaperModel" "due" "[I", Cond.fieldLink RX5 51 "LinkShaperModel" "excess" "[I", Cond.fieldLink RX5 54 "LinkShaperModel" "policed" "[I", Cond.fieldLink RX5 57 "LinkShaperModel" "full" "[I", Cond.fieldLink RX5 60 "LinkShaperModel" "clock" "[I", Cond.fieldLink RX5 63 "LinkShaperModel" "held" "[I", Cond.fieldLink RX5 66 "LinkShaperModel" "sum" "[J", Cond.arrayClass .boolean, Cond.fieldLink RX5 69 "LinkShaperModel" "isPoliced" "[Z", Cond.fieldLink RX5 73 "LinkShaperModel" "marks" "[Z", Cond.fieldLink RX5 76 "LinkShaperModel" "rate" "[I", Cond.fieldLink RX5 79 "LinkShaperModel" "burst" "[I", Cond.fieldLink RX5 82 "LinkShaperModel" "tokens" "[J", Cond.fieldLink RX5 85 "LinkShaperModel" "leaf" "[I", Cond.fieldLink RX5 88 "LinkShaperModel" "size" "[I"]
def wsL_law_r4 : List Cond := [Cond.fieldLink RX5 91 "LinkShaperModel" "came" "[I", Cond.fieldLink RX5 94 "LinkShaperModel" "begin" "[I", Cond.fieldLink RX5 97 "LinkShaperModel" "how" "[I", Cond.fieldLink RX5 100 "LinkShaperModel" "deadline" "[I", Cond.fieldLink RX5 103 "LinkShaperModel" "behind" "[I", Cond.fieldLink RX5 106 "LinkShaperModel" "order" "[I", Cond.fieldLink RX5 109 "LinkShaperModel" "marked" "[Z", Cond.methodLink RL 13 yX4_group, Cond.instanceMethod yX4_group, Cond.selects RX4 yX4_group yX4_group, Cond.code yX4_group cX4_group 4 (some .int), Cond.classLink RX4 56 RX1, Cond.instantiable RX1 6, Cond.initialized RX1, Cond.classLink RX4 58 RX0, Cond.instantiable RX0 3, Cond.initialized RX0, Cond.methodLink RX4 44 yJx4a65c_size_8abf5, Cond.instanceMethod yJx4a65c_size_8abf5, Cond.selects RJx4a65c yJx4a65c_size_8abf5 yJx4a65c_size_8abf5, Cond.code yJx4a65c_size_8abf5 cJx4a65c_size_8abf5 1 (some .int), Cond.fieldLink RJx4a65c 48 "java/util/ArrayList" "size" "I", Cond.methodLink RX4 48 yX4_isWeight, Cond.static yX4_isWeight]
def wsL_law_r5 : List Cond := [Cond.code yX4_isWeight cX4_isWeight 1 (some .boolean), Cond.methodLink RX4 75 yX4_isWithin, Cond.static yX4_isWithin, Cond.code yX4_isWithin cX4_isWithin 3 (some .boolean), Cond.methodLink RX4 52 yX4_isCeiling, Cond.static yX4_isCeiling, Cond.code yX4_isCeiling cX4_isCeiling 2 (some .boolean), Cond.methodLink RX4 60 yX0_init, Cond.instanceMethod yX0_init, Cond.code yX0_init cX0_init 3 none, Cond.methodLink RX0 3 objectInit, Cond.fieldLink RX0 9 "LinkShaper$Bucket" "rate" "I", Cond.constantLong RX0 15 (1000), Cond.fieldLink RX0 17 "LinkShaper$Bucket" "most" "J", Cond.fieldLink RX0 21 "LinkShaper$Bucket" "level" "J", Cond.methodLink RX4 63 yX1_init, Cond.instanceMethod yX1_init, Cond.code yX1_init cX1_init 3 none, Cond.methodLink RX1 3 objectInit, Cond.fieldLink RX1 9 "LinkShaper$Group" "weight" "I", Cond.fieldLink RX1 15 "LinkShaper$Group" "ceiling" "LLinkShaper$Bucket;", Cond.methodLink RX4 66 yJx4a65c_add_9ea2d, Cond.instanceMethod yJx4a65c_add_9ea2d, Cond.selects RJx4a65c yJx4a65c_add_9ea2d yJx4a65c_add_9ea2d]
def wsL_law_r6 : List Cond := [Cond.code yJx4a65c_add_9ea2d cJx4a65c_add_9ea2d 2 (some .boolean), Cond.fieldLink RJx4a65c 63 "java/util/ArrayList" "modCount" "I", Cond.sameField "java/util/ArrayList" "java/util/AbstractList" "modCount" "I", Cond.methodLink RJx4a65c 131 yJx4a65c_add_72be8, Cond.instanceMethod yJx4a65c_add_72be8, Cond.selects RJx4a65c yJx4a65c_add_72be8 yJx4a65c_add_72be8, Cond.code yJx4a65c_add_72be8 cJx4a65c_add_72be8 4 none, Cond.methodLink RJx4a65c 129 yJx4a65c_grow_d5877, Cond.instanceMethod yJx4a65c_grow_d5877, Cond.selects RJx4a65c yJx4a65c_grow_d5877 yJx4a65c_grow_d5877, Cond.code yJx4a65c_grow_d5877 cJx4a65c_grow_d5877 1 (some (.array (.object "java/lang/Object"))), Cond.methodLink RJx4a65c 69 yJx4a65c_grow_92f84, Cond.instanceMethod yJx4a65c_grow_92f84, Cond.selects RJx4a65c yJx4a65c_grow_92f84 yJx4a65c_grow_92f84, Cond.code yJx4a65c_grow_92f84 cJx4a65c_grow_92f84 4 (some (.array (.object "java/lang/Object"))), Cond.methodLink RJx4a65c 79 Lib.Math.max.name, Cond.static Lib.Math.max.name, Cond.initialized "java/lang/Math", Cond.code Lib.Math.max.name Lib.Math.max.code 2 (some .int), Cond.classLink RJx4a65c 7 "java/lang/Object", Cond.methodLink RJx4a65c 73 yJ8_newLength_cabcc, Cond.static yJ8_newLength_cabcc, Cond.initialized RJ8, Cond.code yJ8_newLength_cabcc cJ8_newLength_cabcc 4 (some .int)]
def wsL_law_r7 : List Cond := [Cond.methodLink RJ8 194 Lib.Math.max.name, Cond.constant RJ8 200 (2147483639), Cond.methodLink RJ8 201 yJ8_hugeLength_7cf53, Cond.static yJ8_hugeLength_7cf53, Cond.code yJ8_hugeLength_7cf53 cJ8_hugeLength_7cf53 3 (some .int), Cond.methodLink RJx4a65c 66 yJ7_copyOf_1904c, Cond.static yJ7_copyOf_1904c, Cond.initialized RJ7, Cond.code yJ7_copyOf_1904c cJ7_copyOf_1904c 2 (some (.array (.object "java/lang/Object"))), Cond.methodLink RJ7 86 ⟨"java/lang/Object", "getClass", "()Ljava/lang/Class;"⟩, Cond.selects "[Ljava/lang/Object;" ⟨"java/lang/Object", "getClass", "()Ljava/lang/Class;"⟩ ⟨"java/lang/Object", "getClass", "()Ljava/lang/Class;"⟩, Cond.instanceMethod ⟨"java/lang/Object", "getClass", "()Ljava/lang/Class;"⟩, Cond.native ⟨"java/lang/Object", "getClass", "()Ljava/lang/Class;"⟩, Cond.methodLink RJ7 300 yJ7_copyOf_6403c, Cond.static yJ7_copyOf_6403c, Cond.code yJ7_copyOf_6403c cJ7_copyOf_6403c 4 (some (.array (.object "java/lang/Object"))), Cond.classLink RJ7 110 "[Ljava/lang/Object;", Cond.classLink RJ7 2 "java/lang/Object", Cond.methodLink RJ7 304 Lib.Math.min.name, Cond.static Lib.Math.min.name, Cond.code Lib.Math.min.name Lib.Math.min.code 2 (some .int), Cond.methodLink RJ7 150 arraycopyName, Cond.native arraycopyName, Cond.static arraycopyName]
def wsL_law_r8 : List Cond := [Cond.initialized "java/lang/System", Cond.methodLink RL 17 yX5_group, Cond.instanceMethod yX5_group, Cond.selects RX5 yX5_group yX5_group, Cond.code yX5_group cX5_group 4 (some .int), Cond.fieldLink RX5 117 "LinkShaperModel" "groups" "I", Cond.methodLink RX5 120 yX5_in, Cond.static yX5_in, Cond.code yX5_in cX5_in 3 (some .boolean), Cond.methodLink RX5 124 yX5_fill, Cond.instanceMethod yX5_fill, Cond.selects RX5 yX5_fill yX5_fill, Cond.code yX5_fill cX5_fill 4 none, Cond.constantLong RX5 115 (1000), Cond.methodLink RL 18 yX4_leaf, Cond.instanceMethod yX4_leaf, Cond.selects RX4 yX4_leaf yX4_leaf, Cond.code yX4_leaf cX4_leaf 8 (some .int), Cond.constant RX4 74 (60000), Cond.classLink RX4 86 RX2, Cond.instantiable RX2 18, Cond.initialized RX2, Cond.fieldLink RX4 91 "LinkShaper$Group" "guarantees" "I", Cond.methodLink RX4 70 yX4_groupAt]
def wsL_law_r9 : List Cond := [Cond.instanceMethod yX4_groupAt, Cond.selects RX4 yX4_groupAt yX4_groupAt, Cond.code yX4_groupAt cX4_groupAt 2 (some (.object "LinkShaper$Group")), Cond.classLink RX4 56 "LinkShaper$Group", Cond.methodLink RX4 156 yJx4a65c_get_915e3, Cond.instanceMethod yJx4a65c_get_915e3, Cond.selects RJx4a65c yJx4a65c_get_915e3 yJx4a65c_get_915e3, Cond.code yJx4a65c_get_915e3 cJx4a65c_get_915e3 2 (some (.object "java/lang/Object")), Cond.methodLink RJx4a65c 118 yJ15_checkIndex_7cf53, Cond.static yJ15_checkIndex_7cf53, Cond.initialized RJ15, Cond.code yJ15_checkIndex_7cf53 cJ15_checkIndex_7cf53 2 (some .int), Cond.methodLink RJ15 105 yJ3_checkIndex_8e157, Cond.static yJ3_checkIndex_8e157, Cond.initialized RJ3, Cond.code yJ3_checkIndex_8e157 cJ3_checkIndex_8e157 3 (some .int), Cond.methodLink RJx4a65c 123 yJx4a65c_elementData_915e3, Cond.instanceMethod yJx4a65c_elementData_915e3, Cond.selects RJx4a65c yJx4a65c_elementData_915e3 yJx4a65c_elementData_915e3, Cond.code yJx4a65c_elementData_915e3 cJx4a65c_elementData_915e3 2 (some (.object "java/lang/Object")), Cond.methodLink RX4 79 yX4_isGuarantee, Cond.static yX4_isGuarantee, Cond.code yX4_isGuarantee cX4_isGuarantee 1 (some .boolean), Cond.methodLink RX4 82 yX4_hasRoomFor]
def wsL_law_r10 : List Cond := [Cond.instanceMethod yX4_hasRoomFor, Cond.selects RX4 yX4_hasRoomFor yX4_hasRoomFor, Cond.code yX4_hasRoomFor cX4_hasRoomFor 3 (some .boolean), Cond.fieldLink RX4 171 "LinkShaper$Group" "ceiling" "LLinkShaper$Bucket;", Cond.fieldLink RX4 180 "LinkShaper$Bucket" "rate" "I", Cond.methodLink RX4 88 yX2_init, Cond.instanceMethod yX2_init, Cond.code yX2_init cX2_init 6 none, Cond.methodLink RX2 3 objectInit, Cond.fieldLink RX2 9 "LinkShaper$Leaf" "group" "LLinkShaper$Group;", Cond.fieldLink RX2 15 "LinkShaper$Leaf" "weight" "I", Cond.fieldLink RX2 19 "LinkShaper$Leaf" "guarantee" "I", Cond.fieldLink RX2 22 "LinkShaper$Leaf" "ceiling" "LLinkShaper$Bucket;", Cond.fieldLink RX2 26 "LinkShaper$Leaf" "limit" "I", Cond.methodLink RL 22 yX5_leaf, Cond.instanceMethod yX5_leaf, Cond.selects RX5 yX5_leaf yX5_leaf, Cond.code yX5_leaf cX5_leaf 10 (some .int), Cond.fieldLink RX5 128 "LinkShaperModel" "leaves" "I", Cond.constant RX5 131 (60000), Cond.methodLink RL 23 yX4_police, Cond.instanceMethod yX4_police, Cond.selects RX4 yX4_police yX4_police, Cond.code yX4_police cX4_police 6 (some .boolean)]
def wsL_law_r11 : List Cond := [Cond.fieldLink RX4 96 "LinkShaper$Leaf" "policer" "LLinkShaper$Bucket;", Cond.fieldLink RX4 100 "LinkShaper$Leaf" "marks" "Z", Cond.methodLink RX4 92 yX4_leafAt, Cond.instanceMethod yX4_leafAt, Cond.selects RX4 yX4_leafAt yX4_leafAt, Cond.code yX4_leafAt cX4_leafAt 2 (some (.object "LinkShaper$Leaf")), Cond.classLink RX4 86 "LinkShaper$Leaf", Cond.methodLink RL 27 yX5_police, Cond.instanceMethod yX5_police, Cond.selects RX5 yX5_police yX5_police, Cond.code yX5_police cX5_police 5 (some .boolean), Cond.methodLink RL 28 yX4_arrive, Cond.instanceMethod yX4_arrive, Cond.selects RX4 yX4_arrive yX4_arrive, Cond.code yX4_arrive cX4_arrive 6 (some .int), Cond.fieldLink RX4 107 "LinkShaper$Leaf" "refusedByPolicer" "I", Cond.fieldLink RX4 110 "LinkShaper$Leaf" "limit" "I", Cond.fieldLink RX4 113 "LinkShaper$Leaf" "bytes" "I", Cond.fieldLink RX4 116 "LinkShaper$Leaf" "refusedByLimit" "I", Cond.classLink RX4 119 RX3, Cond.instantiable RX3 9, Cond.initialized RX3, Cond.fieldLink RX4 132 "LinkShaper$Packet" "number" "I", Cond.methodLink RX4 104 yX2_paysPolicer]
def wsL_law_r12 : List Cond := [Cond.instanceMethod yX2_paysPolicer, Cond.selects RX2 yX2_paysPolicer yX2_paysPolicer, Cond.code yX2_paysPolicer cX2_paysPolicer 2 (some .boolean), Cond.fieldLink RX2 29 "LinkShaper$Leaf" "policer" "LLinkShaper$Bucket;", Cond.methodLink RX2 32 yX0_covers, Cond.instanceMethod yX0_covers, Cond.selects RX0 yX0_covers yX0_covers, Cond.code yX0_covers cX0_covers 2 (some .boolean), Cond.methodLink RX2 38 yX0_take, Cond.instanceMethod yX0_take, Cond.selects RX0 yX0_take yX0_take, Cond.code yX0_take cX0_take 2 none, Cond.methodLink RX4 121 yX3_init, Cond.instanceMethod yX3_init, Cond.code yX3_init cX3_init 6 none, Cond.methodLink RX3 3 objectInit, Cond.fieldLink RX3 9 "LinkShaper$Packet" "number" "I", Cond.fieldLink RX3 15 "LinkShaper$Packet" "leaf" "I", Cond.fieldLink RX3 18 "LinkShaper$Packet" "size" "I", Cond.fieldLink RX3 21 "LinkShaper$Packet" "came" "I", Cond.fieldLink RX3 24 "LinkShaper$Packet" "marked" "Z", Cond.fieldLink RX3 28 "LinkShaper$Packet" "began" "I", Cond.fieldLink RX3 31 "LinkShaper$Packet" "way" "I", Cond.fieldLink RX3 34 "LinkShaper$Packet" "deadline" "I"]
def wsL_law_r13 : List Cond := [Cond.methodLink RX4 124 yX2_catchUp, Cond.instanceMethod yX2_catchUp, Cond.selects RX2 yX2_catchUp yX2_catchUp, Cond.code yX2_catchUp cX2_catchUp 3 none, Cond.fieldLink RX2 42 "LinkShaper$Leaf" "first" "LLinkShaper$Packet;", Cond.fieldLink RX2 46 "LinkShaper$Leaf" "sum" "J", Cond.fieldLink RX2 50 "LinkShaper$Group" "mark" "J", Cond.methodLink RX2 55 Lib.MathLoose.max_long.x, Cond.static Lib.MathLoose.max_long.x, Cond.code Lib.MathLoose.max_long.x Lib.MathLoose.max_long.code 4 (some .long), Cond.fieldLink RX2 61 "LinkShaper$Group" "waiting" "I", Cond.fieldLink RX2 64 "LinkShaper$Group" "sum" "J", Cond.methodLink RX4 128 yX2_append, Cond.instanceMethod yX2_append, Cond.selects RX2 yX2_append yX2_append, Cond.code yX2_append cX2_append 2 none, Cond.fieldLink RX2 65 "LinkShaper$Leaf" "last" "LLinkShaper$Packet;", Cond.fieldLink RX2 68 "LinkShaper$Packet" "next" "LLinkShaper$Packet;", Cond.fieldLink RX2 73 "LinkShaper$Leaf" "waiting" "I", Cond.fieldLink RX2 74 "LinkShaper$Leaf" "bytes" "I", Cond.fieldLink RX2 77 "LinkShaper$Packet" "size" "I", Cond.methodLink RL 32 yX5_arrive, Cond.instanceMethod yX5_arrive, Cond.selects RX5 yX5_arrive yX5_arrive]
def wsL_law_r14 : List Cond := [Cond.code yX5_arrive cX5_arrive 7 (some .int), Cond.fieldLink RX5 132 "LinkShaperModel" "packets" "I", Cond.fieldLink RX5 135 "LinkShaperModel" "linkMark" "J", Cond.fieldLink RX5 139 "LinkShaperModel" "now" "I", Cond.methodLink RL 33 yX4_run, Cond.instanceMethod yX4_run, Cond.selects RX4 yX4_run yX4_run, Cond.code yX4_run cX4_run 5 (some .int), Cond.constant RX4 135 (100000), Cond.constant RX4 136 (1000000000), Cond.methodLink RX4 140 Lib.Math.min.name, Cond.methodLink RX4 137 yX4_beginOne, Cond.instanceMethod yX4_beginOne, Cond.selects RX4 yX4_beginOne yX4_beginOne, Cond.code yX4_beginOne cX4_beginOne 3 none, Cond.methodLink RX4 204 Lib.MathLoose.max_long.x, Cond.methodLink RX4 183 yX4_pickDue, Cond.instanceMethod yX4_pickDue, Cond.selects RX4 yX4_pickDue yX4_pickDue, Cond.code yX4_pickDue cX4_pickDue 4 (some (.object "LinkShaper$Leaf")), Cond.methodLink RX4 213 yX2_start, Cond.instanceMethod yX2_start, Cond.selects RX2 yX2_start yX2_start, Cond.code yX2_start cX2_start 1 (some .int)]
def wsL_law_r15 : List Cond := [Cond.constant RX2 80 (2147483647), Cond.fieldLink RX2 81 "LinkShaper$Leaf" "clock" "I", Cond.fieldLink RX2 84 "LinkShaper$Packet" "came" "I", Cond.methodLink RX2 87 Lib.Math.max.name, Cond.methodLink RX4 216 yX2_deadline, Cond.instanceMethod yX2_deadline, Cond.selects RX2 yX2_deadline yX2_deadline, Cond.code yX2_deadline cX2_deadline 1 (some .int), Cond.methodLink RX2 90 yX2_start, Cond.methodLink RX4 187 yX2_sendDue, Cond.instanceMethod yX2_sendDue, Cond.selects RX2 yX2_sendDue yX2_sendDue, Cond.code yX2_sendDue cX2_sendDue 4 (some (.object "LinkShaper$Packet")), Cond.fieldLink RX2 120 "LinkShaper$Packet" "way" "I", Cond.fieldLink RX2 123 "LinkShaper$Packet" "deadline" "I", Cond.fieldLink RX2 125 "LinkShaper$Leaf" "dueBytes" "I", Cond.methodLink RX2 113 yX2_deadline, Cond.methodLink RX2 116 yX2_removeFirst, Cond.instanceMethod yX2_removeFirst, Cond.selects RX2 yX2_removeFirst yX2_removeFirst, Cond.code yX2_removeFirst cX2_removeFirst 3 (some (.object "LinkShaper$Packet")), Cond.fieldLink RX2 138 "LinkShaper$Packet" "began" "I", Cond.fieldLink RX2 94 "LinkShaper$Group" "ceiling" "LLinkShaper$Bucket;", Cond.methodLink RX4 191 yX4_putOnLink]
def wsL_law_r16 : List Cond := [Cond.instanceMethod yX4_putOnLink, Cond.selects RX4 yX4_putOnLink yX4_putOnLink, Cond.code yX4_putOnLink cX4_putOnLink 2 none, Cond.fieldLink RX4 211 "LinkShaper$Packet" "size" "I", Cond.methodLink RX4 194 yX4_pickExcess, Cond.instanceMethod yX4_pickExcess, Cond.selects RX4 yX4_pickExcess yX4_pickExcess, Cond.code yX4_pickExcess cX4_pickExcess 4 (some (.object "LinkShaper$Leaf")), Cond.methodLink RX4 219 yX4_pickExcessOf, Cond.instanceMethod yX4_pickExcessOf, Cond.selects RX4 yX4_pickExcessOf yX4_pickExcessOf, Cond.code yX4_pickExcessOf cX4_pickExcessOf 5 (some (.object "LinkShaper$Leaf")), Cond.fieldLink RX4 223 "LinkShaper$Leaf" "group" "LLinkShaper$Group;", Cond.methodLink RX4 227 yX2_isReady, Cond.instanceMethod yX2_isReady, Cond.selects RX2 yX2_isReady yX2_isReady, Cond.code yX2_isReady cX2_isReady 1 (some .boolean), Cond.methodLink RX4 231 yX2_tagInLeaf, Cond.instanceMethod yX2_tagInLeaf, Cond.selects RX2 yX2_tagInLeaf yX2_tagInLeaf, Cond.code yX2_tagInLeaf cX2_tagInLeaf 1 (some .long), Cond.constantLong RX2 99 (27720), Cond.methodLink RX4 200 yX2_tagInGroup, Cond.instanceMethod yX2_tagInGroup]
def wsL_law_r17 : List Cond := [Cond.selects RX2 yX2_tagInGroup yX2_tagInGroup, Cond.code yX2_tagInGroup cX2_tagInGroup 1 (some .long), Cond.methodLink RX2 101 yX1_tagOf, Cond.instanceMethod yX1_tagOf, Cond.selects RX1 yX1_tagOf yX1_tagOf, Cond.code yX1_tagOf cX1_tagOf 2 (some .long), Cond.fieldLink RX1 19 "LinkShaper$Group" "sum" "J", Cond.constantLong RX1 23 (27720), Cond.methodLink RX4 197 yX4_countHeld, Cond.instanceMethod yX4_countHeld, Cond.selects RX4 yX4_countHeld yX4_countHeld, Cond.code yX4_countHeld cX4_countHeld 4 none, Cond.fieldLink RX4 248 "LinkShaper$Leaf" "heldTicks" "I", Cond.methodLink RX4 245 yX2_isHeld, Cond.instanceMethod yX2_isHeld, Cond.selects RX2 yX2_isHeld yX2_isHeld, Cond.code yX2_isHeld cX2_isHeld 1 (some .boolean), Cond.methodLink RX2 95 yX2_isReady, Cond.methodLink RX4 208 yX2_sendExcess, Cond.instanceMethod yX2_sendExcess, Cond.selects RX2 yX2_sendExcess yX2_sendExcess, Cond.code yX2_sendExcess cX2_sendExcess 7 (some (.object "LinkShaper$Packet")), Cond.fieldLink RX2 135 "LinkShaper$Leaf" "excessBytes" "I", Cond.methodLink RX2 128 yX2_tagInLeaf]
def wsL_law_r18 : List Cond := [Cond.methodLink RX2 132 yX2_tagInGroup, Cond.methodLink RX4 146 yX4_passBusy, Cond.instanceMethod yX4_passBusy, Cond.selects RX4 yX4_passBusy yX4_passBusy, Cond.code yX4_passBusy cX4_passBusy 2 none, Cond.methodLink RX4 242 yX4_pass, Cond.instanceMethod yX4_pass, Cond.selects RX4 yX4_pass yX4_pass, Cond.code yX4_pass cX4_pass 4 none, Cond.fieldLink RX4 165 "LinkShaper$Leaf" "ceiling" "LLinkShaper$Bucket;", Cond.methodLink RX4 251 yX0_fill, Cond.instanceMethod yX0_fill, Cond.selects RX0 yX0_fill yX0_fill, Cond.code yX0_fill cX0_fill 2 none, Cond.methodLink RX0 24 Lib.MathLoose.min_long.x, Cond.static Lib.MathLoose.min_long.x, Cond.code Lib.MathLoose.min_long.x Lib.MathLoose.min_long.code 4 (some .long), Cond.methodLink RX4 150 yX4_ticksUntilOneMayGo, Cond.instanceMethod yX4_ticksUntilOneMayGo, Cond.selects RX4 yX4_ticksUntilOneMayGo yX4_ticksUntilOneMayGo, Cond.code yX4_ticksUntilOneMayGo cX4_ticksUntilOneMayGo 4 (some .int), Cond.constantLong RX4 234 (2147483647), Cond.methodLink RX4 240 Lib.MathLoose.min_long.x, Cond.methodLink RX4 236 yX2_ticksUntilMayGo]
def wsL_law_r19 : List Cond := [Cond.instanceMethod yX2_ticksUntilMayGo, Cond.selects RX2 yX2_ticksUntilMayGo yX2_ticksUntilMayGo, Cond.code yX2_ticksUntilMayGo cX2_ticksUntilMayGo 4 (some .long), Cond.constantLong RX2 105 (2147483647), Cond.methodLink RX2 110 Lib.MathLoose.min_long.x, Cond.methodLink RX2 107 yX0_ticksUntilCovers, Cond.instanceMethod yX0_ticksUntilCovers, Cond.selects RX0 yX0_ticksUntilCovers yX0_ticksUntilCovers, Cond.code yX0_ticksUntilCovers cX0_ticksUntilCovers 4 (some .long), Cond.constantLong RX0 30 (2147483647), Cond.methodLink RX4 153 yX4_passIdle, Cond.instanceMethod yX4_passIdle, Cond.selects RX4 yX4_passIdle yX4_passIdle, Cond.code yX4_passIdle cX4_passIdle 2 none, Cond.methodLink RL 37 yX5_run, Cond.instanceMethod yX5_run, Cond.selects RX5 yX5_run yX5_run, Cond.code yX5_run cX5_run 5 (some .int), Cond.constant RX5 145 (100000), Cond.constant RX5 146 (1000000000), Cond.fieldLink RX5 147 "LinkShaperModel" "began" "I", Cond.fieldLink RX5 142 "LinkShaperModel" "left" "I", Cond.fieldLink RX5 161 "LinkShaperModel" "busy" "I", Cond.methodLink RX5 150 yX5_isIdle]
def wsL_law_r20 : List Cond := [Cond.instanceMethod yX5_isIdle, Cond.selects RX5 yX5_isIdle yX5_isIdle, Cond.code yX5_isIdle cX5_isIdle 3 (some .boolean), Cond.methodLink RX5 154 yX5_passes, Cond.instanceMethod yX5_passes, Cond.selects RX5 yX5_passes yX5_passes, Cond.code yX5_passes cX5_passes 7 none, Cond.methodLink RX5 158 yX5_begins, Cond.instanceMethod yX5_begins, Cond.selects RX5 yX5_begins yX5_begins, Cond.code yX5_begins cX5_begins 4 none, Cond.methodLink RX5 164 yX5_startOf, Cond.instanceMethod yX5_startOf, Cond.selects RX5 yX5_startOf yX5_startOf, Cond.code yX5_startOf cX5_startOf 3 (some .int), Cond.methodLink RX5 168 yX5_deadlineOf, Cond.instanceMethod yX5_deadlineOf, Cond.selects RX5 yX5_deadlineOf yX5_deadlineOf, Cond.code yX5_deadlineOf cX5_deadlineOf 3 (some .int), Cond.methodLink RX5 171 yX5_goes, Cond.instanceMethod yX5_goes, Cond.selects RX5 yX5_goes yX5_goes, Cond.code yX5_goes cX5_goes 4 (some .int), Cond.methodLink RX5 175 yX5_excess]
def wsL_law_r21 : List Cond := [Cond.instanceMethod yX5_excess, Cond.selects RX5 yX5_excess yX5_excess, Cond.code yX5_excess cX5_excess 8 none, Cond.methodLink RX5 179 yX5_tagOf, Cond.instanceMethod yX5_tagOf, Cond.selects RX5 yX5_tagOf yX5_tagOf, Cond.code yX5_tagOf cX5_tagOf 2 (some .long), Cond.constantLong RX5 177 (27720), Cond.methodLink RX5 183 yX5_groupTagOf, Cond.instanceMethod yX5_groupTagOf, Cond.selects RX5 yX5_groupTagOf yX5_groupTagOf, Cond.code yX5_groupTagOf cX5_groupTagOf 3 (some .long), Cond.methodLink RL 38 yX4_now, Cond.instanceMethod yX4_now, Cond.selects RX4 yX4_now yX4_now, Cond.code yX4_now cX4_now 1 (some .int), Cond.methodLink RL 42 yX5_now, Cond.instanceMethod yX5_now, Cond.selects RX5 yX5_now yX5_now, Cond.code yX5_now cX5_now 1 (some .int), Cond.methodLink RL 43 yX4_packet, Cond.instanceMethod yX4_packet, Cond.selects RX4 yX4_packet yX4_packet, Cond.code yX4_packet cX4_packet 3 (some .int)]
def wsL_law_r22 : List Cond := [Cond.classLink RX4 119 "LinkShaper$Packet", Cond.methodLink RX4 160 yX3_figure, Cond.instanceMethod yX3_figure, Cond.selects RX3 yX3_figure yX3_figure, Cond.code yX3_figure cX3_figure 2 (some .int), Cond.methodLink RL 46 yX5_packet, Cond.instanceMethod yX5_packet, Cond.selects RX5 yX5_packet yX5_packet, Cond.code yX5_packet cX5_packet 3 (some .int), Cond.methodLink RL 47 yX4_sent, Cond.instanceMethod yX4_sent, Cond.selects RX4 yX4_sent yX4_sent, Cond.code yX4_sent cX4_sent 2 (some .int), Cond.methodLink RL 50 yX5_sent, Cond.instanceMethod yX5_sent, Cond.selects RX5 yX5_sent yX5_sent, Cond.code yX5_sent cX5_sent 2 (some .int), Cond.methodLink RL 51 yX4_about, Cond.instanceMethod yX4_about, Cond.selects RX4 yX4_about yX4_about, Cond.code yX4_about cX4_about 4 (some .int), Cond.methodLink RX4 164 yX2_figure, Cond.instanceMethod yX2_figure, Cond.selects RX2 yX2_figure yX2_figure]
def wsL_law_r23 : List Cond := [Cond.code yX2_figure cX2_figure 2 (some .int), Cond.fieldLink RX2 141 "LinkShaper$Leaf" "refusedByPolicer" "I", Cond.fieldLink RX2 144 "LinkShaper$Leaf" "refusedByLimit" "I", Cond.fieldLink RX2 147 "LinkShaper$Leaf" "heldTicks" "I", Cond.methodLink RL 54 yX5_about, Cond.instanceMethod yX5_about, Cond.selects RX5 yX5_about yX5_about, Cond.code yX5_about cX5_about 3 (some .int), Cond.methodLink RL 55 yX4_tokens, Cond.instanceMethod yX4_tokens, Cond.selects RX4 yX4_tokens yX4_tokens, Cond.code yX4_tokens cX4_tokens 5 (some .long), Cond.fieldLink RX4 168 "LinkShaper$Bucket" "level" "J", Cond.methodLink RL 59 yX5_tokens, Cond.instanceMethod yX5_tokens, Cond.selects RX5 yX5_tokens yX5_tokens, Cond.code yX5_tokens cX5_tokens 3 (some .long), Cond.methodLink RL 60 yX4_tag, Cond.instanceMethod yX4_tag, Cond.selects RX4 yX4_tag yX4_tag, Cond.code yX4_tag cX4_tag 5 (some .long), Cond.fieldLink RX4 172 "LinkShaper$Leaf" "sum" "J", Cond.fieldLink RX4 175 "LinkShaper$Group" "sum" "J", Cond.fieldLink RX4 176 "LinkShaper$Group" "mark" "J"]
def wsL_law_r24 : List Cond := [Cond.methodLink RL 63 yX5_tag, Cond.instanceMethod yX5_tag, Cond.selects RX5 yX5_tag yX5_tag, Cond.code yX5_tag cX5_tag 4 (some .long), Cond.methodLink RL 64 yX4_count, Cond.instanceMethod yX4_count, Cond.selects RX4 yX4_count yX4_count, Cond.code yX4_count cX4_count 2 (some .int), Cond.methodLink RX4 177 yX4_sent, Cond.methodLink RL 67 yX5_count, Cond.instanceMethod yX5_count, Cond.selects RX5 yX5_count yX5_count, Cond.code yX5_count cX5_count 2 (some .int)]
def wsL_law : List Cond := (wsL_law_r1 ++ (wsL_law_r2 ++ (wsL_law_r3 ++ (wsL_law_r4 ++ (wsL_law_r5 ++ (wsL_law_r6 ++ (wsL_law_r7 ++ (wsL_law_r8 ++ (wsL_law_r9 ++ (wsL_law_r10 ++ (wsL_law_r11 ++ (wsL_law_r12 ++ (wsL_law_r13 ++ (wsL_law_r14 ++ (wsL_law_r15 ++ (wsL_law_r16 ++ (wsL_law_r17 ++ (wsL_law_r18 ++ (wsL_law_r19 ++ (wsL_law_r20 ++ (wsL_law_r21 ++ (wsL_law_r22 ++ (wsL_law_r23 ++ wsL_law_r24))))))))))))))))))))))) ++ wsX40 ++ wsX50 ++ wsJx4a65c0 ++ wsX10 ++ wsX00 ++ wsX20 ++ wsX30 ++ ([] : List Cond)
abbrev vwCl : List vw_C := [(RJx4a65c, TJx4a65c, 3), (RX0, TX0, 3), (RX1, TX1, 6), (RX2, TX2, 18), (RX3, TX3, 9), (RX4, TX4, 9), (RX5, TX5, 42)]
end
section
theorem dX0_init_0 : decode cX0_init 0 = .ok (.aload_n 0, 1) := by decide +kernel
theorem dX0_init_1 : decode cX0_init 1 = .ok (.invokespecial 3, 3) := by decide +kernel
theorem dX0_init_4 : decode cX0_init 4 = .ok (.aload_n 0, 1) := by decide +kernel
theorem dX0_init_5 : decode cX0_init 5 = .ok (.iload_n 1, 1) := by decide +kernel
theorem dX0_init_6 : decode cX0_init 6 = .ok (.putfield 9, 3) := by decide +kernel
theorem dX0_init_9 : decode cX0_init 9 = .ok (.aload_n 0, 1) := by decide +kernel
theorem dX0_init_10 : decode cX0_init 10 = .ok (.ldc2_w 15, 3) := by decide +kernel
theorem dX0_init_13 : decode cX0_init 13 = .ok (.iload_n 2, 1) := by decide +kernel
theorem dX0_init_14 : decode cX0_init 14 = .ok (.i2l, 1) := by decide +kernel
theorem dX0_init_15 : decode cX0_init 15 = .ok (.lmul, 1) := by decide +kernel
theorem dX0_init_16 : decode cX0_init 16 = .ok (.putfield 17, 3) := by decide +kernel
theorem dX0_init_19 : decode cX0_init 19 = .ok (.aload_n 0, 1) := by decide +kernel
theorem dX0_init_20 : decode cX0_init 20 = .ok (.aload_n 0, 1) := by decide +kernel
theorem dX0_init_21 : decode cX0_init 21 = .ok (.getfield 17, 3) := by decide +kernel
theorem dX0_init_24 : decode cX0_init 24 = .ok (.putfield 21, 3) := by decide +kernel
theorem dX0_init_27 : decode cX0_init 27 = .ok (.return_, 1) := by decide +kernel
theorem dX0_fill_0 : decode cX0_fill 0 = .ok (.aload_n 0, 1) := by decide +kernel
theorem dX0_fill_1 : decode cX0_fill 1 = .ok (.aload_n 0, 1) := by decide +kernel
theorem dX0_fill_2 : decode cX0_fill 2 = .ok (.getfield 17, 3) := by decide +kernel
theorem dX0_fill_5 : decode cX0_fill 5 = .ok (.aload_n 0, 1) := by decide +kernel
theorem dX0_fill_6 : decode cX0_fill 6 = .ok (.getfield 21, 3) := by decide +kernel
theorem dX0_fill_9 : decode cX0_fill 9 = .ok (.aload_n 0, 1) := by decide +kernel
theorem dX0_fill_10 : decode cX0_fill 10 = .ok (.getfield 9, 3) := by decide +kernel
theorem dX0_fill_13 : decode cX0_fill 13 = .ok (.i2l, 1) := by decide +kernel
theorem dX0_fill_14 : decode cX0_fill 14 = .ok (.iload_n 1, 1) := by decide +kernel
theorem dX0_fill_15 : decode cX0_fill 15 = .ok (.i2l, 1) := by decide +kernel
theorem dX0_fill_16 : decode cX0_fill 16 = .ok (.lmul, 1) := by decide +kernel
theorem dX0_fill_17 : decode cX0_fill 17 = .ok (.ladd, 1) := by decide +kernel
theorem dX0_fill_18 : decode cX0_fill 18 = .ok (.invokestatic 24, 3) := by decide +kernel
theorem dX0_fill_21 : decode cX0_fill 21 = .ok (.putfield 21, 3) := by decide +kernel
theorem dX0_fill_24 : decode cX0_fill 24 = .ok (.return_, 1) := by decide +kernel
theorem dX0_covers_0 : decode cX0_covers 0 = .ok (.aload_n 0, 1) := by decide +kernel
theorem dX0_covers_1 : decode cX0_covers 1 = .ok (.getfield 21, 3) := by decide +kernel
theorem dX0_covers_4 : decode cX0_covers 4 = .ok (.ldc2_w 15, 3) := by decide +kernel
theorem dX0_covers_7 : decode cX0_covers 7 = .ok (.iload_n 1, 1) := by decide +kernel
theorem dX0_covers_8 : decode cX0_covers 8 = .ok (.i2l, 1) := by decide +kernel
theorem dX0_covers_9 : decode cX0_covers 9 = .ok (.lmul, 1) := by decide +kernel
theorem dX0_covers_10 : decode cX0_covers 10 = .ok (.lcmp, 1) := by decide +kernel
theorem dX0_covers_11 : decode cX0_covers 11 = .ok (.ifCond .lt 7, 3) := by decide +kernel
theorem dX0_covers_14 : decode cX0_covers 14 = .ok (.iconst 1, 1) := by decide +kernel
theorem dX0_covers_15 : decode cX0_covers 15 = .ok (.goto 4, 3) := by decide +kernel
theorem dX0_covers_18 : decode cX0_covers 18 = .ok (.iconst 0, 1) := by decide +kernel
theorem dX0_covers_19 : decode cX0_covers 19 = .ok (.ireturn, 1) := by decide +kernel
theorem dX0_take_0 : decode cX0_take 0 = .ok (.aload_n 0, 1) := by decide +kernel
theorem dX0_take_1 : decode cX0_take 1 = .ok (.dup, 1) := by decide +kernel
theorem dX0_take_2 : decode cX0_take 2 = .ok (.getfield 21, 3) := by decide +kernel
theorem dX0_take_5 : decode cX0_take 5 = .ok (.ldc2_w 15, 3) := by decide +kernel
theorem dX0_take_8 : decode cX0_take 8 = .ok (.iload_n 1, 1) := by decide +kernel
theorem dX0_take_9 : decode cX0_take 9 = .ok (.i2l, 1) := by decide +kernel
theorem dX0_take_10 : decode cX0_take 10 = .ok (.lmul, 1) := by decide +kernel
theorem dX0_take_11 : decode cX0_take 11 = .ok (.lsub, 1) := by decide +kernel
theorem dX0_take_12 : decode cX0_take 12 = .ok (.putfield 21, 3) := by decide +kernel
theorem dX0_take_15 : decode cX0_take 15 = .ok (.return_, 1) := by decide +kernel
theorem dX0_ticksUntilCovers_0 : decode cX0_ticksUntilCovers 0 = .ok (.ldc2_w 15, 3) := by decide +kernel
theorem dX0_ticksUntilCovers_3 : decode cX0_ticksUntilCovers 3 = .ok (.iload_n 1, 1) := by decide +kernel
theorem dX0_ticksUntilCovers_4 : decode cX0_ticksUntilCovers 4 = .ok (.i2l, 1) := by decide +kernel
theorem dX0_ticksUntilCovers_5 : decode cX0_ticksUntilCovers 5 = .ok (.lmul, 1) := by decide +kernel
theorem dX0_ticksUntilCovers_6 : decode cX0_ticksUntilCovers 6 = .ok (.aload_n 0, 1) := by decide +kernel
theorem dX0_ticksUntilCovers_7 : decode cX0_ticksUntilCovers 7 = .ok (.getfield 21, 3) := by decide +kernel
theorem dX0_ticksUntilCovers_10 : decode cX0_ticksUntilCovers 10 = .ok (.lsub, 1) := by decide +kernel
theorem dX0_ticksUntilCovers_11 : decode cX0_ticksUntilCovers 11 = .ok (.lstore_n 2, 1) := by decide +kernel
theorem dX0_ticksUntilCovers_12 : decode cX0_ticksUntilCovers 12 = .ok (.lload_n 2, 1) := by decide +kernel
theorem dX0_ticksUntilCovers_13 : decode cX0_ticksUntilCovers 13 = .ok (.lconst 0, 1) := by decide +kernel
theorem dX0_ticksUntilCovers_14 : decode cX0_ticksUntilCovers 14 = .ok (.lcmp, 1) := by decide +kernel
theorem dX0_ticksUntilCovers_15 : decode cX0_ticksUntilCovers 15 = .ok (.ifCond .gt 5, 3) := by decide +kernel
theorem dX0_ticksUntilCovers_18 : decode cX0_ticksUntilCovers 18 = .ok (.lconst 0, 1) := by decide +kernel
theorem dX0_ticksUntilCovers_19 : decode cX0_ticksUntilCovers 19 = .ok (.lreturn, 1) := by decide +kernel
theorem dX0_ticksUntilCovers_20 : decode cX0_ticksUntilCovers 20 = .ok (.aload_n 0, 1) := by decide +kernel
theorem dX0_ticksUntilCovers_21 : decode cX0_ticksUntilCovers 21 = .ok (.getfield 9, 3) := by decide +kernel
theorem dX0_ticksUntilCovers_24 : decode cX0_ticksUntilCovers 24 = .ok (.ifCond .gt 9, 3) := by decide +kernel
theorem dX0_ticksUntilCovers_27 : decode cX0_ticksUntilCovers 27 = .ok (.ldc2_w 30, 3) := by decide +kernel
theorem dX0_ticksUntilCovers_30 : decode cX0_ticksUntilCovers 30 = .ok (.goto 18, 3) := by decide +kernel
theorem dX0_ticksUntilCovers_33 : decode cX0_ticksUntilCovers 33 = .ok (.lload_n 2, 1) := by decide +kernel
theorem dX0_ticksUntilCovers_34 : decode cX0_ticksUntilCovers 34 = .ok (.aload_n 0, 1) := by decide +kernel
theorem dX0_ticksUntilCovers_35 : decode cX0_ticksUntilCovers 35 = .ok (.getfield 9, 3) := by decide +kernel
theorem dX0_ticksUntilCovers_38 : decode cX0_ticksUntilCovers 38 = .ok (.i2l, 1) := by decide +kernel
theorem dX0_ticksUntilCovers_39 : decode cX0_ticksUntilCovers 39 = .ok (.ladd, 1) := by decide +kernel
theorem dX0_ticksUntilCovers_40 : decode cX0_ticksUntilCovers 40 = .ok (.lconst 1, 1) := by decide +kernel
theorem dX0_ticksUntilCovers_41 : decode cX0_ticksUntilCovers 41 = .ok (.lsub, 1) := by decide +kernel
theorem dX0_ticksUntilCovers_42 : decode cX0_ticksUntilCovers 42 = .ok (.aload_n 0, 1) := by decide +kernel
theorem dX0_ticksUntilCovers_43 : decode cX0_ticksUntilCovers 43 = .ok (.getfield 9, 3) := by decide +kernel
theorem dX0_ticksUntilCovers_46 : decode cX0_ticksUntilCovers 46 = .ok (.i2l, 1) := by decide +kernel
theorem dX0_ticksUntilCovers_47 : decode cX0_ticksUntilCovers 47 = .ok (.ldiv, 1) := by decide +kernel
theorem dX0_ticksUntilCovers_48 : decode cX0_ticksUntilCovers 48 = .ok (.lreturn, 1) := by decide +kernel
theorem dX1_init_0 : decode cX1_init 0 = .ok (.aload_n 0, 1) := by decide +kernel
theorem dX1_init_1 : decode cX1_init 1 = .ok (.invokespecial 3, 3) := by decide +kernel
theorem dX1_init_4 : decode cX1_init 4 = .ok (.aload_n 0, 1) := by decide +kernel
theorem dX1_init_5 : decode cX1_init 5 = .ok (.iload_n 1, 1) := by decide +kernel
theorem dX1_init_6 : decode cX1_init 6 = .ok (.putfield 9, 3) := by decide +kernel
theorem dX1_init_9 : decode cX1_init 9 = .ok (.aload_n 0, 1) := by decide +kernel
theorem dX1_init_10 : decode cX1_init 10 = .ok (.aload_n 2, 1) := by decide +kernel
theorem dX1_init_11 : decode cX1_init 11 = .ok (.putfield 15, 3) := by decide +kernel
theorem dX1_init_14 : decode cX1_init 14 = .ok (.return_, 1) := by decide +kernel
theorem dX1_tagOf_0 : decode cX1_tagOf 0 = .ok (.aload_n 0, 1) := by decide +kernel
theorem dX1_tagOf_1 : decode cX1_tagOf 1 = .ok (.getfield 9, 3) := by decide +kernel
theorem dX1_tagOf_4 : decode cX1_tagOf 4 = .ok (.ifCond .gt 10, 3) := by decide +kernel
theorem dX1_tagOf_7 : decode cX1_tagOf 7 = .ok (.aload_n 0, 1) := by decide +kernel
theorem dX1_tagOf_8 : decode cX1_tagOf 8 = .ok (.getfield 19, 3) := by decide +kernel
theorem dX1_tagOf_11 : decode cX1_tagOf 11 = .ok (.goto 20, 3) := by decide +kernel
theorem dX1_tagOf_14 : decode cX1_tagOf 14 = .ok (.aload_n 0, 1) := by decide +kernel
theorem dX1_tagOf_15 : decode cX1_tagOf 15 = .ok (.getfield 19, 3) := by decide +kernel
theorem dX1_tagOf_18 : decode cX1_tagOf 18 = .ok (.ldc2_w 23, 3) := by decide +kernel
theorem dX1_tagOf_21 : decode cX1_tagOf 21 = .ok (.iload_n 1, 1) := by decide +kernel
theorem dX1_tagOf_22 : decode cX1_tagOf 22 = .ok (.i2l, 1) := by decide +kernel
theorem dX1_tagOf_23 : decode cX1_tagOf 23 = .ok (.lmul, 1) := by decide +kernel
theorem dX1_tagOf_24 : decode cX1_tagOf 24 = .ok (.aload_n 0, 1) := by decide +kernel
theorem dX1_tagOf_25 : decode cX1_tagOf 25 = .ok (.getfield 9, 3) := by decide +kernel
theorem dX1_tagOf_28 : decode cX1_tagOf 28 = .ok (.i2l, 1) := by decide +kernel
theorem dX1_tagOf_29 : decode cX1_tagOf 29 = .ok (.ldiv, 1) := by decide +kernel
theorem dX1_tagOf_30 : decode cX1_tagOf 30 = .ok (.ladd, 1) := by decide +kernel
theorem dX1_tagOf_31 : decode cX1_tagOf 31 = .ok (.lreturn, 1) := by decide +kernel
theorem dX2_init_0 : decode cX2_init 0 = .ok (.aload_n 0, 1) := by decide +kernel
theorem dX2_init_1 : decode cX2_init 1 = .ok (.invokespecial 3, 3) := by decide +kernel
theorem dX2_init_4 : decode cX2_init 4 = .ok (.aload_n 0, 1) := by decide +kernel
theorem dX2_init_5 : decode cX2_init 5 = .ok (.aload_n 1, 1) := by decide +kernel
theorem dX2_init_6 : decode cX2_init 6 = .ok (.putfield 9, 3) := by decide +kernel
theorem dX2_init_9 : decode cX2_init 9 = .ok (.aload_n 0, 1) := by decide +kernel
theorem dX2_init_10 : decode cX2_init 10 = .ok (.iload_n 2, 1) := by decide +kernel
theorem dX2_init_11 : decode cX2_init 11 = .ok (.putfield 15, 3) := by decide +kernel
theorem dX2_init_14 : decode cX2_init 14 = .ok (.aload_n 0, 1) := by decide +kernel
theorem dX2_init_15 : decode cX2_init 15 = .ok (.iload_n 3, 1) := by decide +kernel
theorem dX2_init_16 : decode cX2_init 16 = .ok (.putfield 19, 3) := by decide +kernel
theorem dX2_init_19 : decode cX2_init 19 = .ok (.aload_n 0, 1) := by decide +kernel
theorem dX2_init_20 : decode cX2_init 20 = .ok (.aload 4, 2) := by decide +kernel
theorem dX2_init_22 : decode cX2_init 22 = .ok (.putfield 22, 3) := by decide +kernel
theorem dX2_init_25 : decode cX2_init 25 = .ok (.aload_n 0, 1) := by decide +kernel
theorem dX2_init_26 : decode cX2_init 26 = .ok (.iload 5, 2) := by decide +kernel
theorem dX2_init_28 : decode cX2_init 28 = .ok (.putfield 26, 3) := by decide +kernel
theorem dX2_init_31 : decode cX2_init 31 = .ok (.return_, 1) := by decide +kernel
set_option maxRecDepth 20000 in
theorem ggX2_paysPolicer_X0_covers : GoodIn wsX2_paysPolicer wsX0_covers := goodIn_r _ [6, 7, 8, 31, 32, 33] (by decide +kernel) (by decide +kernel)
set_option maxRecDepth 20000 in
theorem gX2_paysPolicer_X0_covers : GoodIn wsX2_paysPolicer (wsV RX2 32 RX0 yX0_covers wsX0_covers) := goodIn_app (goodIn_of _ (by decide +kernel)) ggX2_paysPolicer_X0_covers
set_option maxRecDepth 20000 in
theorem ggX2_paysPolicer_X0_take : GoodIn wsX2_paysPolicer wsX0_take := goodIn_r _ [12, 7, 8, 31, 32, 33] (by decide +kernel) (by decide +kernel)
set_option maxRecDepth 20000 in
theorem gX2_paysPolicer_X0_take : GoodIn wsX2_paysPolicer (wsV RX2 38 RX0 yX0_take wsX0_take) := goodIn_app (goodIn_of _ (by decide +kernel)) ggX2_paysPolicer_X0_take
theorem dX2_paysPolicer_0 : decode cX2_paysPolicer 0 = .ok (.aload_n 0, 1) := by decide +kernel
theorem dX2_paysPolicer_1 : decode cX2_paysPolicer 1 = .ok (.getfield 29, 3) := by decide +kernel
theorem dX2_paysPolicer_4 : decode cX2_paysPolicer 4 = .ok (.ifnonnull 5, 3) := by decide +kernel
theorem dX2_paysPolicer_7 : decode cX2_paysPolicer 7 = .ok (.iconst 1, 1) := by decide +kernel
theorem dX2_paysPolicer_8 : decode cX2_paysPolicer 8 = .ok (.ireturn, 1) := by decide +kernel
theorem dX2_paysPolicer_9 : decode cX2_paysPolicer 9 = .ok (.aload_n 0, 1) := by decide +kernel
theorem dX2_paysPolicer_10 : decode cX2_paysPolicer 10 = .ok (.getfield 29, 3) := by decide +kernel
theorem dX2_paysPolicer_13 : decode cX2_paysPolicer 13 = .ok (.iload_n 1, 1) := by decide +kernel
theorem dX2_paysPolicer_14 : decode cX2_paysPolicer 14 = .ok (.invokevirtual 32, 3) := by decide +kernel
theorem dX2_paysPolicer_17 : decode cX2_paysPolicer 17 = .ok (.ifCond .ne 5, 3) := by decide +kernel
theorem dX2_paysPolicer_20 : decode cX2_paysPolicer 20 = .ok (.iconst 0, 1) := by decide +kernel
theorem dX2_paysPolicer_21 : decode cX2_paysPolicer 21 = .ok (.ireturn, 1) := by decide +kernel
theorem dX2_paysPolicer_22 : decode cX2_paysPolicer 22 = .ok (.aload_n 0, 1) := by decide +kernel
theorem dX2_paysPolicer_23 : decode cX2_paysPolicer 23 = .ok (.getfield 29, 3) := by decide +kernel
theorem dX2_paysPolicer_26 : decode cX2_paysPolicer 26 = .ok (.iload_n 1, 1) := by decide +kernel
theorem dX2_paysPolicer_27 : decode cX2_paysPolicer 27 = .ok (.invokevirtual 38, 3) := by decide +kernel
theorem dX2_paysPolicer_30 : decode cX2_paysPolicer 30 = .ok (.iconst 1, 1) := by decide +kernel
theorem dX2_paysPolicer_31 : decode cX2_paysPolicer 31 = .ok (.ireturn, 1) := by decide +kernel
theorem dX2_catchUp_0 : decode cX2_catchUp 0 = .ok (.aload_n 0, 1) := by decide +kernel
theorem dX2_catchUp_1 : decode cX2_catchUp 1 = .ok (.getfield 42, 3) := by decide +kernel
theorem dX2_catchUp_4 : decode cX2_catchUp 4 = .ok (.ifnonnull 21, 3) := by decide +kernel
theorem dX2_catchUp_7 : decode cX2_catchUp 7 = .ok (.aload_n 0, 1) := by decide +kernel
theorem dX2_catchUp_8 : decode cX2_catchUp 8 = .ok (.aload_n 0, 1) := by decide +kernel
theorem dX2_catchUp_9 : decode cX2_catchUp 9 = .ok (.getfield 46, 3) := by decide +kernel
theorem dX2_catchUp_12 : decode cX2_catchUp 12 = .ok (.aload_n 0, 1) := by decide +kernel
theorem dX2_catchUp_13 : decode cX2_catchUp 13 = .ok (.getfield 9, 3) := by decide +kernel
theorem dX2_catchUp_16 : decode cX2_catchUp 16 = .ok (.getfield 50, 3) := by decide +kernel
theorem dX2_catchUp_19 : decode cX2_catchUp 19 = .ok (.invokestatic 55, 3) := by decide +kernel
theorem dX2_catchUp_22 : decode cX2_catchUp 22 = .ok (.putfield 46, 3) := by decide +kernel
theorem dX2_catchUp_25 : decode cX2_catchUp 25 = .ok (.aload_n 0, 1) := by decide +kernel
theorem dX2_catchUp_26 : decode cX2_catchUp 26 = .ok (.getfield 9, 3) := by decide +kernel
theorem dX2_catchUp_29 : decode cX2_catchUp 29 = .ok (.getfield 61, 3) := by decide +kernel
theorem dX2_catchUp_32 : decode cX2_catchUp 32 = .ok (.ifCond .ne 21, 3) := by decide +kernel
theorem dX2_catchUp_35 : decode cX2_catchUp 35 = .ok (.aload_n 0, 1) := by decide +kernel
theorem dX2_catchUp_36 : decode cX2_catchUp 36 = .ok (.getfield 9, 3) := by decide +kernel
theorem dX2_catchUp_39 : decode cX2_catchUp 39 = .ok (.aload_n 0, 1) := by decide +kernel
theorem dX2_catchUp_40 : decode cX2_catchUp 40 = .ok (.getfield 9, 3) := by decide +kernel
theorem dX2_catchUp_43 : decode cX2_catchUp 43 = .ok (.getfield 64, 3) := by decide +kernel
theorem dX2_catchUp_46 : decode cX2_catchUp 46 = .ok (.lload_n 1, 1) := by decide +kernel
theorem dX2_catchUp_47 : decode cX2_catchUp 47 = .ok (.invokestatic 55, 3) := by decide +kernel
theorem dX2_catchUp_50 : decode cX2_catchUp 50 = .ok (.putfield 64, 3) := by decide +kernel
theorem dX2_catchUp_53 : decode cX2_catchUp 53 = .ok (.return_, 1) := by decide +kernel
theorem dX2_append_0 : decode cX2_append 0 = .ok (.aload_n 0, 1) := by decide +kernel
theorem dX2_append_1 : decode cX2_append 1 = .ok (.getfield 65, 3) := by decide +kernel
theorem dX2_append_4 : decode cX2_append 4 = .ok (.ifnonnull 11, 3) := by decide +kernel
theorem dX2_append_7 : decode cX2_append 7 = .ok (.aload_n 0, 1) := by decide +kernel
theorem dX2_append_8 : decode cX2_append 8 = .ok (.aload_n 1, 1) := by decide +kernel
theorem dX2_append_9 : decode cX2_append 9 = .ok (.putfield 42, 3) := by decide +kernel
theorem dX2_append_12 : decode cX2_append 12 = .ok (.goto 11, 3) := by decide +kernel
theorem dX2_append_15 : decode cX2_append 15 = .ok (.aload_n 0, 1) := by decide +kernel
theorem dX2_append_16 : decode cX2_append 16 = .ok (.getfield 65, 3) := by decide +kernel
theorem dX2_append_19 : decode cX2_append 19 = .ok (.aload_n 1, 1) := by decide +kernel
theorem dX2_append_20 : decode cX2_append 20 = .ok (.putfield 68, 3) := by decide +kernel
theorem dX2_append_23 : decode cX2_append 23 = .ok (.aload_n 0, 1) := by decide +kernel
theorem dX2_append_24 : decode cX2_append 24 = .ok (.aload_n 1, 1) := by decide +kernel
theorem dX2_append_25 : decode cX2_append 25 = .ok (.putfield 65, 3) := by decide +kernel
theorem dX2_append_28 : decode cX2_append 28 = .ok (.aload_n 0, 1) := by decide +kernel
theorem dX2_append_29 : decode cX2_append 29 = .ok (.dup, 1) := by decide +kernel
theorem dX2_append_30 : decode cX2_append 30 = .ok (.getfield 73, 3) := by decide +kernel
theorem dX2_append_33 : decode cX2_append 33 = .ok (.iconst 1, 1) := by decide +kernel
theorem dX2_append_34 : decode cX2_append 34 = .ok (.iadd, 1) := by decide +kernel
theorem dX2_append_35 : decode cX2_append 35 = .ok (.putfield 73, 3) := by decide +kernel
theorem dX2_append_38 : decode cX2_append 38 = .ok (.aload_n 0, 1) := by decide +kernel
theorem dX2_append_39 : decode cX2_append 39 = .ok (.dup, 1) := by decide +kernel
theorem dX2_append_40 : decode cX2_append 40 = .ok (.getfield 74, 3) := by decide +kernel
theorem dX2_append_43 : decode cX2_append 43 = .ok (.aload_n 1, 1) := by decide +kernel
theorem dX2_append_44 : decode cX2_append 44 = .ok (.getfield 77, 3) := by decide +kernel
theorem dX2_append_47 : decode cX2_append 47 = .ok (.iadd, 1) := by decide +kernel
theorem dX2_append_48 : decode cX2_append 48 = .ok (.putfield 74, 3) := by decide +kernel
theorem dX2_append_51 : decode cX2_append 51 = .ok (.aload_n 0, 1) := by decide +kernel
theorem dX2_append_52 : decode cX2_append 52 = .ok (.getfield 9, 3) := by decide +kernel
theorem dX2_append_55 : decode cX2_append 55 = .ok (.dup, 1) := by decide +kernel
theorem dX2_append_56 : decode cX2_append 56 = .ok (.getfield 61, 3) := by decide +kernel
theorem dX2_append_59 : decode cX2_append 59 = .ok (.iconst 1, 1) := by decide +kernel
theorem dX2_append_60 : decode cX2_append 60 = .ok (.iadd, 1) := by decide +kernel
theorem dX2_append_61 : decode cX2_append 61 = .ok (.putfield 61, 3) := by decide +kernel
theorem dX2_append_64 : decode cX2_append 64 = .ok (.return_, 1) := by decide +kernel
theorem dX2_start_0 : decode cX2_start 0 = .ok (.aload_n 0, 1) := by decide +kernel
theorem dX2_start_1 : decode cX2_start 1 = .ok (.getfield 42, 3) := by decide +kernel
theorem dX2_start_4 : decode cX2_start 4 = .ok (.ifnull 10, 3) := by decide +kernel
theorem dX2_start_7 : decode cX2_start 7 = .ok (.aload_n 0, 1) := by decide +kernel
theorem dX2_start_8 : decode cX2_start 8 = .ok (.getfield 19, 3) := by decide +kernel
theorem dX2_start_11 : decode cX2_start 11 = .ok (.ifCond .gt 8, 3) := by decide +kernel
theorem dX2_start_14 : decode cX2_start 14 = .ok (.ldc 80, 2) := by decide +kernel
theorem dX2_start_16 : decode cX2_start 16 = .ok (.goto 17, 3) := by decide +kernel
theorem dX2_start_19 : decode cX2_start 19 = .ok (.aload_n 0, 1) := by decide +kernel
theorem dX2_start_20 : decode cX2_start 20 = .ok (.getfield 81, 3) := by decide +kernel
theorem dX2_start_23 : decode cX2_start 23 = .ok (.aload_n 0, 1) := by decide +kernel
theorem dX2_start_24 : decode cX2_start 24 = .ok (.getfield 42, 3) := by decide +kernel
theorem dX2_start_27 : decode cX2_start 27 = .ok (.getfield 84, 3) := by decide +kernel
theorem dX2_start_30 : decode cX2_start 30 = .ok (.invokestatic 87, 3) := by decide +kernel
theorem dX2_start_33 : decode cX2_start 33 = .ok (.ireturn, 1) := by decide +kernel
set_option maxRecDepth 20000 in
theorem ggX2_deadline_X2_start : GoodIn wsX2_deadline wsX2_start := goodIn_r _ [9, 1, 2, 3, 10, 11, 12, 13, 14, 15, 16, 17, 18, 19, 20, 21, 22, 23, 24, 25, 26, 27, 28, 29, 30, 31, 32, 33, 34, 35, 36, 37, 38, 39, 40, 41, 42] (by decide +kernel) (by decide +kernel)
set_option maxRecDepth 20000 in
theorem gX2_deadline_X2_start : GoodIn wsX2_deadline (wsV RX2 90 RX2 yX2_start wsX2_start) := goodIn_app (goodIn_of _ (by decide +kernel)) ggX2_deadline_X2_start
theorem dX2_deadline_0 : decode cX2_deadline 0 = .ok (.aload_n 0, 1) := by decide +kernel
theorem dX2_deadline_1 : decode cX2_deadline 1 = .ok (.getfield 42, 3) := by decide +kernel
theorem dX2_deadline_4 : decode cX2_deadline 4 = .ok (.ifnull 10, 3) := by decide +kernel
theorem dX2_deadline_7 : decode cX2_deadline 7 = .ok (.aload_n 0, 1) := by decide +kernel
theorem dX2_deadline_8 : decode cX2_deadline 8 = .ok (.getfield 19, 3) := by decide +kernel
theorem dX2_deadline_11 : decode cX2_deadline 11 = .ok (.ifCond .gt 6, 3) := by decide +kernel
theorem dX2_deadline_14 : decode cX2_deadline 14 = .ok (.ldc 80, 2) := by decide +kernel
theorem dX2_deadline_16 : decode cX2_deadline 16 = .ok (.ireturn, 1) := by decide +kernel
theorem dX2_deadline_17 : decode cX2_deadline 17 = .ok (.aload_n 0, 1) := by decide +kernel
theorem dX2_deadline_18 : decode cX2_deadline 18 = .ok (.invokevirtual 90, 3) := by decide +kernel
theorem dX2_deadline_21 : decode cX2_deadline 21 = .ok (.sipush 1000, 3) := by decide +kernel
theorem dX2_deadline_24 : decode cX2_deadline 24 = .ok (.aload_n 0, 1) := by decide +kernel
theorem dX2_deadline_25 : decode cX2_deadline 25 = .ok (.getfield 42, 3) := by decide +kernel
theorem dX2_deadline_28 : decode cX2_deadline 28 = .ok (.getfield 77, 3) := by decide +kernel
theorem dX2_deadline_31 : decode cX2_deadline 31 = .ok (.imul, 1) := by decide +kernel
theorem dX2_deadline_32 : decode cX2_deadline 32 = .ok (.aload_n 0, 1) := by decide +kernel
theorem dX2_deadline_33 : decode cX2_deadline 33 = .ok (.getfield 19, 3) := by decide +kernel
theorem dX2_deadline_36 : decode cX2_deadline 36 = .ok (.iadd, 1) := by decide +kernel
theorem dX2_deadline_37 : decode cX2_deadline 37 = .ok (.iconst 1, 1) := by decide +kernel
theorem dX2_deadline_38 : decode cX2_deadline 38 = .ok (.isub, 1) := by decide +kernel
theorem dX2_deadline_39 : decode cX2_deadline 39 = .ok (.aload_n 0, 1) := by decide +kernel
theorem dX2_deadline_40 : decode cX2_deadline 40 = .ok (.getfield 19, 3) := by decide +kernel
theorem dX2_deadline_43 : decode cX2_deadline 43 = .ok (.idiv, 1) := by decide +kernel
theorem dX2_deadline_44 : decode cX2_deadline 44 = .ok (.iadd, 1) := by decide +kernel
theorem dX2_deadline_45 : decode cX2_deadline 45 = .ok (.ireturn, 1) := by decide +kernel
set_option maxRecDepth 20000 in
theorem ggX2_isReady_X0_covers : GoodIn wsX2_isReady wsX0_covers := goodIn_r _ [10, 11, 12, 46, 47, 48] (by decide +kernel) (by decide +kernel)
set_option maxRecDepth 20000 in
theorem gX2_isReady_X0_covers : GoodIn wsX2_isReady (wsV RX2 32 RX0 yX0_covers wsX0_covers) := goodIn_app (goodIn_of _ (by decide +kernel)) ggX2_isReady_X0_covers
theorem dX2_isReady_0 : decode cX2_isReady 0 = .ok (.aload_n 0, 1) := by decide +kernel
theorem dX2_isReady_1 : decode cX2_isReady 1 = .ok (.getfield 42, 3) := by decide +kernel
theorem dX2_isReady_4 : decode cX2_isReady 4 = .ok (.ifnull 44, 3) := by decide +kernel
theorem dX2_isReady_7 : decode cX2_isReady 7 = .ok (.aload_n 0, 1) := by decide +kernel
theorem dX2_isReady_8 : decode cX2_isReady 8 = .ok (.getfield 22, 3) := by decide +kernel
theorem dX2_isReady_11 : decode cX2_isReady 11 = .ok (.aload_n 0, 1) := by decide +kernel
theorem dX2_isReady_12 : decode cX2_isReady 12 = .ok (.getfield 42, 3) := by decide +kernel
theorem dX2_isReady_15 : decode cX2_isReady 15 = .ok (.getfield 77, 3) := by decide +kernel
theorem dX2_isReady_18 : decode cX2_isReady 18 = .ok (.invokevirtual 32, 3) := by decide +kernel
theorem dX2_isReady_21 : decode cX2_isReady 21 = .ok (.ifCond .eq 27, 3) := by decide +kernel
theorem dX2_isReady_24 : decode cX2_isReady 24 = .ok (.aload_n 0, 1) := by decide +kernel
theorem dX2_isReady_25 : decode cX2_isReady 25 = .ok (.getfield 9, 3) := by decide +kernel
theorem dX2_isReady_28 : decode cX2_isReady 28 = .ok (.getfield 94, 3) := by decide +kernel
theorem dX2_isReady_31 : decode cX2_isReady 31 = .ok (.aload_n 0, 1) := by decide +kernel
theorem dX2_isReady_32 : decode cX2_isReady 32 = .ok (.getfield 42, 3) := by decide +kernel
theorem dX2_isReady_35 : decode cX2_isReady 35 = .ok (.getfield 77, 3) := by decide +kernel
theorem dX2_isReady_38 : decode cX2_isReady 38 = .ok (.invokevirtual 32, 3) := by decide +kernel
theorem dX2_isReady_41 : decode cX2_isReady 41 = .ok (.ifCond .eq 7, 3) := by decide +kernel
theorem dX2_isReady_44 : decode cX2_isReady 44 = .ok (.iconst 1, 1) := by decide +kernel
theorem dX2_isReady_45 : decode cX2_isReady 45 = .ok (.goto 4, 3) := by decide +kernel
theorem dX2_isReady_48 : decode cX2_isReady 48 = .ok (.iconst 0, 1) := by decide +kernel
theorem dX2_isReady_49 : decode cX2_isReady 49 = .ok (.ireturn, 1) := by decide +kernel
set_option maxRecDepth 20000 in
theorem ggX2_isHeld_X2_isReady : GoodIn wsX2_isHeld wsX2_isReady := goodIn_r _ [6, 1, 7, 8, 9, 10, 11, 12, 13, 14, 15, 16, 17, 18, 19, 20, 21, 22, 23, 24, 25, 26, 27, 28, 29, 30, 31, 32, 33, 34, 35, 36, 37, 38, 39, 40, 41, 42, 43, 44, 45, 46, 47, 48, 49, 50, 51, 52, 53] (by decide +kernel) (by decide +kernel)
set_option maxRecDepth 20000 in
theorem gX2_isHeld_X2_isReady : GoodIn wsX2_isHeld (wsV RX2 95 RX2 yX2_isReady wsX2_isReady) := goodIn_app (goodIn_of _ (by decide +kernel)) ggX2_isHeld_X2_isReady
theorem dX2_isHeld_0 : decode cX2_isHeld 0 = .ok (.aload_n 0, 1) := by decide +kernel
theorem dX2_isHeld_1 : decode cX2_isHeld 1 = .ok (.getfield 42, 3) := by decide +kernel
theorem dX2_isHeld_4 : decode cX2_isHeld 4 = .ok (.ifnull 14, 3) := by decide +kernel
theorem dX2_isHeld_7 : decode cX2_isHeld 7 = .ok (.aload_n 0, 1) := by decide +kernel
theorem dX2_isHeld_8 : decode cX2_isHeld 8 = .ok (.invokevirtual 95, 3) := by decide +kernel
theorem dX2_isHeld_11 : decode cX2_isHeld 11 = .ok (.ifCond .ne 7, 3) := by decide +kernel
theorem dX2_isHeld_14 : decode cX2_isHeld 14 = .ok (.iconst 1, 1) := by decide +kernel
theorem dX2_isHeld_15 : decode cX2_isHeld 15 = .ok (.goto 4, 3) := by decide +kernel
theorem dX2_isHeld_18 : decode cX2_isHeld 18 = .ok (.iconst 0, 1) := by decide +kernel
theorem dX2_isHeld_19 : decode cX2_isHeld 19 = .ok (.ireturn, 1) := by decide +kernel
theorem dX2_tagInLeaf_0 : decode cX2_tagInLeaf 0 = .ok (.aload_n 0, 1) := by decide +kernel
theorem dX2_tagInLeaf_1 : decode cX2_tagInLeaf 1 = .ok (.getfield 42, 3) := by decide +kernel
theorem dX2_tagInLeaf_4 : decode cX2_tagInLeaf 4 = .ok (.ifnull 10, 3) := by decide +kernel
theorem dX2_tagInLeaf_7 : decode cX2_tagInLeaf 7 = .ok (.aload_n 0, 1) := by decide +kernel
theorem dX2_tagInLeaf_8 : decode cX2_tagInLeaf 8 = .ok (.getfield 15, 3) := by decide +kernel
theorem dX2_tagInLeaf_11 : decode cX2_tagInLeaf 11 = .ok (.ifCond .gt 10, 3) := by decide +kernel
theorem dX2_tagInLeaf_14 : decode cX2_tagInLeaf 14 = .ok (.aload_n 0, 1) := by decide +kernel
theorem dX2_tagInLeaf_15 : decode cX2_tagInLeaf 15 = .ok (.getfield 46, 3) := by decide +kernel
theorem dX2_tagInLeaf_18 : decode cX2_tagInLeaf 18 = .ok (.goto 26, 3) := by decide +kernel
theorem dX2_tagInLeaf_21 : decode cX2_tagInLeaf 21 = .ok (.aload_n 0, 1) := by decide +kernel
theorem dX2_tagInLeaf_22 : decode cX2_tagInLeaf 22 = .ok (.getfield 46, 3) := by decide +kernel
theorem dX2_tagInLeaf_25 : decode cX2_tagInLeaf 25 = .ok (.ldc2_w 99, 3) := by decide +kernel
theorem dX2_tagInLeaf_28 : decode cX2_tagInLeaf 28 = .ok (.aload_n 0, 1) := by decide +kernel
theorem dX2_tagInLeaf_29 : decode cX2_tagInLeaf 29 = .ok (.getfield 42, 3) := by decide +kernel
theorem dX2_tagInLeaf_32 : decode cX2_tagInLeaf 32 = .ok (.getfield 77, 3) := by decide +kernel
theorem dX2_tagInLeaf_35 : decode cX2_tagInLeaf 35 = .ok (.i2l, 1) := by decide +kernel
theorem dX2_tagInLeaf_36 : decode cX2_tagInLeaf 36 = .ok (.lmul, 1) := by decide +kernel
theorem dX2_tagInLeaf_37 : decode cX2_tagInLeaf 37 = .ok (.aload_n 0, 1) := by decide +kernel
theorem dX2_tagInLeaf_38 : decode cX2_tagInLeaf 38 = .ok (.getfield 15, 3) := by decide +kernel
theorem dX2_tagInLeaf_41 : decode cX2_tagInLeaf 41 = .ok (.i2l, 1) := by decide +kernel
theorem dX2_tagInLeaf_42 : decode cX2_tagInLeaf 42 = .ok (.ldiv, 1) := by decide +kernel
theorem dX2_tagInLeaf_43 : decode cX2_tagInLeaf 43 = .ok (.ladd, 1) := by decide +kernel
theorem dX2_tagInLeaf_44 : decode cX2_tagInLeaf 44 = .ok (.lreturn, 1) := by decide +kernel
set_option maxRecDepth 20000 in
theorem ggX2_tagInGroup_X1_tagOf : GoodIn wsX2_tagInGroup wsX1_tagOf := goodIn_r _ [9, 10, 11, 12, 31, 32, 33, 34, 35, 36] (by decide +kernel) (by decide +kernel)
set_option maxRecDepth 20000 in
theorem gX2_tagInGroup_X1_tagOf : GoodIn wsX2_tagInGroup (wsV RX2 101 RX1 yX1_tagOf wsX1_tagOf) := goodIn_app (goodIn_of _ (by decide +kernel)) ggX2_tagInGroup_X1_tagOf
theorem dX2_tagInGroup_0 : decode cX2_tagInGroup 0 = .ok (.aload_n 0, 1) := by decide +kernel
theorem dX2_tagInGroup_1 : decode cX2_tagInGroup 1 = .ok (.getfield 42, 3) := by decide +kernel
theorem dX2_tagInGroup_4 : decode cX2_tagInGroup 4 = .ok (.ifnonnull 13, 3) := by decide +kernel
theorem dX2_tagInGroup_7 : decode cX2_tagInGroup 7 = .ok (.aload_n 0, 1) := by decide +kernel
theorem dX2_tagInGroup_8 : decode cX2_tagInGroup 8 = .ok (.getfield 9, 3) := by decide +kernel
theorem dX2_tagInGroup_11 : decode cX2_tagInGroup 11 = .ok (.getfield 64, 3) := by decide +kernel
theorem dX2_tagInGroup_14 : decode cX2_tagInGroup 14 = .ok (.goto 17, 3) := by decide +kernel
theorem dX2_tagInGroup_17 : decode cX2_tagInGroup 17 = .ok (.aload_n 0, 1) := by decide +kernel
theorem dX2_tagInGroup_18 : decode cX2_tagInGroup 18 = .ok (.getfield 9, 3) := by decide +kernel
theorem dX2_tagInGroup_21 : decode cX2_tagInGroup 21 = .ok (.aload_n 0, 1) := by decide +kernel
theorem dX2_tagInGroup_22 : decode cX2_tagInGroup 22 = .ok (.getfield 42, 3) := by decide +kernel
theorem dX2_tagInGroup_25 : decode cX2_tagInGroup 25 = .ok (.getfield 77, 3) := by decide +kernel
theorem dX2_tagInGroup_28 : decode cX2_tagInGroup 28 = .ok (.invokevirtual 101, 3) := by decide +kernel
theorem dX2_tagInGroup_31 : decode cX2_tagInGroup 31 = .ok (.lreturn, 1) := by decide +kernel
set_option maxRecDepth 20000 in
theorem ggX2_ticksUntilMayGo_X0_ticksUntilCovers : GoodIn wsX2_ticksUntilMayGo wsX0_ticksUntilCovers := goodIn_r _ [18, 19, 20, 21, 22, 68, 69, 70] (by decide +kernel) (by decide +kernel)
set_option maxRecDepth 20000 in
theorem gX2_ticksUntilMayGo_X0_ticksUntilCovers : GoodIn wsX2_ticksUntilMayGo (wsV RX2 107 RX0 yX0_ticksUntilCovers wsX0_ticksUntilCovers) := goodIn_app (goodIn_of _ (by decide +kernel)) ggX2_ticksUntilMayGo_X0_ticksUntilCovers
set_option maxRecDepth 20000 in
theorem ggX2_ticksUntilMayGo_X2_start : GoodIn wsX2_ticksUntilMayGo wsX2_start := goodIn_r _ [27, 1, 28, 29, 30, 31, 32, 33, 9, 34, 35, 36, 37, 38, 39, 40, 41, 42, 43, 44, 45, 46, 47, 48, 49, 50, 51, 52, 53, 54, 55, 56, 57, 58, 59, 60, 61] (by decide +kernel) (by decide +kernel)
set_option maxRecDepth 20000 in
theorem gX2_ticksUntilMayGo_X2_start : GoodIn wsX2_ticksUntilMayGo (wsV RX2 90 RX2 yX2_start wsX2_start) := goodIn_app (goodIn_of _ (by decide +kernel)) ggX2_ticksUntilMayGo_X2_start
theorem dX2_ticksUntilMayGo_0 : decode cX2_ticksUntilMayGo 0 = .ok (.aload_n 0, 1) := by decide +kernel
theorem dX2_ticksUntilMayGo_1 : decode cX2_ticksUntilMayGo 1 = .ok (.getfield 42, 3) := by decide +kernel
theorem dX2_ticksUntilMayGo_4 : decode cX2_ticksUntilMayGo 4 = .ok (.ifnonnull 7, 3) := by decide +kernel
theorem dX2_ticksUntilMayGo_7 : decode cX2_ticksUntilMayGo 7 = .ok (.ldc2_w 105, 3) := by decide +kernel
theorem dX2_ticksUntilMayGo_10 : decode cX2_ticksUntilMayGo 10 = .ok (.lreturn, 1) := by decide +kernel
theorem dX2_ticksUntilMayGo_11 : decode cX2_ticksUntilMayGo 11 = .ok (.aload_n 0, 1) := by decide +kernel
theorem dX2_ticksUntilMayGo_12 : decode cX2_ticksUntilMayGo 12 = .ok (.getfield 22, 3) := by decide +kernel
theorem dX2_ticksUntilMayGo_15 : decode cX2_ticksUntilMayGo 15 = .ok (.aload_n 0, 1) := by decide +kernel
theorem dX2_ticksUntilMayGo_16 : decode cX2_ticksUntilMayGo 16 = .ok (.getfield 42, 3) := by decide +kernel
theorem dX2_ticksUntilMayGo_19 : decode cX2_ticksUntilMayGo 19 = .ok (.getfield 77, 3) := by decide +kernel
theorem dX2_ticksUntilMayGo_22 : decode cX2_ticksUntilMayGo 22 = .ok (.invokevirtual 107, 3) := by decide +kernel
theorem dX2_ticksUntilMayGo_25 : decode cX2_ticksUntilMayGo 25 = .ok (.aload_n 0, 1) := by decide +kernel
theorem dX2_ticksUntilMayGo_26 : decode cX2_ticksUntilMayGo 26 = .ok (.getfield 9, 3) := by decide +kernel
theorem dX2_ticksUntilMayGo_29 : decode cX2_ticksUntilMayGo 29 = .ok (.getfield 94, 3) := by decide +kernel
theorem dX2_ticksUntilMayGo_32 : decode cX2_ticksUntilMayGo 32 = .ok (.aload_n 0, 1) := by decide +kernel
theorem dX2_ticksUntilMayGo_33 : decode cX2_ticksUntilMayGo 33 = .ok (.getfield 42, 3) := by decide +kernel
theorem dX2_ticksUntilMayGo_36 : decode cX2_ticksUntilMayGo 36 = .ok (.getfield 77, 3) := by decide +kernel
theorem dX2_ticksUntilMayGo_39 : decode cX2_ticksUntilMayGo 39 = .ok (.invokevirtual 107, 3) := by decide +kernel
theorem dX2_ticksUntilMayGo_42 : decode cX2_ticksUntilMayGo 42 = .ok (.invokestatic 55, 3) := by decide +kernel
theorem dX2_ticksUntilMayGo_45 : decode cX2_ticksUntilMayGo 45 = .ok (.lstore_n 2, 1) := by decide +kernel
theorem dX2_ticksUntilMayGo_46 : decode cX2_ticksUntilMayGo 46 = .ok (.aload_n 0, 1) := by decide +kernel
theorem dX2_ticksUntilMayGo_47 : decode cX2_ticksUntilMayGo 47 = .ok (.invokevirtual 90, 3) := by decide +kernel
theorem dX2_ticksUntilMayGo_50 : decode cX2_ticksUntilMayGo 50 = .ok (.iload_n 1, 1) := by decide +kernel
theorem dX2_ticksUntilMayGo_51 : decode cX2_ticksUntilMayGo 51 = .ok (.isub, 1) := by decide +kernel
theorem dX2_ticksUntilMayGo_52 : decode cX2_ticksUntilMayGo 52 = .ok (.i2l, 1) := by decide +kernel
theorem dX2_ticksUntilMayGo_53 : decode cX2_ticksUntilMayGo 53 = .ok (.lload_n 2, 1) := by decide +kernel
theorem dX2_ticksUntilMayGo_54 : decode cX2_ticksUntilMayGo 54 = .ok (.invokestatic 110, 3) := by decide +kernel
theorem dX2_ticksUntilMayGo_57 : decode cX2_ticksUntilMayGo 57 = .ok (.lreturn, 1) := by decide +kernel
set_option maxRecDepth 20000 in
theorem ggX2_sendDue_X2_deadline : GoodIn wsX2_sendDue wsX2_deadline := goodIn_r _ [10, 11, 12, 13, 5, 14, 15, 16, 9, 17, 3, 18, 19, 20, 21, 22, 52, 53, 54, 55, 56, 57, 58, 59, 60, 61, 62, 63, 64, 65, 66, 67, 68, 69, 43, 44, 45, 46, 47, 48, 49, 50, 51] (by decide +kernel) (by decide +kernel)
set_option maxRecDepth 20000 in
theorem gX2_sendDue_X2_deadline : GoodIn wsX2_sendDue (wsV RX2 113 RX2 yX2_deadline wsX2_deadline) := goodIn_app (goodIn_of _ (by decide +kernel)) ggX2_sendDue_X2_deadline
set_option maxRecDepth 20000 in
theorem ggX2_sendDue_X2_removeFirst : GoodIn wsX2_sendDue wsX2_removeFirst := goodIn_r _ [26, 11, 27, 28, 29, 30, 31, 5, 32, 33, 34, 35, 36, 37, 38, 39, 40, 41, 42, 52, 53, 54, 55, 56, 57, 58, 59, 60, 61, 62, 63, 64, 65, 66, 67, 68, 69, 43, 44, 45, 46, 47, 48, 49, 50, 51, 70, 71, 72, 73, 74, 75, 76, 77, 78] (by decide +kernel) (by decide +kernel)
set_option maxRecDepth 20000 in
theorem gX2_sendDue_X2_removeFirst : GoodIn wsX2_sendDue (wsV RX2 116 RX2 yX2_removeFirst wsX2_removeFirst) := goodIn_app (goodIn_of _ (by decide +kernel)) ggX2_sendDue_X2_removeFirst
theorem dX2_sendDue_0 : decode cX2_sendDue 0 = .ok (.aload_n 0, 1) := by decide +kernel
theorem dX2_sendDue_1 : decode cX2_sendDue 1 = .ok (.invokevirtual 113, 3) := by decide +kernel
theorem dX2_sendDue_4 : decode cX2_sendDue 4 = .ok (.istore_n 2, 1) := by decide +kernel
theorem dX2_sendDue_5 : decode cX2_sendDue 5 = .ok (.aload_n 0, 1) := by decide +kernel
theorem dX2_sendDue_6 : decode cX2_sendDue 6 = .ok (.iload_n 1, 1) := by decide +kernel
theorem dX2_sendDue_7 : decode cX2_sendDue 7 = .ok (.invokevirtual 116, 3) := by decide +kernel
theorem dX2_sendDue_10 : decode cX2_sendDue 10 = .ok (.astore_n 3, 1) := by decide +kernel
theorem dX2_sendDue_11 : decode cX2_sendDue 11 = .ok (.aload_n 3, 1) := by decide +kernel
theorem dX2_sendDue_12 : decode cX2_sendDue 12 = .ok (.ifnull 31, 3) := by decide +kernel
theorem dX2_sendDue_15 : decode cX2_sendDue 15 = .ok (.aload_n 3, 1) := by decide +kernel
theorem dX2_sendDue_16 : decode cX2_sendDue 16 = .ok (.iconst 1, 1) := by decide +kernel
theorem dX2_sendDue_17 : decode cX2_sendDue 17 = .ok (.putfield 120, 3) := by decide +kernel
theorem dX2_sendDue_20 : decode cX2_sendDue 20 = .ok (.aload_n 3, 1) := by decide +kernel
theorem dX2_sendDue_21 : decode cX2_sendDue 21 = .ok (.iload_n 2, 1) := by decide +kernel
theorem dX2_sendDue_22 : decode cX2_sendDue 22 = .ok (.putfield 123, 3) := by decide +kernel
theorem dX2_sendDue_25 : decode cX2_sendDue 25 = .ok (.aload_n 0, 1) := by decide +kernel
theorem dX2_sendDue_26 : decode cX2_sendDue 26 = .ok (.iload_n 2, 1) := by decide +kernel
theorem dX2_sendDue_27 : decode cX2_sendDue 27 = .ok (.putfield 81, 3) := by decide +kernel
theorem dX2_sendDue_30 : decode cX2_sendDue 30 = .ok (.aload_n 0, 1) := by decide +kernel
theorem dX2_sendDue_31 : decode cX2_sendDue 31 = .ok (.dup, 1) := by decide +kernel
theorem dX2_sendDue_32 : decode cX2_sendDue 32 = .ok (.getfield 125, 3) := by decide +kernel
theorem dX2_sendDue_35 : decode cX2_sendDue 35 = .ok (.aload_n 3, 1) := by decide +kernel
theorem dX2_sendDue_36 : decode cX2_sendDue 36 = .ok (.getfield 77, 3) := by decide +kernel
theorem dX2_sendDue_39 : decode cX2_sendDue 39 = .ok (.iadd, 1) := by decide +kernel
theorem dX2_sendDue_40 : decode cX2_sendDue 40 = .ok (.putfield 125, 3) := by decide +kernel
theorem dX2_sendDue_43 : decode cX2_sendDue 43 = .ok (.aload_n 3, 1) := by decide +kernel
theorem dX2_sendDue_44 : decode cX2_sendDue 44 = .ok (.areturn, 1) := by decide +kernel
set_option maxRecDepth 20000 in
theorem ggX2_sendExcess_X2_tagInLeaf : GoodIn wsX2_sendExcess wsX2_tagInLeaf := goodIn_r _ [16, 17, 18, 2, 19, 11, 60, 61, 62, 63, 64, 65, 66, 67, 68, 69, 70, 71, 72, 73, 74, 75, 76, 77, 51, 52, 53, 54, 55, 56, 57, 58, 59] (by decide +kernel) (by decide +kernel)
set_option maxRecDepth 20000 in
theorem gX2_sendExcess_X2_tagInLeaf : GoodIn wsX2_sendExcess (wsV RX2 128 RX2 yX2_tagInLeaf wsX2_tagInLeaf) := goodIn_app (goodIn_of _ (by decide +kernel)) ggX2_sendExcess_X2_tagInLeaf
set_option maxRecDepth 20000 in
theorem ggX2_sendExcess_X2_tagInGroup : GoodIn wsX2_sendExcess wsX2_tagInGroup := goodIn_r _ [23, 17, 3, 9, 11, 24, 25, 26, 27, 28, 29, 30, 31, 60, 61, 62, 63, 64, 65, 66, 67, 68, 69, 70, 71, 72, 73, 74, 75, 76, 77, 78, 79, 80, 81, 82, 83, 51, 52, 53, 54, 55, 56, 57, 58, 59] (by decide +kernel) (by decide +kernel)
set_option maxRecDepth 20000 in
theorem gX2_sendExcess_X2_tagInGroup : GoodIn wsX2_sendExcess (wsV RX2 132 RX2 yX2_tagInGroup wsX2_tagInGroup) := goodIn_app (goodIn_of _ (by decide +kernel)) ggX2_sendExcess_X2_tagInGroup
set_option maxRecDepth 20000 in
theorem ggX2_sendExcess_X2_removeFirst : GoodIn wsX2_sendExcess wsX2_removeFirst := goodIn_r _ [35, 17, 36, 37, 38, 39, 40, 11, 3, 41, 42, 43, 44, 45, 46, 47, 48, 49, 50, 60, 61, 62, 63, 64, 65, 66, 67, 68, 69, 70, 71, 72, 73, 74, 75, 76, 77, 51, 52, 53, 54, 55, 56, 57, 58, 59, 78, 79, 80, 81, 82, 83, 84, 85, 86] (by decide +kernel) (by decide +kernel)
set_option maxRecDepth 20000 in
theorem gX2_sendExcess_X2_removeFirst : GoodIn wsX2_sendExcess (wsV RX2 116 RX2 yX2_removeFirst wsX2_removeFirst) := goodIn_app (goodIn_of _ (by decide +kernel)) ggX2_sendExcess_X2_removeFirst
theorem dX2_sendExcess_0 : decode cX2_sendExcess 0 = .ok (.aload_n 0, 1) := by decide +kernel
theorem dX2_sendExcess_1 : decode cX2_sendExcess 1 = .ok (.invokevirtual 128, 3) := by decide +kernel
theorem dX2_sendExcess_4 : decode cX2_sendExcess 4 = .ok (.lstore_n 2, 1) := by decide +kernel
theorem dX2_sendExcess_5 : decode cX2_sendExcess 5 = .ok (.aload_n 0, 1) := by decide +kernel
theorem dX2_sendExcess_6 : decode cX2_sendExcess 6 = .ok (.invokevirtual 132, 3) := by decide +kernel
theorem dX2_sendExcess_9 : decode cX2_sendExcess 9 = .ok (.lstore 4, 2) := by decide +kernel
theorem dX2_sendExcess_11 : decode cX2_sendExcess 11 = .ok (.aload_n 0, 1) := by decide +kernel
theorem dX2_sendExcess_12 : decode cX2_sendExcess 12 = .ok (.iload_n 1, 1) := by decide +kernel
theorem dX2_sendExcess_13 : decode cX2_sendExcess 13 = .ok (.invokevirtual 116, 3) := by decide +kernel
theorem dX2_sendExcess_16 : decode cX2_sendExcess 16 = .ok (.astore 6, 2) := by decide +kernel
theorem dX2_sendExcess_18 : decode cX2_sendExcess 18 = .ok (.aload 6, 2) := by decide +kernel
theorem dX2_sendExcess_20 : decode cX2_sendExcess 20 = .ok (.ifnull 55, 3) := by decide +kernel
theorem dX2_sendExcess_23 : decode cX2_sendExcess 23 = .ok (.aload 6, 2) := by decide +kernel
theorem dX2_sendExcess_25 : decode cX2_sendExcess 25 = .ok (.iconst 2, 1) := by decide +kernel
theorem dX2_sendExcess_26 : decode cX2_sendExcess 26 = .ok (.putfield 120, 3) := by decide +kernel
theorem dX2_sendExcess_29 : decode cX2_sendExcess 29 = .ok (.aload_n 0, 1) := by decide +kernel
theorem dX2_sendExcess_30 : decode cX2_sendExcess 30 = .ok (.lload_n 2, 1) := by decide +kernel
theorem dX2_sendExcess_31 : decode cX2_sendExcess 31 = .ok (.putfield 46, 3) := by decide +kernel
theorem dX2_sendExcess_34 : decode cX2_sendExcess 34 = .ok (.aload_n 0, 1) := by decide +kernel
theorem dX2_sendExcess_35 : decode cX2_sendExcess 35 = .ok (.getfield 9, 3) := by decide +kernel
theorem dX2_sendExcess_38 : decode cX2_sendExcess 38 = .ok (.aload_n 0, 1) := by decide +kernel
theorem dX2_sendExcess_39 : decode cX2_sendExcess 39 = .ok (.getfield 9, 3) := by decide +kernel
theorem dX2_sendExcess_42 : decode cX2_sendExcess 42 = .ok (.getfield 50, 3) := by decide +kernel
theorem dX2_sendExcess_45 : decode cX2_sendExcess 45 = .ok (.lload_n 2, 1) := by decide +kernel
theorem dX2_sendExcess_46 : decode cX2_sendExcess 46 = .ok (.invokestatic 55, 3) := by decide +kernel
theorem dX2_sendExcess_49 : decode cX2_sendExcess 49 = .ok (.putfield 50, 3) := by decide +kernel
theorem dX2_sendExcess_52 : decode cX2_sendExcess 52 = .ok (.aload_n 0, 1) := by decide +kernel
theorem dX2_sendExcess_53 : decode cX2_sendExcess 53 = .ok (.getfield 9, 3) := by decide +kernel
theorem dX2_sendExcess_56 : decode cX2_sendExcess 56 = .ok (.lload 4, 2) := by decide +kernel
theorem dX2_sendExcess_58 : decode cX2_sendExcess 58 = .ok (.putfield 64, 3) := by decide +kernel
theorem dX2_sendExcess_61 : decode cX2_sendExcess 61 = .ok (.aload_n 0, 1) := by decide +kernel
theorem dX2_sendExcess_62 : decode cX2_sendExcess 62 = .ok (.dup, 1) := by decide +kernel
theorem dX2_sendExcess_63 : decode cX2_sendExcess 63 = .ok (.getfield 135, 3) := by decide +kernel
theorem dX2_sendExcess_66 : decode cX2_sendExcess 66 = .ok (.aload 6, 2) := by decide +kernel
theorem dX2_sendExcess_68 : decode cX2_sendExcess 68 = .ok (.getfield 77, 3) := by decide +kernel
theorem dX2_sendExcess_71 : decode cX2_sendExcess 71 = .ok (.iadd, 1) := by decide +kernel
theorem dX2_sendExcess_72 : decode cX2_sendExcess 72 = .ok (.putfield 135, 3) := by decide +kernel
theorem dX2_sendExcess_75 : decode cX2_sendExcess 75 = .ok (.aload 6, 2) := by decide +kernel
theorem dX2_sendExcess_77 : decode cX2_sendExcess 77 = .ok (.areturn, 1) := by decide +kernel
set_option maxRecDepth 20000 in
theorem ggX2_removeFirst_X0_take : GoodIn wsX2_removeFirst wsX0_take := goodIn_r _ [16, 17, 18, 52, 53, 54] (by decide +kernel) (by decide +kernel)
set_option maxRecDepth 20000 in
theorem gX2_removeFirst_X0_take : GoodIn wsX2_removeFirst (wsV RX2 38 RX0 yX0_take wsX0_take) := goodIn_app (goodIn_of _ (by decide +kernel)) ggX2_removeFirst_X0_take
theorem dX2_removeFirst_0 : decode cX2_removeFirst 0 = .ok (.aload_n 0, 1) := by decide +kernel
theorem dX2_removeFirst_1 : decode cX2_removeFirst 1 = .ok (.getfield 42, 3) := by decide +kernel
theorem dX2_removeFirst_4 : decode cX2_removeFirst 4 = .ok (.astore_n 2, 1) := by decide +kernel
theorem dX2_removeFirst_5 : decode cX2_removeFirst 5 = .ok (.aload_n 2, 1) := by decide +kernel
theorem dX2_removeFirst_6 : decode cX2_removeFirst 6 = .ok (.ifnonnull 5, 3) := by decide +kernel
theorem dX2_removeFirst_9 : decode cX2_removeFirst 9 = .ok (.aconst_null, 1) := by decide +kernel
theorem dX2_removeFirst_10 : decode cX2_removeFirst 10 = .ok (.areturn, 1) := by decide +kernel
theorem dX2_removeFirst_11 : decode cX2_removeFirst 11 = .ok (.aload_n 0, 1) := by decide +kernel
theorem dX2_removeFirst_12 : decode cX2_removeFirst 12 = .ok (.aload_n 2, 1) := by decide +kernel
theorem dX2_removeFirst_13 : decode cX2_removeFirst 13 = .ok (.getfield 68, 3) := by decide +kernel
theorem dX2_removeFirst_16 : decode cX2_removeFirst 16 = .ok (.putfield 42, 3) := by decide +kernel
theorem dX2_removeFirst_19 : decode cX2_removeFirst 19 = .ok (.aload_n 0, 1) := by decide +kernel
theorem dX2_removeFirst_20 : decode cX2_removeFirst 20 = .ok (.getfield 42, 3) := by decide +kernel
theorem dX2_removeFirst_23 : decode cX2_removeFirst 23 = .ok (.ifnonnull 8, 3) := by decide +kernel
theorem dX2_removeFirst_26 : decode cX2_removeFirst 26 = .ok (.aload_n 0, 1) := by decide +kernel
theorem dX2_removeFirst_27 : decode cX2_removeFirst 27 = .ok (.aconst_null, 1) := by decide +kernel
theorem dX2_removeFirst_28 : decode cX2_removeFirst 28 = .ok (.putfield 65, 3) := by decide +kernel
theorem dX2_removeFirst_31 : decode cX2_removeFirst 31 = .ok (.aload_n 2, 1) := by decide +kernel
theorem dX2_removeFirst_32 : decode cX2_removeFirst 32 = .ok (.aconst_null, 1) := by decide +kernel
theorem dX2_removeFirst_33 : decode cX2_removeFirst 33 = .ok (.putfield 68, 3) := by decide +kernel
theorem dX2_removeFirst_36 : decode cX2_removeFirst 36 = .ok (.aload_n 2, 1) := by decide +kernel
theorem dX2_removeFirst_37 : decode cX2_removeFirst 37 = .ok (.iload_n 1, 1) := by decide +kernel
theorem dX2_removeFirst_38 : decode cX2_removeFirst 38 = .ok (.putfield 138, 3) := by decide +kernel
theorem dX2_removeFirst_41 : decode cX2_removeFirst 41 = .ok (.aload_n 0, 1) := by decide +kernel
theorem dX2_removeFirst_42 : decode cX2_removeFirst 42 = .ok (.dup, 1) := by decide +kernel
theorem dX2_removeFirst_43 : decode cX2_removeFirst 43 = .ok (.getfield 73, 3) := by decide +kernel
theorem dX2_removeFirst_46 : decode cX2_removeFirst 46 = .ok (.iconst 1, 1) := by decide +kernel
theorem dX2_removeFirst_47 : decode cX2_removeFirst 47 = .ok (.isub, 1) := by decide +kernel
theorem dX2_removeFirst_48 : decode cX2_removeFirst 48 = .ok (.putfield 73, 3) := by decide +kernel
theorem dX2_removeFirst_51 : decode cX2_removeFirst 51 = .ok (.aload_n 0, 1) := by decide +kernel
theorem dX2_removeFirst_52 : decode cX2_removeFirst 52 = .ok (.dup, 1) := by decide +kernel
theorem dX2_removeFirst_53 : decode cX2_removeFirst 53 = .ok (.getfield 74, 3) := by decide +kernel
theorem dX2_removeFirst_56 : decode cX2_removeFirst 56 = .ok (.aload_n 2, 1) := by decide +kernel
theorem dX2_removeFirst_57 : decode cX2_removeFirst 57 = .ok (.getfield 77, 3) := by decide +kernel
theorem dX2_removeFirst_60 : decode cX2_removeFirst 60 = .ok (.isub, 1) := by decide +kernel
theorem dX2_removeFirst_61 : decode cX2_removeFirst 61 = .ok (.putfield 74, 3) := by decide +kernel
theorem dX2_removeFirst_64 : decode cX2_removeFirst 64 = .ok (.aload_n 0, 1) := by decide +kernel
theorem dX2_removeFirst_65 : decode cX2_removeFirst 65 = .ok (.getfield 9, 3) := by decide +kernel
theorem dX2_removeFirst_68 : decode cX2_removeFirst 68 = .ok (.dup, 1) := by decide +kernel
theorem dX2_removeFirst_69 : decode cX2_removeFirst 69 = .ok (.getfield 61, 3) := by decide +kernel
theorem dX2_removeFirst_72 : decode cX2_removeFirst 72 = .ok (.iconst 1, 1) := by decide +kernel
theorem dX2_removeFirst_73 : decode cX2_removeFirst 73 = .ok (.isub, 1) := by decide +kernel
theorem dX2_removeFirst_74 : decode cX2_removeFirst 74 = .ok (.putfield 61, 3) := by decide +kernel
theorem dX2_removeFirst_77 : decode cX2_removeFirst 77 = .ok (.aload_n 0, 1) := by decide +kernel
theorem dX2_removeFirst_78 : decode cX2_removeFirst 78 = .ok (.getfield 22, 3) := by decide +kernel
theorem dX2_removeFirst_81 : decode cX2_removeFirst 81 = .ok (.aload_n 2, 1) := by decide +kernel
theorem dX2_removeFirst_82 : decode cX2_removeFirst 82 = .ok (.getfield 77, 3) := by decide +kernel
theorem dX2_removeFirst_85 : decode cX2_removeFirst 85 = .ok (.invokevirtual 38, 3) := by decide +kernel
theorem dX2_removeFirst_88 : decode cX2_removeFirst 88 = .ok (.aload_n 0, 1) := by decide +kernel
theorem dX2_removeFirst_89 : decode cX2_removeFirst 89 = .ok (.getfield 9, 3) := by decide +kernel
theorem dX2_removeFirst_92 : decode cX2_removeFirst 92 = .ok (.getfield 94, 3) := by decide +kernel
theorem dX2_removeFirst_95 : decode cX2_removeFirst 95 = .ok (.aload_n 2, 1) := by decide +kernel
theorem dX2_removeFirst_96 : decode cX2_removeFirst 96 = .ok (.getfield 77, 3) := by decide +kernel
theorem dX2_removeFirst_99 : decode cX2_removeFirst 99 = .ok (.invokevirtual 38, 3) := by decide +kernel
theorem dX2_removeFirst_102 : decode cX2_removeFirst 102 = .ok (.aload_n 2, 1) := by decide +kernel
theorem dX2_removeFirst_103 : decode cX2_removeFirst 103 = .ok (.areturn, 1) := by decide +kernel
theorem dX2_figure_0 : decode cX2_figure 0 = .ok (.iload_n 1, 1) := by decide +kernel
theorem dX2_figure_1 : decode cX2_figure 1 = .ok (.tableswitch 87 0 7 #[47, 52, 57, 62, 67, 72, 77, 82], 47) := by decide +kernel
theorem dX2_figure_48 : decode cX2_figure 48 = .ok (.aload_n 0, 1) := by decide +kernel
theorem dX2_figure_49 : decode cX2_figure 49 = .ok (.getfield 73, 3) := by decide +kernel
theorem dX2_figure_52 : decode cX2_figure 52 = .ok (.ireturn, 1) := by decide +kernel
theorem dX2_figure_53 : decode cX2_figure 53 = .ok (.aload_n 0, 1) := by decide +kernel
theorem dX2_figure_54 : decode cX2_figure 54 = .ok (.getfield 74, 3) := by decide +kernel
theorem dX2_figure_57 : decode cX2_figure 57 = .ok (.ireturn, 1) := by decide +kernel
theorem dX2_figure_58 : decode cX2_figure 58 = .ok (.aload_n 0, 1) := by decide +kernel
theorem dX2_figure_59 : decode cX2_figure 59 = .ok (.getfield 125, 3) := by decide +kernel
theorem dX2_figure_62 : decode cX2_figure 62 = .ok (.ireturn, 1) := by decide +kernel
theorem dX2_figure_63 : decode cX2_figure 63 = .ok (.aload_n 0, 1) := by decide +kernel
theorem dX2_figure_64 : decode cX2_figure 64 = .ok (.getfield 135, 3) := by decide +kernel
theorem dX2_figure_67 : decode cX2_figure 67 = .ok (.ireturn, 1) := by decide +kernel
theorem dX2_figure_68 : decode cX2_figure 68 = .ok (.aload_n 0, 1) := by decide +kernel
theorem dX2_figure_69 : decode cX2_figure 69 = .ok (.getfield 141, 3) := by decide +kernel
theorem dX2_figure_72 : decode cX2_figure 72 = .ok (.ireturn, 1) := by decide +kernel
theorem dX2_figure_73 : decode cX2_figure 73 = .ok (.aload_n 0, 1) := by decide +kernel
theorem dX2_figure_74 : decode cX2_figure 74 = .ok (.getfield 144, 3) := by decide +kernel
theorem dX2_figure_77 : decode cX2_figure 77 = .ok (.ireturn, 1) := by decide +kernel
theorem dX2_figure_78 : decode cX2_figure 78 = .ok (.aload_n 0, 1) := by decide +kernel
theorem dX2_figure_79 : decode cX2_figure 79 = .ok (.getfield 81, 3) := by decide +kernel
theorem dX2_figure_82 : decode cX2_figure 82 = .ok (.ireturn, 1) := by decide +kernel
theorem dX2_figure_83 : decode cX2_figure 83 = .ok (.aload_n 0, 1) := by decide +kernel
theorem dX2_figure_84 : decode cX2_figure 84 = .ok (.getfield 147, 3) := by decide +kernel
theorem dX2_figure_87 : decode cX2_figure 87 = .ok (.ireturn, 1) := by decide +kernel
theorem dX2_figure_88 : decode cX2_figure 88 = .ok (.iconst (-1), 1) := by decide +kernel
theorem dX2_figure_89 : decode cX2_figure 89 = .ok (.ireturn, 1) := by decide +kernel
theorem dX3_init_0 : decode cX3_init 0 = .ok (.aload_n 0, 1) := by decide +kernel
theorem dX3_init_1 : decode cX3_init 1 = .ok (.invokespecial 3, 3) := by decide +kernel
theorem dX3_init_4 : decode cX3_init 4 = .ok (.aload_n 0, 1) := by decide +kernel
theorem dX3_init_5 : decode cX3_init 5 = .ok (.iload_n 1, 1) := by decide +kernel
theorem dX3_init_6 : decode cX3_init 6 = .ok (.putfield 9, 3) := by decide +kernel
theorem dX3_init_9 : decode cX3_init 9 = .ok (.aload_n 0, 1) := by decide +kernel
theorem dX3_init_10 : decode cX3_init 10 = .ok (.iload_n 2, 1) := by decide +kernel
theorem dX3_init_11 : decode cX3_init 11 = .ok (.putfield 15, 3) := by decide +kernel
theorem dX3_init_14 : decode cX3_init 14 = .ok (.aload_n 0, 1) := by decide +kernel
theorem dX3_init_15 : decode cX3_init 15 = .ok (.iload_n 3, 1) := by decide +kernel
theorem dX3_init_16 : decode cX3_init 16 = .ok (.putfield 18, 3) := by decide +kernel
theorem dX3_init_19 : decode cX3_init 19 = .ok (.aload_n 0, 1) := by decide +kernel
theorem dX3_init_20 : decode cX3_init 20 = .ok (.iload 4, 2) := by decide +kernel
theorem dX3_init_22 : decode cX3_init 22 = .ok (.putfield 21, 3) := by decide +kernel
theorem dX3_init_25 : decode cX3_init 25 = .ok (.aload_n 0, 1) := by decide +kernel
theorem dX3_init_26 : decode cX3_init 26 = .ok (.iload 5, 2) := by decide +kernel
theorem dX3_init_28 : decode cX3_init 28 = .ok (.putfield 24, 3) := by decide +kernel
theorem dX3_init_31 : decode cX3_init 31 = .ok (.aload_n 0, 1) := by decide +kernel
theorem dX3_init_32 : decode cX3_init 32 = .ok (.iconst (-1), 1) := by decide +kernel
theorem dX3_init_33 : decode cX3_init 33 = .ok (.putfield 28, 3) := by decide +kernel
theorem dX3_init_36 : decode cX3_init 36 = .ok (.aload_n 0, 1) := by decide +kernel
theorem dX3_init_37 : decode cX3_init 37 = .ok (.iconst 0, 1) := by decide +kernel
theorem dX3_init_38 : decode cX3_init 38 = .ok (.putfield 31, 3) := by decide +kernel
theorem dX3_init_41 : decode cX3_init 41 = .ok (.aload_n 0, 1) := by decide +kernel
theorem dX3_init_42 : decode cX3_init 42 = .ok (.iconst (-1), 1) := by decide +kernel
theorem dX3_init_43 : decode cX3_init 43 = .ok (.putfield 34, 3) := by decide +kernel
theorem dX3_init_46 : decode cX3_init 46 = .ok (.return_, 1) := by decide +kernel
theorem dX3_figure_0 : decode cX3_figure 0 = .ok (.iload_n 1, 1) := by decide +kernel
theorem dX3_figure_1 : decode cX3_figure 1 = .ok (.tableswitch 86 0 6 #[43, 48, 53, 58, 63, 68, 73], 43) := by decide +kernel
theorem dX3_figure_44 : decode cX3_figure 44 = .ok (.aload_n 0, 1) := by decide +kernel
theorem dX3_figure_45 : decode cX3_figure 45 = .ok (.getfield 15, 3) := by decide +kernel
theorem dX3_figure_48 : decode cX3_figure 48 = .ok (.ireturn, 1) := by decide +kernel
theorem dX3_figure_49 : decode cX3_figure 49 = .ok (.aload_n 0, 1) := by decide +kernel
theorem dX3_figure_50 : decode cX3_figure 50 = .ok (.getfield 18, 3) := by decide +kernel
theorem dX3_figure_53 : decode cX3_figure 53 = .ok (.ireturn, 1) := by decide +kernel
theorem dX3_figure_54 : decode cX3_figure 54 = .ok (.aload_n 0, 1) := by decide +kernel
theorem dX3_figure_55 : decode cX3_figure 55 = .ok (.getfield 21, 3) := by decide +kernel
theorem dX3_figure_58 : decode cX3_figure 58 = .ok (.ireturn, 1) := by decide +kernel
theorem dX3_figure_59 : decode cX3_figure 59 = .ok (.aload_n 0, 1) := by decide +kernel
theorem dX3_figure_60 : decode cX3_figure 60 = .ok (.getfield 28, 3) := by decide +kernel
theorem dX3_figure_63 : decode cX3_figure 63 = .ok (.ireturn, 1) := by decide +kernel
theorem dX3_figure_64 : decode cX3_figure 64 = .ok (.aload_n 0, 1) := by decide +kernel
theorem dX3_figure_65 : decode cX3_figure 65 = .ok (.getfield 31, 3) := by decide +kernel
theorem dX3_figure_68 : decode cX3_figure 68 = .ok (.ireturn, 1) := by decide +kernel
theorem dX3_figure_69 : decode cX3_figure 69 = .ok (.aload_n 0, 1) := by decide +kernel
theorem dX3_figure_70 : decode cX3_figure 70 = .ok (.getfield 34, 3) := by decide +kernel
theorem dX3_figure_73 : decode cX3_figure 73 = .ok (.ireturn, 1) := by decide +kernel
theorem dX3_figure_74 : decode cX3_figure 74 = .ok (.aload_n 0, 1) := by decide +kernel
theorem dX3_figure_75 : decode cX3_figure 75 = .ok (.getfield 24, 3) := by decide +kernel
theorem dX3_figure_78 : decode cX3_figure 78 = .ok (.ifCond .eq 7, 3) := by decide +kernel
theorem dX3_figure_81 : decode cX3_figure 81 = .ok (.iconst 1, 1) := by decide +kernel
theorem dX3_figure_82 : decode cX3_figure 82 = .ok (.goto 4, 3) := by decide +kernel
theorem dX3_figure_85 : decode cX3_figure 85 = .ok (.iconst 0, 1) := by decide +kernel
theorem dX3_figure_86 : decode cX3_figure 86 = .ok (.ireturn, 1) := by decide +kernel
theorem dX3_figure_87 : decode cX3_figure 87 = .ok (.iconst (-1), 1) := by decide +kernel
theorem dX3_figure_88 : decode cX3_figure 88 = .ok (.ireturn, 1) := by decide +kernel
set_option maxRecDepth 20000 in
theorem ggX4_init_Jx4a65c_init_da8c8 : GoodIn wsX4_init wsJx4a65c_init_da8c8 := goodIn_r _ [18, 19, 20, 21, 22, 23, 24, 25, 26, 27, 28, 29, 30, 2, 3, 31, 32, 33] (by decide +kernel) (by decide +kernel)
set_option maxRecDepth 20000 in
theorem gX4_init_Jx4a65c_init_da8c8 : GoodIn wsX4_init (wsJx4a65c_init_da8c8) := ggX4_init_Jx4a65c_init_da8c8
theorem dX4_init_0 : decode cX4_init 0 = .ok (.aload_n 0, 1) := by decide +kernel
theorem dX4_init_1 : decode cX4_init 1 = .ok (.invokespecial 3, 3) := by decide +kernel
theorem dX4_init_4 : decode cX4_init 4 = .ok (.aload_n 0, 1) := by decide +kernel
theorem dX4_init_5 : decode cX4_init 5 = .ok (.new 9, 3) := by decide +kernel
theorem dX4_init_8 : decode cX4_init 8 = .ok (.dup, 1) := by decide +kernel
theorem dX4_init_9 : decode cX4_init 9 = .ok (.invokespecial 11, 3) := by decide +kernel
theorem dX4_init_12 : decode cX4_init 12 = .ok (.putfield 12, 3) := by decide +kernel
theorem dX4_init_15 : decode cX4_init 15 = .ok (.aload_n 0, 1) := by decide +kernel
theorem dX4_init_16 : decode cX4_init 16 = .ok (.new 9, 3) := by decide +kernel
theorem dX4_init_19 : decode cX4_init 19 = .ok (.dup, 1) := by decide +kernel
theorem dX4_init_20 : decode cX4_init 20 = .ok (.invokespecial 11, 3) := by decide +kernel
theorem dX4_init_23 : decode cX4_init 23 = .ok (.putfield 18, 3) := by decide +kernel
theorem dX4_init_26 : decode cX4_init 26 = .ok (.aload_n 0, 1) := by decide +kernel
theorem dX4_init_27 : decode cX4_init 27 = .ok (.new 9, 3) := by decide +kernel
theorem dX4_init_30 : decode cX4_init 30 = .ok (.dup, 1) := by decide +kernel
theorem dX4_init_31 : decode cX4_init 31 = .ok (.invokespecial 11, 3) := by decide +kernel
theorem dX4_init_34 : decode cX4_init 34 = .ok (.putfield 21, 3) := by decide +kernel
theorem dX4_init_37 : decode cX4_init 37 = .ok (.aload_n 0, 1) := by decide +kernel
theorem dX4_init_38 : decode cX4_init 38 = .ok (.new 9, 3) := by decide +kernel
theorem dX4_init_41 : decode cX4_init 41 = .ok (.dup, 1) := by decide +kernel
theorem dX4_init_42 : decode cX4_init 42 = .ok (.invokespecial 11, 3) := by decide +kernel
theorem dX4_init_45 : decode cX4_init 45 = .ok (.putfield 24, 3) := by decide +kernel
theorem dX4_init_48 : decode cX4_init 48 = .ok (.aload_n 0, 1) := by decide +kernel
theorem dX4_init_49 : decode cX4_init 49 = .ok (.iconst 0, 1) := by decide +kernel
theorem dX4_init_50 : decode cX4_init 50 = .ok (.putfield 27, 3) := by decide +kernel
theorem dX4_init_53 : decode cX4_init 53 = .ok (.aload_n 0, 1) := by decide +kernel
theorem dX4_init_54 : decode cX4_init 54 = .ok (.iconst 0, 1) := by decide +kernel
theorem dX4_init_55 : decode cX4_init 55 = .ok (.putfield 31, 3) := by decide +kernel
theorem dX4_init_58 : decode cX4_init 58 = .ok (.aload_n 0, 1) := by decide +kernel
theorem dX4_init_59 : decode cX4_init 59 = .ok (.iconst 0, 1) := by decide +kernel
theorem dX4_init_60 : decode cX4_init 60 = .ok (.putfield 34, 3) := by decide +kernel
theorem dX4_init_63 : decode cX4_init 63 = .ok (.aload_n 0, 1) := by decide +kernel
theorem dX4_init_64 : decode cX4_init 64 = .ok (.iconst 0, 1) := by decide +kernel
theorem dX4_init_65 : decode cX4_init 65 = .ok (.putfield 37, 3) := by decide +kernel
theorem dX4_init_68 : decode cX4_init 68 = .ok (.aload_n 0, 1) := by decide +kernel
theorem dX4_init_69 : decode cX4_init 69 = .ok (.lconst 0, 1) := by decide +kernel
theorem dX4_init_70 : decode cX4_init 70 = .ok (.putfield 40, 3) := by decide +kernel
theorem dX4_init_73 : decode cX4_init 73 = .ok (.return_, 1) := by decide +kernel
set_option maxRecDepth 20000 in
theorem ggX4_group_Jx4a65c_size_8abf5 : GoodIn wsX4_group wsJx4a65c_size_8abf5 := goodIn_r _ [12, 13, 112, 113, 114] (by decide +kernel) (by decide +kernel)
set_option maxRecDepth 20000 in
theorem gX4_group_Jx4a65c_size_8abf5 : GoodIn wsX4_group (wsV RX4 44 RJx4a65c yJx4a65c_size_8abf5 wsJx4a65c_size_8abf5) := goodIn_app (goodIn_of _ (by decide +kernel)) ggX4_group_Jx4a65c_size_8abf5
set_option maxRecDepth 20000 in
theorem ggX4_group_X4_isWeight : GoodIn wsX4_group wsX4_isWeight := goodIn_r _ [17, 18, 19, 16, 20] (by decide +kernel) (by decide +kernel)
set_option maxRecDepth 20000 in
theorem gX4_group_X4_isWeight : GoodIn wsX4_group (va_wsS RX4 48 yX4_isWeight wsX4_isWeight) := goodIn_app (goodIn_of _ (by decide +kernel)) ggX4_group_X4_isWeight
set_option maxRecDepth 20000 in
theorem ggX4_group_X4_isCeiling : GoodIn wsX4_group wsX4_isCeiling := goodIn_r _ [23, 18, 19, 16, 20] (by decide +kernel) (by decide +kernel)
set_option maxRecDepth 20000 in
theorem gX4_group_X4_isCeiling : GoodIn wsX4_group (va_wsS RX4 52 yX4_isCeiling wsX4_isCeiling) := goodIn_app (goodIn_of _ (by decide +kernel)) ggX4_group_X4_isCeiling
set_option maxRecDepth 20000 in
theorem ggX4_group_X0_init : GoodIn wsX4_group wsX0_init := goodIn_r _ [26, 27, 28, 29, 30, 31, 32, 33, 109, 110, 111] (by decide +kernel) (by decide +kernel)
set_option maxRecDepth 20000 in
theorem gX4_group_X0_init : GoodIn wsX4_group (wsX0_init) := ggX4_group_X0_init
set_option maxRecDepth 20000 in
theorem ggX4_group_X1_init : GoodIn wsX4_group wsX1_init := goodIn_r _ [36, 37, 28, 29, 38, 39, 103, 104, 105, 106, 107, 108] (by decide +kernel) (by decide +kernel)
set_option maxRecDepth 20000 in
theorem gX4_group_X1_init : GoodIn wsX4_group (wsX1_init) := ggX4_group_X1_init
set_option maxRecDepth 20000 in
theorem ggX4_group_Jx4a65c_add_9ea2d : GoodIn wsX4_group wsJx4a65c_add_9ea2d := goodIn_r _ [43, 44, 45, 46, 13, 47, 48, 49, 11, 50, 51, 52, 53, 54, 55, 56, 57, 58, 59, 60, 61, 62, 63, 64, 65, 66, 67, 68, 69, 70, 71, 72, 73, 74, 75, 76, 77, 78, 79, 80, 81, 82, 83, 84, 85, 86, 87, 88, 89, 90, 91, 92, 93, 112, 113, 114] (by decide +kernel) (by decide +kernel)
set_option maxRecDepth 20000 in
theorem gX4_group_Jx4a65c_add_9ea2d : GoodIn wsX4_group (wsV RX4 66 RJx4a65c yJx4a65c_add_9ea2d wsJx4a65c_add_9ea2d) := goodIn_app (goodIn_of _ (by decide +kernel)) ggX4_group_Jx4a65c_add_9ea2d
theorem dX4_group_0 : decode cX4_group 0 = .ok (.aload_n 0, 1) := by decide +kernel
theorem dX4_group_1 : decode cX4_group 1 = .ok (.getfield 12, 3) := by decide +kernel
theorem dX4_group_4 : decode cX4_group 4 = .ok (.invokevirtual 44, 3) := by decide +kernel
theorem dX4_group_7 : decode cX4_group 7 = .ok (.iconst 4, 1) := by decide +kernel
theorem dX4_group_8 : decode cX4_group 8 = .ok (.if_icmp .ge 18, 3) := by decide +kernel
theorem dX4_group_11 : decode cX4_group 11 = .ok (.iload_n 1, 1) := by decide +kernel
theorem dX4_group_12 : decode cX4_group 12 = .ok (.invokestatic 48, 3) := by decide +kernel
theorem dX4_group_15 : decode cX4_group 15 = .ok (.ifCond .eq 11, 3) := by decide +kernel
theorem dX4_group_18 : decode cX4_group 18 = .ok (.iload_n 2, 1) := by decide +kernel
theorem dX4_group_19 : decode cX4_group 19 = .ok (.iload_n 3, 1) := by decide +kernel
theorem dX4_group_20 : decode cX4_group 20 = .ok (.invokestatic 52, 3) := by decide +kernel
theorem dX4_group_23 : decode cX4_group 23 = .ok (.ifCond .ne 5, 3) := by decide +kernel
theorem dX4_group_26 : decode cX4_group 26 = .ok (.iconst (-1), 1) := by decide +kernel
theorem dX4_group_27 : decode cX4_group 27 = .ok (.ireturn, 1) := by decide +kernel
theorem dX4_group_28 : decode cX4_group 28 = .ok (.aload_n 0, 1) := by decide +kernel
theorem dX4_group_29 : decode cX4_group 29 = .ok (.getfield 12, 3) := by decide +kernel
theorem dX4_group_32 : decode cX4_group 32 = .ok (.new 56, 3) := by decide +kernel
theorem dX4_group_35 : decode cX4_group 35 = .ok (.dup, 1) := by decide +kernel
theorem dX4_group_36 : decode cX4_group 36 = .ok (.iload_n 1, 1) := by decide +kernel
theorem dX4_group_37 : decode cX4_group 37 = .ok (.new 58, 3) := by decide +kernel
theorem dX4_group_40 : decode cX4_group 40 = .ok (.dup, 1) := by decide +kernel
theorem dX4_group_41 : decode cX4_group 41 = .ok (.iload_n 2, 1) := by decide +kernel
theorem dX4_group_42 : decode cX4_group 42 = .ok (.iload_n 3, 1) := by decide +kernel
theorem dX4_group_43 : decode cX4_group 43 = .ok (.invokespecial 60, 3) := by decide +kernel
theorem dX4_group_46 : decode cX4_group 46 = .ok (.invokespecial 63, 3) := by decide +kernel
theorem dX4_group_49 : decode cX4_group 49 = .ok (.invokevirtual 66, 3) := by decide +kernel
theorem dX4_group_52 : decode cX4_group 52 = .ok (.pop, 1) := by decide +kernel
theorem dX4_group_53 : decode cX4_group 53 = .ok (.aload_n 0, 1) := by decide +kernel
theorem dX4_group_54 : decode cX4_group 54 = .ok (.getfield 12, 3) := by decide +kernel
theorem dX4_group_57 : decode cX4_group 57 = .ok (.invokevirtual 44, 3) := by decide +kernel
theorem dX4_group_60 : decode cX4_group 60 = .ok (.iconst 1, 1) := by decide +kernel
theorem dX4_group_61 : decode cX4_group 61 = .ok (.isub, 1) := by decide +kernel
theorem dX4_group_62 : decode cX4_group 62 = .ok (.ireturn, 1) := by decide +kernel
set_option maxRecDepth 20000 in
theorem ggX4_leaf_X4_groupAt : GoodIn wsX4_leaf wsX4_groupAt := goodIn_r _ [15, 16, 17, 18, 19, 20, 21, 22, 23, 24, 25, 26, 27, 28, 29, 30, 31, 32, 33, 34, 35, 36, 37, 38, 39, 40, 131, 132, 133, 134, 135, 136, 137, 138, 139, 167, 168, 169] (by decide +kernel) (by decide +kernel)
set_option maxRecDepth 20000 in
theorem gX4_leaf_X4_groupAt : GoodIn wsX4_leaf (wsV RX4 70 RX4 yX4_groupAt wsX4_groupAt) := goodIn_app (goodIn_of _ (by decide +kernel)) ggX4_leaf_X4_groupAt
set_option maxRecDepth 20000 in
theorem ggX4_leaf_Jx4a65c_size_8abf5 : GoodIn wsX4_leaf wsJx4a65c_size_8abf5 := goodIn_r _ [22, 23, 167, 168, 169] (by decide +kernel) (by decide +kernel)
set_option maxRecDepth 20000 in
theorem gX4_leaf_Jx4a65c_size_8abf5 : GoodIn wsX4_leaf (wsV RX4 44 RJx4a65c yJx4a65c_size_8abf5 wsJx4a65c_size_8abf5) := goodIn_app (goodIn_of _ (by decide +kernel)) ggX4_leaf_Jx4a65c_size_8abf5
set_option maxRecDepth 20000 in
theorem ggX4_leaf_X4_isWeight : GoodIn wsX4_leaf wsX4_isWeight := goodIn_r _ [43, 44, 45, 14, 46] (by decide +kernel) (by decide +kernel)
set_option maxRecDepth 20000 in
theorem gX4_leaf_X4_isWeight : GoodIn wsX4_leaf (va_wsS RX4 48 yX4_isWeight wsX4_isWeight) := goodIn_app (goodIn_of _ (by decide +kernel)) ggX4_leaf_X4_isWeight
set_option maxRecDepth 20000 in
theorem ggX4_leaf_X4_isCeiling : GoodIn wsX4_leaf wsX4_isCeiling := goodIn_r _ [49, 44, 45, 14, 46] (by decide +kernel) (by decide +kernel)
set_option maxRecDepth 20000 in
theorem gX4_leaf_X4_isCeiling : GoodIn wsX4_leaf (va_wsS RX4 52 yX4_isCeiling wsX4_isCeiling) := goodIn_app (goodIn_of _ (by decide +kernel)) ggX4_leaf_X4_isCeiling
set_option maxRecDepth 20000 in
theorem ggX4_leaf_X4_isWithin : GoodIn wsX4_leaf wsX4_isWithin := goodIn_r _ [46] (by decide +kernel) (by decide +kernel)
set_option maxRecDepth 20000 in
theorem gX4_leaf_X4_isWithin : GoodIn wsX4_leaf (va_wsS RX4 75 yX4_isWithin wsX4_isWithin) := goodIn_app (goodIn_of _ (by decide +kernel)) ggX4_leaf_X4_isWithin
set_option maxRecDepth 20000 in
theorem ggX4_leaf_X4_isGuarantee : GoodIn wsX4_leaf wsX4_isGuarantee := goodIn_r _ [52, 44, 45, 14, 46] (by decide +kernel) (by decide +kernel)
set_option maxRecDepth 20000 in
theorem gX4_leaf_X4_isGuarantee : GoodIn wsX4_leaf (va_wsS RX4 79 yX4_isGuarantee wsX4_isGuarantee) := goodIn_app (goodIn_of _ (by decide +kernel)) ggX4_leaf_X4_isGuarantee
set_option maxRecDepth 20000 in
theorem ggX4_leaf_X4_hasRoomFor : GoodIn wsX4_leaf wsX4_hasRoomFor := goodIn_r _ [56, 10, 57, 58, 9, 131, 132, 133, 134, 135, 136, 137, 138, 139, 161, 162, 163, 164, 165, 166, 158, 159, 160] (by decide +kernel) (by decide +kernel)
set_option maxRecDepth 20000 in
theorem gX4_leaf_X4_hasRoomFor : GoodIn wsX4_leaf (wsV RX4 82 RX4 yX4_hasRoomFor wsX4_hasRoomFor) := goodIn_app (goodIn_of _ (by decide +kernel)) ggX4_leaf_X4_hasRoomFor
set_option maxRecDepth 20000 in
theorem ggX4_leaf_X0_init : GoodIn wsX4_leaf wsX0_init := goodIn_r _ [61, 62, 63, 64, 65, 66, 67, 68, 158, 159, 160] (by decide +kernel) (by decide +kernel)
set_option maxRecDepth 20000 in
theorem gX4_leaf_X0_init : GoodIn wsX4_leaf (wsX0_init) := ggX4_leaf_X0_init
set_option maxRecDepth 20000 in
theorem ggX4_leaf_X2_init : GoodIn wsX4_leaf wsX2_init := goodIn_r _ [71, 72, 63, 64, 73, 74, 75, 76, 77, 140, 141, 142, 143, 144, 145, 146, 147, 148, 149, 150, 151, 152, 153, 154, 155, 156, 157] (by decide +kernel) (by decide +kernel)
set_option maxRecDepth 20000 in
theorem gX4_leaf_X2_init : GoodIn wsX4_leaf (wsX2_init) := ggX4_leaf_X2_init
set_option maxRecDepth 20000 in
theorem ggX4_leaf_Jx4a65c_add_9ea2d : GoodIn wsX4_leaf wsJx4a65c_add_9ea2d := goodIn_r _ [81, 82, 83, 40, 23, 84, 85, 86, 21, 87, 88, 89, 90, 91, 92, 93, 94, 95, 96, 97, 98, 99, 100, 101, 102, 103, 104, 105, 106, 107, 108, 109, 110, 111, 112, 113, 114, 115, 116, 117, 118, 119, 120, 121, 122, 123, 124, 125, 126, 127, 128, 129, 130, 167, 168, 169] (by decide +kernel) (by decide +kernel)
set_option maxRecDepth 20000 in
theorem gX4_leaf_Jx4a65c_add_9ea2d : GoodIn wsX4_leaf (wsV RX4 66 RJx4a65c yJx4a65c_add_9ea2d wsJx4a65c_add_9ea2d) := goodIn_app (goodIn_of _ (by decide +kernel)) ggX4_leaf_Jx4a65c_add_9ea2d
theorem dX4_leaf_0 : decode cX4_leaf 0 = .ok (.aload_n 0, 1) := by decide +kernel
theorem dX4_leaf_1 : decode cX4_leaf 1 = .ok (.iload_n 1, 1) := by decide +kernel
theorem dX4_leaf_2 : decode cX4_leaf 2 = .ok (.invokevirtual 70, 3) := by decide +kernel
theorem dX4_leaf_5 : decode cX4_leaf 5 = .ok (.astore 7, 2) := by decide +kernel
theorem dX4_leaf_7 : decode cX4_leaf 7 = .ok (.aload 7, 2) := by decide +kernel
theorem dX4_leaf_9 : decode cX4_leaf 9 = .ok (.ifnull 15, 3) := by decide +kernel
theorem dX4_leaf_12 : decode cX4_leaf 12 = .ok (.aload_n 0, 1) := by decide +kernel
theorem dX4_leaf_13 : decode cX4_leaf 13 = .ok (.getfield 18, 3) := by decide +kernel
theorem dX4_leaf_16 : decode cX4_leaf 16 = .ok (.invokevirtual 44, 3) := by decide +kernel
theorem dX4_leaf_19 : decode cX4_leaf 19 = .ok (.bipush 8, 2) := by decide +kernel
theorem dX4_leaf_21 : decode cX4_leaf 21 = .ok (.if_icmp .lt 5, 3) := by decide +kernel
theorem dX4_leaf_24 : decode cX4_leaf 24 = .ok (.iconst (-1), 1) := by decide +kernel
theorem dX4_leaf_25 : decode cX4_leaf 25 = .ok (.ireturn, 1) := by decide +kernel
theorem dX4_leaf_26 : decode cX4_leaf 26 = .ok (.iload_n 2, 1) := by decide +kernel
theorem dX4_leaf_27 : decode cX4_leaf 27 = .ok (.invokestatic 48, 3) := by decide +kernel
theorem dX4_leaf_30 : decode cX4_leaf 30 = .ok (.ifCond .eq 26, 3) := by decide +kernel
theorem dX4_leaf_33 : decode cX4_leaf 33 = .ok (.iload 4, 2) := by decide +kernel
theorem dX4_leaf_35 : decode cX4_leaf 35 = .ok (.iload 5, 2) := by decide +kernel
theorem dX4_leaf_37 : decode cX4_leaf 37 = .ok (.invokestatic 52, 3) := by decide +kernel
theorem dX4_leaf_40 : decode cX4_leaf 40 = .ok (.ifCond .eq 16, 3) := by decide +kernel
theorem dX4_leaf_43 : decode cX4_leaf 43 = .ok (.iload 6, 2) := by decide +kernel
theorem dX4_leaf_45 : decode cX4_leaf 45 = .ok (.sipush 1500, 3) := by decide +kernel
theorem dX4_leaf_48 : decode cX4_leaf 48 = .ok (.ldc 74, 2) := by decide +kernel
theorem dX4_leaf_50 : decode cX4_leaf 50 = .ok (.invokestatic 75, 3) := by decide +kernel
theorem dX4_leaf_53 : decode cX4_leaf 53 = .ok (.ifCond .ne 5, 3) := by decide +kernel
theorem dX4_leaf_56 : decode cX4_leaf 56 = .ok (.iconst (-1), 1) := by decide +kernel
theorem dX4_leaf_57 : decode cX4_leaf 57 = .ok (.ireturn, 1) := by decide +kernel
theorem dX4_leaf_58 : decode cX4_leaf 58 = .ok (.iload_n 3, 1) := by decide +kernel
theorem dX4_leaf_59 : decode cX4_leaf 59 = .ok (.invokestatic 79, 3) := by decide +kernel
theorem dX4_leaf_62 : decode cX4_leaf 62 = .ok (.ifCond .eq 19, 3) := by decide +kernel
theorem dX4_leaf_65 : decode cX4_leaf 65 = .ok (.iload_n 3, 1) := by decide +kernel
theorem dX4_leaf_66 : decode cX4_leaf 66 = .ok (.iload 4, 2) := by decide +kernel
theorem dX4_leaf_68 : decode cX4_leaf 68 = .ok (.if_icmp .gt 13, 3) := by decide +kernel
theorem dX4_leaf_71 : decode cX4_leaf 71 = .ok (.aload_n 0, 1) := by decide +kernel
theorem dX4_leaf_72 : decode cX4_leaf 72 = .ok (.iload_n 3, 1) := by decide +kernel
theorem dX4_leaf_73 : decode cX4_leaf 73 = .ok (.aload 7, 2) := by decide +kernel
theorem dX4_leaf_75 : decode cX4_leaf 75 = .ok (.invokevirtual 82, 3) := by decide +kernel
theorem dX4_leaf_78 : decode cX4_leaf 78 = .ok (.ifCond .ne 5, 3) := by decide +kernel
theorem dX4_leaf_81 : decode cX4_leaf 81 = .ok (.iconst (-1), 1) := by decide +kernel
theorem dX4_leaf_82 : decode cX4_leaf 82 = .ok (.ireturn, 1) := by decide +kernel
theorem dX4_leaf_83 : decode cX4_leaf 83 = .ok (.aload_n 0, 1) := by decide +kernel
theorem dX4_leaf_84 : decode cX4_leaf 84 = .ok (.getfield 18, 3) := by decide +kernel
theorem dX4_leaf_87 : decode cX4_leaf 87 = .ok (.new 86, 3) := by decide +kernel
theorem dX4_leaf_90 : decode cX4_leaf 90 = .ok (.dup, 1) := by decide +kernel
theorem dX4_leaf_91 : decode cX4_leaf 91 = .ok (.aload 7, 2) := by decide +kernel
theorem dX4_leaf_93 : decode cX4_leaf 93 = .ok (.iload_n 2, 1) := by decide +kernel
theorem dX4_leaf_94 : decode cX4_leaf 94 = .ok (.iload_n 3, 1) := by decide +kernel
theorem dX4_leaf_95 : decode cX4_leaf 95 = .ok (.new 58, 3) := by decide +kernel
theorem dX4_leaf_98 : decode cX4_leaf 98 = .ok (.dup, 1) := by decide +kernel
theorem dX4_leaf_99 : decode cX4_leaf 99 = .ok (.iload 4, 2) := by decide +kernel
theorem dX4_leaf_101 : decode cX4_leaf 101 = .ok (.iload 5, 2) := by decide +kernel
theorem dX4_leaf_103 : decode cX4_leaf 103 = .ok (.invokespecial 60, 3) := by decide +kernel
theorem dX4_leaf_106 : decode cX4_leaf 106 = .ok (.iload 6, 2) := by decide +kernel
theorem dX4_leaf_108 : decode cX4_leaf 108 = .ok (.invokespecial 88, 3) := by decide +kernel
theorem dX4_leaf_111 : decode cX4_leaf 111 = .ok (.invokevirtual 66, 3) := by decide +kernel
theorem dX4_leaf_114 : decode cX4_leaf 114 = .ok (.pop, 1) := by decide +kernel
theorem dX4_leaf_115 : decode cX4_leaf 115 = .ok (.aload 7, 2) := by decide +kernel
theorem dX4_leaf_117 : decode cX4_leaf 117 = .ok (.dup, 1) := by decide +kernel
theorem dX4_leaf_118 : decode cX4_leaf 118 = .ok (.getfield 91, 3) := by decide +kernel
theorem dX4_leaf_121 : decode cX4_leaf 121 = .ok (.iload_n 3, 1) := by decide +kernel
theorem dX4_leaf_122 : decode cX4_leaf 122 = .ok (.iadd, 1) := by decide +kernel
theorem dX4_leaf_123 : decode cX4_leaf 123 = .ok (.putfield 91, 3) := by decide +kernel
theorem dX4_leaf_126 : decode cX4_leaf 126 = .ok (.aload_n 0, 1) := by decide +kernel
theorem dX4_leaf_127 : decode cX4_leaf 127 = .ok (.dup, 1) := by decide +kernel
theorem dX4_leaf_128 : decode cX4_leaf 128 = .ok (.getfield 37, 3) := by decide +kernel
theorem dX4_leaf_131 : decode cX4_leaf 131 = .ok (.iload_n 3, 1) := by decide +kernel
theorem dX4_leaf_132 : decode cX4_leaf 132 = .ok (.iadd, 1) := by decide +kernel
theorem dX4_leaf_133 : decode cX4_leaf 133 = .ok (.putfield 37, 3) := by decide +kernel
theorem dX4_leaf_136 : decode cX4_leaf 136 = .ok (.aload_n 0, 1) := by decide +kernel
theorem dX4_leaf_137 : decode cX4_leaf 137 = .ok (.getfield 18, 3) := by decide +kernel
theorem dX4_leaf_140 : decode cX4_leaf 140 = .ok (.invokevirtual 44, 3) := by decide +kernel
theorem dX4_leaf_143 : decode cX4_leaf 143 = .ok (.iconst 1, 1) := by decide +kernel
theorem dX4_leaf_144 : decode cX4_leaf 144 = .ok (.isub, 1) := by decide +kernel
theorem dX4_leaf_145 : decode cX4_leaf 145 = .ok (.ireturn, 1) := by decide +kernel
set_option maxRecDepth 20000 in
theorem ggX4_police_X4_leafAt : GoodIn wsX4_police wsX4_leafAt := goodIn_r _ [10, 11, 12, 13, 14, 15, 16, 17, 18, 19, 20, 21, 22, 23, 24, 25, 26, 27, 28, 29, 30, 31, 32, 33, 34, 35, 70, 71, 72, 73, 74, 75, 76, 77, 78, 79, 80, 81] (by decide +kernel) (by decide +kernel)
set_option maxRecDepth 20000 in
theorem gX4_police_X4_leafAt : GoodIn wsX4_police (wsV RX4 92 RX4 yX4_leafAt wsX4_leafAt) := goodIn_app (goodIn_of _ (by decide +kernel)) ggX4_police_X4_leafAt
set_option maxRecDepth 20000 in
theorem ggX4_police_X4_isWithin : GoodIn wsX4_police wsX4_isWithin := goodIn_r _ [38] (by decide +kernel) (by decide +kernel)
set_option maxRecDepth 20000 in
theorem gX4_police_X4_isWithin : GoodIn wsX4_police (va_wsS RX4 75 yX4_isWithin wsX4_isWithin) := goodIn_app (goodIn_of _ (by decide +kernel)) ggX4_police_X4_isWithin
set_option maxRecDepth 20000 in
theorem ggX4_police_X0_init : GoodIn wsX4_police wsX0_init := goodIn_r _ [41, 42, 43, 44, 45, 46, 47, 48, 49, 50, 51] (by decide +kernel) (by decide +kernel)
set_option maxRecDepth 20000 in
theorem gX4_police_X0_init : GoodIn wsX4_police (wsX0_init) := ggX4_police_X0_init
theorem dX4_police_0 : decode cX4_police 0 = .ok (.aload_n 0, 1) := by decide +kernel
theorem dX4_police_1 : decode cX4_police 1 = .ok (.iload_n 1, 1) := by decide +kernel
theorem dX4_police_2 : decode cX4_police 2 = .ok (.invokevirtual 92, 3) := by decide +kernel
theorem dX4_police_5 : decode cX4_police 5 = .ok (.astore 5, 2) := by decide +kernel
theorem dX4_police_7 : decode cX4_police 7 = .ok (.aload 5, 2) := by decide +kernel
theorem dX4_police_9 : decode cX4_police 9 = .ok (.ifnull 25, 3) := by decide +kernel
theorem dX4_police_12 : decode cX4_police 12 = .ok (.iload_n 2, 1) := by decide +kernel
theorem dX4_police_13 : decode cX4_police 13 = .ok (.iconst 0, 1) := by decide +kernel
theorem dX4_police_14 : decode cX4_police 14 = .ok (.sipush 1000, 3) := by decide +kernel
theorem dX4_police_17 : decode cX4_police 17 = .ok (.invokestatic 75, 3) := by decide +kernel
theorem dX4_police_20 : decode cX4_police 20 = .ok (.ifCond .eq 14, 3) := by decide +kernel
theorem dX4_police_23 : decode cX4_police 23 = .ok (.iload_n 3, 1) := by decide +kernel
theorem dX4_police_24 : decode cX4_police 24 = .ok (.iconst 0, 1) := by decide +kernel
theorem dX4_police_25 : decode cX4_police 25 = .ok (.sipush 20000, 3) := by decide +kernel
theorem dX4_police_28 : decode cX4_police 28 = .ok (.invokestatic 75, 3) := by decide +kernel
theorem dX4_police_31 : decode cX4_police 31 = .ok (.ifCond .ne 5, 3) := by decide +kernel
theorem dX4_police_34 : decode cX4_police 34 = .ok (.iconst 0, 1) := by decide +kernel
theorem dX4_police_35 : decode cX4_police 35 = .ok (.ireturn, 1) := by decide +kernel
theorem dX4_police_36 : decode cX4_police 36 = .ok (.aload 5, 2) := by decide +kernel
theorem dX4_police_38 : decode cX4_police 38 = .ok (.new 58, 3) := by decide +kernel
theorem dX4_police_41 : decode cX4_police 41 = .ok (.dup, 1) := by decide +kernel
theorem dX4_police_42 : decode cX4_police 42 = .ok (.iload_n 2, 1) := by decide +kernel
theorem dX4_police_43 : decode cX4_police 43 = .ok (.iload_n 3, 1) := by decide +kernel
theorem dX4_police_44 : decode cX4_police 44 = .ok (.invokespecial 60, 3) := by decide +kernel
theorem dX4_police_47 : decode cX4_police 47 = .ok (.putfield 96, 3) := by decide +kernel
theorem dX4_police_50 : decode cX4_police 50 = .ok (.aload 5, 2) := by decide +kernel
theorem dX4_police_52 : decode cX4_police 52 = .ok (.iload 4, 2) := by decide +kernel
theorem dX4_police_54 : decode cX4_police 54 = .ok (.putfield 100, 3) := by decide +kernel
theorem dX4_police_57 : decode cX4_police 57 = .ok (.iconst 1, 1) := by decide +kernel
theorem dX4_police_58 : decode cX4_police 58 = .ok (.ireturn, 1) := by decide +kernel
set_option maxRecDepth 20000 in
theorem ggX4_arrive_X4_leafAt : GoodIn wsX4_arrive wsX4_leafAt := goodIn_r _ [17, 18, 19, 20, 21, 22, 23, 24, 25, 26, 27, 28, 29, 30, 31, 32, 33, 34, 35, 36, 37, 38, 39, 40, 41, 42, 152, 153, 154, 155, 156, 157, 158, 159, 160, 188, 189, 190] (by decide +kernel) (by decide +kernel)
set_option maxRecDepth 20000 in
theorem gX4_arrive_X4_leafAt : GoodIn wsX4_arrive (wsV RX4 92 RX4 yX4_leafAt wsX4_leafAt) := goodIn_app (goodIn_of _ (by decide +kernel)) ggX4_arrive_X4_leafAt
set_option maxRecDepth 20000 in
theorem ggX4_arrive_X4_isWithin : GoodIn wsX4_arrive wsX4_isWithin := goodIn_r _ [45] (by decide +kernel) (by decide +kernel)
set_option maxRecDepth 20000 in
theorem gX4_arrive_X4_isWithin : GoodIn wsX4_arrive (va_wsS RX4 75 yX4_isWithin wsX4_isWithin) := goodIn_app (goodIn_of _ (by decide +kernel)) ggX4_arrive_X4_isWithin
set_option maxRecDepth 20000 in
theorem ggX4_arrive_Jx4a65c_size_8abf5 : GoodIn wsX4_arrive wsJx4a65c_size_8abf5 := goodIn_r _ [24, 25, 188, 189, 190] (by decide +kernel) (by decide +kernel)
set_option maxRecDepth 20000 in
theorem gX4_arrive_Jx4a65c_size_8abf5 : GoodIn wsX4_arrive (wsV RX4 44 RJx4a65c yJx4a65c_size_8abf5 wsJx4a65c_size_8abf5) := goodIn_app (goodIn_of _ (by decide +kernel)) ggX4_arrive_Jx4a65c_size_8abf5
set_option maxRecDepth 20000 in
theorem ggX4_arrive_X2_paysPolicer : GoodIn wsX4_arrive wsX2_paysPolicer := goodIn_r _ [50, 51, 52, 53, 54, 55, 56, 57, 58, 59, 60, 61, 62, 161, 162, 163, 164, 165, 166, 167, 168, 169, 170, 171, 172, 173, 174, 175, 176, 177, 178, 191, 192, 193] (by decide +kernel) (by decide +kernel)
set_option maxRecDepth 20000 in
theorem gX4_arrive_X2_paysPolicer : GoodIn wsX4_arrive (wsV RX4 104 RX2 yX2_paysPolicer wsX2_paysPolicer) := goodIn_app (goodIn_of _ (by decide +kernel)) ggX4_arrive_X2_paysPolicer
set_option maxRecDepth 20000 in
theorem ggX4_arrive_X3_init : GoodIn wsX4_arrive wsX3_init := goodIn_r _ [65, 66, 67, 68, 69, 70, 71, 72, 73, 74, 75, 76, 179, 180, 181, 182, 183, 184, 185, 186, 187] (by decide +kernel) (by decide +kernel)
set_option maxRecDepth 20000 in
theorem gX4_arrive_X3_init : GoodIn wsX4_arrive (wsX3_init) := ggX4_arrive_X3_init
set_option maxRecDepth 20000 in
theorem ggX4_arrive_X2_catchUp : GoodIn wsX4_arrive wsX2_catchUp := goodIn_r _ [80, 81, 82, 83, 84, 85, 86, 87, 88, 89, 90, 161, 162, 163, 164, 165, 166, 167, 168, 169, 170, 171, 172, 173, 174, 175, 176, 177, 178, 194, 195, 196, 197, 198, 199] (by decide +kernel) (by decide +kernel)
set_option maxRecDepth 20000 in
theorem gX4_arrive_X2_catchUp : GoodIn wsX4_arrive (wsV RX4 124 RX2 yX2_catchUp wsX2_catchUp) := goodIn_app (goodIn_of _ (by decide +kernel)) ggX4_arrive_X2_catchUp
set_option maxRecDepth 20000 in
theorem ggX4_arrive_X2_append : GoodIn wsX4_arrive wsX2_append := goodIn_r _ [94, 95, 81, 96, 97, 98, 99, 83, 89, 161, 162, 163, 164, 165, 166, 167, 168, 169, 170, 171, 172, 173, 174, 175, 176, 177, 178, 179, 180, 181, 182, 183, 184, 185, 186, 187, 194, 195, 196, 197, 198, 199] (by decide +kernel) (by decide +kernel)
set_option maxRecDepth 20000 in
theorem gX4_arrive_X2_append : GoodIn wsX4_arrive (wsV RX4 128 RX2 yX2_append wsX2_append) := goodIn_app (goodIn_of _ (by decide +kernel)) ggX4_arrive_X2_append
set_option maxRecDepth 20000 in
theorem ggX4_arrive_Jx4a65c_add_9ea2d : GoodIn wsX4_arrive wsJx4a65c_add_9ea2d := goodIn_r _ [103, 104, 105, 42, 25, 106, 107, 108, 23, 109, 110, 111, 112, 113, 114, 115, 116, 117, 118, 119, 120, 87, 121, 122, 123, 124, 125, 126, 127, 128, 129, 130, 131, 132, 133, 134, 135, 136, 137, 138, 139, 140, 141, 142, 143, 144, 145, 146, 147, 148, 149, 150, 151, 188, 189, 190] (by decide +kernel) (by decide +kernel)
set_option maxRecDepth 20000 in
theorem gX4_arrive_Jx4a65c_add_9ea2d : GoodIn wsX4_arrive (wsV RX4 66 RJx4a65c yJx4a65c_add_9ea2d wsJx4a65c_add_9ea2d) := goodIn_app (goodIn_of _ (by decide +kernel)) ggX4_arrive_Jx4a65c_add_9ea2d
theorem dX4_arrive_0 : decode cX4_arrive 0 = .ok (.aload_n 0, 1) := by decide +kernel
theorem dX4_arrive_1 : decode cX4_arrive 1 = .ok (.iload_n 1, 1) := by decide +kernel
theorem dX4_arrive_2 : decode cX4_arrive 2 = .ok (.invokevirtual 92, 3) := by decide +kernel
theorem dX4_arrive_5 : decode cX4_arrive 5 = .ok (.astore_n 3, 1) := by decide +kernel
theorem dX4_arrive_6 : decode cX4_arrive 6 = .ok (.aload_n 3, 1) := by decide +kernel
theorem dX4_arrive_7 : decode cX4_arrive 7 = .ok (.ifnull 28, 3) := by decide +kernel
theorem dX4_arrive_10 : decode cX4_arrive 10 = .ok (.iload_n 2, 1) := by decide +kernel
theorem dX4_arrive_11 : decode cX4_arrive 11 = .ok (.bipush 64, 2) := by decide +kernel
theorem dX4_arrive_13 : decode cX4_arrive 13 = .ok (.sipush 1500, 3) := by decide +kernel
theorem dX4_arrive_16 : decode cX4_arrive 16 = .ok (.invokestatic 75, 3) := by decide +kernel
theorem dX4_arrive_19 : decode cX4_arrive 19 = .ok (.ifCond .eq 16, 3) := by decide +kernel
theorem dX4_arrive_22 : decode cX4_arrive 22 = .ok (.aload_n 0, 1) := by decide +kernel
theorem dX4_arrive_23 : decode cX4_arrive 23 = .ok (.getfield 21, 3) := by decide +kernel
theorem dX4_arrive_26 : decode cX4_arrive 26 = .ok (.invokevirtual 44, 3) := by decide +kernel
theorem dX4_arrive_29 : decode cX4_arrive 29 = .ok (.sipush 1000, 3) := by decide +kernel
theorem dX4_arrive_32 : decode cX4_arrive 32 = .ok (.if_icmp .lt 5, 3) := by decide +kernel
theorem dX4_arrive_35 : decode cX4_arrive 35 = .ok (.iconst (-1), 1) := by decide +kernel
theorem dX4_arrive_36 : decode cX4_arrive 36 = .ok (.ireturn, 1) := by decide +kernel
theorem dX4_arrive_37 : decode cX4_arrive 37 = .ok (.aload_n 3, 1) := by decide +kernel
theorem dX4_arrive_38 : decode cX4_arrive 38 = .ok (.iload_n 2, 1) := by decide +kernel
theorem dX4_arrive_39 : decode cX4_arrive 39 = .ok (.invokevirtual 104, 3) := by decide +kernel
theorem dX4_arrive_42 : decode cX4_arrive 42 = .ok (.istore 4, 2) := by decide +kernel
theorem dX4_arrive_44 : decode cX4_arrive 44 = .ok (.iload 4, 2) := by decide +kernel
theorem dX4_arrive_46 : decode cX4_arrive 46 = .ok (.ifCond .ne 23, 3) := by decide +kernel
theorem dX4_arrive_49 : decode cX4_arrive 49 = .ok (.aload_n 3, 1) := by decide +kernel
theorem dX4_arrive_50 : decode cX4_arrive 50 = .ok (.getfield 100, 3) := by decide +kernel
theorem dX4_arrive_53 : decode cX4_arrive 53 = .ok (.ifCond .ne 16, 3) := by decide +kernel
theorem dX4_arrive_56 : decode cX4_arrive 56 = .ok (.aload_n 3, 1) := by decide +kernel
theorem dX4_arrive_57 : decode cX4_arrive 57 = .ok (.dup, 1) := by decide +kernel
theorem dX4_arrive_58 : decode cX4_arrive 58 = .ok (.getfield 107, 3) := by decide +kernel
theorem dX4_arrive_61 : decode cX4_arrive 61 = .ok (.iconst 1, 1) := by decide +kernel
theorem dX4_arrive_62 : decode cX4_arrive 62 = .ok (.iadd, 1) := by decide +kernel
theorem dX4_arrive_63 : decode cX4_arrive 63 = .ok (.putfield 107, 3) := by decide +kernel
theorem dX4_arrive_66 : decode cX4_arrive 66 = .ok (.bipush (-2), 2) := by decide +kernel
theorem dX4_arrive_68 : decode cX4_arrive 68 = .ok (.ireturn, 1) := by decide +kernel
theorem dX4_arrive_69 : decode cX4_arrive 69 = .ok (.iload_n 2, 1) := by decide +kernel
theorem dX4_arrive_70 : decode cX4_arrive 70 = .ok (.aload_n 3, 1) := by decide +kernel
theorem dX4_arrive_71 : decode cX4_arrive 71 = .ok (.getfield 110, 3) := by decide +kernel
theorem dX4_arrive_74 : decode cX4_arrive 74 = .ok (.aload_n 3, 1) := by decide +kernel
theorem dX4_arrive_75 : decode cX4_arrive 75 = .ok (.getfield 113, 3) := by decide +kernel
theorem dX4_arrive_78 : decode cX4_arrive 78 = .ok (.isub, 1) := by decide +kernel
theorem dX4_arrive_79 : decode cX4_arrive 79 = .ok (.if_icmp .le 16, 3) := by decide +kernel
theorem dX4_arrive_82 : decode cX4_arrive 82 = .ok (.aload_n 3, 1) := by decide +kernel
theorem dX4_arrive_83 : decode cX4_arrive 83 = .ok (.dup, 1) := by decide +kernel
theorem dX4_arrive_84 : decode cX4_arrive 84 = .ok (.getfield 116, 3) := by decide +kernel
theorem dX4_arrive_87 : decode cX4_arrive 87 = .ok (.iconst 1, 1) := by decide +kernel
theorem dX4_arrive_88 : decode cX4_arrive 88 = .ok (.iadd, 1) := by decide +kernel
theorem dX4_arrive_89 : decode cX4_arrive 89 = .ok (.putfield 116, 3) := by decide +kernel
theorem dX4_arrive_92 : decode cX4_arrive 92 = .ok (.bipush (-3), 2) := by decide +kernel
theorem dX4_arrive_94 : decode cX4_arrive 94 = .ok (.ireturn, 1) := by decide +kernel
theorem dX4_arrive_95 : decode cX4_arrive 95 = .ok (.new 119, 3) := by decide +kernel
theorem dX4_arrive_98 : decode cX4_arrive 98 = .ok (.dup, 1) := by decide +kernel
theorem dX4_arrive_99 : decode cX4_arrive 99 = .ok (.aload_n 0, 1) := by decide +kernel
theorem dX4_arrive_100 : decode cX4_arrive 100 = .ok (.getfield 21, 3) := by decide +kernel
theorem dX4_arrive_103 : decode cX4_arrive 103 = .ok (.invokevirtual 44, 3) := by decide +kernel
theorem dX4_arrive_106 : decode cX4_arrive 106 = .ok (.iload_n 1, 1) := by decide +kernel
theorem dX4_arrive_107 : decode cX4_arrive 107 = .ok (.iload_n 2, 1) := by decide +kernel
theorem dX4_arrive_108 : decode cX4_arrive 108 = .ok (.aload_n 0, 1) := by decide +kernel
theorem dX4_arrive_109 : decode cX4_arrive 109 = .ok (.getfield 27, 3) := by decide +kernel
theorem dX4_arrive_112 : decode cX4_arrive 112 = .ok (.iload 4, 2) := by decide +kernel
theorem dX4_arrive_114 : decode cX4_arrive 114 = .ok (.ifCond .ne 7, 3) := by decide +kernel
theorem dX4_arrive_117 : decode cX4_arrive 117 = .ok (.iconst 1, 1) := by decide +kernel
theorem dX4_arrive_118 : decode cX4_arrive 118 = .ok (.goto 4, 3) := by decide +kernel
theorem dX4_arrive_121 : decode cX4_arrive 121 = .ok (.iconst 0, 1) := by decide +kernel
theorem dX4_arrive_122 : decode cX4_arrive 122 = .ok (.invokespecial 121, 3) := by decide +kernel
theorem dX4_arrive_125 : decode cX4_arrive 125 = .ok (.astore 5, 2) := by decide +kernel
theorem dX4_arrive_127 : decode cX4_arrive 127 = .ok (.aload_n 3, 1) := by decide +kernel
theorem dX4_arrive_128 : decode cX4_arrive 128 = .ok (.aload_n 0, 1) := by decide +kernel
theorem dX4_arrive_129 : decode cX4_arrive 129 = .ok (.getfield 40, 3) := by decide +kernel
theorem dX4_arrive_132 : decode cX4_arrive 132 = .ok (.invokevirtual 124, 3) := by decide +kernel
theorem dX4_arrive_135 : decode cX4_arrive 135 = .ok (.aload_n 3, 1) := by decide +kernel
theorem dX4_arrive_136 : decode cX4_arrive 136 = .ok (.aload 5, 2) := by decide +kernel
theorem dX4_arrive_138 : decode cX4_arrive 138 = .ok (.invokevirtual 128, 3) := by decide +kernel
theorem dX4_arrive_141 : decode cX4_arrive 141 = .ok (.aload_n 0, 1) := by decide +kernel
theorem dX4_arrive_142 : decode cX4_arrive 142 = .ok (.getfield 21, 3) := by decide +kernel
theorem dX4_arrive_145 : decode cX4_arrive 145 = .ok (.aload 5, 2) := by decide +kernel
theorem dX4_arrive_147 : decode cX4_arrive 147 = .ok (.invokevirtual 66, 3) := by decide +kernel
theorem dX4_arrive_150 : decode cX4_arrive 150 = .ok (.pop, 1) := by decide +kernel
theorem dX4_arrive_151 : decode cX4_arrive 151 = .ok (.aload 5, 2) := by decide +kernel
theorem dX4_arrive_153 : decode cX4_arrive 153 = .ok (.getfield 132, 3) := by decide +kernel
theorem dX4_arrive_156 : decode cX4_arrive 156 = .ok (.ireturn, 1) := by decide +kernel
set_option maxRecDepth 20000 in
theorem ggX4_run_X4_isWithin : GoodIn wsX4_run wsX4_isWithin := goodIn_r _ [13] (by decide +kernel) (by decide +kernel)
set_option maxRecDepth 20000 in
theorem gX4_run_X4_isWithin : GoodIn wsX4_run (va_wsS RX4 75 yX4_isWithin wsX4_isWithin) := goodIn_app (goodIn_of _ (by decide +kernel)) ggX4_run_X4_isWithin
set_option maxRecDepth 20000 in
theorem ggX4_run_Jx4a65c_size_8abf5 : GoodIn wsX4_run wsJx4a65c_size_8abf5 := goodIn_r _ [18, 19, 260, 261, 262] (by decide +kernel) (by decide +kernel)
set_option maxRecDepth 20000 in
theorem gX4_run_Jx4a65c_size_8abf5 : GoodIn wsX4_run (wsV RX4 44 RJx4a65c yJx4a65c_size_8abf5 wsJx4a65c_size_8abf5) := goodIn_app (goodIn_of _ (by decide +kernel)) ggX4_run_Jx4a65c_size_8abf5
set_option maxRecDepth 20000 in
theorem ggX4_run_X4_beginOne : GoodIn wsX4_run wsX4_beginOne := goodIn_r _ [23, 2, 24, 25, 26, 8, 27, 28, 29, 30, 12, 31, 32, 33, 14, 15, 16, 17, 18, 19, 34, 35, 36, 37, 38, 39, 40, 41, 42, 43, 44, 45, 46, 47, 48, 49, 50, 51, 52, 53, 54, 55, 56, 57, 58, 59, 60, 61, 62, 63, 64, 65, 66, 67, 68, 69, 70, 71, 72, 73, 74, 75, 76, 77, 78, 79, 80, 81, 82, 83, 84, 85, 86, 87, 88, 89, 90, 91, 92, 93, 94, 95, 96, 97, 98, 99, 100, 101, 4, 102, 5, 103, 104, 105, 106, 107, 108, 109, 110, 111, 112, 113, 114, 115, 116, 117, 118, 119, 120, 121, 122, 123, 124, 125, 126, 127, 128, 129, 130, 131, 132, 133, 134, 135, 136, 137, 138, 139, 140, 141, 142, 143, 144, 145, 146, 7, 9, 147, 148, 149, 150, 151, 152, 153, 154, 155, 156, 157, 158, 159, 160, 161, 162, 163, 164, 165, 166, 167, 168, 169, 170, 171, 172, 173, 174, 175, 176, 177, 178, 179, 180, 181, 182, 183, 184, 185, 186, 187, 188, 189, 190, 191, 192, 193, 194, 195, 196, 197, 198, 199, 200, 201, 202, 203, 204, 205, 206, 207, 208, 251, 252, 253, 254, 255, 256, 257, 258, 259, 260, 261, 262, 263, 264, 265, 266, 267, 268, 269, 270, 271, 272, 273, 274, 275, 276, 277, 278, 279, 280, 281, 282, 283, 284, 285, 286, 287, 288, 289, 290, 291, 292, 293, 294, 295, 296, 297, 298] (by decide +kernel) (by decide +kernel)
set_option maxRecDepth 20000 in
theorem gX4_run_X4_beginOne : GoodIn wsX4_run (wsV RX4 137 RX4 yX4_beginOne wsX4_beginOne) := goodIn_app (goodIn_of _ (by decide +kernel)) ggX4_run_X4_beginOne
set_option maxRecDepth 20000 in
theorem ggX4_run_X4_passBusy : GoodIn wsX4_run wsX4_passBusy := goodIn_r _ [212, 213, 214, 215, 216, 12, 217, 155, 156, 218, 32, 33, 219, 220, 2, 14, 15, 16, 17, 18, 19, 34, 35, 36, 37, 38, 39, 40, 41, 42, 43, 44, 45, 46, 47, 48, 49, 50, 221, 222, 223, 94, 224, 225, 96, 226, 227, 228, 8, 229, 251, 252, 253, 254, 255, 256, 257, 258, 259, 290, 291, 292, 293, 294, 295, 263, 264, 265, 266, 267, 268, 269, 270, 271, 272, 273, 274, 275, 276, 277, 278, 279, 280, 260, 261, 262, 296, 297, 298] (by decide +kernel) (by decide +kernel)
set_option maxRecDepth 20000 in
theorem gX4_run_X4_passBusy : GoodIn wsX4_run (wsV RX4 146 RX4 yX4_passBusy wsX4_passBusy) := goodIn_app (goodIn_of _ (by decide +kernel)) ggX4_run_X4_passBusy
set_option maxRecDepth 20000 in
theorem ggX4_run_X4_ticksUntilOneMayGo : GoodIn wsX4_run wsX4_ticksUntilOneMayGo := goodIn_r _ [233, 234, 32, 33, 2, 235, 228, 8, 229, 14, 15, 16, 17, 18, 19, 34, 35, 36, 37, 38, 39, 40, 41, 42, 43, 44, 45, 46, 47, 48, 49, 50, 236, 237, 238, 54, 239, 56, 240, 89, 68, 87, 90, 205, 26, 27, 241, 242, 243, 244, 94, 245, 97, 96, 226, 246, 69, 52, 53, 55, 57, 58, 59, 60, 61, 62, 63, 251, 252, 253, 254, 255, 256, 257, 258, 259, 260, 261, 262, 263, 264, 265, 266, 267, 268, 269, 270, 271, 272, 273, 274, 275, 276, 277, 278, 279, 280, 281, 282, 283, 284, 285, 286, 287, 288, 289, 290, 291, 292, 293, 294, 295, 296, 297, 298] (by decide +kernel) (by decide +kernel)
set_option maxRecDepth 20000 in
theorem gX4_run_X4_ticksUntilOneMayGo : GoodIn wsX4_run (wsV RX4 150 RX4 yX4_ticksUntilOneMayGo wsX4_ticksUntilOneMayGo) := goodIn_app (goodIn_of _ (by decide +kernel)) ggX4_run_X4_ticksUntilOneMayGo
set_option maxRecDepth 20000 in
theorem ggX4_run_X4_passIdle : GoodIn wsX4_run wsX4_passIdle := goodIn_r _ [250, 190, 191, 192, 12, 193, 32, 33, 194, 14, 15, 16, 17, 18, 19, 34, 35, 36, 37, 38, 39, 40, 41, 42, 43, 44, 45, 46, 47, 48, 49, 50, 195, 196, 197, 54, 198, 56, 199, 163, 164, 165, 89, 68, 87, 90, 166, 167, 168, 94, 169, 96, 97, 214, 215, 216, 217, 155, 156, 218, 219, 220, 2, 221, 222, 223, 224, 225, 226, 227, 228, 8, 229, 251, 252, 253, 254, 255, 256, 257, 258, 259, 263, 264, 265, 266, 267, 268, 269, 270, 271, 272, 273, 274, 275, 276, 277, 278, 279, 280, 260, 261, 262, 281, 282, 283, 284, 285, 286, 287, 288, 289, 290, 291, 292, 293, 294, 295, 296, 297, 298] (by decide +kernel) (by decide +kernel)
set_option maxRecDepth 20000 in
theorem gX4_run_X4_passIdle : GoodIn wsX4_run (wsV RX4 153 RX4 yX4_passIdle wsX4_passIdle) := goodIn_app (goodIn_of _ (by decide +kernel)) ggX4_run_X4_passIdle
theorem dX4_run_0 : decode cX4_run 0 = .ok (.iload_n 1, 1) := by decide +kernel
theorem dX4_run_1 : decode cX4_run 1 = .ok (.iconst 1, 1) := by decide +kernel
theorem dX4_run_2 : decode cX4_run 2 = .ok (.ldc 135, 2) := by decide +kernel
theorem dX4_run_4 : decode cX4_run 4 = .ok (.invokestatic 75, 3) := by decide +kernel
theorem dX4_run_7 : decode cX4_run 7 = .ok (.ifCond .eq 14, 3) := by decide +kernel
theorem dX4_run_10 : decode cX4_run 10 = .ok (.aload_n 0, 1) := by decide +kernel
theorem dX4_run_11 : decode cX4_run 11 = .ok (.getfield 27, 3) := by decide +kernel
theorem dX4_run_14 : decode cX4_run 14 = .ok (.ldc 136, 2) := by decide +kernel
theorem dX4_run_16 : decode cX4_run 16 = .ok (.iload_n 1, 1) := by decide +kernel
theorem dX4_run_17 : decode cX4_run 17 = .ok (.isub, 1) := by decide +kernel
theorem dX4_run_18 : decode cX4_run 18 = .ok (.if_icmp .le 5, 3) := by decide +kernel
theorem dX4_run_21 : decode cX4_run 21 = .ok (.iconst (-1), 1) := by decide +kernel
theorem dX4_run_22 : decode cX4_run 22 = .ok (.ireturn, 1) := by decide +kernel
theorem dX4_run_23 : decode cX4_run 23 = .ok (.aload_n 0, 1) := by decide +kernel
theorem dX4_run_24 : decode cX4_run 24 = .ok (.getfield 24, 3) := by decide +kernel
theorem dX4_run_27 : decode cX4_run 27 = .ok (.invokevirtual 44, 3) := by decide +kernel
theorem dX4_run_30 : decode cX4_run 30 = .ok (.istore_n 2, 1) := by decide +kernel
theorem dX4_run_31 : decode cX4_run 31 = .ok (.aload_n 0, 1) := by decide +kernel
theorem dX4_run_32 : decode cX4_run 32 = .ok (.getfield 27, 3) := by decide +kernel
theorem dX4_run_35 : decode cX4_run 35 = .ok (.iload_n 1, 1) := by decide +kernel
theorem dX4_run_36 : decode cX4_run 36 = .ok (.iadd, 1) := by decide +kernel
theorem dX4_run_37 : decode cX4_run 37 = .ok (.istore_n 3, 1) := by decide +kernel
theorem dX4_run_38 : decode cX4_run 38 = .ok (.iconst 0, 1) := by decide +kernel
theorem dX4_run_39 : decode cX4_run 39 = .ok (.istore 4, 2) := by decide +kernel
theorem dX4_run_41 : decode cX4_run 41 = .ok (.iload 4, 2) := by decide +kernel
theorem dX4_run_43 : decode cX4_run 43 = .ok (.iload_n 1, 1) := by decide +kernel
theorem dX4_run_44 : decode cX4_run 44 = .ok (.if_icmp .ge 80, 3) := by decide +kernel
theorem dX4_run_47 : decode cX4_run 47 = .ok (.aload_n 0, 1) := by decide +kernel
theorem dX4_run_48 : decode cX4_run 48 = .ok (.getfield 27, 3) := by decide +kernel
theorem dX4_run_51 : decode cX4_run 51 = .ok (.iload_n 3, 1) := by decide +kernel
theorem dX4_run_52 : decode cX4_run 52 = .ok (.if_icmp .ge 72, 3) := by decide +kernel
theorem dX4_run_55 : decode cX4_run 55 = .ok (.aload_n 0, 1) := by decide +kernel
theorem dX4_run_56 : decode cX4_run 56 = .ok (.getfield 27, 3) := by decide +kernel
theorem dX4_run_59 : decode cX4_run 59 = .ok (.aload_n 0, 1) := by decide +kernel
theorem dX4_run_60 : decode cX4_run 60 = .ok (.getfield 31, 3) := by decide +kernel
theorem dX4_run_63 : decode cX4_run 63 = .ok (.if_icmp .lt 7, 3) := by decide +kernel
theorem dX4_run_66 : decode cX4_run 66 = .ok (.aload_n 0, 1) := by decide +kernel
theorem dX4_run_67 : decode cX4_run 67 = .ok (.invokevirtual 137, 3) := by decide +kernel
theorem dX4_run_70 : decode cX4_run 70 = .ok (.aload_n 0, 1) := by decide +kernel
theorem dX4_run_71 : decode cX4_run 71 = .ok (.getfield 27, 3) := by decide +kernel
theorem dX4_run_74 : decode cX4_run 74 = .ok (.aload_n 0, 1) := by decide +kernel
theorem dX4_run_75 : decode cX4_run 75 = .ok (.getfield 31, 3) := by decide +kernel
theorem dX4_run_78 : decode cX4_run 78 = .ok (.if_icmp .ge 23, 3) := by decide +kernel
theorem dX4_run_81 : decode cX4_run 81 = .ok (.aload_n 0, 1) := by decide +kernel
theorem dX4_run_82 : decode cX4_run 82 = .ok (.aload_n 0, 1) := by decide +kernel
theorem dX4_run_83 : decode cX4_run 83 = .ok (.getfield 31, 3) := by decide +kernel
theorem dX4_run_86 : decode cX4_run 86 = .ok (.iload_n 3, 1) := by decide +kernel
theorem dX4_run_87 : decode cX4_run 87 = .ok (.invokestatic 140, 3) := by decide +kernel
theorem dX4_run_90 : decode cX4_run 90 = .ok (.aload_n 0, 1) := by decide +kernel
theorem dX4_run_91 : decode cX4_run 91 = .ok (.getfield 27, 3) := by decide +kernel
theorem dX4_run_94 : decode cX4_run 94 = .ok (.isub, 1) := by decide +kernel
theorem dX4_run_95 : decode cX4_run 95 = .ok (.invokevirtual 146, 3) := by decide +kernel
theorem dX4_run_98 : decode cX4_run 98 = .ok (.goto 20, 3) := by decide +kernel
theorem dX4_run_101 : decode cX4_run 101 = .ok (.aload_n 0, 1) := by decide +kernel
theorem dX4_run_102 : decode cX4_run 102 = .ok (.aload_n 0, 1) := by decide +kernel
theorem dX4_run_103 : decode cX4_run 103 = .ok (.invokevirtual 150, 3) := by decide +kernel
theorem dX4_run_106 : decode cX4_run 106 = .ok (.iload_n 3, 1) := by decide +kernel
theorem dX4_run_107 : decode cX4_run 107 = .ok (.aload_n 0, 1) := by decide +kernel
theorem dX4_run_108 : decode cX4_run 108 = .ok (.getfield 27, 3) := by decide +kernel
theorem dX4_run_111 : decode cX4_run 111 = .ok (.isub, 1) := by decide +kernel
theorem dX4_run_112 : decode cX4_run 112 = .ok (.invokestatic 140, 3) := by decide +kernel
theorem dX4_run_115 : decode cX4_run 115 = .ok (.invokevirtual 153, 3) := by decide +kernel
theorem dX4_run_118 : decode cX4_run 118 = .ok (.iinc 4 1, 3) := by decide +kernel
theorem dX4_run_121 : decode cX4_run 121 = .ok (.goto (-80), 3) := by decide +kernel
theorem dX4_run_124 : decode cX4_run 124 = .ok (.aload_n 0, 1) := by decide +kernel
theorem dX4_run_125 : decode cX4_run 125 = .ok (.getfield 24, 3) := by decide +kernel
theorem dX4_run_128 : decode cX4_run 128 = .ok (.invokevirtual 44, 3) := by decide +kernel
theorem dX4_run_131 : decode cX4_run 131 = .ok (.iload_n 2, 1) := by decide +kernel
theorem dX4_run_132 : decode cX4_run 132 = .ok (.isub, 1) := by decide +kernel
theorem dX4_run_133 : decode cX4_run 133 = .ok (.ireturn, 1) := by decide +kernel
theorem dX4_now_0 : decode cX4_now 0 = .ok (.aload_n 0, 1) := by decide +kernel
theorem dX4_now_1 : decode cX4_now 1 = .ok (.getfield 27, 3) := by decide +kernel
theorem dX4_now_4 : decode cX4_now 4 = .ok (.ireturn, 1) := by decide +kernel
set_option maxRecDepth 20000 in
theorem ggX4_packet_Jx4a65c_size_8abf5 : GoodIn wsX4_packet wsJx4a65c_size_8abf5 := goodIn_r _ [7, 8, 47, 48, 49] (by decide +kernel) (by decide +kernel)
set_option maxRecDepth 20000 in
theorem gX4_packet_Jx4a65c_size_8abf5 : GoodIn wsX4_packet (wsV RX4 44 RJx4a65c yJx4a65c_size_8abf5 wsJx4a65c_size_8abf5) := goodIn_app (goodIn_of _ (by decide +kernel)) ggX4_packet_Jx4a65c_size_8abf5
set_option maxRecDepth 20000 in
theorem ggX4_packet_Jx4a65c_get_915e3 : GoodIn wsX4_packet wsJx4a65c_get_915e3 := goodIn_r _ [12, 8, 13, 14, 15, 16, 17, 18, 19, 20, 21, 22, 23, 6, 24, 25, 47, 48, 49] (by decide +kernel) (by decide +kernel)
set_option maxRecDepth 20000 in
theorem gX4_packet_Jx4a65c_get_915e3 : GoodIn wsX4_packet (wsV RX4 156 RJx4a65c yJx4a65c_get_915e3 wsJx4a65c_get_915e3) := goodIn_app (goodIn_of _ (by decide +kernel)) ggX4_packet_Jx4a65c_get_915e3
set_option maxRecDepth 20000 in
theorem ggX4_packet_X3_figure : GoodIn wsX4_packet wsX3_figure := goodIn_r _ [30, 31, 32, 33, 34, 35, 36, 37, 50, 51, 52, 53, 54, 55, 56, 57, 58] (by decide +kernel) (by decide +kernel)
set_option maxRecDepth 20000 in
theorem gX4_packet_X3_figure : GoodIn wsX4_packet (wsV RX4 160 RX3 yX3_figure wsX3_figure) := goodIn_app (goodIn_of _ (by decide +kernel)) ggX4_packet_X3_figure
theorem dX4_packet_0 : decode cX4_packet 0 = .ok (.iload_n 1, 1) := by decide +kernel
theorem dX4_packet_1 : decode cX4_packet 1 = .ok (.ifCond .lt 14, 3) := by decide +kernel
theorem dX4_packet_4 : decode cX4_packet 4 = .ok (.iload_n 1, 1) := by decide +kernel
theorem dX4_packet_5 : decode cX4_packet 5 = .ok (.aload_n 0, 1) := by decide +kernel
theorem dX4_packet_6 : decode cX4_packet 6 = .ok (.getfield 21, 3) := by decide +kernel
theorem dX4_packet_9 : decode cX4_packet 9 = .ok (.invokevirtual 44, 3) := by decide +kernel
theorem dX4_packet_12 : decode cX4_packet 12 = .ok (.if_icmp .lt 5, 3) := by decide +kernel
theorem dX4_packet_15 : decode cX4_packet 15 = .ok (.iconst (-1), 1) := by decide +kernel
theorem dX4_packet_16 : decode cX4_packet 16 = .ok (.ireturn, 1) := by decide +kernel
theorem dX4_packet_17 : decode cX4_packet 17 = .ok (.aload_n 0, 1) := by decide +kernel
theorem dX4_packet_18 : decode cX4_packet 18 = .ok (.getfield 21, 3) := by decide +kernel
theorem dX4_packet_21 : decode cX4_packet 21 = .ok (.iload_n 1, 1) := by decide +kernel
theorem dX4_packet_22 : decode cX4_packet 22 = .ok (.invokevirtual 156, 3) := by decide +kernel
theorem dX4_packet_25 : decode cX4_packet 25 = .ok (.checkcast 119, 3) := by decide +kernel
theorem dX4_packet_28 : decode cX4_packet 28 = .ok (.iload_n 2, 1) := by decide +kernel
theorem dX4_packet_29 : decode cX4_packet 29 = .ok (.invokevirtual 160, 3) := by decide +kernel
theorem dX4_packet_32 : decode cX4_packet 32 = .ok (.ireturn, 1) := by decide +kernel
set_option maxRecDepth 20000 in
theorem ggX4_sent_Jx4a65c_size_8abf5 : GoodIn wsX4_sent wsJx4a65c_size_8abf5 := goodIn_r _ [8, 9, 45, 46, 47] (by decide +kernel) (by decide +kernel)
set_option maxRecDepth 20000 in
theorem gX4_sent_Jx4a65c_size_8abf5 : GoodIn wsX4_sent (wsV RX4 44 RJx4a65c yJx4a65c_size_8abf5 wsJx4a65c_size_8abf5) := goodIn_app (goodIn_of _ (by decide +kernel)) ggX4_sent_Jx4a65c_size_8abf5
set_option maxRecDepth 20000 in
theorem ggX4_sent_Jx4a65c_get_915e3 : GoodIn wsX4_sent wsJx4a65c_get_915e3 := goodIn_r _ [13, 9, 14, 15, 16, 17, 18, 19, 20, 21, 22, 23, 24, 7, 25, 26, 45, 46, 47] (by decide +kernel) (by decide +kernel)
set_option maxRecDepth 20000 in
theorem gX4_sent_Jx4a65c_get_915e3 : GoodIn wsX4_sent (wsV RX4 156 RJx4a65c yJx4a65c_get_915e3 wsJx4a65c_get_915e3) := goodIn_app (goodIn_of _ (by decide +kernel)) ggX4_sent_Jx4a65c_get_915e3
theorem dX4_sent_0 : decode cX4_sent 0 = .ok (.iload_n 1, 1) := by decide +kernel
theorem dX4_sent_1 : decode cX4_sent 1 = .ok (.ifCond .lt 14, 3) := by decide +kernel
theorem dX4_sent_4 : decode cX4_sent 4 = .ok (.iload_n 1, 1) := by decide +kernel
theorem dX4_sent_5 : decode cX4_sent 5 = .ok (.aload_n 0, 1) := by decide +kernel
theorem dX4_sent_6 : decode cX4_sent 6 = .ok (.getfield 24, 3) := by decide +kernel
theorem dX4_sent_9 : decode cX4_sent 9 = .ok (.invokevirtual 44, 3) := by decide +kernel
theorem dX4_sent_12 : decode cX4_sent 12 = .ok (.if_icmp .lt 5, 3) := by decide +kernel
theorem dX4_sent_15 : decode cX4_sent 15 = .ok (.iconst (-1), 1) := by decide +kernel
theorem dX4_sent_16 : decode cX4_sent 16 = .ok (.ireturn, 1) := by decide +kernel
theorem dX4_sent_17 : decode cX4_sent 17 = .ok (.aload_n 0, 1) := by decide +kernel
theorem dX4_sent_18 : decode cX4_sent 18 = .ok (.getfield 24, 3) := by decide +kernel
theorem dX4_sent_21 : decode cX4_sent 21 = .ok (.iload_n 1, 1) := by decide +kernel
theorem dX4_sent_22 : decode cX4_sent 22 = .ok (.invokevirtual 156, 3) := by decide +kernel
theorem dX4_sent_25 : decode cX4_sent 25 = .ok (.checkcast 119, 3) := by decide +kernel
theorem dX4_sent_28 : decode cX4_sent 28 = .ok (.getfield 132, 3) := by decide +kernel
theorem dX4_sent_31 : decode cX4_sent 31 = .ok (.ireturn, 1) := by decide +kernel
set_option maxRecDepth 20000 in
theorem ggX4_about_X4_leafAt : GoodIn wsX4_about wsX4_leafAt := goodIn_r _ [5, 6, 7, 8, 9, 10, 11, 12, 13, 14, 15, 16, 17, 18, 19, 20, 21, 22, 23, 24, 25, 26, 27, 28, 29, 30, 44, 45, 46, 47, 48, 49, 50, 51, 52, 53, 54, 55] (by decide +kernel) (by decide +kernel)
set_option maxRecDepth 20000 in
theorem gX4_about_X4_leafAt : GoodIn wsX4_about (wsV RX4 92 RX4 yX4_leafAt wsX4_leafAt) := goodIn_app (goodIn_of _ (by decide +kernel)) ggX4_about_X4_leafAt
set_option maxRecDepth 20000 in
theorem ggX4_about_X2_figure : GoodIn wsX4_about wsX2_figure := goodIn_r _ [35, 36, 37, 38, 39, 40, 41, 42, 43, 56, 57, 58, 59, 60, 61, 62, 63, 64, 65, 66, 67, 68, 69, 70, 71, 72, 73] (by decide +kernel) (by decide +kernel)
set_option maxRecDepth 20000 in
theorem gX4_about_X2_figure : GoodIn wsX4_about (wsV RX4 164 RX2 yX2_figure wsX2_figure) := goodIn_app (goodIn_of _ (by decide +kernel)) ggX4_about_X2_figure
theorem dX4_about_0 : decode cX4_about 0 = .ok (.aload_n 0, 1) := by decide +kernel
theorem dX4_about_1 : decode cX4_about 1 = .ok (.iload_n 1, 1) := by decide +kernel
theorem dX4_about_2 : decode cX4_about 2 = .ok (.invokevirtual 92, 3) := by decide +kernel
theorem dX4_about_5 : decode cX4_about 5 = .ok (.astore_n 3, 1) := by decide +kernel
theorem dX4_about_6 : decode cX4_about 6 = .ok (.aload_n 3, 1) := by decide +kernel
theorem dX4_about_7 : decode cX4_about 7 = .ok (.ifnonnull 7, 3) := by decide +kernel
theorem dX4_about_10 : decode cX4_about 10 = .ok (.iconst (-1), 1) := by decide +kernel
theorem dX4_about_11 : decode cX4_about 11 = .ok (.goto 8, 3) := by decide +kernel
theorem dX4_about_14 : decode cX4_about 14 = .ok (.aload_n 3, 1) := by decide +kernel
theorem dX4_about_15 : decode cX4_about 15 = .ok (.iload_n 2, 1) := by decide +kernel
theorem dX4_about_16 : decode cX4_about 16 = .ok (.invokevirtual 164, 3) := by decide +kernel
theorem dX4_about_19 : decode cX4_about 19 = .ok (.ireturn, 1) := by decide +kernel
set_option maxRecDepth 20000 in
theorem ggX4_tokens_X4_leafAt : GoodIn wsX4_tokens wsX4_leafAt := goodIn_r _ [9, 10, 11, 12, 13, 14, 15, 16, 17, 18, 19, 20, 21, 22, 23, 24, 25, 26, 27, 28, 29, 30, 31, 32, 33, 34, 68, 69, 70, 71, 72, 73, 74, 75, 76, 77, 78, 79] (by decide +kernel) (by decide +kernel)
set_option maxRecDepth 20000 in
theorem gX4_tokens_X4_leafAt : GoodIn wsX4_tokens (wsV RX4 92 RX4 yX4_leafAt wsX4_leafAt) := goodIn_app (goodIn_of _ (by decide +kernel)) ggX4_tokens_X4_leafAt
set_option maxRecDepth 20000 in
theorem ggX4_tokens_X4_groupAt : GoodIn wsX4_tokens wsX4_groupAt := goodIn_r _ [38, 39, 40, 12, 13, 14, 15, 16, 17, 18, 19, 20, 21, 22, 23, 24, 25, 26, 27, 28, 29, 30, 31, 32, 33, 34, 68, 69, 70, 71, 72, 73, 74, 75, 76, 77, 78, 79] (by decide +kernel) (by decide +kernel)
set_option maxRecDepth 20000 in
theorem gX4_tokens_X4_groupAt : GoodIn wsX4_tokens (wsV RX4 70 RX4 yX4_groupAt wsX4_groupAt) := goodIn_app (goodIn_of _ (by decide +kernel)) ggX4_tokens_X4_groupAt
theorem dX4_tokens_0 : decode cX4_tokens 0 = .ok (.aload_n 0, 1) := by decide +kernel
theorem dX4_tokens_1 : decode cX4_tokens 1 = .ok (.iload_n 1, 1) := by decide +kernel
theorem dX4_tokens_2 : decode cX4_tokens 2 = .ok (.invokevirtual 92, 3) := by decide +kernel
theorem dX4_tokens_5 : decode cX4_tokens 5 = .ok (.astore_n 3, 1) := by decide +kernel
theorem dX4_tokens_6 : decode cX4_tokens 6 = .ok (.aload_n 0, 1) := by decide +kernel
theorem dX4_tokens_7 : decode cX4_tokens 7 = .ok (.iload_n 1, 1) := by decide +kernel
theorem dX4_tokens_8 : decode cX4_tokens 8 = .ok (.invokevirtual 70, 3) := by decide +kernel
theorem dX4_tokens_11 : decode cX4_tokens 11 = .ok (.astore 4, 2) := by decide +kernel
theorem dX4_tokens_13 : decode cX4_tokens 13 = .ok (.iload_n 2, 1) := by decide +kernel
theorem dX4_tokens_14 : decode cX4_tokens 14 = .ok (.tableswitch 83 0 2 #[26, 42, 60], 26) := by decide +kernel
theorem dX4_tokens_40 : decode cX4_tokens 40 = .ok (.aload_n 3, 1) := by decide +kernel
theorem dX4_tokens_41 : decode cX4_tokens 41 = .ok (.ifnonnull 7, 3) := by decide +kernel
theorem dX4_tokens_44 : decode cX4_tokens 44 = .ok (.lconst 0, 1) := by decide +kernel
theorem dX4_tokens_45 : decode cX4_tokens 45 = .ok (.goto 10, 3) := by decide +kernel
theorem dX4_tokens_48 : decode cX4_tokens 48 = .ok (.aload_n 3, 1) := by decide +kernel
theorem dX4_tokens_49 : decode cX4_tokens 49 = .ok (.getfield 165, 3) := by decide +kernel
theorem dX4_tokens_52 : decode cX4_tokens 52 = .ok (.getfield 168, 3) := by decide +kernel
theorem dX4_tokens_55 : decode cX4_tokens 55 = .ok (.lreturn, 1) := by decide +kernel
theorem dX4_tokens_56 : decode cX4_tokens 56 = .ok (.aload 4, 2) := by decide +kernel
theorem dX4_tokens_58 : decode cX4_tokens 58 = .ok (.ifnonnull 7, 3) := by decide +kernel
theorem dX4_tokens_61 : decode cX4_tokens 61 = .ok (.lconst 0, 1) := by decide +kernel
theorem dX4_tokens_62 : decode cX4_tokens 62 = .ok (.goto 11, 3) := by decide +kernel
theorem dX4_tokens_65 : decode cX4_tokens 65 = .ok (.aload 4, 2) := by decide +kernel
theorem dX4_tokens_67 : decode cX4_tokens 67 = .ok (.getfield 171, 3) := by decide +kernel
theorem dX4_tokens_70 : decode cX4_tokens 70 = .ok (.getfield 168, 3) := by decide +kernel
theorem dX4_tokens_73 : decode cX4_tokens 73 = .ok (.lreturn, 1) := by decide +kernel
theorem dX4_tokens_74 : decode cX4_tokens 74 = .ok (.aload_n 3, 1) := by decide +kernel
theorem dX4_tokens_75 : decode cX4_tokens 75 = .ok (.ifnull 10, 3) := by decide +kernel
theorem dX4_tokens_78 : decode cX4_tokens 78 = .ok (.aload_n 3, 1) := by decide +kernel
theorem dX4_tokens_79 : decode cX4_tokens 79 = .ok (.getfield 96, 3) := by decide +kernel
theorem dX4_tokens_82 : decode cX4_tokens 82 = .ok (.ifnonnull 7, 3) := by decide +kernel
theorem dX4_tokens_85 : decode cX4_tokens 85 = .ok (.lconst 0, 1) := by decide +kernel
theorem dX4_tokens_86 : decode cX4_tokens 86 = .ok (.goto 10, 3) := by decide +kernel
theorem dX4_tokens_89 : decode cX4_tokens 89 = .ok (.aload_n 3, 1) := by decide +kernel
theorem dX4_tokens_90 : decode cX4_tokens 90 = .ok (.getfield 96, 3) := by decide +kernel
theorem dX4_tokens_93 : decode cX4_tokens 93 = .ok (.getfield 168, 3) := by decide +kernel
theorem dX4_tokens_96 : decode cX4_tokens 96 = .ok (.lreturn, 1) := by decide +kernel
theorem dX4_tokens_97 : decode cX4_tokens 97 = .ok (.lconst 0, 1) := by decide +kernel
theorem dX4_tokens_98 : decode cX4_tokens 98 = .ok (.lreturn, 1) := by decide +kernel
set_option maxRecDepth 20000 in
theorem ggX4_tag_X4_leafAt : GoodIn wsX4_tag wsX4_leafAt := goodIn_r _ [9, 10, 11, 12, 13, 14, 15, 16, 17, 18, 19, 20, 21, 22, 23, 24, 25, 26, 27, 28, 29, 30, 31, 32, 33, 34, 65, 66, 67, 68, 69, 70, 71, 72, 73, 74, 75, 76] (by decide +kernel) (by decide +kernel)
set_option maxRecDepth 20000 in
theorem gX4_tag_X4_leafAt : GoodIn wsX4_tag (wsV RX4 92 RX4 yX4_leafAt wsX4_leafAt) := goodIn_app (goodIn_of _ (by decide +kernel)) ggX4_tag_X4_leafAt
set_option maxRecDepth 20000 in
theorem ggX4_tag_X4_groupAt : GoodIn wsX4_tag wsX4_groupAt := goodIn_r _ [38, 39, 40, 12, 13, 14, 15, 16, 17, 18, 19, 20, 21, 22, 23, 24, 25, 26, 27, 28, 29, 30, 31, 32, 33, 34, 65, 66, 67, 68, 69, 70, 71, 72, 73, 74, 75, 76] (by decide +kernel) (by decide +kernel)
set_option maxRecDepth 20000 in
theorem gX4_tag_X4_groupAt : GoodIn wsX4_tag (wsV RX4 70 RX4 yX4_groupAt wsX4_groupAt) := goodIn_app (goodIn_of _ (by decide +kernel)) ggX4_tag_X4_groupAt
theorem dX4_tag_0 : decode cX4_tag 0 = .ok (.aload_n 0, 1) := by decide +kernel
theorem dX4_tag_1 : decode cX4_tag 1 = .ok (.iload_n 1, 1) := by decide +kernel
theorem dX4_tag_2 : decode cX4_tag 2 = .ok (.invokevirtual 92, 3) := by decide +kernel
theorem dX4_tag_5 : decode cX4_tag 5 = .ok (.astore_n 3, 1) := by decide +kernel
theorem dX4_tag_6 : decode cX4_tag 6 = .ok (.aload_n 0, 1) := by decide +kernel
theorem dX4_tag_7 : decode cX4_tag 7 = .ok (.iload_n 1, 1) := by decide +kernel
theorem dX4_tag_8 : decode cX4_tag 8 = .ok (.invokevirtual 70, 3) := by decide +kernel
theorem dX4_tag_11 : decode cX4_tag 11 = .ok (.astore 4, 2) := by decide +kernel
theorem dX4_tag_13 : decode cX4_tag 13 = .ok (.iload_n 2, 1) := by decide +kernel
theorem dX4_tag_14 : decode cX4_tag 14 = .ok (.tableswitch 78 0 3 #[30, 43, 58, 73], 30) := by decide +kernel
theorem dX4_tag_44 : decode cX4_tag 44 = .ok (.aload_n 3, 1) := by decide +kernel
theorem dX4_tag_45 : decode cX4_tag 45 = .ok (.ifnonnull 7, 3) := by decide +kernel
theorem dX4_tag_48 : decode cX4_tag 48 = .ok (.lconst 0, 1) := by decide +kernel
theorem dX4_tag_49 : decode cX4_tag 49 = .ok (.goto 7, 3) := by decide +kernel
theorem dX4_tag_52 : decode cX4_tag 52 = .ok (.aload_n 3, 1) := by decide +kernel
theorem dX4_tag_53 : decode cX4_tag 53 = .ok (.getfield 172, 3) := by decide +kernel
theorem dX4_tag_56 : decode cX4_tag 56 = .ok (.lreturn, 1) := by decide +kernel
theorem dX4_tag_57 : decode cX4_tag 57 = .ok (.aload 4, 2) := by decide +kernel
theorem dX4_tag_59 : decode cX4_tag 59 = .ok (.ifnonnull 7, 3) := by decide +kernel
theorem dX4_tag_62 : decode cX4_tag 62 = .ok (.lconst 0, 1) := by decide +kernel
theorem dX4_tag_63 : decode cX4_tag 63 = .ok (.goto 8, 3) := by decide +kernel
theorem dX4_tag_66 : decode cX4_tag 66 = .ok (.aload 4, 2) := by decide +kernel
theorem dX4_tag_68 : decode cX4_tag 68 = .ok (.getfield 175, 3) := by decide +kernel
theorem dX4_tag_71 : decode cX4_tag 71 = .ok (.lreturn, 1) := by decide +kernel
theorem dX4_tag_72 : decode cX4_tag 72 = .ok (.aload 4, 2) := by decide +kernel
theorem dX4_tag_74 : decode cX4_tag 74 = .ok (.ifnonnull 7, 3) := by decide +kernel
theorem dX4_tag_77 : decode cX4_tag 77 = .ok (.lconst 0, 1) := by decide +kernel
theorem dX4_tag_78 : decode cX4_tag 78 = .ok (.goto 8, 3) := by decide +kernel
theorem dX4_tag_81 : decode cX4_tag 81 = .ok (.aload 4, 2) := by decide +kernel
theorem dX4_tag_83 : decode cX4_tag 83 = .ok (.getfield 176, 3) := by decide +kernel
theorem dX4_tag_86 : decode cX4_tag 86 = .ok (.lreturn, 1) := by decide +kernel
theorem dX4_tag_87 : decode cX4_tag 87 = .ok (.aload_n 0, 1) := by decide +kernel
theorem dX4_tag_88 : decode cX4_tag 88 = .ok (.getfield 40, 3) := by decide +kernel
theorem dX4_tag_91 : decode cX4_tag 91 = .ok (.lreturn, 1) := by decide +kernel
theorem dX4_tag_92 : decode cX4_tag 92 = .ok (.lconst 0, 1) := by decide +kernel
theorem dX4_tag_93 : decode cX4_tag 93 = .ok (.lreturn, 1) := by decide +kernel
set_option maxRecDepth 20000 in
theorem ggX4_count_Jx4a65c_size_8abf5 : GoodIn wsX4_count wsJx4a65c_size_8abf5 := goodIn_r _ [12, 13, 47, 48, 49] (by decide +kernel) (by decide +kernel)
set_option maxRecDepth 20000 in
theorem gX4_count_Jx4a65c_size_8abf5 : GoodIn wsX4_count (wsV RX4 44 RJx4a65c yJx4a65c_size_8abf5 wsJx4a65c_size_8abf5) := goodIn_app (goodIn_of _ (by decide +kernel)) ggX4_count_Jx4a65c_size_8abf5
set_option maxRecDepth 20000 in
theorem ggX4_count_X4_sent : GoodIn wsX4_count wsX4_sent := goodIn_r _ [18, 4, 19, 20, 8, 9, 10, 11, 12, 13, 21, 22, 23, 24, 25, 26, 27, 28, 29, 30, 31, 32, 33, 34, 35, 36, 37, 38, 39, 40, 41, 42, 43, 44, 45, 46, 50, 51, 52, 53, 54, 55, 56, 57, 58, 47, 48, 49] (by decide +kernel) (by decide +kernel)
set_option maxRecDepth 20000 in
theorem gX4_count_X4_sent : GoodIn wsX4_count (wsV RX4 177 RX4 yX4_sent wsX4_sent) := goodIn_app (goodIn_of _ (by decide +kernel)) ggX4_count_X4_sent
theorem dX4_count_0 : decode cX4_count 0 = .ok (.iload_n 1, 1) := by decide +kernel
theorem dX4_count_1 : decode cX4_count 1 = .ok (.tableswitch 105 0 5 #[39, 47, 55, 63, 71, 76], 39) := by decide +kernel
theorem dX4_count_40 : decode cX4_count 40 = .ok (.aload_n 0, 1) := by decide +kernel
theorem dX4_count_41 : decode cX4_count 41 = .ok (.getfield 12, 3) := by decide +kernel
theorem dX4_count_44 : decode cX4_count 44 = .ok (.invokevirtual 44, 3) := by decide +kernel
theorem dX4_count_47 : decode cX4_count 47 = .ok (.ireturn, 1) := by decide +kernel
theorem dX4_count_48 : decode cX4_count 48 = .ok (.aload_n 0, 1) := by decide +kernel
theorem dX4_count_49 : decode cX4_count 49 = .ok (.getfield 18, 3) := by decide +kernel
theorem dX4_count_52 : decode cX4_count 52 = .ok (.invokevirtual 44, 3) := by decide +kernel
theorem dX4_count_55 : decode cX4_count 55 = .ok (.ireturn, 1) := by decide +kernel
theorem dX4_count_56 : decode cX4_count 56 = .ok (.aload_n 0, 1) := by decide +kernel
theorem dX4_count_57 : decode cX4_count 57 = .ok (.getfield 21, 3) := by decide +kernel
theorem dX4_count_60 : decode cX4_count 60 = .ok (.invokevirtual 44, 3) := by decide +kernel
theorem dX4_count_63 : decode cX4_count 63 = .ok (.ireturn, 1) := by decide +kernel
theorem dX4_count_64 : decode cX4_count 64 = .ok (.aload_n 0, 1) := by decide +kernel
theorem dX4_count_65 : decode cX4_count 65 = .ok (.getfield 24, 3) := by decide +kernel
theorem dX4_count_68 : decode cX4_count 68 = .ok (.invokevirtual 44, 3) := by decide +kernel
theorem dX4_count_71 : decode cX4_count 71 = .ok (.ireturn, 1) := by decide +kernel
theorem dX4_count_72 : decode cX4_count 72 = .ok (.aload_n 0, 1) := by decide +kernel
theorem dX4_count_73 : decode cX4_count 73 = .ok (.getfield 34, 3) := by decide +kernel
theorem dX4_count_76 : decode cX4_count 76 = .ok (.ireturn, 1) := by decide +kernel
theorem dX4_count_77 : decode cX4_count 77 = .ok (.aload_n 0, 1) := by decide +kernel
theorem dX4_count_78 : decode cX4_count 78 = .ok (.getfield 27, 3) := by decide +kernel
theorem dX4_count_81 : decode cX4_count 81 = .ok (.aload_n 0, 1) := by decide +kernel
theorem dX4_count_82 : decode cX4_count 82 = .ok (.getfield 31, 3) := by decide +kernel
theorem dX4_count_85 : decode cX4_count 85 = .ok (.if_icmp .ge 19, 3) := by decide +kernel
theorem dX4_count_88 : decode cX4_count 88 = .ok (.aload_n 0, 1) := by decide +kernel
theorem dX4_count_89 : decode cX4_count 89 = .ok (.aload_n 0, 1) := by decide +kernel
theorem dX4_count_90 : decode cX4_count 90 = .ok (.getfield 24, 3) := by decide +kernel
theorem dX4_count_93 : decode cX4_count 93 = .ok (.invokevirtual 44, 3) := by decide +kernel
theorem dX4_count_96 : decode cX4_count 96 = .ok (.iconst 1, 1) := by decide +kernel
theorem dX4_count_97 : decode cX4_count 97 = .ok (.isub, 1) := by decide +kernel
theorem dX4_count_98 : decode cX4_count 98 = .ok (.invokevirtual 177, 3) := by decide +kernel
theorem dX4_count_101 : decode cX4_count 101 = .ok (.goto 4, 3) := by decide +kernel
theorem dX4_count_104 : decode cX4_count 104 = .ok (.iconst (-1), 1) := by decide +kernel
theorem dX4_count_105 : decode cX4_count 105 = .ok (.ireturn, 1) := by decide +kernel
theorem dX4_count_106 : decode cX4_count 106 = .ok (.iconst (-1), 1) := by decide +kernel
theorem dX4_count_107 : decode cX4_count 107 = .ok (.ireturn, 1) := by decide +kernel
theorem dX4_isWithin_0 : decode cX4_isWithin 0 = .ok (.iload_n 0, 1) := by decide +kernel
theorem dX4_isWithin_1 : decode cX4_isWithin 1 = .ok (.iload_n 1, 1) := by decide +kernel
theorem dX4_isWithin_2 : decode cX4_isWithin 2 = .ok (.if_icmp .lt 12, 3) := by decide +kernel
theorem dX4_isWithin_5 : decode cX4_isWithin 5 = .ok (.iload_n 0, 1) := by decide +kernel
theorem dX4_isWithin_6 : decode cX4_isWithin 6 = .ok (.iload_n 2, 1) := by decide +kernel
theorem dX4_isWithin_7 : decode cX4_isWithin 7 = .ok (.if_icmp .gt 7, 3) := by decide +kernel
theorem dX4_isWithin_10 : decode cX4_isWithin 10 = .ok (.iconst 1, 1) := by decide +kernel
theorem dX4_isWithin_11 : decode cX4_isWithin 11 = .ok (.goto 4, 3) := by decide +kernel
theorem dX4_isWithin_14 : decode cX4_isWithin 14 = .ok (.iconst 0, 1) := by decide +kernel
theorem dX4_isWithin_15 : decode cX4_isWithin 15 = .ok (.ireturn, 1) := by decide +kernel
set_option maxRecDepth 20000 in
theorem ggX4_isWeight_X4_isWithin : GoodIn wsX4_isWeight wsX4_isWithin := goodIn_r _ [4] (by decide +kernel) (by decide +kernel)
set_option maxRecDepth 20000 in
theorem gX4_isWeight_X4_isWithin : GoodIn wsX4_isWeight (va_wsS RX4 75 yX4_isWithin wsX4_isWithin) := goodIn_app (goodIn_of _ (by decide +kernel)) ggX4_isWeight_X4_isWithin
theorem dX4_isWeight_0 : decode cX4_isWeight 0 = .ok (.iload_n 0, 1) := by decide +kernel
theorem dX4_isWeight_1 : decode cX4_isWeight 1 = .ok (.iconst 1, 1) := by decide +kernel
theorem dX4_isWeight_2 : decode cX4_isWeight 2 = .ok (.bipush 12, 2) := by decide +kernel
theorem dX4_isWeight_4 : decode cX4_isWeight 4 = .ok (.invokestatic 75, 3) := by decide +kernel
theorem dX4_isWeight_7 : decode cX4_isWeight 7 = .ok (.ireturn, 1) := by decide +kernel
set_option maxRecDepth 20000 in
theorem ggX4_isCeiling_X4_isWithin : GoodIn wsX4_isCeiling wsX4_isWithin := goodIn_r _ [4] (by decide +kernel) (by decide +kernel)
set_option maxRecDepth 20000 in
theorem gX4_isCeiling_X4_isWithin : GoodIn wsX4_isCeiling (va_wsS RX4 75 yX4_isWithin wsX4_isWithin) := goodIn_app (goodIn_of _ (by decide +kernel)) ggX4_isCeiling_X4_isWithin
theorem dX4_isCeiling_0 : decode cX4_isCeiling 0 = .ok (.iload_n 0, 1) := by decide +kernel
theorem dX4_isCeiling_1 : decode cX4_isCeiling 1 = .ok (.iconst 0, 1) := by decide +kernel
theorem dX4_isCeiling_2 : decode cX4_isCeiling 2 = .ok (.sipush 1000, 3) := by decide +kernel
theorem dX4_isCeiling_5 : decode cX4_isCeiling 5 = .ok (.invokestatic 75, 3) := by decide +kernel
theorem dX4_isCeiling_8 : decode cX4_isCeiling 8 = .ok (.ifCond .eq 20, 3) := by decide +kernel
theorem dX4_isCeiling_11 : decode cX4_isCeiling 11 = .ok (.iload_n 1, 1) := by decide +kernel
theorem dX4_isCeiling_12 : decode cX4_isCeiling 12 = .ok (.sipush 1500, 3) := by decide +kernel
theorem dX4_isCeiling_15 : decode cX4_isCeiling 15 = .ok (.sipush 20000, 3) := by decide +kernel
theorem dX4_isCeiling_18 : decode cX4_isCeiling 18 = .ok (.invokestatic 75, 3) := by decide +kernel
theorem dX4_isCeiling_21 : decode cX4_isCeiling 21 = .ok (.ifCond .eq 7, 3) := by decide +kernel
theorem dX4_isCeiling_24 : decode cX4_isCeiling 24 = .ok (.iconst 1, 1) := by decide +kernel
theorem dX4_isCeiling_25 : decode cX4_isCeiling 25 = .ok (.goto 4, 3) := by decide +kernel
theorem dX4_isCeiling_28 : decode cX4_isCeiling 28 = .ok (.iconst 0, 1) := by decide +kernel
theorem dX4_isCeiling_29 : decode cX4_isCeiling 29 = .ok (.ireturn, 1) := by decide +kernel
set_option maxRecDepth 20000 in
theorem ggX4_isGuarantee_X4_isWithin : GoodIn wsX4_isGuarantee wsX4_isWithin := goodIn_r _ [4] (by decide +kernel) (by decide +kernel)
set_option maxRecDepth 20000 in
theorem gX4_isGuarantee_X4_isWithin : GoodIn wsX4_isGuarantee (va_wsS RX4 75 yX4_isWithin wsX4_isWithin) := goodIn_app (goodIn_of _ (by decide +kernel)) ggX4_isGuarantee_X4_isWithin
theorem dX4_isGuarantee_0 : decode cX4_isGuarantee 0 = .ok (.iload_n 0, 1) := by decide +kernel
theorem dX4_isGuarantee_1 : decode cX4_isGuarantee 1 = .ok (.ifCond .eq 15, 3) := by decide +kernel
theorem dX4_isGuarantee_4 : decode cX4_isGuarantee 4 = .ok (.iload_n 0, 1) := by decide +kernel
theorem dX4_isGuarantee_5 : decode cX4_isGuarantee 5 = .ok (.bipush 10, 2) := by decide +kernel
theorem dX4_isGuarantee_7 : decode cX4_isGuarantee 7 = .ok (.sipush 1000, 3) := by decide +kernel
theorem dX4_isGuarantee_10 : decode cX4_isGuarantee 10 = .ok (.invokestatic 75, 3) := by decide +kernel
theorem dX4_isGuarantee_13 : decode cX4_isGuarantee 13 = .ok (.ifCond .eq 7, 3) := by decide +kernel
theorem dX4_isGuarantee_16 : decode cX4_isGuarantee 16 = .ok (.iconst 1, 1) := by decide +kernel
theorem dX4_isGuarantee_17 : decode cX4_isGuarantee 17 = .ok (.goto 4, 3) := by decide +kernel
theorem dX4_isGuarantee_20 : decode cX4_isGuarantee 20 = .ok (.iconst 0, 1) := by decide +kernel
theorem dX4_isGuarantee_21 : decode cX4_isGuarantee 21 = .ok (.ireturn, 1) := by decide +kernel
theorem dX4_hasRoomFor_0 : decode cX4_hasRoomFor 0 = .ok (.iload_n 1, 1) := by decide +kernel
theorem dX4_hasRoomFor_1 : decode cX4_hasRoomFor 1 = .ok (.sipush 1000, 3) := by decide +kernel
theorem dX4_hasRoomFor_4 : decode cX4_hasRoomFor 4 = .ok (.aload_n 0, 1) := by decide +kernel
theorem dX4_hasRoomFor_5 : decode cX4_hasRoomFor 5 = .ok (.getfield 37, 3) := by decide +kernel
theorem dX4_hasRoomFor_8 : decode cX4_hasRoomFor 8 = .ok (.isub, 1) := by decide +kernel
theorem dX4_hasRoomFor_9 : decode cX4_hasRoomFor 9 = .ok (.if_icmp .gt 23, 3) := by decide +kernel
theorem dX4_hasRoomFor_12 : decode cX4_hasRoomFor 12 = .ok (.iload_n 1, 1) := by decide +kernel
theorem dX4_hasRoomFor_13 : decode cX4_hasRoomFor 13 = .ok (.aload_n 2, 1) := by decide +kernel
theorem dX4_hasRoomFor_14 : decode cX4_hasRoomFor 14 = .ok (.getfield 171, 3) := by decide +kernel
theorem dX4_hasRoomFor_17 : decode cX4_hasRoomFor 17 = .ok (.getfield 180, 3) := by decide +kernel
theorem dX4_hasRoomFor_20 : decode cX4_hasRoomFor 20 = .ok (.aload_n 2, 1) := by decide +kernel
theorem dX4_hasRoomFor_21 : decode cX4_hasRoomFor 21 = .ok (.getfield 91, 3) := by decide +kernel
theorem dX4_hasRoomFor_24 : decode cX4_hasRoomFor 24 = .ok (.isub, 1) := by decide +kernel
theorem dX4_hasRoomFor_25 : decode cX4_hasRoomFor 25 = .ok (.if_icmp .gt 7, 3) := by decide +kernel
theorem dX4_hasRoomFor_28 : decode cX4_hasRoomFor 28 = .ok (.iconst 1, 1) := by decide +kernel
theorem dX4_hasRoomFor_29 : decode cX4_hasRoomFor 29 = .ok (.goto 4, 3) := by decide +kernel
theorem dX4_hasRoomFor_32 : decode cX4_hasRoomFor 32 = .ok (.iconst 0, 1) := by decide +kernel
theorem dX4_hasRoomFor_33 : decode cX4_hasRoomFor 33 = .ok (.ireturn, 1) := by decide +kernel
set_option maxRecDepth 20000 in
theorem ggX4_groupAt_Jx4a65c_size_8abf5 : GoodIn wsX4_groupAt wsJx4a65c_size_8abf5 := goodIn_r _ [7, 8, 35, 36, 37] (by decide +kernel) (by decide +kernel)
set_option maxRecDepth 20000 in
theorem gX4_groupAt_Jx4a65c_size_8abf5 : GoodIn wsX4_groupAt (wsV RX4 44 RJx4a65c yJx4a65c_size_8abf5 wsJx4a65c_size_8abf5) := goodIn_app (goodIn_of _ (by decide +kernel)) ggX4_groupAt_Jx4a65c_size_8abf5
set_option maxRecDepth 20000 in
theorem ggX4_groupAt_Jx4a65c_get_915e3 : GoodIn wsX4_groupAt wsJx4a65c_get_915e3 := goodIn_r _ [12, 8, 13, 14, 15, 16, 17, 18, 19, 20, 21, 22, 23, 6, 24, 25, 35, 36, 37] (by decide +kernel) (by decide +kernel)
set_option maxRecDepth 20000 in
theorem gX4_groupAt_Jx4a65c_get_915e3 : GoodIn wsX4_groupAt (wsV RX4 156 RJx4a65c yJx4a65c_get_915e3 wsJx4a65c_get_915e3) := goodIn_app (goodIn_of _ (by decide +kernel)) ggX4_groupAt_Jx4a65c_get_915e3
theorem dX4_groupAt_0 : decode cX4_groupAt 0 = .ok (.iload_n 1, 1) := by decide +kernel
theorem dX4_groupAt_1 : decode cX4_groupAt 1 = .ok (.ifCond .lt 14, 3) := by decide +kernel
theorem dX4_groupAt_4 : decode cX4_groupAt 4 = .ok (.iload_n 1, 1) := by decide +kernel
theorem dX4_groupAt_5 : decode cX4_groupAt 5 = .ok (.aload_n 0, 1) := by decide +kernel
theorem dX4_groupAt_6 : decode cX4_groupAt 6 = .ok (.getfield 12, 3) := by decide +kernel
theorem dX4_groupAt_9 : decode cX4_groupAt 9 = .ok (.invokevirtual 44, 3) := by decide +kernel
theorem dX4_groupAt_12 : decode cX4_groupAt 12 = .ok (.if_icmp .lt 7, 3) := by decide +kernel
theorem dX4_groupAt_15 : decode cX4_groupAt 15 = .ok (.aconst_null, 1) := by decide +kernel
theorem dX4_groupAt_16 : decode cX4_groupAt 16 = .ok (.goto 14, 3) := by decide +kernel
theorem dX4_groupAt_19 : decode cX4_groupAt 19 = .ok (.aload_n 0, 1) := by decide +kernel
theorem dX4_groupAt_20 : decode cX4_groupAt 20 = .ok (.getfield 12, 3) := by decide +kernel
theorem dX4_groupAt_23 : decode cX4_groupAt 23 = .ok (.iload_n 1, 1) := by decide +kernel
theorem dX4_groupAt_24 : decode cX4_groupAt 24 = .ok (.invokevirtual 156, 3) := by decide +kernel
theorem dX4_groupAt_27 : decode cX4_groupAt 27 = .ok (.checkcast 56, 3) := by decide +kernel
theorem dX4_groupAt_30 : decode cX4_groupAt 30 = .ok (.areturn, 1) := by decide +kernel
set_option maxRecDepth 20000 in
theorem ggX4_leafAt_Jx4a65c_size_8abf5 : GoodIn wsX4_leafAt wsJx4a65c_size_8abf5 := goodIn_r _ [7, 8, 35, 36, 37] (by decide +kernel) (by decide +kernel)
set_option maxRecDepth 20000 in
theorem gX4_leafAt_Jx4a65c_size_8abf5 : GoodIn wsX4_leafAt (wsV RX4 44 RJx4a65c yJx4a65c_size_8abf5 wsJx4a65c_size_8abf5) := goodIn_app (goodIn_of _ (by decide +kernel)) ggX4_leafAt_Jx4a65c_size_8abf5
set_option maxRecDepth 20000 in
theorem ggX4_leafAt_Jx4a65c_get_915e3 : GoodIn wsX4_leafAt wsJx4a65c_get_915e3 := goodIn_r _ [12, 8, 13, 14, 15, 16, 17, 18, 19, 20, 21, 22, 23, 6, 24, 25, 35, 36, 37] (by decide +kernel) (by decide +kernel)
set_option maxRecDepth 20000 in
theorem gX4_leafAt_Jx4a65c_get_915e3 : GoodIn wsX4_leafAt (wsV RX4 156 RJx4a65c yJx4a65c_get_915e3 wsJx4a65c_get_915e3) := goodIn_app (goodIn_of _ (by decide +kernel)) ggX4_leafAt_Jx4a65c_get_915e3
theorem dX4_leafAt_0 : decode cX4_leafAt 0 = .ok (.iload_n 1, 1) := by decide +kernel
theorem dX4_leafAt_1 : decode cX4_leafAt 1 = .ok (.ifCond .lt 14, 3) := by decide +kernel
theorem dX4_leafAt_4 : decode cX4_leafAt 4 = .ok (.iload_n 1, 1) := by decide +kernel
theorem dX4_leafAt_5 : decode cX4_leafAt 5 = .ok (.aload_n 0, 1) := by decide +kernel
theorem dX4_leafAt_6 : decode cX4_leafAt 6 = .ok (.getfield 18, 3) := by decide +kernel
theorem dX4_leafAt_9 : decode cX4_leafAt 9 = .ok (.invokevirtual 44, 3) := by decide +kernel
theorem dX4_leafAt_12 : decode cX4_leafAt 12 = .ok (.if_icmp .lt 7, 3) := by decide +kernel
theorem dX4_leafAt_15 : decode cX4_leafAt 15 = .ok (.aconst_null, 1) := by decide +kernel
theorem dX4_leafAt_16 : decode cX4_leafAt 16 = .ok (.goto 14, 3) := by decide +kernel
theorem dX4_leafAt_19 : decode cX4_leafAt 19 = .ok (.aload_n 0, 1) := by decide +kernel
theorem dX4_leafAt_20 : decode cX4_leafAt 20 = .ok (.getfield 18, 3) := by decide +kernel
theorem dX4_leafAt_23 : decode cX4_leafAt 23 = .ok (.iload_n 1, 1) := by decide +kernel
theorem dX4_leafAt_24 : decode cX4_leafAt 24 = .ok (.invokevirtual 156, 3) := by decide +kernel
theorem dX4_leafAt_27 : decode cX4_leafAt 27 = .ok (.checkcast 86, 3) := by decide +kernel
theorem dX4_leafAt_30 : decode cX4_leafAt 30 = .ok (.areturn, 1) := by decide +kernel
set_option maxRecDepth 20000 in
theorem ggX4_beginOne_X4_pickDue : GoodIn wsX4_beginOne wsX4_pickDue := goodIn_r _ [11, 12, 13, 1, 14, 15, 16, 17, 18, 19, 20, 21, 22, 23, 24, 25, 26, 27, 28, 29, 30, 31, 32, 33, 34, 35, 36, 37, 38, 39, 40, 41, 42, 43, 44, 45, 46, 47, 48, 5, 49, 50, 51, 52, 53, 54, 55, 199, 200, 201, 202, 203, 204, 205, 206, 207, 208, 209, 210, 211, 212, 213, 214, 215, 216, 217, 218, 219, 220, 221, 222, 223, 224, 225, 226, 227, 228, 229, 230, 231, 232, 233, 234, 235, 236, 237] (by decide +kernel) (by decide +kernel)
set_option maxRecDepth 20000 in
theorem gX4_beginOne_X4_pickDue : GoodIn wsX4_beginOne (wsV RX4 183 RX4 yX4_pickDue wsX4_pickDue) := goodIn_app (goodIn_of _ (by decide +kernel)) ggX4_beginOne_X4_pickDue
set_option maxRecDepth 20000 in
theorem ggX4_beginOne_X2_sendDue : GoodIn wsX4_beginOne wsX2_sendDue := goodIn_r _ [59, 60, 61, 45, 62, 54, 63, 51, 52, 40, 53, 42, 43, 44, 55, 38, 39, 41, 46, 47, 48, 5, 49, 64, 65, 66, 67, 68, 69, 70, 71, 72, 73, 74, 75, 76, 77, 78, 79, 80, 81, 82, 83, 229, 230, 231, 232, 233, 234, 235, 236, 237, 211, 212, 213, 214, 215, 216, 217, 218, 219, 220, 221, 222, 223, 224, 225, 226, 227, 228, 238, 239, 240, 241, 242, 243, 244, 245, 246] (by decide +kernel) (by decide +kernel)
set_option maxRecDepth 20000 in
theorem gX4_beginOne_X2_sendDue : GoodIn wsX4_beginOne (wsV RX4 187 RX2 yX2_sendDue wsX2_sendDue) := goodIn_app (goodIn_of _ (by decide +kernel)) ggX4_beginOne_X2_sendDue
set_option maxRecDepth 20000 in
theorem ggX4_beginOne_X4_putOnLink : GoodIn wsX4_beginOne wsX4_putOnLink := goodIn_r _ [87, 88, 1, 89, 90, 91, 92, 93, 17, 94, 95, 96, 36, 19, 97, 98, 99, 100, 101, 102, 103, 104, 105, 106, 107, 108, 109, 110, 48, 5, 49, 111, 112, 113, 114, 115, 116, 117, 118, 119, 120, 121, 122, 123, 124, 125, 126, 127, 128, 129, 130, 131, 132, 133, 134, 135, 136, 137, 138, 139, 140, 199, 200, 201, 202, 203, 204, 205, 206, 207, 229, 230, 231, 232, 233, 234, 235, 236, 237, 208, 209, 210] (by decide +kernel) (by decide +kernel)
set_option maxRecDepth 20000 in
theorem gX4_beginOne_X4_putOnLink : GoodIn wsX4_beginOne (wsV RX4 191 RX4 yX4_putOnLink wsX4_putOnLink) := goodIn_app (goodIn_of _ (by decide +kernel)) ggX4_beginOne_X4_putOnLink
set_option maxRecDepth 20000 in
theorem ggX4_beginOne_X4_pickExcess : GoodIn wsX4_beginOne wsX4_pickExcess := goodIn_r _ [144, 145, 146, 14, 15, 16, 17, 18, 19, 20, 21, 22, 23, 24, 25, 26, 27, 28, 29, 30, 31, 32, 33, 34, 35, 36, 147, 148, 149, 10, 150, 12, 13, 151, 152, 153, 154, 40, 155, 42, 75, 54, 73, 76, 156, 157, 158, 80, 159, 82, 83, 160, 161, 162, 163, 164, 165, 166, 167, 168, 169, 170, 171, 172, 173, 174, 175, 176, 177, 178, 179, 199, 200, 201, 202, 203, 204, 205, 206, 207, 208, 209, 210, 211, 212, 213, 214, 215, 216, 217, 218, 219, 220, 221, 222, 223, 224, 225, 226, 227, 228, 229, 230, 231, 232, 233, 234, 235, 236, 237, 238, 239, 240, 241, 242, 243, 244, 245, 246] (by decide +kernel) (by decide +kernel)
set_option maxRecDepth 20000 in
theorem gX4_beginOne_X4_pickExcess : GoodIn wsX4_beginOne (wsV RX4 194 RX4 yX4_pickExcess wsX4_pickExcess) := goodIn_app (goodIn_of _ (by decide +kernel)) ggX4_beginOne_X4_pickExcess
set_option maxRecDepth 20000 in
theorem ggX4_beginOne_X4_countHeld : GoodIn wsX4_beginOne wsX4_countHeld := goodIn_r _ [183, 12, 13, 184, 14, 15, 16, 17, 18, 19, 20, 21, 22, 23, 24, 25, 26, 27, 28, 29, 30, 31, 32, 33, 34, 35, 36, 185, 186, 187, 40, 188, 42, 189, 153, 154, 155, 75, 54, 73, 76, 156, 157, 158, 80, 159, 82, 83, 199, 200, 201, 202, 203, 204, 205, 206, 207, 211, 212, 213, 214, 215, 216, 217, 218, 219, 220, 221, 222, 223, 224, 225, 226, 227, 228, 208, 209, 210, 229, 230, 231, 232, 233, 234, 235, 236, 237, 238, 239, 240, 241, 242, 243, 244, 245, 246] (by decide +kernel) (by decide +kernel)
set_option maxRecDepth 20000 in
theorem gX4_beginOne_X4_countHeld : GoodIn wsX4_beginOne (wsV RX4 197 RX4 yX4_countHeld wsX4_countHeld) := goodIn_app (goodIn_of _ (by decide +kernel)) ggX4_beginOne_X4_countHeld
set_option maxRecDepth 20000 in
theorem ggX4_beginOne_X2_tagInGroup : GoodIn wsX4_beginOne wsX2_tagInGroup := goodIn_r _ [170, 42, 73, 171, 54, 172, 173, 174, 175, 176, 177, 178, 179, 211, 212, 213, 214, 215, 216, 217, 218, 219, 220, 221, 222, 223, 224, 225, 226, 227, 228, 238, 239, 240, 241, 242, 243, 229, 230, 231, 232, 233, 234, 235, 236, 237] (by decide +kernel) (by decide +kernel)
set_option maxRecDepth 20000 in
theorem gX4_beginOne_X2_tagInGroup : GoodIn wsX4_beginOne (wsV RX4 200 RX2 yX2_tagInGroup wsX2_tagInGroup) := goodIn_app (goodIn_of _ (by decide +kernel)) ggX4_beginOne_X2_tagInGroup
set_option maxRecDepth 20000 in
theorem ggX4_beginOne_X2_sendExcess : GoodIn wsX4_beginOne wsX2_sendExcess := goodIn_r _ [193, 60, 165, 73, 194, 195, 4, 5, 6, 171, 196, 54, 197, 161, 162, 40, 163, 42, 164, 166, 198, 168, 169, 170, 172, 173, 174, 175, 176, 177, 178, 179, 64, 65, 66, 67, 68, 69, 70, 71, 72, 74, 75, 76, 77, 78, 79, 80, 81, 82, 83, 229, 230, 231, 232, 233, 234, 235, 236, 237, 211, 212, 213, 214, 215, 216, 217, 218, 219, 220, 221, 222, 223, 224, 225, 226, 227, 228, 238, 239, 240, 241, 242, 243, 244, 245, 246] (by decide +kernel) (by decide +kernel)
set_option maxRecDepth 20000 in
theorem gX4_beginOne_X2_sendExcess : GoodIn wsX4_beginOne (wsV RX4 208 RX2 yX2_sendExcess wsX2_sendExcess) := goodIn_app (goodIn_of _ (by decide +kernel)) ggX4_beginOne_X2_sendExcess
theorem dX4_beginOne_0 : decode cX4_beginOne 0 = .ok (.aload_n 0, 1) := by decide +kernel
theorem dX4_beginOne_1 : decode cX4_beginOne 1 = .ok (.invokevirtual 183, 3) := by decide +kernel
theorem dX4_beginOne_4 : decode cX4_beginOne 4 = .ok (.astore_n 1, 1) := by decide +kernel
theorem dX4_beginOne_5 : decode cX4_beginOne 5 = .ok (.aload_n 1, 1) := by decide +kernel
theorem dX4_beginOne_6 : decode cX4_beginOne 6 = .ok (.ifnull 16, 3) := by decide +kernel
theorem dX4_beginOne_9 : decode cX4_beginOne 9 = .ok (.aload_n 0, 1) := by decide +kernel
theorem dX4_beginOne_10 : decode cX4_beginOne 10 = .ok (.aload_n 1, 1) := by decide +kernel
theorem dX4_beginOne_11 : decode cX4_beginOne 11 = .ok (.aload_n 0, 1) := by decide +kernel
theorem dX4_beginOne_12 : decode cX4_beginOne 12 = .ok (.getfield 27, 3) := by decide +kernel
theorem dX4_beginOne_15 : decode cX4_beginOne 15 = .ok (.invokevirtual 187, 3) := by decide +kernel
theorem dX4_beginOne_18 : decode cX4_beginOne 18 = .ok (.invokevirtual 191, 3) := by decide +kernel
theorem dX4_beginOne_21 : decode cX4_beginOne 21 = .ok (.return_, 1) := by decide +kernel
theorem dX4_beginOne_22 : decode cX4_beginOne 22 = .ok (.aload_n 0, 1) := by decide +kernel
theorem dX4_beginOne_23 : decode cX4_beginOne 23 = .ok (.invokevirtual 194, 3) := by decide +kernel
theorem dX4_beginOne_26 : decode cX4_beginOne 26 = .ok (.astore_n 2, 1) := by decide +kernel
theorem dX4_beginOne_27 : decode cX4_beginOne 27 = .ok (.aload_n 2, 1) := by decide +kernel
theorem dX4_beginOne_28 : decode cX4_beginOne 28 = .ok (.ifnull 35, 3) := by decide +kernel
theorem dX4_beginOne_31 : decode cX4_beginOne 31 = .ok (.aload_n 0, 1) := by decide +kernel
theorem dX4_beginOne_32 : decode cX4_beginOne 32 = .ok (.iconst 1, 1) := by decide +kernel
theorem dX4_beginOne_33 : decode cX4_beginOne 33 = .ok (.invokevirtual 197, 3) := by decide +kernel
theorem dX4_beginOne_36 : decode cX4_beginOne 36 = .ok (.aload_n 0, 1) := by decide +kernel
theorem dX4_beginOne_37 : decode cX4_beginOne 37 = .ok (.aload_n 0, 1) := by decide +kernel
theorem dX4_beginOne_38 : decode cX4_beginOne 38 = .ok (.getfield 40, 3) := by decide +kernel
theorem dX4_beginOne_41 : decode cX4_beginOne 41 = .ok (.aload_n 2, 1) := by decide +kernel
theorem dX4_beginOne_42 : decode cX4_beginOne 42 = .ok (.invokevirtual 200, 3) := by decide +kernel
theorem dX4_beginOne_45 : decode cX4_beginOne 45 = .ok (.invokestatic 204, 3) := by decide +kernel
theorem dX4_beginOne_48 : decode cX4_beginOne 48 = .ok (.putfield 40, 3) := by decide +kernel
theorem dX4_beginOne_51 : decode cX4_beginOne 51 = .ok (.aload_n 0, 1) := by decide +kernel
theorem dX4_beginOne_52 : decode cX4_beginOne 52 = .ok (.aload_n 2, 1) := by decide +kernel
theorem dX4_beginOne_53 : decode cX4_beginOne 53 = .ok (.aload_n 0, 1) := by decide +kernel
theorem dX4_beginOne_54 : decode cX4_beginOne 54 = .ok (.getfield 27, 3) := by decide +kernel
theorem dX4_beginOne_57 : decode cX4_beginOne 57 = .ok (.invokevirtual 208, 3) := by decide +kernel
theorem dX4_beginOne_60 : decode cX4_beginOne 60 = .ok (.invokevirtual 191, 3) := by decide +kernel
theorem dX4_beginOne_63 : decode cX4_beginOne 63 = .ok (.return_, 1) := by decide +kernel
set_option maxRecDepth 20000 in
theorem ggX4_putOnLink_Jx4a65c_add_9ea2d : GoodIn wsX4_putOnLink wsJx4a65c_add_9ea2d := goodIn_r _ [9, 10, 11, 12, 13, 14, 15, 16, 8, 17, 18, 19, 20, 21, 22, 23, 24, 25, 26, 27, 28, 29, 30, 31, 32, 33, 34, 35, 36, 37, 38, 39, 40, 41, 42, 43, 44, 45, 46, 47, 48, 49, 50, 51, 52, 53, 54, 55, 56, 57, 58, 59, 60, 79, 80, 81] (by decide +kernel) (by decide +kernel)
set_option maxRecDepth 20000 in
theorem gX4_putOnLink_Jx4a65c_add_9ea2d : GoodIn wsX4_putOnLink (wsV RX4 66 RJx4a65c yJx4a65c_add_9ea2d wsJx4a65c_add_9ea2d) := goodIn_app (goodIn_of _ (by decide +kernel)) ggX4_putOnLink_Jx4a65c_add_9ea2d
theorem dX4_putOnLink_0 : decode cX4_putOnLink 0 = .ok (.aload_n 1, 1) := by decide +kernel
theorem dX4_putOnLink_1 : decode cX4_putOnLink 1 = .ok (.ifnull 25, 3) := by decide +kernel
theorem dX4_putOnLink_4 : decode cX4_putOnLink 4 = .ok (.aload_n 0, 1) := by decide +kernel
theorem dX4_putOnLink_5 : decode cX4_putOnLink 5 = .ok (.getfield 24, 3) := by decide +kernel
theorem dX4_putOnLink_8 : decode cX4_putOnLink 8 = .ok (.aload_n 1, 1) := by decide +kernel
theorem dX4_putOnLink_9 : decode cX4_putOnLink 9 = .ok (.invokevirtual 66, 3) := by decide +kernel
theorem dX4_putOnLink_12 : decode cX4_putOnLink 12 = .ok (.pop, 1) := by decide +kernel
theorem dX4_putOnLink_13 : decode cX4_putOnLink 13 = .ok (.aload_n 0, 1) := by decide +kernel
theorem dX4_putOnLink_14 : decode cX4_putOnLink 14 = .ok (.aload_n 0, 1) := by decide +kernel
theorem dX4_putOnLink_15 : decode cX4_putOnLink 15 = .ok (.getfield 27, 3) := by decide +kernel
theorem dX4_putOnLink_18 : decode cX4_putOnLink 18 = .ok (.aload_n 1, 1) := by decide +kernel
theorem dX4_putOnLink_19 : decode cX4_putOnLink 19 = .ok (.getfield 211, 3) := by decide +kernel
theorem dX4_putOnLink_22 : decode cX4_putOnLink 22 = .ok (.iadd, 1) := by decide +kernel
theorem dX4_putOnLink_23 : decode cX4_putOnLink 23 = .ok (.putfield 31, 3) := by decide +kernel
theorem dX4_putOnLink_26 : decode cX4_putOnLink 26 = .ok (.return_, 1) := by decide +kernel
end
section
set_option maxRecDepth 20000 in
theorem ggX4_pickDue_Jx4a65c_size_8abf5 : GoodIn wsX4_pickDue wsJx4a65c_size_8abf5 := goodIn_r _ [8, 9, 56, 57, 58] (by decide +kernel) (by decide +kernel)
set_option maxRecDepth 20000 in
theorem gX4_pickDue_Jx4a65c_size_8abf5 : GoodIn wsX4_pickDue (wsV RX4 44 RJx4a65c yJx4a65c_size_8abf5 wsJx4a65c_size_8abf5) := goodIn_app (goodIn_of _ (by decide +kernel)) ggX4_pickDue_Jx4a65c_size_8abf5
set_option maxRecDepth 20000 in
theorem ggX4_pickDue_Jx4a65c_get_915e3 : GoodIn wsX4_pickDue wsJx4a65c_get_915e3 := goodIn_r _ [13, 9, 14, 15, 16, 17, 18, 19, 20, 21, 22, 23, 24, 7, 25, 26, 56, 57, 58] (by decide +kernel) (by decide +kernel)
set_option maxRecDepth 20000 in
theorem gX4_pickDue_Jx4a65c_get_915e3 : GoodIn wsX4_pickDue (wsV RX4 156 RJx4a65c yJx4a65c_get_915e3 wsJx4a65c_get_915e3) := goodIn_app (goodIn_of _ (by decide +kernel)) ggX4_pickDue_Jx4a65c_get_915e3
set_option maxRecDepth 20000 in
theorem ggX4_pickDue_X2_start : GoodIn wsX4_pickDue wsX2_start := goodIn_r _ [31, 32, 33, 34, 35, 36, 37, 38, 39, 40, 59, 60, 61, 62, 63, 64, 65, 66, 67, 68, 69, 70, 71, 72, 73, 74, 75, 76, 77, 78, 79, 80, 81, 82, 83, 84, 85] (by decide +kernel) (by decide +kernel)
set_option maxRecDepth 20000 in
theorem gX4_pickDue_X2_start : GoodIn wsX4_pickDue (wsV RX4 213 RX2 yX2_start wsX2_start) := goodIn_app (goodIn_of _ (by decide +kernel)) ggX4_pickDue_X2_start
set_option maxRecDepth 20000 in
theorem ggX4_pickDue_X2_deadline : GoodIn wsX4_pickDue wsX2_deadline := goodIn_r _ [44, 32, 33, 34, 45, 46, 28, 29, 30, 31, 35, 36, 37, 38, 39, 40, 59, 60, 61, 62, 63, 64, 65, 66, 67, 68, 69, 70, 71, 72, 73, 74, 75, 76, 77, 78, 79, 80, 81, 82, 83, 84, 85] (by decide +kernel) (by decide +kernel)
set_option maxRecDepth 20000 in
theorem gX4_pickDue_X2_deadline : GoodIn wsX4_pickDue (wsV RX4 216 RX2 yX2_deadline wsX2_deadline) := goodIn_app (goodIn_of _ (by decide +kernel)) ggX4_pickDue_X2_deadline
theorem dX4_pickDue_0 : decode cX4_pickDue 0 = .ok (.aconst_null, 1) := by decide +kernel
theorem dX4_pickDue_1 : decode cX4_pickDue 1 = .ok (.astore_n 1, 1) := by decide +kernel
theorem dX4_pickDue_2 : decode cX4_pickDue 2 = .ok (.iconst 0, 1) := by decide +kernel
theorem dX4_pickDue_3 : decode cX4_pickDue 3 = .ok (.istore_n 2, 1) := by decide +kernel
theorem dX4_pickDue_4 : decode cX4_pickDue 4 = .ok (.iload_n 2, 1) := by decide +kernel
theorem dX4_pickDue_5 : decode cX4_pickDue 5 = .ok (.aload_n 0, 1) := by decide +kernel
theorem dX4_pickDue_6 : decode cX4_pickDue 6 = .ok (.getfield 18, 3) := by decide +kernel
theorem dX4_pickDue_9 : decode cX4_pickDue 9 = .ok (.invokevirtual 44, 3) := by decide +kernel
theorem dX4_pickDue_12 : decode cX4_pickDue 12 = .ok (.if_icmp .ge 49, 3) := by decide +kernel
theorem dX4_pickDue_15 : decode cX4_pickDue 15 = .ok (.aload_n 0, 1) := by decide +kernel
theorem dX4_pickDue_16 : decode cX4_pickDue 16 = .ok (.getfield 18, 3) := by decide +kernel
theorem dX4_pickDue_19 : decode cX4_pickDue 19 = .ok (.iload_n 2, 1) := by decide +kernel
theorem dX4_pickDue_20 : decode cX4_pickDue 20 = .ok (.invokevirtual 156, 3) := by decide +kernel
theorem dX4_pickDue_23 : decode cX4_pickDue 23 = .ok (.checkcast 86, 3) := by decide +kernel
theorem dX4_pickDue_26 : decode cX4_pickDue 26 = .ok (.astore_n 3, 1) := by decide +kernel
theorem dX4_pickDue_27 : decode cX4_pickDue 27 = .ok (.aload_n 3, 1) := by decide +kernel
theorem dX4_pickDue_28 : decode cX4_pickDue 28 = .ok (.invokevirtual 213, 3) := by decide +kernel
theorem dX4_pickDue_31 : decode cX4_pickDue 31 = .ok (.aload_n 0, 1) := by decide +kernel
theorem dX4_pickDue_32 : decode cX4_pickDue 32 = .ok (.getfield 27, 3) := by decide +kernel
theorem dX4_pickDue_35 : decode cX4_pickDue 35 = .ok (.if_icmp .gt 20, 3) := by decide +kernel
theorem dX4_pickDue_38 : decode cX4_pickDue 38 = .ok (.aload_n 1, 1) := by decide +kernel
theorem dX4_pickDue_39 : decode cX4_pickDue 39 = .ok (.ifnull 14, 3) := by decide +kernel
theorem dX4_pickDue_42 : decode cX4_pickDue 42 = .ok (.aload_n 3, 1) := by decide +kernel
theorem dX4_pickDue_43 : decode cX4_pickDue 43 = .ok (.invokevirtual 216, 3) := by decide +kernel
theorem dX4_pickDue_46 : decode cX4_pickDue 46 = .ok (.aload_n 1, 1) := by decide +kernel
theorem dX4_pickDue_47 : decode cX4_pickDue 47 = .ok (.invokevirtual 216, 3) := by decide +kernel
theorem dX4_pickDue_50 : decode cX4_pickDue 50 = .ok (.if_icmp .ge 5, 3) := by decide +kernel
theorem dX4_pickDue_53 : decode cX4_pickDue 53 = .ok (.aload_n 3, 1) := by decide +kernel
theorem dX4_pickDue_54 : decode cX4_pickDue 54 = .ok (.astore_n 1, 1) := by decide +kernel
theorem dX4_pickDue_55 : decode cX4_pickDue 55 = .ok (.iinc 2 1, 3) := by decide +kernel
theorem dX4_pickDue_58 : decode cX4_pickDue 58 = .ok (.goto (-54), 3) := by decide +kernel
theorem dX4_pickDue_61 : decode cX4_pickDue 61 = .ok (.aload_n 1, 1) := by decide +kernel
theorem dX4_pickDue_62 : decode cX4_pickDue 62 = .ok (.areturn, 1) := by decide +kernel
set_option maxRecDepth 20000 in
theorem ggX4_pickExcess_Jx4a65c_size_8abf5 : GoodIn wsX4_pickExcess wsJx4a65c_size_8abf5 := goodIn_r _ [7, 8, 80, 81, 82] (by decide +kernel) (by decide +kernel)
set_option maxRecDepth 20000 in
theorem gX4_pickExcess_Jx4a65c_size_8abf5 : GoodIn wsX4_pickExcess (wsV RX4 44 RJx4a65c yJx4a65c_size_8abf5 wsJx4a65c_size_8abf5) := goodIn_app (goodIn_of _ (by decide +kernel)) ggX4_pickExcess_Jx4a65c_size_8abf5
set_option maxRecDepth 20000 in
theorem ggX4_pickExcess_Jx4a65c_get_915e3 : GoodIn wsX4_pickExcess wsJx4a65c_get_915e3 := goodIn_r _ [12, 8, 13, 14, 15, 16, 17, 18, 19, 20, 21, 22, 23, 6, 24, 25, 80, 81, 82] (by decide +kernel) (by decide +kernel)
set_option maxRecDepth 20000 in
theorem gX4_pickExcess_Jx4a65c_get_915e3 : GoodIn wsX4_pickExcess (wsV RX4 156 RJx4a65c yJx4a65c_get_915e3 wsJx4a65c_get_915e3) := goodIn_app (goodIn_of _ (by decide +kernel)) ggX4_pickExcess_Jx4a65c_get_915e3
set_option maxRecDepth 20000 in
theorem ggX4_pickExcess_X4_pickExcessOf : GoodIn wsX4_pickExcess wsX4_pickExcessOf := goodIn_r _ [30, 31, 32, 33, 3, 4, 5, 6, 7, 8, 9, 10, 11, 12, 13, 14, 15, 16, 17, 18, 19, 20, 21, 22, 23, 24, 25, 34, 35, 36, 37, 38, 39, 40, 41, 42, 43, 44, 45, 46, 47, 48, 49, 50, 51, 52, 53, 54, 55, 56, 57, 71, 72, 73, 74, 75, 76, 77, 78, 79, 83, 84, 85, 86, 87, 88, 89, 90, 91, 92, 93, 94, 95, 96, 97, 98, 99, 100, 80, 81, 82, 101, 102, 103, 104, 105, 106, 107, 108, 109, 110, 111, 112, 113, 114, 115, 116, 117, 118] (by decide +kernel) (by decide +kernel)
set_option maxRecDepth 20000 in
theorem gX4_pickExcess_X4_pickExcessOf : GoodIn wsX4_pickExcess (wsV RX4 219 RX4 yX4_pickExcessOf wsX4_pickExcessOf) := goodIn_app (goodIn_of _ (by decide +kernel)) ggX4_pickExcess_X4_pickExcessOf
set_option maxRecDepth 20000 in
theorem ggX4_pickExcess_X2_tagInGroup : GoodIn wsX4_pickExcess wsX2_tagInGroup := goodIn_r _ [61, 39, 42, 62, 41, 63, 64, 65, 66, 67, 68, 69, 70, 83, 84, 85, 86, 87, 88, 89, 90, 91, 92, 93, 94, 95, 96, 97, 98, 99, 100, 110, 111, 112, 113, 114, 115, 101, 102, 103, 104, 105, 106, 107, 108, 109] (by decide +kernel) (by decide +kernel)
set_option maxRecDepth 20000 in
theorem gX4_pickExcess_X2_tagInGroup : GoodIn wsX4_pickExcess (wsV RX4 200 RX2 yX2_tagInGroup wsX2_tagInGroup) := goodIn_app (goodIn_of _ (by decide +kernel)) ggX4_pickExcess_X2_tagInGroup
theorem dX4_pickExcess_0 : decode cX4_pickExcess 0 = .ok (.aconst_null, 1) := by decide +kernel
theorem dX4_pickExcess_1 : decode cX4_pickExcess 1 = .ok (.astore_n 1, 1) := by decide +kernel
theorem dX4_pickExcess_2 : decode cX4_pickExcess 2 = .ok (.iconst 0, 1) := by decide +kernel
theorem dX4_pickExcess_3 : decode cX4_pickExcess 3 = .ok (.istore_n 2, 1) := by decide +kernel
theorem dX4_pickExcess_4 : decode cX4_pickExcess 4 = .ok (.iload_n 2, 1) := by decide +kernel
theorem dX4_pickExcess_5 : decode cX4_pickExcess 5 = .ok (.aload_n 0, 1) := by decide +kernel
theorem dX4_pickExcess_6 : decode cX4_pickExcess 6 = .ok (.getfield 12, 3) := by decide +kernel
theorem dX4_pickExcess_9 : decode cX4_pickExcess 9 = .ok (.invokevirtual 44, 3) := by decide +kernel
theorem dX4_pickExcess_12 : decode cX4_pickExcess 12 = .ok (.if_icmp .ge 47, 3) := by decide +kernel
theorem dX4_pickExcess_15 : decode cX4_pickExcess 15 = .ok (.aload_n 0, 1) := by decide +kernel
theorem dX4_pickExcess_16 : decode cX4_pickExcess 16 = .ok (.aload_n 0, 1) := by decide +kernel
theorem dX4_pickExcess_17 : decode cX4_pickExcess 17 = .ok (.getfield 12, 3) := by decide +kernel
theorem dX4_pickExcess_20 : decode cX4_pickExcess 20 = .ok (.iload_n 2, 1) := by decide +kernel
theorem dX4_pickExcess_21 : decode cX4_pickExcess 21 = .ok (.invokevirtual 156, 3) := by decide +kernel
theorem dX4_pickExcess_24 : decode cX4_pickExcess 24 = .ok (.checkcast 56, 3) := by decide +kernel
theorem dX4_pickExcess_27 : decode cX4_pickExcess 27 = .ok (.invokevirtual 219, 3) := by decide +kernel
theorem dX4_pickExcess_30 : decode cX4_pickExcess 30 = .ok (.astore_n 3, 1) := by decide +kernel
theorem dX4_pickExcess_31 : decode cX4_pickExcess 31 = .ok (.aload_n 3, 1) := by decide +kernel
theorem dX4_pickExcess_32 : decode cX4_pickExcess 32 = .ok (.ifnull 21, 3) := by decide +kernel
theorem dX4_pickExcess_35 : decode cX4_pickExcess 35 = .ok (.aload_n 1, 1) := by decide +kernel
theorem dX4_pickExcess_36 : decode cX4_pickExcess 36 = .ok (.ifnull 15, 3) := by decide +kernel
theorem dX4_pickExcess_39 : decode cX4_pickExcess 39 = .ok (.aload_n 3, 1) := by decide +kernel
theorem dX4_pickExcess_40 : decode cX4_pickExcess 40 = .ok (.invokevirtual 200, 3) := by decide +kernel
theorem dX4_pickExcess_43 : decode cX4_pickExcess 43 = .ok (.aload_n 1, 1) := by decide +kernel
theorem dX4_pickExcess_44 : decode cX4_pickExcess 44 = .ok (.invokevirtual 200, 3) := by decide +kernel
theorem dX4_pickExcess_47 : decode cX4_pickExcess 47 = .ok (.lcmp, 1) := by decide +kernel
theorem dX4_pickExcess_48 : decode cX4_pickExcess 48 = .ok (.ifCond .ge 5, 3) := by decide +kernel
theorem dX4_pickExcess_51 : decode cX4_pickExcess 51 = .ok (.aload_n 3, 1) := by decide +kernel
theorem dX4_pickExcess_52 : decode cX4_pickExcess 52 = .ok (.astore_n 1, 1) := by decide +kernel
theorem dX4_pickExcess_53 : decode cX4_pickExcess 53 = .ok (.iinc 2 1, 3) := by decide +kernel
theorem dX4_pickExcess_56 : decode cX4_pickExcess 56 = .ok (.goto (-52), 3) := by decide +kernel
theorem dX4_pickExcess_59 : decode cX4_pickExcess 59 = .ok (.aload_n 1, 1) := by decide +kernel
theorem dX4_pickExcess_60 : decode cX4_pickExcess 60 = .ok (.areturn, 1) := by decide +kernel
set_option maxRecDepth 20000 in
theorem ggX4_pickExcessOf_Jx4a65c_size_8abf5 : GoodIn wsX4_pickExcessOf wsJx4a65c_size_8abf5 := goodIn_r _ [8, 9, 78, 79, 80] (by decide +kernel) (by decide +kernel)
set_option maxRecDepth 20000 in
theorem gX4_pickExcessOf_Jx4a65c_size_8abf5 : GoodIn wsX4_pickExcessOf (wsV RX4 44 RJx4a65c yJx4a65c_size_8abf5 wsJx4a65c_size_8abf5) := goodIn_app (goodIn_of _ (by decide +kernel)) ggX4_pickExcessOf_Jx4a65c_size_8abf5
set_option maxRecDepth 20000 in
theorem ggX4_pickExcessOf_Jx4a65c_get_915e3 : GoodIn wsX4_pickExcessOf wsJx4a65c_get_915e3 := goodIn_r _ [13, 9, 14, 15, 16, 17, 18, 19, 20, 21, 22, 23, 24, 7, 25, 26, 78, 79, 80] (by decide +kernel) (by decide +kernel)
set_option maxRecDepth 20000 in
theorem gX4_pickExcessOf_Jx4a65c_get_915e3 : GoodIn wsX4_pickExcessOf (wsV RX4 156 RJx4a65c yJx4a65c_get_915e3 wsJx4a65c_get_915e3) := goodIn_app (goodIn_of _ (by decide +kernel)) ggX4_pickExcessOf_Jx4a65c_get_915e3
set_option maxRecDepth 20000 in
theorem ggX4_pickExcessOf_X2_isReady : GoodIn wsX4_pickExcessOf wsX2_isReady := goodIn_r _ [31, 32, 33, 34, 35, 36, 37, 38, 39, 40, 41, 42, 43, 60, 61, 62, 63, 64, 65, 66, 67, 68, 69, 70, 71, 72, 73, 74, 75, 76, 77, 81, 82, 83, 84, 85, 86, 87, 88, 89, 90, 91, 92, 93, 94, 95, 96, 97, 98] (by decide +kernel) (by decide +kernel)
set_option maxRecDepth 20000 in
theorem gX4_pickExcessOf_X2_isReady : GoodIn wsX4_pickExcessOf (wsV RX4 227 RX2 yX2_isReady wsX2_isReady) := goodIn_app (goodIn_of _ (by decide +kernel)) ggX4_pickExcessOf_X2_isReady
set_option maxRecDepth 20000 in
theorem ggX4_pickExcessOf_X2_tagInLeaf : GoodIn wsX4_pickExcessOf wsX2_tagInLeaf := goodIn_r _ [47, 32, 48, 49, 50, 34, 60, 61, 62, 63, 64, 65, 66, 67, 68, 69, 70, 71, 72, 73, 74, 75, 76, 77, 81, 82, 83, 84, 85, 86, 87, 88, 89] (by decide +kernel) (by decide +kernel)
set_option maxRecDepth 20000 in
theorem gX4_pickExcessOf_X2_tagInLeaf : GoodIn wsX4_pickExcessOf (wsV RX4 231 RX2 yX2_tagInLeaf wsX2_tagInLeaf) := goodIn_app (goodIn_of _ (by decide +kernel)) ggX4_pickExcessOf_X2_tagInLeaf
theorem dX4_pickExcessOf_0 : decode cX4_pickExcessOf 0 = .ok (.aconst_null, 1) := by decide +kernel
theorem dX4_pickExcessOf_1 : decode cX4_pickExcessOf 1 = .ok (.astore_n 2, 1) := by decide +kernel
theorem dX4_pickExcessOf_2 : decode cX4_pickExcessOf 2 = .ok (.iconst 0, 1) := by decide +kernel
theorem dX4_pickExcessOf_3 : decode cX4_pickExcessOf 3 = .ok (.istore_n 3, 1) := by decide +kernel
theorem dX4_pickExcessOf_4 : decode cX4_pickExcessOf 4 = .ok (.iload_n 3, 1) := by decide +kernel
theorem dX4_pickExcessOf_5 : decode cX4_pickExcessOf 5 = .ok (.aload_n 0, 1) := by decide +kernel
theorem dX4_pickExcessOf_6 : decode cX4_pickExcessOf 6 = .ok (.getfield 18, 3) := by decide +kernel
theorem dX4_pickExcessOf_9 : decode cX4_pickExcessOf 9 = .ok (.invokevirtual 44, 3) := by decide +kernel
theorem dX4_pickExcessOf_12 : decode cX4_pickExcessOf 12 = .ok (.if_icmp .ge 59, 3) := by decide +kernel
theorem dX4_pickExcessOf_15 : decode cX4_pickExcessOf 15 = .ok (.aload_n 0, 1) := by decide +kernel
theorem dX4_pickExcessOf_16 : decode cX4_pickExcessOf 16 = .ok (.getfield 18, 3) := by decide +kernel
theorem dX4_pickExcessOf_19 : decode cX4_pickExcessOf 19 = .ok (.iload_n 3, 1) := by decide +kernel
theorem dX4_pickExcessOf_20 : decode cX4_pickExcessOf 20 = .ok (.invokevirtual 156, 3) := by decide +kernel
theorem dX4_pickExcessOf_23 : decode cX4_pickExcessOf 23 = .ok (.checkcast 86, 3) := by decide +kernel
theorem dX4_pickExcessOf_26 : decode cX4_pickExcessOf 26 = .ok (.astore 4, 2) := by decide +kernel
theorem dX4_pickExcessOf_28 : decode cX4_pickExcessOf 28 = .ok (.aload 4, 2) := by decide +kernel
theorem dX4_pickExcessOf_30 : decode cX4_pickExcessOf 30 = .ok (.getfield 223, 3) := by decide +kernel
theorem dX4_pickExcessOf_33 : decode cX4_pickExcessOf 33 = .ok (.aload_n 1, 1) := by decide +kernel
theorem dX4_pickExcessOf_34 : decode cX4_pickExcessOf 34 = .ok (.if_acmp .ne 31, 3) := by decide +kernel
theorem dX4_pickExcessOf_37 : decode cX4_pickExcessOf 37 = .ok (.aload 4, 2) := by decide +kernel
theorem dX4_pickExcessOf_39 : decode cX4_pickExcessOf 39 = .ok (.invokevirtual 227, 3) := by decide +kernel
theorem dX4_pickExcessOf_42 : decode cX4_pickExcessOf 42 = .ok (.ifCond .eq 23, 3) := by decide +kernel
theorem dX4_pickExcessOf_45 : decode cX4_pickExcessOf 45 = .ok (.aload_n 2, 1) := by decide +kernel
theorem dX4_pickExcessOf_46 : decode cX4_pickExcessOf 46 = .ok (.ifnull 16, 3) := by decide +kernel
theorem dX4_pickExcessOf_49 : decode cX4_pickExcessOf 49 = .ok (.aload 4, 2) := by decide +kernel
theorem dX4_pickExcessOf_51 : decode cX4_pickExcessOf 51 = .ok (.invokevirtual 231, 3) := by decide +kernel
theorem dX4_pickExcessOf_54 : decode cX4_pickExcessOf 54 = .ok (.aload_n 2, 1) := by decide +kernel
theorem dX4_pickExcessOf_55 : decode cX4_pickExcessOf 55 = .ok (.invokevirtual 231, 3) := by decide +kernel
theorem dX4_pickExcessOf_58 : decode cX4_pickExcessOf 58 = .ok (.lcmp, 1) := by decide +kernel
theorem dX4_pickExcessOf_59 : decode cX4_pickExcessOf 59 = .ok (.ifCond .ge 6, 3) := by decide +kernel
theorem dX4_pickExcessOf_62 : decode cX4_pickExcessOf 62 = .ok (.aload 4, 2) := by decide +kernel
theorem dX4_pickExcessOf_64 : decode cX4_pickExcessOf 64 = .ok (.astore_n 2, 1) := by decide +kernel
theorem dX4_pickExcessOf_65 : decode cX4_pickExcessOf 65 = .ok (.iinc 3 1, 3) := by decide +kernel
theorem dX4_pickExcessOf_68 : decode cX4_pickExcessOf 68 = .ok (.goto (-64), 3) := by decide +kernel
theorem dX4_pickExcessOf_71 : decode cX4_pickExcessOf 71 = .ok (.aload_n 2, 1) := by decide +kernel
theorem dX4_pickExcessOf_72 : decode cX4_pickExcessOf 72 = .ok (.areturn, 1) := by decide +kernel
set_option maxRecDepth 20000 in
theorem ggX4_ticksUntilOneMayGo_Jx4a65c_size_8abf5 : GoodIn wsX4_ticksUntilOneMayGo wsJx4a65c_size_8abf5 := goodIn_r _ [13, 14, 76, 77, 78] (by decide +kernel) (by decide +kernel)
set_option maxRecDepth 20000 in
theorem gX4_ticksUntilOneMayGo_Jx4a65c_size_8abf5 : GoodIn wsX4_ticksUntilOneMayGo (wsV RX4 44 RJx4a65c yJx4a65c_size_8abf5 wsJx4a65c_size_8abf5) := goodIn_app (goodIn_of _ (by decide +kernel)) ggX4_ticksUntilOneMayGo_Jx4a65c_size_8abf5
set_option maxRecDepth 20000 in
theorem ggX4_ticksUntilOneMayGo_Jx4a65c_get_915e3 : GoodIn wsX4_ticksUntilOneMayGo wsJx4a65c_get_915e3 := goodIn_r _ [18, 14, 19, 20, 21, 22, 23, 24, 25, 26, 27, 28, 29, 12, 30, 31, 76, 77, 78] (by decide +kernel) (by decide +kernel)
set_option maxRecDepth 20000 in
theorem gX4_ticksUntilOneMayGo_Jx4a65c_get_915e3 : GoodIn wsX4_ticksUntilOneMayGo (wsV RX4 156 RJx4a65c yJx4a65c_get_915e3 wsJx4a65c_get_915e3) := goodIn_app (goodIn_of _ (by decide +kernel)) ggX4_ticksUntilOneMayGo_Jx4a65c_get_915e3
set_option maxRecDepth 20000 in
theorem ggX4_ticksUntilOneMayGo_X2_ticksUntilMayGo : GoodIn wsX4_ticksUntilOneMayGo wsX2_ticksUntilMayGo := goodIn_r _ [36, 37, 38, 39, 40, 41, 42, 43, 44, 7, 45, 46, 6, 8, 47, 48, 49, 50, 51, 52, 53, 54, 55, 56, 57, 58, 35, 59, 60, 61, 62, 63, 64, 65, 66, 79, 80, 81, 82, 83, 84, 85, 86, 87, 88, 89, 90, 91, 92, 93, 94, 95, 96, 97, 98, 99, 100, 101, 102, 103, 104, 105, 106, 107, 108, 109, 110, 111, 112, 113, 114] (by decide +kernel) (by decide +kernel)
set_option maxRecDepth 20000 in
theorem gX4_ticksUntilOneMayGo_X2_ticksUntilMayGo : GoodIn wsX4_ticksUntilOneMayGo (wsV RX4 236 RX2 yX2_ticksUntilMayGo wsX2_ticksUntilMayGo) := goodIn_app (goodIn_of _ (by decide +kernel)) ggX4_ticksUntilOneMayGo_X2_ticksUntilMayGo
theorem dX4_ticksUntilOneMayGo_0 : decode cX4_ticksUntilOneMayGo 0 = .ok (.ldc2_w 234, 3) := by decide +kernel
theorem dX4_ticksUntilOneMayGo_3 : decode cX4_ticksUntilOneMayGo 3 = .ok (.lstore_n 1, 1) := by decide +kernel
theorem dX4_ticksUntilOneMayGo_4 : decode cX4_ticksUntilOneMayGo 4 = .ok (.iconst 0, 1) := by decide +kernel
theorem dX4_ticksUntilOneMayGo_5 : decode cX4_ticksUntilOneMayGo 5 = .ok (.istore_n 3, 1) := by decide +kernel
theorem dX4_ticksUntilOneMayGo_6 : decode cX4_ticksUntilOneMayGo 6 = .ok (.iload_n 3, 1) := by decide +kernel
theorem dX4_ticksUntilOneMayGo_7 : decode cX4_ticksUntilOneMayGo 7 = .ok (.aload_n 0, 1) := by decide +kernel
theorem dX4_ticksUntilOneMayGo_8 : decode cX4_ticksUntilOneMayGo 8 = .ok (.getfield 18, 3) := by decide +kernel
theorem dX4_ticksUntilOneMayGo_11 : decode cX4_ticksUntilOneMayGo 11 = .ok (.invokevirtual 44, 3) := by decide +kernel
theorem dX4_ticksUntilOneMayGo_14 : decode cX4_ticksUntilOneMayGo 14 = .ok (.if_icmp .ge 32, 3) := by decide +kernel
theorem dX4_ticksUntilOneMayGo_17 : decode cX4_ticksUntilOneMayGo 17 = .ok (.lload_n 1, 1) := by decide +kernel
theorem dX4_ticksUntilOneMayGo_18 : decode cX4_ticksUntilOneMayGo 18 = .ok (.aload_n 0, 1) := by decide +kernel
theorem dX4_ticksUntilOneMayGo_19 : decode cX4_ticksUntilOneMayGo 19 = .ok (.getfield 18, 3) := by decide +kernel
theorem dX4_ticksUntilOneMayGo_22 : decode cX4_ticksUntilOneMayGo 22 = .ok (.iload_n 3, 1) := by decide +kernel
theorem dX4_ticksUntilOneMayGo_23 : decode cX4_ticksUntilOneMayGo 23 = .ok (.invokevirtual 156, 3) := by decide +kernel
theorem dX4_ticksUntilOneMayGo_26 : decode cX4_ticksUntilOneMayGo 26 = .ok (.checkcast 86, 3) := by decide +kernel
theorem dX4_ticksUntilOneMayGo_29 : decode cX4_ticksUntilOneMayGo 29 = .ok (.aload_n 0, 1) := by decide +kernel
theorem dX4_ticksUntilOneMayGo_30 : decode cX4_ticksUntilOneMayGo 30 = .ok (.getfield 27, 3) := by decide +kernel
theorem dX4_ticksUntilOneMayGo_33 : decode cX4_ticksUntilOneMayGo 33 = .ok (.invokevirtual 236, 3) := by decide +kernel
theorem dX4_ticksUntilOneMayGo_36 : decode cX4_ticksUntilOneMayGo 36 = .ok (.invokestatic 240, 3) := by decide +kernel
theorem dX4_ticksUntilOneMayGo_39 : decode cX4_ticksUntilOneMayGo 39 = .ok (.lstore_n 1, 1) := by decide +kernel
theorem dX4_ticksUntilOneMayGo_40 : decode cX4_ticksUntilOneMayGo 40 = .ok (.iinc 3 1, 3) := by decide +kernel
theorem dX4_ticksUntilOneMayGo_43 : decode cX4_ticksUntilOneMayGo 43 = .ok (.goto (-37), 3) := by decide +kernel
theorem dX4_ticksUntilOneMayGo_46 : decode cX4_ticksUntilOneMayGo 46 = .ok (.lload_n 1, 1) := by decide +kernel
theorem dX4_ticksUntilOneMayGo_47 : decode cX4_ticksUntilOneMayGo 47 = .ok (.l2i, 1) := by decide +kernel
theorem dX4_ticksUntilOneMayGo_48 : decode cX4_ticksUntilOneMayGo 48 = .ok (.ireturn, 1) := by decide +kernel
set_option maxRecDepth 20000 in
theorem ggX4_passBusy_X4_pass : GoodIn wsX4_passBusy wsX4_pass := goodIn_r _ [6, 7, 8, 9, 10, 11, 12, 13, 14, 15, 16, 17, 18, 19, 20, 21, 22, 23, 24, 25, 26, 27, 28, 29, 30, 31, 32, 33, 34, 35, 36, 37, 38, 39, 40, 41, 42, 43, 44, 45, 46, 47, 48, 49, 50, 51, 52, 53, 54, 55, 56, 57, 58, 59, 60, 61, 62, 63, 64, 65, 66, 67, 68, 69, 70, 71, 72, 73, 74, 75, 76, 77, 78, 79, 80, 81, 82, 83, 84, 85, 86, 87, 88] (by decide +kernel) (by decide +kernel)
set_option maxRecDepth 20000 in
theorem gX4_passBusy_X4_pass : GoodIn wsX4_passBusy (wsV RX4 242 RX4 yX4_pass wsX4_pass) := goodIn_app (goodIn_of _ (by decide +kernel)) ggX4_passBusy_X4_pass
theorem dX4_passBusy_0 : decode cX4_passBusy 0 = .ok (.aload_n 0, 1) := by decide +kernel
theorem dX4_passBusy_1 : decode cX4_passBusy 1 = .ok (.dup, 1) := by decide +kernel
theorem dX4_passBusy_2 : decode cX4_passBusy 2 = .ok (.getfield 34, 3) := by decide +kernel
theorem dX4_passBusy_5 : decode cX4_passBusy 5 = .ok (.iload_n 1, 1) := by decide +kernel
theorem dX4_passBusy_6 : decode cX4_passBusy 6 = .ok (.iadd, 1) := by decide +kernel
theorem dX4_passBusy_7 : decode cX4_passBusy 7 = .ok (.putfield 34, 3) := by decide +kernel
theorem dX4_passBusy_10 : decode cX4_passBusy 10 = .ok (.aload_n 0, 1) := by decide +kernel
theorem dX4_passBusy_11 : decode cX4_passBusy 11 = .ok (.iload_n 1, 1) := by decide +kernel
theorem dX4_passBusy_12 : decode cX4_passBusy 12 = .ok (.invokevirtual 242, 3) := by decide +kernel
theorem dX4_passBusy_15 : decode cX4_passBusy 15 = .ok (.return_, 1) := by decide +kernel
set_option maxRecDepth 20000 in
theorem ggX4_passIdle_X4_countHeld : GoodIn wsX4_passIdle wsX4_countHeld := goodIn_r _ [5, 6, 7, 8, 9, 10, 11, 12, 13, 14, 15, 16, 17, 18, 19, 20, 21, 22, 23, 24, 25, 26, 27, 28, 29, 30, 31, 32, 33, 34, 35, 36, 37, 38, 39, 40, 41, 42, 43, 44, 45, 46, 47, 48, 49, 50, 51, 52, 73, 74, 75, 76, 77, 78, 79, 80, 81, 82, 83, 84, 85, 86, 87, 88, 89, 90, 91, 92, 93, 94, 95, 96, 97, 98, 99, 100, 101, 102, 103, 104, 105, 106, 107, 108, 109, 110, 111, 112, 113, 114, 115, 116, 117, 118, 119, 120] (by decide +kernel) (by decide +kernel)
set_option maxRecDepth 20000 in
theorem gX4_passIdle_X4_countHeld : GoodIn wsX4_passIdle (wsV RX4 197 RX4 yX4_countHeld wsX4_countHeld) := goodIn_app (goodIn_of _ (by decide +kernel)) ggX4_passIdle_X4_countHeld
set_option maxRecDepth 20000 in
theorem ggX4_passIdle_X4_pass : GoodIn wsX4_passIdle wsX4_pass := goodIn_r _ [56, 57, 58, 59, 6, 7, 60, 61, 62, 9, 10, 11, 12, 13, 14, 15, 16, 17, 18, 19, 20, 21, 22, 23, 24, 25, 26, 27, 28, 29, 30, 31, 63, 64, 65, 49, 66, 67, 51, 68, 69, 70, 71, 72, 73, 74, 75, 76, 77, 78, 79, 80, 81, 112, 113, 114, 115, 116, 117, 82, 83, 84, 85, 86, 87, 88, 89, 90, 91, 92, 93, 94, 95, 96, 97, 98, 99, 100, 101, 102, 118, 119, 120] (by decide +kernel) (by decide +kernel)
set_option maxRecDepth 20000 in
theorem gX4_passIdle_X4_pass : GoodIn wsX4_passIdle (wsV RX4 242 RX4 yX4_pass wsX4_pass) := goodIn_app (goodIn_of _ (by decide +kernel)) ggX4_passIdle_X4_pass
theorem dX4_passIdle_0 : decode cX4_passIdle 0 = .ok (.aload_n 0, 1) := by decide +kernel
theorem dX4_passIdle_1 : decode cX4_passIdle 1 = .ok (.iload_n 1, 1) := by decide +kernel
theorem dX4_passIdle_2 : decode cX4_passIdle 2 = .ok (.invokevirtual 197, 3) := by decide +kernel
theorem dX4_passIdle_5 : decode cX4_passIdle 5 = .ok (.aload_n 0, 1) := by decide +kernel
theorem dX4_passIdle_6 : decode cX4_passIdle 6 = .ok (.iload_n 1, 1) := by decide +kernel
theorem dX4_passIdle_7 : decode cX4_passIdle 7 = .ok (.invokevirtual 242, 3) := by decide +kernel
theorem dX4_passIdle_10 : decode cX4_passIdle 10 = .ok (.return_, 1) := by decide +kernel
set_option maxRecDepth 20000 in
theorem ggX4_countHeld_Jx4a65c_size_8abf5 : GoodIn wsX4_countHeld wsJx4a65c_size_8abf5 := goodIn_r _ [8, 9, 75, 76, 77] (by decide +kernel) (by decide +kernel)
set_option maxRecDepth 20000 in
theorem gX4_countHeld_Jx4a65c_size_8abf5 : GoodIn wsX4_countHeld (wsV RX4 44 RJx4a65c yJx4a65c_size_8abf5 wsJx4a65c_size_8abf5) := goodIn_app (goodIn_of _ (by decide +kernel)) ggX4_countHeld_Jx4a65c_size_8abf5
set_option maxRecDepth 20000 in
theorem ggX4_countHeld_Jx4a65c_get_915e3 : GoodIn wsX4_countHeld wsJx4a65c_get_915e3 := goodIn_r _ [13, 9, 14, 15, 16, 17, 18, 19, 20, 21, 22, 23, 24, 7, 25, 26, 75, 76, 77] (by decide +kernel) (by decide +kernel)
set_option maxRecDepth 20000 in
theorem gX4_countHeld_Jx4a65c_get_915e3 : GoodIn wsX4_countHeld (wsV RX4 156 RJx4a65c yJx4a65c_get_915e3 wsJx4a65c_get_915e3) := goodIn_app (goodIn_of _ (by decide +kernel)) ggX4_countHeld_Jx4a65c_get_915e3
set_option maxRecDepth 20000 in
theorem ggX4_countHeld_X2_isHeld : GoodIn wsX4_countHeld wsX2_isHeld := goodIn_r _ [31, 32, 33, 34, 35, 30, 36, 37, 38, 39, 40, 41, 42, 43, 44, 45, 46, 47, 57, 58, 59, 60, 61, 62, 63, 64, 65, 66, 67, 68, 69, 70, 71, 72, 73, 74, 78, 79, 80, 81, 82, 83, 84, 85, 86, 87, 88, 89, 90, 91, 92, 93, 94, 95] (by decide +kernel) (by decide +kernel)
set_option maxRecDepth 20000 in
theorem gX4_countHeld_X2_isHeld : GoodIn wsX4_countHeld (wsV RX4 245 RX2 yX2_isHeld wsX2_isHeld) := goodIn_app (goodIn_of _ (by decide +kernel)) ggX4_countHeld_X2_isHeld
theorem dX4_countHeld_0 : decode cX4_countHeld 0 = .ok (.iconst 0, 1) := by decide +kernel
theorem dX4_countHeld_1 : decode cX4_countHeld 1 = .ok (.istore_n 2, 1) := by decide +kernel
theorem dX4_countHeld_2 : decode cX4_countHeld 2 = .ok (.iload_n 2, 1) := by decide +kernel
theorem dX4_countHeld_3 : decode cX4_countHeld 3 = .ok (.aload_n 0, 1) := by decide +kernel
theorem dX4_countHeld_4 : decode cX4_countHeld 4 = .ok (.getfield 18, 3) := by decide +kernel
theorem dX4_countHeld_7 : decode cX4_countHeld 7 = .ok (.invokevirtual 44, 3) := by decide +kernel
theorem dX4_countHeld_10 : decode cX4_countHeld 10 = .ok (.if_icmp .ge 38, 3) := by decide +kernel
theorem dX4_countHeld_13 : decode cX4_countHeld 13 = .ok (.aload_n 0, 1) := by decide +kernel
theorem dX4_countHeld_14 : decode cX4_countHeld 14 = .ok (.getfield 18, 3) := by decide +kernel
theorem dX4_countHeld_17 : decode cX4_countHeld 17 = .ok (.iload_n 2, 1) := by decide +kernel
theorem dX4_countHeld_18 : decode cX4_countHeld 18 = .ok (.invokevirtual 156, 3) := by decide +kernel
theorem dX4_countHeld_21 : decode cX4_countHeld 21 = .ok (.checkcast 86, 3) := by decide +kernel
theorem dX4_countHeld_24 : decode cX4_countHeld 24 = .ok (.astore_n 3, 1) := by decide +kernel
theorem dX4_countHeld_25 : decode cX4_countHeld 25 = .ok (.aload_n 3, 1) := by decide +kernel
theorem dX4_countHeld_26 : decode cX4_countHeld 26 = .ok (.invokevirtual 245, 3) := by decide +kernel
theorem dX4_countHeld_29 : decode cX4_countHeld 29 = .ok (.ifCond .eq 13, 3) := by decide +kernel
theorem dX4_countHeld_32 : decode cX4_countHeld 32 = .ok (.aload_n 3, 1) := by decide +kernel
theorem dX4_countHeld_33 : decode cX4_countHeld 33 = .ok (.dup, 1) := by decide +kernel
theorem dX4_countHeld_34 : decode cX4_countHeld 34 = .ok (.getfield 248, 3) := by decide +kernel
theorem dX4_countHeld_37 : decode cX4_countHeld 37 = .ok (.iload_n 1, 1) := by decide +kernel
theorem dX4_countHeld_38 : decode cX4_countHeld 38 = .ok (.iadd, 1) := by decide +kernel
theorem dX4_countHeld_39 : decode cX4_countHeld 39 = .ok (.putfield 248, 3) := by decide +kernel
theorem dX4_countHeld_42 : decode cX4_countHeld 42 = .ok (.iinc 2 1, 3) := by decide +kernel
theorem dX4_countHeld_45 : decode cX4_countHeld 45 = .ok (.goto (-43), 3) := by decide +kernel
theorem dX4_countHeld_48 : decode cX4_countHeld 48 = .ok (.return_, 1) := by decide +kernel
set_option maxRecDepth 20000 in
theorem ggX4_pass_Jx4a65c_size_8abf5 : GoodIn wsX4_pass wsJx4a65c_size_8abf5 := goodIn_r _ [13, 14, 77, 78, 79] (by decide +kernel) (by decide +kernel)
set_option maxRecDepth 20000 in
theorem gX4_pass_Jx4a65c_size_8abf5 : GoodIn wsX4_pass (wsV RX4 44 RJx4a65c yJx4a65c_size_8abf5 wsJx4a65c_size_8abf5) := goodIn_app (goodIn_of _ (by decide +kernel)) ggX4_pass_Jx4a65c_size_8abf5
set_option maxRecDepth 20000 in
theorem ggX4_pass_Jx4a65c_get_915e3 : GoodIn wsX4_pass wsJx4a65c_get_915e3 := goodIn_r _ [18, 14, 19, 20, 21, 22, 23, 24, 25, 26, 27, 28, 29, 12, 30, 31, 77, 78, 79] (by decide +kernel) (by decide +kernel)
set_option maxRecDepth 20000 in
theorem gX4_pass_Jx4a65c_get_915e3 : GoodIn wsX4_pass (wsV RX4 156 RJx4a65c yJx4a65c_get_915e3 wsJx4a65c_get_915e3) := goodIn_app (goodIn_of _ (by decide +kernel)) ggX4_pass_Jx4a65c_get_915e3
set_option maxRecDepth 20000 in
theorem ggX4_pass_X0_fill : GoodIn wsX4_pass wsX0_fill := goodIn_r _ [36, 37, 38, 39, 40, 41, 42, 43, 80, 81, 82] (by decide +kernel) (by decide +kernel)
set_option maxRecDepth 20000 in
theorem gX4_pass_X0_fill : GoodIn wsX4_pass (wsV RX4 251 RX0 yX0_fill wsX0_fill) := goodIn_app (goodIn_of _ (by decide +kernel)) ggX4_pass_X0_fill
theorem dX4_pass_0 : decode cX4_pass 0 = .ok (.iconst 0, 1) := by decide +kernel
theorem dX4_pass_1 : decode cX4_pass 1 = .ok (.istore_n 2, 1) := by decide +kernel
theorem dX4_pass_2 : decode cX4_pass 2 = .ok (.iload_n 2, 1) := by decide +kernel
theorem dX4_pass_3 : decode cX4_pass 3 = .ok (.aload_n 0, 1) := by decide +kernel
theorem dX4_pass_4 : decode cX4_pass 4 = .ok (.getfield 12, 3) := by decide +kernel
theorem dX4_pass_7 : decode cX4_pass 7 = .ok (.invokevirtual 44, 3) := by decide +kernel
theorem dX4_pass_10 : decode cX4_pass 10 = .ok (.if_icmp .ge 27, 3) := by decide +kernel
theorem dX4_pass_13 : decode cX4_pass 13 = .ok (.aload_n 0, 1) := by decide +kernel
theorem dX4_pass_14 : decode cX4_pass 14 = .ok (.getfield 12, 3) := by decide +kernel
theorem dX4_pass_17 : decode cX4_pass 17 = .ok (.iload_n 2, 1) := by decide +kernel
theorem dX4_pass_18 : decode cX4_pass 18 = .ok (.invokevirtual 156, 3) := by decide +kernel
theorem dX4_pass_21 : decode cX4_pass 21 = .ok (.checkcast 56, 3) := by decide +kernel
theorem dX4_pass_24 : decode cX4_pass 24 = .ok (.getfield 171, 3) := by decide +kernel
theorem dX4_pass_27 : decode cX4_pass 27 = .ok (.iload_n 1, 1) := by decide +kernel
theorem dX4_pass_28 : decode cX4_pass 28 = .ok (.invokevirtual 251, 3) := by decide +kernel
theorem dX4_pass_31 : decode cX4_pass 31 = .ok (.iinc 2 1, 3) := by decide +kernel
theorem dX4_pass_34 : decode cX4_pass 34 = .ok (.goto (-32), 3) := by decide +kernel
theorem dX4_pass_37 : decode cX4_pass 37 = .ok (.iconst 0, 1) := by decide +kernel
theorem dX4_pass_38 : decode cX4_pass 38 = .ok (.istore_n 2, 1) := by decide +kernel
theorem dX4_pass_39 : decode cX4_pass 39 = .ok (.iload_n 2, 1) := by decide +kernel
theorem dX4_pass_40 : decode cX4_pass 40 = .ok (.aload_n 0, 1) := by decide +kernel
theorem dX4_pass_41 : decode cX4_pass 41 = .ok (.getfield 18, 3) := by decide +kernel
theorem dX4_pass_44 : decode cX4_pass 44 = .ok (.invokevirtual 44, 3) := by decide +kernel
theorem dX4_pass_47 : decode cX4_pass 47 = .ok (.if_icmp .ge 44, 3) := by decide +kernel
theorem dX4_pass_50 : decode cX4_pass 50 = .ok (.aload_n 0, 1) := by decide +kernel
theorem dX4_pass_51 : decode cX4_pass 51 = .ok (.getfield 18, 3) := by decide +kernel
theorem dX4_pass_54 : decode cX4_pass 54 = .ok (.iload_n 2, 1) := by decide +kernel
theorem dX4_pass_55 : decode cX4_pass 55 = .ok (.invokevirtual 156, 3) := by decide +kernel
theorem dX4_pass_58 : decode cX4_pass 58 = .ok (.checkcast 86, 3) := by decide +kernel
theorem dX4_pass_61 : decode cX4_pass 61 = .ok (.astore_n 3, 1) := by decide +kernel
theorem dX4_pass_62 : decode cX4_pass 62 = .ok (.aload_n 3, 1) := by decide +kernel
theorem dX4_pass_63 : decode cX4_pass 63 = .ok (.getfield 165, 3) := by decide +kernel
theorem dX4_pass_66 : decode cX4_pass 66 = .ok (.iload_n 1, 1) := by decide +kernel
theorem dX4_pass_67 : decode cX4_pass 67 = .ok (.invokevirtual 251, 3) := by decide +kernel
theorem dX4_pass_70 : decode cX4_pass 70 = .ok (.aload_n 3, 1) := by decide +kernel
theorem dX4_pass_71 : decode cX4_pass 71 = .ok (.getfield 96, 3) := by decide +kernel
theorem dX4_pass_74 : decode cX4_pass 74 = .ok (.ifnull 11, 3) := by decide +kernel
theorem dX4_pass_77 : decode cX4_pass 77 = .ok (.aload_n 3, 1) := by decide +kernel
theorem dX4_pass_78 : decode cX4_pass 78 = .ok (.getfield 96, 3) := by decide +kernel
theorem dX4_pass_81 : decode cX4_pass 81 = .ok (.iload_n 1, 1) := by decide +kernel
theorem dX4_pass_82 : decode cX4_pass 82 = .ok (.invokevirtual 251, 3) := by decide +kernel
theorem dX4_pass_85 : decode cX4_pass 85 = .ok (.iinc 2 1, 3) := by decide +kernel
theorem dX4_pass_88 : decode cX4_pass 88 = .ok (.goto (-49), 3) := by decide +kernel
theorem dX4_pass_91 : decode cX4_pass 91 = .ok (.aload_n 0, 1) := by decide +kernel
theorem dX4_pass_92 : decode cX4_pass 92 = .ok (.dup, 1) := by decide +kernel
theorem dX4_pass_93 : decode cX4_pass 93 = .ok (.getfield 27, 3) := by decide +kernel
theorem dX4_pass_96 : decode cX4_pass 96 = .ok (.iload_n 1, 1) := by decide +kernel
theorem dX4_pass_97 : decode cX4_pass 97 = .ok (.iadd, 1) := by decide +kernel
theorem dX4_pass_98 : decode cX4_pass 98 = .ok (.putfield 27, 3) := by decide +kernel
theorem dX4_pass_101 : decode cX4_pass 101 = .ok (.return_, 1) := by decide +kernel
theorem dX5_init_0 : decode cX5_init 0 = .ok (.aload_n 0, 1) := by decide +kernel
theorem dX5_init_1 : decode cX5_init 1 = .ok (.invokespecial 1, 3) := by decide +kernel
theorem dX5_init_4 : decode cX5_init 4 = .ok (.aload_n 0, 1) := by decide +kernel
theorem dX5_init_5 : decode cX5_init 5 = .ok (.iconst (-1), 1) := by decide +kernel
theorem dX5_init_6 : decode cX5_init 6 = .ok (.putfield 9, 3) := by decide +kernel
theorem dX5_init_9 : decode cX5_init 9 = .ok (.aload_n 0, 1) := by decide +kernel
theorem dX5_init_10 : decode cX5_init 10 = .ok (.iconst 4, 1) := by decide +kernel
theorem dX5_init_11 : decode cX5_init 11 = .ok (.newarray .int, 2) := by decide +kernel
theorem dX5_init_13 : decode cX5_init 13 = .ok (.putfield 13, 3) := by decide +kernel
theorem dX5_init_16 : decode cX5_init 16 = .ok (.aload_n 0, 1) := by decide +kernel
theorem dX5_init_17 : decode cX5_init 17 = .ok (.iconst 4, 1) := by decide +kernel
theorem dX5_init_18 : decode cX5_init 18 = .ok (.newarray .long, 2) := by decide +kernel
theorem dX5_init_20 : decode cX5_init 20 = .ok (.putfield 17, 3) := by decide +kernel
theorem dX5_init_23 : decode cX5_init 23 = .ok (.aload_n 0, 1) := by decide +kernel
theorem dX5_init_24 : decode cX5_init 24 = .ok (.iconst 4, 1) := by decide +kernel
theorem dX5_init_25 : decode cX5_init 25 = .ok (.newarray .long, 2) := by decide +kernel
theorem dX5_init_27 : decode cX5_init 27 = .ok (.putfield 21, 3) := by decide +kernel
theorem dX5_init_30 : decode cX5_init 30 = .ok (.aload_n 0, 1) := by decide +kernel
theorem dX5_init_31 : decode cX5_init 31 = .ok (.bipush 8, 2) := by decide +kernel
theorem dX5_init_33 : decode cX5_init 33 = .ok (.newarray .int, 2) := by decide +kernel
theorem dX5_init_35 : decode cX5_init 35 = .ok (.putfield 24, 3) := by decide +kernel
theorem dX5_init_38 : decode cX5_init 38 = .ok (.aload_n 0, 1) := by decide +kernel
theorem dX5_init_39 : decode cX5_init 39 = .ok (.bipush 8, 2) := by decide +kernel
theorem dX5_init_41 : decode cX5_init 41 = .ok (.newarray .int, 2) := by decide +kernel
theorem dX5_init_43 : decode cX5_init 43 = .ok (.putfield 27, 3) := by decide +kernel
theorem dX5_init_46 : decode cX5_init 46 = .ok (.aload_n 0, 1) := by decide +kernel
theorem dX5_init_47 : decode cX5_init 47 = .ok (.bipush 8, 2) := by decide +kernel
theorem dX5_init_49 : decode cX5_init 49 = .ok (.newarray .int, 2) := by decide +kernel
theorem dX5_init_51 : decode cX5_init 51 = .ok (.putfield 30, 3) := by decide +kernel
theorem dX5_init_54 : decode cX5_init 54 = .ok (.aload_n 0, 1) := by decide +kernel
theorem dX5_init_55 : decode cX5_init 55 = .ok (.bipush 8, 2) := by decide +kernel
theorem dX5_init_57 : decode cX5_init 57 = .ok (.newarray .int, 2) := by decide +kernel
theorem dX5_init_59 : decode cX5_init 59 = .ok (.putfield 33, 3) := by decide +kernel
theorem dX5_init_62 : decode cX5_init 62 = .ok (.aload_n 0, 1) := by decide +kernel
theorem dX5_init_63 : decode cX5_init 63 = .ok (.bipush 8, 2) := by decide +kernel
theorem dX5_init_65 : decode cX5_init 65 = .ok (.newarray .int, 2) := by decide +kernel
theorem dX5_init_67 : decode cX5_init 67 = .ok (.putfield 36, 3) := by decide +kernel
theorem dX5_init_70 : decode cX5_init 70 = .ok (.aload_n 0, 1) := by decide +kernel
theorem dX5_init_71 : decode cX5_init 71 = .ok (.bipush 8, 2) := by decide +kernel
theorem dX5_init_73 : decode cX5_init 73 = .ok (.newarray .int, 2) := by decide +kernel
theorem dX5_init_75 : decode cX5_init 75 = .ok (.putfield 39, 3) := by decide +kernel
theorem dX5_init_78 : decode cX5_init 78 = .ok (.aload_n 0, 1) := by decide +kernel
theorem dX5_init_79 : decode cX5_init 79 = .ok (.bipush 8, 2) := by decide +kernel
theorem dX5_init_81 : decode cX5_init 81 = .ok (.newarray .int, 2) := by decide +kernel
theorem dX5_init_83 : decode cX5_init 83 = .ok (.putfield 42, 3) := by decide +kernel
theorem dX5_init_86 : decode cX5_init 86 = .ok (.aload_n 0, 1) := by decide +kernel
theorem dX5_init_87 : decode cX5_init 87 = .ok (.bipush 8, 2) := by decide +kernel
theorem dX5_init_89 : decode cX5_init 89 = .ok (.newarray .int, 2) := by decide +kernel
theorem dX5_init_91 : decode cX5_init 91 = .ok (.putfield 45, 3) := by decide +kernel
theorem dX5_init_94 : decode cX5_init 94 = .ok (.aload_n 0, 1) := by decide +kernel
theorem dX5_init_95 : decode cX5_init 95 = .ok (.bipush 8, 2) := by decide +kernel
theorem dX5_init_97 : decode cX5_init 97 = .ok (.newarray .int, 2) := by decide +kernel
theorem dX5_init_99 : decode cX5_init 99 = .ok (.putfield 48, 3) := by decide +kernel
theorem dX5_init_102 : decode cX5_init 102 = .ok (.aload_n 0, 1) := by decide +kernel
theorem dX5_init_103 : decode cX5_init 103 = .ok (.bipush 8, 2) := by decide +kernel
theorem dX5_init_105 : decode cX5_init 105 = .ok (.newarray .int, 2) := by decide +kernel
theorem dX5_init_107 : decode cX5_init 107 = .ok (.putfield 51, 3) := by decide +kernel
theorem dX5_init_110 : decode cX5_init 110 = .ok (.aload_n 0, 1) := by decide +kernel
theorem dX5_init_111 : decode cX5_init 111 = .ok (.bipush 8, 2) := by decide +kernel
theorem dX5_init_113 : decode cX5_init 113 = .ok (.newarray .int, 2) := by decide +kernel
theorem dX5_init_115 : decode cX5_init 115 = .ok (.putfield 54, 3) := by decide +kernel
theorem dX5_init_118 : decode cX5_init 118 = .ok (.aload_n 0, 1) := by decide +kernel
theorem dX5_init_119 : decode cX5_init 119 = .ok (.bipush 8, 2) := by decide +kernel
theorem dX5_init_121 : decode cX5_init 121 = .ok (.newarray .int, 2) := by decide +kernel
theorem dX5_init_123 : decode cX5_init 123 = .ok (.putfield 57, 3) := by decide +kernel
theorem dX5_init_126 : decode cX5_init 126 = .ok (.aload_n 0, 1) := by decide +kernel
theorem dX5_init_127 : decode cX5_init 127 = .ok (.bipush 8, 2) := by decide +kernel
theorem dX5_init_129 : decode cX5_init 129 = .ok (.newarray .int, 2) := by decide +kernel
theorem dX5_init_131 : decode cX5_init 131 = .ok (.putfield 60, 3) := by decide +kernel
theorem dX5_init_134 : decode cX5_init 134 = .ok (.aload_n 0, 1) := by decide +kernel
theorem dX5_init_135 : decode cX5_init 135 = .ok (.bipush 8, 2) := by decide +kernel
theorem dX5_init_137 : decode cX5_init 137 = .ok (.newarray .int, 2) := by decide +kernel
theorem dX5_init_139 : decode cX5_init 139 = .ok (.putfield 63, 3) := by decide +kernel
theorem dX5_init_142 : decode cX5_init 142 = .ok (.aload_n 0, 1) := by decide +kernel
theorem dX5_init_143 : decode cX5_init 143 = .ok (.bipush 8, 2) := by decide +kernel
theorem dX5_init_145 : decode cX5_init 145 = .ok (.newarray .long, 2) := by decide +kernel
theorem dX5_init_147 : decode cX5_init 147 = .ok (.putfield 66, 3) := by decide +kernel
theorem dX5_init_150 : decode cX5_init 150 = .ok (.aload_n 0, 1) := by decide +kernel
theorem dX5_init_151 : decode cX5_init 151 = .ok (.bipush 8, 2) := by decide +kernel
theorem dX5_init_153 : decode cX5_init 153 = .ok (.newarray .boolean, 2) := by decide +kernel
theorem dX5_init_155 : decode cX5_init 155 = .ok (.putfield 69, 3) := by decide +kernel
theorem dX5_init_158 : decode cX5_init 158 = .ok (.aload_n 0, 1) := by decide +kernel
theorem dX5_init_159 : decode cX5_init 159 = .ok (.bipush 8, 2) := by decide +kernel
theorem dX5_init_161 : decode cX5_init 161 = .ok (.newarray .boolean, 2) := by decide +kernel
theorem dX5_init_163 : decode cX5_init 163 = .ok (.putfield 73, 3) := by decide +kernel
theorem dX5_init_166 : decode cX5_init 166 = .ok (.aload_n 0, 1) := by decide +kernel
theorem dX5_init_167 : decode cX5_init 167 = .ok (.bipush 20, 2) := by decide +kernel
theorem dX5_init_169 : decode cX5_init 169 = .ok (.newarray .int, 2) := by decide +kernel
theorem dX5_init_171 : decode cX5_init 171 = .ok (.putfield 76, 3) := by decide +kernel
theorem dX5_init_174 : decode cX5_init 174 = .ok (.aload_n 0, 1) := by decide +kernel
theorem dX5_init_175 : decode cX5_init 175 = .ok (.bipush 20, 2) := by decide +kernel
theorem dX5_init_177 : decode cX5_init 177 = .ok (.newarray .int, 2) := by decide +kernel
theorem dX5_init_179 : decode cX5_init 179 = .ok (.putfield 79, 3) := by decide +kernel
theorem dX5_init_182 : decode cX5_init 182 = .ok (.aload_n 0, 1) := by decide +kernel
theorem dX5_init_183 : decode cX5_init 183 = .ok (.bipush 20, 2) := by decide +kernel
theorem dX5_init_185 : decode cX5_init 185 = .ok (.newarray .long, 2) := by decide +kernel
theorem dX5_init_187 : decode cX5_init 187 = .ok (.putfield 82, 3) := by decide +kernel
theorem dX5_init_190 : decode cX5_init 190 = .ok (.aload_n 0, 1) := by decide +kernel
theorem dX5_init_191 : decode cX5_init 191 = .ok (.sipush 1000, 3) := by decide +kernel
theorem dX5_init_194 : decode cX5_init 194 = .ok (.newarray .int, 2) := by decide +kernel
theorem dX5_init_196 : decode cX5_init 196 = .ok (.putfield 85, 3) := by decide +kernel
theorem dX5_init_199 : decode cX5_init 199 = .ok (.aload_n 0, 1) := by decide +kernel
theorem dX5_init_200 : decode cX5_init 200 = .ok (.sipush 1000, 3) := by decide +kernel
theorem dX5_init_203 : decode cX5_init 203 = .ok (.newarray .int, 2) := by decide +kernel
theorem dX5_init_205 : decode cX5_init 205 = .ok (.putfield 88, 3) := by decide +kernel
theorem dX5_init_208 : decode cX5_init 208 = .ok (.aload_n 0, 1) := by decide +kernel
theorem dX5_init_209 : decode cX5_init 209 = .ok (.sipush 1000, 3) := by decide +kernel
theorem dX5_init_212 : decode cX5_init 212 = .ok (.newarray .int, 2) := by decide +kernel
theorem dX5_init_214 : decode cX5_init 214 = .ok (.putfield 91, 3) := by decide +kernel
theorem dX5_init_217 : decode cX5_init 217 = .ok (.aload_n 0, 1) := by decide +kernel
theorem dX5_init_218 : decode cX5_init 218 = .ok (.sipush 1000, 3) := by decide +kernel
theorem dX5_init_221 : decode cX5_init 221 = .ok (.newarray .int, 2) := by decide +kernel
theorem dX5_init_223 : decode cX5_init 223 = .ok (.putfield 94, 3) := by decide +kernel
theorem dX5_init_226 : decode cX5_init 226 = .ok (.aload_n 0, 1) := by decide +kernel
theorem dX5_init_227 : decode cX5_init 227 = .ok (.sipush 1000, 3) := by decide +kernel
theorem dX5_init_230 : decode cX5_init 230 = .ok (.newarray .int, 2) := by decide +kernel
theorem dX5_init_232 : decode cX5_init 232 = .ok (.putfield 97, 3) := by decide +kernel
theorem dX5_init_235 : decode cX5_init 235 = .ok (.aload_n 0, 1) := by decide +kernel
theorem dX5_init_236 : decode cX5_init 236 = .ok (.sipush 1000, 3) := by decide +kernel
theorem dX5_init_239 : decode cX5_init 239 = .ok (.newarray .int, 2) := by decide +kernel
theorem dX5_init_241 : decode cX5_init 241 = .ok (.putfield 100, 3) := by decide +kernel
theorem dX5_init_244 : decode cX5_init 244 = .ok (.aload_n 0, 1) := by decide +kernel
theorem dX5_init_245 : decode cX5_init 245 = .ok (.sipush 1000, 3) := by decide +kernel
theorem dX5_init_248 : decode cX5_init 248 = .ok (.newarray .int, 2) := by decide +kernel
theorem dX5_init_250 : decode cX5_init 250 = .ok (.putfield 103, 3) := by decide +kernel
theorem dX5_init_253 : decode cX5_init 253 = .ok (.aload_n 0, 1) := by decide +kernel
theorem dX5_init_254 : decode cX5_init 254 = .ok (.sipush 1000, 3) := by decide +kernel
theorem dX5_init_257 : decode cX5_init 257 = .ok (.newarray .int, 2) := by decide +kernel
theorem dX5_init_259 : decode cX5_init 259 = .ok (.putfield 106, 3) := by decide +kernel
theorem dX5_init_262 : decode cX5_init 262 = .ok (.aload_n 0, 1) := by decide +kernel
theorem dX5_init_263 : decode cX5_init 263 = .ok (.sipush 1000, 3) := by decide +kernel
theorem dX5_init_266 : decode cX5_init 266 = .ok (.newarray .boolean, 2) := by decide +kernel
theorem dX5_init_268 : decode cX5_init 268 = .ok (.putfield 109, 3) := by decide +kernel
theorem dX5_init_271 : decode cX5_init 271 = .ok (.return_, 1) := by decide +kernel
theorem dX5_in_0 : decode cX5_in 0 = .ok (.iload_n 0, 1) := by decide +kernel
theorem dX5_in_1 : decode cX5_in 1 = .ok (.iload_n 1, 1) := by decide +kernel
theorem dX5_in_2 : decode cX5_in 2 = .ok (.if_icmp .lt 12, 3) := by decide +kernel
theorem dX5_in_5 : decode cX5_in 5 = .ok (.iload_n 0, 1) := by decide +kernel
theorem dX5_in_6 : decode cX5_in 6 = .ok (.iload_n 2, 1) := by decide +kernel
theorem dX5_in_7 : decode cX5_in 7 = .ok (.if_icmp .gt 7, 3) := by decide +kernel
theorem dX5_in_10 : decode cX5_in 10 = .ok (.iconst 1, 1) := by decide +kernel
theorem dX5_in_11 : decode cX5_in 11 = .ok (.goto 4, 3) := by decide +kernel
theorem dX5_in_14 : decode cX5_in 14 = .ok (.iconst 0, 1) := by decide +kernel
theorem dX5_in_15 : decode cX5_in 15 = .ok (.ireturn, 1) := by decide +kernel
theorem dX5_fill_0 : decode cX5_fill 0 = .ok (.aload_n 0, 1) := by decide +kernel
theorem dX5_fill_1 : decode cX5_fill 1 = .ok (.getfield 76, 3) := by decide +kernel
theorem dX5_fill_4 : decode cX5_fill 4 = .ok (.iload_n 1, 1) := by decide +kernel
theorem dX5_fill_5 : decode cX5_fill 5 = .ok (.iload_n 2, 1) := by decide +kernel
theorem dX5_fill_6 : decode cX5_fill 6 = .ok (.iastore, 1) := by decide +kernel
theorem dX5_fill_7 : decode cX5_fill 7 = .ok (.aload_n 0, 1) := by decide +kernel
theorem dX5_fill_8 : decode cX5_fill 8 = .ok (.getfield 79, 3) := by decide +kernel
theorem dX5_fill_11 : decode cX5_fill 11 = .ok (.iload_n 1, 1) := by decide +kernel
theorem dX5_fill_12 : decode cX5_fill 12 = .ok (.iload_n 3, 1) := by decide +kernel
theorem dX5_fill_13 : decode cX5_fill 13 = .ok (.iastore, 1) := by decide +kernel
theorem dX5_fill_14 : decode cX5_fill 14 = .ok (.aload_n 0, 1) := by decide +kernel
theorem dX5_fill_15 : decode cX5_fill 15 = .ok (.getfield 82, 3) := by decide +kernel
theorem dX5_fill_18 : decode cX5_fill 18 = .ok (.iload_n 1, 1) := by decide +kernel
theorem dX5_fill_19 : decode cX5_fill 19 = .ok (.ldc2_w 115, 3) := by decide +kernel
theorem dX5_fill_22 : decode cX5_fill 22 = .ok (.iload_n 3, 1) := by decide +kernel
theorem dX5_fill_23 : decode cX5_fill 23 = .ok (.i2l, 1) := by decide +kernel
theorem dX5_fill_24 : decode cX5_fill 24 = .ok (.lmul, 1) := by decide +kernel
theorem dX5_fill_25 : decode cX5_fill 25 = .ok (.lastore, 1) := by decide +kernel
theorem dX5_fill_26 : decode cX5_fill 26 = .ok (.return_, 1) := by decide +kernel
set_option maxRecDepth 20000 in
theorem ggX5_group_X5_in : GoodIn wsX5_group wsX5_in := goodIn_r _ [6] (by decide +kernel) (by decide +kernel)
set_option maxRecDepth 20000 in
theorem gX5_group_X5_in : GoodIn wsX5_group (va_wsS RX5 120 yX5_in wsX5_in) := goodIn_app (goodIn_of _ (by decide +kernel)) ggX5_group_X5_in
set_option maxRecDepth 20000 in
theorem ggX5_group_X5_fill : GoodIn wsX5_group wsX5_fill := goodIn_r _ [10, 11, 12, 13, 14, 15, 16, 17, 18, 19, 20, 21, 22, 23, 24, 25, 26, 27, 28, 29, 30, 31, 32, 33, 34, 35, 36, 37, 38, 39, 40, 41, 42, 43, 44, 45, 46, 47, 48, 49, 50, 51, 52, 53, 54, 55, 56] (by decide +kernel) (by decide +kernel)
set_option maxRecDepth 20000 in
theorem gX5_group_X5_fill : GoodIn wsX5_group (wsV RX5 124 RX5 yX5_fill wsX5_fill) := goodIn_app (goodIn_of _ (by decide +kernel)) ggX5_group_X5_fill
theorem dX5_group_0 : decode cX5_group 0 = .ok (.aload_n 0, 1) := by decide +kernel
theorem dX5_group_1 : decode cX5_group 1 = .ok (.getfield 117, 3) := by decide +kernel
theorem dX5_group_4 : decode cX5_group 4 = .ok (.iconst 4, 1) := by decide +kernel
theorem dX5_group_5 : decode cX5_group 5 = .ok (.if_icmp .eq 37, 3) := by decide +kernel
theorem dX5_group_8 : decode cX5_group 8 = .ok (.iload_n 1, 1) := by decide +kernel
theorem dX5_group_9 : decode cX5_group 9 = .ok (.iconst 1, 1) := by decide +kernel
theorem dX5_group_10 : decode cX5_group 10 = .ok (.bipush 12, 2) := by decide +kernel
theorem dX5_group_12 : decode cX5_group 12 = .ok (.invokestatic 120, 3) := by decide +kernel
theorem dX5_group_15 : decode cX5_group 15 = .ok (.ifCond .eq 27, 3) := by decide +kernel
theorem dX5_group_18 : decode cX5_group 18 = .ok (.iload_n 2, 1) := by decide +kernel
theorem dX5_group_19 : decode cX5_group 19 = .ok (.iconst 0, 1) := by decide +kernel
theorem dX5_group_20 : decode cX5_group 20 = .ok (.sipush 1000, 3) := by decide +kernel
theorem dX5_group_23 : decode cX5_group 23 = .ok (.invokestatic 120, 3) := by decide +kernel
theorem dX5_group_26 : decode cX5_group 26 = .ok (.ifCond .eq 16, 3) := by decide +kernel
theorem dX5_group_29 : decode cX5_group 29 = .ok (.iload_n 3, 1) := by decide +kernel
theorem dX5_group_30 : decode cX5_group 30 = .ok (.sipush 1500, 3) := by decide +kernel
theorem dX5_group_33 : decode cX5_group 33 = .ok (.sipush 20000, 3) := by decide +kernel
theorem dX5_group_36 : decode cX5_group 36 = .ok (.invokestatic 120, 3) := by decide +kernel
theorem dX5_group_39 : decode cX5_group 39 = .ok (.ifCond .ne 5, 3) := by decide +kernel
theorem dX5_group_42 : decode cX5_group 42 = .ok (.iconst (-1), 1) := by decide +kernel
theorem dX5_group_43 : decode cX5_group 43 = .ok (.ireturn, 1) := by decide +kernel
theorem dX5_group_44 : decode cX5_group 44 = .ok (.aload_n 0, 1) := by decide +kernel
theorem dX5_group_45 : decode cX5_group 45 = .ok (.getfield 13, 3) := by decide +kernel
theorem dX5_group_48 : decode cX5_group 48 = .ok (.aload_n 0, 1) := by decide +kernel
theorem dX5_group_49 : decode cX5_group 49 = .ok (.getfield 117, 3) := by decide +kernel
theorem dX5_group_52 : decode cX5_group 52 = .ok (.iload_n 1, 1) := by decide +kernel
theorem dX5_group_53 : decode cX5_group 53 = .ok (.iastore, 1) := by decide +kernel
theorem dX5_group_54 : decode cX5_group 54 = .ok (.aload_n 0, 1) := by decide +kernel
theorem dX5_group_55 : decode cX5_group 55 = .ok (.bipush 8, 2) := by decide +kernel
theorem dX5_group_57 : decode cX5_group 57 = .ok (.aload_n 0, 1) := by decide +kernel
theorem dX5_group_58 : decode cX5_group 58 = .ok (.getfield 117, 3) := by decide +kernel
theorem dX5_group_61 : decode cX5_group 61 = .ok (.iadd, 1) := by decide +kernel
theorem dX5_group_62 : decode cX5_group 62 = .ok (.iload_n 2, 1) := by decide +kernel
theorem dX5_group_63 : decode cX5_group 63 = .ok (.iload_n 3, 1) := by decide +kernel
theorem dX5_group_64 : decode cX5_group 64 = .ok (.invokevirtual 124, 3) := by decide +kernel
theorem dX5_group_67 : decode cX5_group 67 = .ok (.aload_n 0, 1) := by decide +kernel
theorem dX5_group_68 : decode cX5_group 68 = .ok (.dup, 1) := by decide +kernel
theorem dX5_group_69 : decode cX5_group 69 = .ok (.getfield 117, 3) := by decide +kernel
theorem dX5_group_72 : decode cX5_group 72 = .ok (.iconst 1, 1) := by decide +kernel
theorem dX5_group_73 : decode cX5_group 73 = .ok (.iadd, 1) := by decide +kernel
theorem dX5_group_74 : decode cX5_group 74 = .ok (.putfield 117, 3) := by decide +kernel
theorem dX5_group_77 : decode cX5_group 77 = .ok (.aload_n 0, 1) := by decide +kernel
theorem dX5_group_78 : decode cX5_group 78 = .ok (.getfield 117, 3) := by decide +kernel
theorem dX5_group_81 : decode cX5_group 81 = .ok (.iconst 1, 1) := by decide +kernel
theorem dX5_group_82 : decode cX5_group 82 = .ok (.isub, 1) := by decide +kernel
theorem dX5_group_83 : decode cX5_group 83 = .ok (.ireturn, 1) := by decide +kernel
set_option maxRecDepth 20000 in
theorem ggX5_leaf_X5_in : GoodIn wsX5_leaf wsX5_in := goodIn_r _ [14] (by decide +kernel) (by decide +kernel)
set_option maxRecDepth 20000 in
theorem gX5_leaf_X5_in : GoodIn wsX5_leaf (va_wsS RX5 120 yX5_in wsX5_in) := goodIn_app (goodIn_of _ (by decide +kernel)) ggX5_leaf_X5_in
set_option maxRecDepth 20000 in
theorem ggX5_leaf_X5_fill : GoodIn wsX5_leaf wsX5_fill := goodIn_r _ [18, 6, 19, 20, 21, 22, 23, 24, 25, 26, 27, 28, 29, 30, 31, 32, 33, 34, 35, 36, 37, 38, 39, 40, 41, 42, 43, 44, 45, 46, 47, 48, 49, 50, 51, 52, 53, 54, 55, 56, 57, 58, 59, 60, 61, 62, 63] (by decide +kernel) (by decide +kernel)
set_option maxRecDepth 20000 in
theorem gX5_leaf_X5_fill : GoodIn wsX5_leaf (wsV RX5 124 RX5 yX5_fill wsX5_fill) := goodIn_app (goodIn_of _ (by decide +kernel)) ggX5_leaf_X5_fill
theorem dX5_leaf_0 : decode cX5_leaf 0 = .ok (.aload_n 0, 1) := by decide +kernel
theorem dX5_leaf_1 : decode cX5_leaf 1 = .ok (.getfield 128, 3) := by decide +kernel
theorem dX5_leaf_4 : decode cX5_leaf 4 = .ok (.bipush 8, 2) := by decide +kernel
theorem dX5_leaf_6 : decode cX5_leaf 6 = .ok (.if_icmp .eq 82, 3) := by decide +kernel
theorem dX5_leaf_9 : decode cX5_leaf 9 = .ok (.iload_n 1, 1) := by decide +kernel
theorem dX5_leaf_10 : decode cX5_leaf 10 = .ok (.iconst 0, 1) := by decide +kernel
theorem dX5_leaf_11 : decode cX5_leaf 11 = .ok (.aload_n 0, 1) := by decide +kernel
theorem dX5_leaf_12 : decode cX5_leaf 12 = .ok (.getfield 117, 3) := by decide +kernel
theorem dX5_leaf_15 : decode cX5_leaf 15 = .ok (.iconst 1, 1) := by decide +kernel
theorem dX5_leaf_16 : decode cX5_leaf 16 = .ok (.isub, 1) := by decide +kernel
theorem dX5_leaf_17 : decode cX5_leaf 17 = .ok (.invokestatic 120, 3) := by decide +kernel
theorem dX5_leaf_20 : decode cX5_leaf 20 = .ok (.ifCond .eq 68, 3) := by decide +kernel
theorem dX5_leaf_23 : decode cX5_leaf 23 = .ok (.iload_n 2, 1) := by decide +kernel
theorem dX5_leaf_24 : decode cX5_leaf 24 = .ok (.iconst 1, 1) := by decide +kernel
theorem dX5_leaf_25 : decode cX5_leaf 25 = .ok (.bipush 12, 2) := by decide +kernel
theorem dX5_leaf_27 : decode cX5_leaf 27 = .ok (.invokestatic 120, 3) := by decide +kernel
theorem dX5_leaf_30 : decode cX5_leaf 30 = .ok (.ifCond .eq 58, 3) := by decide +kernel
theorem dX5_leaf_33 : decode cX5_leaf 33 = .ok (.iload_n 3, 1) := by decide +kernel
theorem dX5_leaf_34 : decode cX5_leaf 34 = .ok (.ifCond .eq 15, 3) := by decide +kernel
theorem dX5_leaf_37 : decode cX5_leaf 37 = .ok (.iload_n 3, 1) := by decide +kernel
theorem dX5_leaf_38 : decode cX5_leaf 38 = .ok (.bipush 10, 2) := by decide +kernel
theorem dX5_leaf_40 : decode cX5_leaf 40 = .ok (.sipush 1000, 3) := by decide +kernel
theorem dX5_leaf_43 : decode cX5_leaf 43 = .ok (.invokestatic 120, 3) := by decide +kernel
theorem dX5_leaf_46 : decode cX5_leaf 46 = .ok (.ifCond .eq 42, 3) := by decide +kernel
theorem dX5_leaf_49 : decode cX5_leaf 49 = .ok (.iload 4, 2) := by decide +kernel
theorem dX5_leaf_51 : decode cX5_leaf 51 = .ok (.iload_n 3, 1) := by decide +kernel
theorem dX5_leaf_52 : decode cX5_leaf 52 = .ok (.sipush 1000, 3) := by decide +kernel
theorem dX5_leaf_55 : decode cX5_leaf 55 = .ok (.invokestatic 120, 3) := by decide +kernel
theorem dX5_leaf_58 : decode cX5_leaf 58 = .ok (.ifCond .eq 30, 3) := by decide +kernel
theorem dX5_leaf_61 : decode cX5_leaf 61 = .ok (.iload 5, 2) := by decide +kernel
theorem dX5_leaf_63 : decode cX5_leaf 63 = .ok (.sipush 1500, 3) := by decide +kernel
theorem dX5_leaf_66 : decode cX5_leaf 66 = .ok (.sipush 20000, 3) := by decide +kernel
theorem dX5_leaf_69 : decode cX5_leaf 69 = .ok (.invokestatic 120, 3) := by decide +kernel
theorem dX5_leaf_72 : decode cX5_leaf 72 = .ok (.ifCond .eq 16, 3) := by decide +kernel
theorem dX5_leaf_75 : decode cX5_leaf 75 = .ok (.iload 6, 2) := by decide +kernel
theorem dX5_leaf_77 : decode cX5_leaf 77 = .ok (.sipush 1500, 3) := by decide +kernel
theorem dX5_leaf_80 : decode cX5_leaf 80 = .ok (.ldc 131, 2) := by decide +kernel
theorem dX5_leaf_82 : decode cX5_leaf 82 = .ok (.invokestatic 120, 3) := by decide +kernel
theorem dX5_leaf_85 : decode cX5_leaf 85 = .ok (.ifCond .ne 5, 3) := by decide +kernel
theorem dX5_leaf_88 : decode cX5_leaf 88 = .ok (.iconst (-1), 1) := by decide +kernel
theorem dX5_leaf_89 : decode cX5_leaf 89 = .ok (.ireturn, 1) := by decide +kernel
theorem dX5_leaf_90 : decode cX5_leaf 90 = .ok (.iload_n 3, 1) := by decide +kernel
theorem dX5_leaf_91 : decode cX5_leaf 91 = .ok (.istore 7, 2) := by decide +kernel
theorem dX5_leaf_93 : decode cX5_leaf 93 = .ok (.iload_n 3, 1) := by decide +kernel
theorem dX5_leaf_94 : decode cX5_leaf 94 = .ok (.istore 8, 2) := by decide +kernel
theorem dX5_leaf_96 : decode cX5_leaf 96 = .ok (.iconst 0, 1) := by decide +kernel
theorem dX5_leaf_97 : decode cX5_leaf 97 = .ok (.istore 9, 2) := by decide +kernel
theorem dX5_leaf_99 : decode cX5_leaf 99 = .ok (.iload 9, 2) := by decide +kernel
theorem dX5_leaf_101 : decode cX5_leaf 101 = .ok (.aload_n 0, 1) := by decide +kernel
theorem dX5_leaf_102 : decode cX5_leaf 102 = .ok (.getfield 128, 3) := by decide +kernel
theorem dX5_leaf_105 : decode cX5_leaf 105 = .ok (.if_icmp .ge 48, 3) := by decide +kernel
theorem dX5_leaf_108 : decode cX5_leaf 108 = .ok (.iload 7, 2) := by decide +kernel
theorem dX5_leaf_110 : decode cX5_leaf 110 = .ok (.aload_n 0, 1) := by decide +kernel
theorem dX5_leaf_111 : decode cX5_leaf 111 = .ok (.getfield 30, 3) := by decide +kernel
theorem dX5_leaf_114 : decode cX5_leaf 114 = .ok (.iload 9, 2) := by decide +kernel
theorem dX5_leaf_116 : decode cX5_leaf 116 = .ok (.iaload, 1) := by decide +kernel
theorem dX5_leaf_117 : decode cX5_leaf 117 = .ok (.iadd, 1) := by decide +kernel
theorem dX5_leaf_118 : decode cX5_leaf 118 = .ok (.istore 7, 2) := by decide +kernel
theorem dX5_leaf_120 : decode cX5_leaf 120 = .ok (.iload 8, 2) := by decide +kernel
theorem dX5_leaf_122 : decode cX5_leaf 122 = .ok (.aload_n 0, 1) := by decide +kernel
theorem dX5_leaf_123 : decode cX5_leaf 123 = .ok (.getfield 24, 3) := by decide +kernel
theorem dX5_leaf_126 : decode cX5_leaf 126 = .ok (.iload 9, 2) := by decide +kernel
theorem dX5_leaf_128 : decode cX5_leaf 128 = .ok (.iaload, 1) := by decide +kernel
theorem dX5_leaf_129 : decode cX5_leaf 129 = .ok (.iload_n 1, 1) := by decide +kernel
theorem dX5_leaf_130 : decode cX5_leaf 130 = .ok (.if_icmp .ne 13, 3) := by decide +kernel
theorem dX5_leaf_133 : decode cX5_leaf 133 = .ok (.aload_n 0, 1) := by decide +kernel
theorem dX5_leaf_134 : decode cX5_leaf 134 = .ok (.getfield 30, 3) := by decide +kernel
theorem dX5_leaf_137 : decode cX5_leaf 137 = .ok (.iload 9, 2) := by decide +kernel
theorem dX5_leaf_139 : decode cX5_leaf 139 = .ok (.iaload, 1) := by decide +kernel
theorem dX5_leaf_140 : decode cX5_leaf 140 = .ok (.goto 4, 3) := by decide +kernel
theorem dX5_leaf_143 : decode cX5_leaf 143 = .ok (.iconst 0, 1) := by decide +kernel
theorem dX5_leaf_144 : decode cX5_leaf 144 = .ok (.iadd, 1) := by decide +kernel
theorem dX5_leaf_145 : decode cX5_leaf 145 = .ok (.istore 8, 2) := by decide +kernel
theorem dX5_leaf_147 : decode cX5_leaf 147 = .ok (.iinc 9 1, 3) := by decide +kernel
theorem dX5_leaf_150 : decode cX5_leaf 150 = .ok (.goto (-51), 3) := by decide +kernel
theorem dX5_leaf_153 : decode cX5_leaf 153 = .ok (.iload 7, 2) := by decide +kernel
theorem dX5_leaf_155 : decode cX5_leaf 155 = .ok (.sipush 1000, 3) := by decide +kernel
theorem dX5_leaf_158 : decode cX5_leaf 158 = .ok (.if_icmp .gt 17, 3) := by decide +kernel
theorem dX5_leaf_161 : decode cX5_leaf 161 = .ok (.iload 8, 2) := by decide +kernel
theorem dX5_leaf_163 : decode cX5_leaf 163 = .ok (.aload_n 0, 1) := by decide +kernel
theorem dX5_leaf_164 : decode cX5_leaf 164 = .ok (.getfield 76, 3) := by decide +kernel
theorem dX5_leaf_167 : decode cX5_leaf 167 = .ok (.bipush 8, 2) := by decide +kernel
theorem dX5_leaf_169 : decode cX5_leaf 169 = .ok (.iload_n 1, 1) := by decide +kernel
theorem dX5_leaf_170 : decode cX5_leaf 170 = .ok (.iadd, 1) := by decide +kernel
theorem dX5_leaf_171 : decode cX5_leaf 171 = .ok (.iaload, 1) := by decide +kernel
theorem dX5_leaf_172 : decode cX5_leaf 172 = .ok (.if_icmp .le 5, 3) := by decide +kernel
theorem dX5_leaf_175 : decode cX5_leaf 175 = .ok (.iconst (-1), 1) := by decide +kernel
theorem dX5_leaf_176 : decode cX5_leaf 176 = .ok (.ireturn, 1) := by decide +kernel
theorem dX5_leaf_177 : decode cX5_leaf 177 = .ok (.aload_n 0, 1) := by decide +kernel
theorem dX5_leaf_178 : decode cX5_leaf 178 = .ok (.getfield 128, 3) := by decide +kernel
theorem dX5_leaf_181 : decode cX5_leaf 181 = .ok (.istore 9, 2) := by decide +kernel
theorem dX5_leaf_183 : decode cX5_leaf 183 = .ok (.aload_n 0, 1) := by decide +kernel
theorem dX5_leaf_184 : decode cX5_leaf 184 = .ok (.getfield 24, 3) := by decide +kernel
theorem dX5_leaf_187 : decode cX5_leaf 187 = .ok (.iload 9, 2) := by decide +kernel
theorem dX5_leaf_189 : decode cX5_leaf 189 = .ok (.iload_n 1, 1) := by decide +kernel
theorem dX5_leaf_190 : decode cX5_leaf 190 = .ok (.iastore, 1) := by decide +kernel
theorem dX5_leaf_191 : decode cX5_leaf 191 = .ok (.aload_n 0, 1) := by decide +kernel
theorem dX5_leaf_192 : decode cX5_leaf 192 = .ok (.getfield 27, 3) := by decide +kernel
theorem dX5_leaf_195 : decode cX5_leaf 195 = .ok (.iload 9, 2) := by decide +kernel
theorem dX5_leaf_197 : decode cX5_leaf 197 = .ok (.iload_n 2, 1) := by decide +kernel
theorem dX5_leaf_198 : decode cX5_leaf 198 = .ok (.iastore, 1) := by decide +kernel
theorem dX5_leaf_199 : decode cX5_leaf 199 = .ok (.aload_n 0, 1) := by decide +kernel
theorem dX5_leaf_200 : decode cX5_leaf 200 = .ok (.getfield 30, 3) := by decide +kernel
theorem dX5_leaf_203 : decode cX5_leaf 203 = .ok (.iload 9, 2) := by decide +kernel
theorem dX5_leaf_205 : decode cX5_leaf 205 = .ok (.iload_n 3, 1) := by decide +kernel
theorem dX5_leaf_206 : decode cX5_leaf 206 = .ok (.iastore, 1) := by decide +kernel
theorem dX5_leaf_207 : decode cX5_leaf 207 = .ok (.aload_n 0, 1) := by decide +kernel
theorem dX5_leaf_208 : decode cX5_leaf 208 = .ok (.getfield 33, 3) := by decide +kernel
theorem dX5_leaf_211 : decode cX5_leaf 211 = .ok (.iload 9, 2) := by decide +kernel
theorem dX5_leaf_213 : decode cX5_leaf 213 = .ok (.iload 6, 2) := by decide +kernel
theorem dX5_leaf_215 : decode cX5_leaf 215 = .ok (.iastore, 1) := by decide +kernel
theorem dX5_leaf_216 : decode cX5_leaf 216 = .ok (.aload_n 0, 1) := by decide +kernel
theorem dX5_leaf_217 : decode cX5_leaf 217 = .ok (.getfield 36, 3) := by decide +kernel
theorem dX5_leaf_220 : decode cX5_leaf 220 = .ok (.iload 9, 2) := by decide +kernel
theorem dX5_leaf_222 : decode cX5_leaf 222 = .ok (.iconst (-1), 1) := by decide +kernel
theorem dX5_leaf_223 : decode cX5_leaf 223 = .ok (.iastore, 1) := by decide +kernel
theorem dX5_leaf_224 : decode cX5_leaf 224 = .ok (.aload_n 0, 1) := by decide +kernel
theorem dX5_leaf_225 : decode cX5_leaf 225 = .ok (.getfield 39, 3) := by decide +kernel
theorem dX5_leaf_228 : decode cX5_leaf 228 = .ok (.iload 9, 2) := by decide +kernel
theorem dX5_leaf_230 : decode cX5_leaf 230 = .ok (.iconst (-1), 1) := by decide +kernel
theorem dX5_leaf_231 : decode cX5_leaf 231 = .ok (.iastore, 1) := by decide +kernel
theorem dX5_leaf_232 : decode cX5_leaf 232 = .ok (.aload_n 0, 1) := by decide +kernel
theorem dX5_leaf_233 : decode cX5_leaf 233 = .ok (.iload 9, 2) := by decide +kernel
theorem dX5_leaf_235 : decode cX5_leaf 235 = .ok (.iload 4, 2) := by decide +kernel
theorem dX5_leaf_237 : decode cX5_leaf 237 = .ok (.iload 5, 2) := by decide +kernel
theorem dX5_leaf_239 : decode cX5_leaf 239 = .ok (.invokevirtual 124, 3) := by decide +kernel
theorem dX5_leaf_242 : decode cX5_leaf 242 = .ok (.aload_n 0, 1) := by decide +kernel
theorem dX5_leaf_243 : decode cX5_leaf 243 = .ok (.dup, 1) := by decide +kernel
theorem dX5_leaf_244 : decode cX5_leaf 244 = .ok (.getfield 128, 3) := by decide +kernel
theorem dX5_leaf_247 : decode cX5_leaf 247 = .ok (.iconst 1, 1) := by decide +kernel
theorem dX5_leaf_248 : decode cX5_leaf 248 = .ok (.iadd, 1) := by decide +kernel
theorem dX5_leaf_249 : decode cX5_leaf 249 = .ok (.putfield 128, 3) := by decide +kernel
theorem dX5_leaf_252 : decode cX5_leaf 252 = .ok (.iload 9, 2) := by decide +kernel
theorem dX5_leaf_254 : decode cX5_leaf 254 = .ok (.ireturn, 1) := by decide +kernel
set_option maxRecDepth 20000 in
theorem ggX5_police_X5_in : GoodIn wsX5_police wsX5_in := goodIn_r _ [7] (by decide +kernel) (by decide +kernel)
set_option maxRecDepth 20000 in
theorem gX5_police_X5_in : GoodIn wsX5_police (va_wsS RX5 120 yX5_in wsX5_in) := goodIn_app (goodIn_of _ (by decide +kernel)) ggX5_police_X5_in
set_option maxRecDepth 20000 in
theorem ggX5_police_X5_fill : GoodIn wsX5_police wsX5_fill := goodIn_r _ [11, 12, 13, 14, 15, 16, 17, 18, 19, 20, 21, 22, 23, 24, 25, 26, 27, 28, 29, 30, 31, 32, 33, 34, 35, 36, 37, 38, 39, 40, 41, 42, 43, 44, 45, 46, 47, 48, 49, 50, 51, 52, 53, 54, 55, 56, 57] (by decide +kernel) (by decide +kernel)
set_option maxRecDepth 20000 in
theorem gX5_police_X5_fill : GoodIn wsX5_police (wsV RX5 124 RX5 yX5_fill wsX5_fill) := goodIn_app (goodIn_of _ (by decide +kernel)) ggX5_police_X5_fill
theorem dX5_police_0 : decode cX5_police 0 = .ok (.iload_n 1, 1) := by decide +kernel
theorem dX5_police_1 : decode cX5_police 1 = .ok (.iconst 0, 1) := by decide +kernel
theorem dX5_police_2 : decode cX5_police 2 = .ok (.aload_n 0, 1) := by decide +kernel
theorem dX5_police_3 : decode cX5_police 3 = .ok (.getfield 128, 3) := by decide +kernel
theorem dX5_police_6 : decode cX5_police 6 = .ok (.iconst 1, 1) := by decide +kernel
theorem dX5_police_7 : decode cX5_police 7 = .ok (.isub, 1) := by decide +kernel
theorem dX5_police_8 : decode cX5_police 8 = .ok (.invokestatic 120, 3) := by decide +kernel
theorem dX5_police_11 : decode cX5_police 11 = .ok (.ifCond .eq 25, 3) := by decide +kernel
theorem dX5_police_14 : decode cX5_police 14 = .ok (.iload_n 2, 1) := by decide +kernel
theorem dX5_police_15 : decode cX5_police 15 = .ok (.iconst 0, 1) := by decide +kernel
theorem dX5_police_16 : decode cX5_police 16 = .ok (.sipush 1000, 3) := by decide +kernel
theorem dX5_police_19 : decode cX5_police 19 = .ok (.invokestatic 120, 3) := by decide +kernel
theorem dX5_police_22 : decode cX5_police 22 = .ok (.ifCond .eq 14, 3) := by decide +kernel
theorem dX5_police_25 : decode cX5_police 25 = .ok (.iload_n 3, 1) := by decide +kernel
theorem dX5_police_26 : decode cX5_police 26 = .ok (.iconst 0, 1) := by decide +kernel
theorem dX5_police_27 : decode cX5_police 27 = .ok (.sipush 20000, 3) := by decide +kernel
theorem dX5_police_30 : decode cX5_police 30 = .ok (.invokestatic 120, 3) := by decide +kernel
theorem dX5_police_33 : decode cX5_police 33 = .ok (.ifCond .ne 5, 3) := by decide +kernel
theorem dX5_police_36 : decode cX5_police 36 = .ok (.iconst 0, 1) := by decide +kernel
theorem dX5_police_37 : decode cX5_police 37 = .ok (.ireturn, 1) := by decide +kernel
theorem dX5_police_38 : decode cX5_police 38 = .ok (.aload_n 0, 1) := by decide +kernel
theorem dX5_police_39 : decode cX5_police 39 = .ok (.getfield 69, 3) := by decide +kernel
theorem dX5_police_42 : decode cX5_police 42 = .ok (.iload_n 1, 1) := by decide +kernel
theorem dX5_police_43 : decode cX5_police 43 = .ok (.iconst 1, 1) := by decide +kernel
theorem dX5_police_44 : decode cX5_police 44 = .ok (.bastore, 1) := by decide +kernel
theorem dX5_police_45 : decode cX5_police 45 = .ok (.aload_n 0, 1) := by decide +kernel
theorem dX5_police_46 : decode cX5_police 46 = .ok (.getfield 73, 3) := by decide +kernel
theorem dX5_police_49 : decode cX5_police 49 = .ok (.iload_n 1, 1) := by decide +kernel
theorem dX5_police_50 : decode cX5_police 50 = .ok (.iload 4, 2) := by decide +kernel
theorem dX5_police_52 : decode cX5_police 52 = .ok (.bastore, 1) := by decide +kernel
theorem dX5_police_53 : decode cX5_police 53 = .ok (.aload_n 0, 1) := by decide +kernel
theorem dX5_police_54 : decode cX5_police 54 = .ok (.bipush 12, 2) := by decide +kernel
theorem dX5_police_56 : decode cX5_police 56 = .ok (.iload_n 1, 1) := by decide +kernel
theorem dX5_police_57 : decode cX5_police 57 = .ok (.iadd, 1) := by decide +kernel
theorem dX5_police_58 : decode cX5_police 58 = .ok (.iload_n 2, 1) := by decide +kernel
theorem dX5_police_59 : decode cX5_police 59 = .ok (.iload_n 3, 1) := by decide +kernel
theorem dX5_police_60 : decode cX5_police 60 = .ok (.invokevirtual 124, 3) := by decide +kernel
theorem dX5_police_63 : decode cX5_police 63 = .ok (.iconst 1, 1) := by decide +kernel
theorem dX5_police_64 : decode cX5_police 64 = .ok (.ireturn, 1) := by decide +kernel
set_option maxRecDepth 20000 in
theorem ggX5_arrive_X5_in : GoodIn wsX5_arrive wsX5_in := goodIn_r _ [31] (by decide +kernel) (by decide +kernel)
set_option maxRecDepth 20000 in
theorem gX5_arrive_X5_in : GoodIn wsX5_arrive (va_wsS RX5 120 yX5_in wsX5_in) := goodIn_app (goodIn_of _ (by decide +kernel)) ggX5_arrive_X5_in
theorem dX5_arrive_0 : decode cX5_arrive 0 = .ok (.iload_n 1, 1) := by decide +kernel
theorem dX5_arrive_1 : decode cX5_arrive 1 = .ok (.iconst 0, 1) := by decide +kernel
theorem dX5_arrive_2 : decode cX5_arrive 2 = .ok (.aload_n 0, 1) := by decide +kernel
theorem dX5_arrive_3 : decode cX5_arrive 3 = .ok (.getfield 128, 3) := by decide +kernel
theorem dX5_arrive_6 : decode cX5_arrive 6 = .ok (.iconst 1, 1) := by decide +kernel
theorem dX5_arrive_7 : decode cX5_arrive 7 = .ok (.isub, 1) := by decide +kernel
theorem dX5_arrive_8 : decode cX5_arrive 8 = .ok (.invokestatic 120, 3) := by decide +kernel
theorem dX5_arrive_11 : decode cX5_arrive 11 = .ok (.ifCond .eq 25, 3) := by decide +kernel
theorem dX5_arrive_14 : decode cX5_arrive 14 = .ok (.iload_n 2, 1) := by decide +kernel
theorem dX5_arrive_15 : decode cX5_arrive 15 = .ok (.bipush 64, 2) := by decide +kernel
theorem dX5_arrive_17 : decode cX5_arrive 17 = .ok (.sipush 1500, 3) := by decide +kernel
theorem dX5_arrive_20 : decode cX5_arrive 20 = .ok (.invokestatic 120, 3) := by decide +kernel
theorem dX5_arrive_23 : decode cX5_arrive 23 = .ok (.ifCond .eq 13, 3) := by decide +kernel
theorem dX5_arrive_26 : decode cX5_arrive 26 = .ok (.aload_n 0, 1) := by decide +kernel
theorem dX5_arrive_27 : decode cX5_arrive 27 = .ok (.getfield 132, 3) := by decide +kernel
theorem dX5_arrive_30 : decode cX5_arrive 30 = .ok (.sipush 1000, 3) := by decide +kernel
theorem dX5_arrive_33 : decode cX5_arrive 33 = .ok (.if_icmp .ne 5, 3) := by decide +kernel
theorem dX5_arrive_36 : decode cX5_arrive 36 = .ok (.iconst (-1), 1) := by decide +kernel
theorem dX5_arrive_37 : decode cX5_arrive 37 = .ok (.ireturn, 1) := by decide +kernel
theorem dX5_arrive_38 : decode cX5_arrive 38 = .ok (.iconst 0, 1) := by decide +kernel
theorem dX5_arrive_39 : decode cX5_arrive 39 = .ok (.istore_n 3, 1) := by decide +kernel
theorem dX5_arrive_40 : decode cX5_arrive 40 = .ok (.aload_n 0, 1) := by decide +kernel
theorem dX5_arrive_41 : decode cX5_arrive 41 = .ok (.getfield 69, 3) := by decide +kernel
theorem dX5_arrive_44 : decode cX5_arrive 44 = .ok (.iload_n 1, 1) := by decide +kernel
theorem dX5_arrive_45 : decode cX5_arrive 45 = .ok (.baload, 1) := by decide +kernel
theorem dX5_arrive_46 : decode cX5_arrive 46 = .ok (.ifCond .eq 70, 3) := by decide +kernel
theorem dX5_arrive_49 : decode cX5_arrive 49 = .ok (.aload_n 0, 1) := by decide +kernel
theorem dX5_arrive_50 : decode cX5_arrive 50 = .ok (.getfield 82, 3) := by decide +kernel
theorem dX5_arrive_53 : decode cX5_arrive 53 = .ok (.bipush 12, 2) := by decide +kernel
theorem dX5_arrive_55 : decode cX5_arrive 55 = .ok (.iload_n 1, 1) := by decide +kernel
theorem dX5_arrive_56 : decode cX5_arrive 56 = .ok (.iadd, 1) := by decide +kernel
theorem dX5_arrive_57 : decode cX5_arrive 57 = .ok (.laload, 1) := by decide +kernel
theorem dX5_arrive_58 : decode cX5_arrive 58 = .ok (.ldc2_w 115, 3) := by decide +kernel
theorem dX5_arrive_61 : decode cX5_arrive 61 = .ok (.iload_n 2, 1) := by decide +kernel
theorem dX5_arrive_62 : decode cX5_arrive 62 = .ok (.i2l, 1) := by decide +kernel
theorem dX5_arrive_63 : decode cX5_arrive 63 = .ok (.lmul, 1) := by decide +kernel
theorem dX5_arrive_64 : decode cX5_arrive 64 = .ok (.lcmp, 1) := by decide +kernel
theorem dX5_arrive_65 : decode cX5_arrive 65 = .ok (.ifCond .lt 24, 3) := by decide +kernel
theorem dX5_arrive_68 : decode cX5_arrive 68 = .ok (.aload_n 0, 1) := by decide +kernel
theorem dX5_arrive_69 : decode cX5_arrive 69 = .ok (.getfield 82, 3) := by decide +kernel
theorem dX5_arrive_72 : decode cX5_arrive 72 = .ok (.bipush 12, 2) := by decide +kernel
theorem dX5_arrive_74 : decode cX5_arrive 74 = .ok (.iload_n 1, 1) := by decide +kernel
theorem dX5_arrive_75 : decode cX5_arrive 75 = .ok (.iadd, 1) := by decide +kernel
theorem dX5_arrive_76 : decode cX5_arrive 76 = .ok (.dup2, 1) := by decide +kernel
theorem dX5_arrive_77 : decode cX5_arrive 77 = .ok (.laload, 1) := by decide +kernel
theorem dX5_arrive_78 : decode cX5_arrive 78 = .ok (.ldc2_w 115, 3) := by decide +kernel
theorem dX5_arrive_81 : decode cX5_arrive 81 = .ok (.iload_n 2, 1) := by decide +kernel
theorem dX5_arrive_82 : decode cX5_arrive 82 = .ok (.i2l, 1) := by decide +kernel
theorem dX5_arrive_83 : decode cX5_arrive 83 = .ok (.lmul, 1) := by decide +kernel
theorem dX5_arrive_84 : decode cX5_arrive 84 = .ok (.lsub, 1) := by decide +kernel
theorem dX5_arrive_85 : decode cX5_arrive 85 = .ok (.lastore, 1) := by decide +kernel
theorem dX5_arrive_86 : decode cX5_arrive 86 = .ok (.goto 30, 3) := by decide +kernel
theorem dX5_arrive_89 : decode cX5_arrive 89 = .ok (.aload_n 0, 1) := by decide +kernel
theorem dX5_arrive_90 : decode cX5_arrive 90 = .ok (.getfield 73, 3) := by decide +kernel
theorem dX5_arrive_93 : decode cX5_arrive 93 = .ok (.iload_n 1, 1) := by decide +kernel
theorem dX5_arrive_94 : decode cX5_arrive 94 = .ok (.baload, 1) := by decide +kernel
theorem dX5_arrive_95 : decode cX5_arrive 95 = .ok (.ifCond .eq 8, 3) := by decide +kernel
theorem dX5_arrive_98 : decode cX5_arrive 98 = .ok (.iconst 1, 1) := by decide +kernel
theorem dX5_arrive_99 : decode cX5_arrive 99 = .ok (.istore_n 3, 1) := by decide +kernel
theorem dX5_arrive_100 : decode cX5_arrive 100 = .ok (.goto 16, 3) := by decide +kernel
theorem dX5_arrive_103 : decode cX5_arrive 103 = .ok (.aload_n 0, 1) := by decide +kernel
theorem dX5_arrive_104 : decode cX5_arrive 104 = .ok (.getfield 54, 3) := by decide +kernel
theorem dX5_arrive_107 : decode cX5_arrive 107 = .ok (.iload_n 1, 1) := by decide +kernel
theorem dX5_arrive_108 : decode cX5_arrive 108 = .ok (.dup2, 1) := by decide +kernel
theorem dX5_arrive_109 : decode cX5_arrive 109 = .ok (.iaload, 1) := by decide +kernel
theorem dX5_arrive_110 : decode cX5_arrive 110 = .ok (.iconst 1, 1) := by decide +kernel
theorem dX5_arrive_111 : decode cX5_arrive 111 = .ok (.iadd, 1) := by decide +kernel
theorem dX5_arrive_112 : decode cX5_arrive 112 = .ok (.iastore, 1) := by decide +kernel
theorem dX5_arrive_113 : decode cX5_arrive 113 = .ok (.bipush (-2), 2) := by decide +kernel
theorem dX5_arrive_115 : decode cX5_arrive 115 = .ok (.ireturn, 1) := by decide +kernel
theorem dX5_arrive_116 : decode cX5_arrive 116 = .ok (.aload_n 0, 1) := by decide +kernel
theorem dX5_arrive_117 : decode cX5_arrive 117 = .ok (.getfield 45, 3) := by decide +kernel
theorem dX5_arrive_120 : decode cX5_arrive 120 = .ok (.iload_n 1, 1) := by decide +kernel
theorem dX5_arrive_121 : decode cX5_arrive 121 = .ok (.iaload, 1) := by decide +kernel
theorem dX5_arrive_122 : decode cX5_arrive 122 = .ok (.iload_n 2, 1) := by decide +kernel
theorem dX5_arrive_123 : decode cX5_arrive 123 = .ok (.iadd, 1) := by decide +kernel
theorem dX5_arrive_124 : decode cX5_arrive 124 = .ok (.aload_n 0, 1) := by decide +kernel
theorem dX5_arrive_125 : decode cX5_arrive 125 = .ok (.getfield 33, 3) := by decide +kernel
theorem dX5_arrive_128 : decode cX5_arrive 128 = .ok (.iload_n 1, 1) := by decide +kernel
theorem dX5_arrive_129 : decode cX5_arrive 129 = .ok (.iaload, 1) := by decide +kernel
theorem dX5_arrive_130 : decode cX5_arrive 130 = .ok (.if_icmp .le 16, 3) := by decide +kernel
theorem dX5_arrive_133 : decode cX5_arrive 133 = .ok (.aload_n 0, 1) := by decide +kernel
theorem dX5_arrive_134 : decode cX5_arrive 134 = .ok (.getfield 57, 3) := by decide +kernel
theorem dX5_arrive_137 : decode cX5_arrive 137 = .ok (.iload_n 1, 1) := by decide +kernel
theorem dX5_arrive_138 : decode cX5_arrive 138 = .ok (.dup2, 1) := by decide +kernel
theorem dX5_arrive_139 : decode cX5_arrive 139 = .ok (.iaload, 1) := by decide +kernel
theorem dX5_arrive_140 : decode cX5_arrive 140 = .ok (.iconst 1, 1) := by decide +kernel
theorem dX5_arrive_141 : decode cX5_arrive 141 = .ok (.iadd, 1) := by decide +kernel
theorem dX5_arrive_142 : decode cX5_arrive 142 = .ok (.iastore, 1) := by decide +kernel
theorem dX5_arrive_143 : decode cX5_arrive 143 = .ok (.bipush (-3), 2) := by decide +kernel
theorem dX5_arrive_145 : decode cX5_arrive 145 = .ok (.ireturn, 1) := by decide +kernel
theorem dX5_arrive_146 : decode cX5_arrive 146 = .ok (.aload_n 0, 1) := by decide +kernel
theorem dX5_arrive_147 : decode cX5_arrive 147 = .ok (.getfield 24, 3) := by decide +kernel
theorem dX5_arrive_150 : decode cX5_arrive 150 = .ok (.iload_n 1, 1) := by decide +kernel
theorem dX5_arrive_151 : decode cX5_arrive 151 = .ok (.iaload, 1) := by decide +kernel
theorem dX5_arrive_152 : decode cX5_arrive 152 = .ok (.istore 4, 2) := by decide +kernel
theorem dX5_arrive_154 : decode cX5_arrive 154 = .ok (.aload_n 0, 1) := by decide +kernel
theorem dX5_arrive_155 : decode cX5_arrive 155 = .ok (.getfield 42, 3) := by decide +kernel
theorem dX5_arrive_158 : decode cX5_arrive 158 = .ok (.iload_n 1, 1) := by decide +kernel
theorem dX5_arrive_159 : decode cX5_arrive 159 = .ok (.iaload, 1) := by decide +kernel
theorem dX5_arrive_160 : decode cX5_arrive 160 = .ok (.ifCond .ne 128, 3) := by decide +kernel
theorem dX5_arrive_163 : decode cX5_arrive 163 = .ok (.aload_n 0, 1) := by decide +kernel
theorem dX5_arrive_164 : decode cX5_arrive 164 = .ok (.getfield 66, 3) := by decide +kernel
theorem dX5_arrive_167 : decode cX5_arrive 167 = .ok (.iload_n 1, 1) := by decide +kernel
theorem dX5_arrive_168 : decode cX5_arrive 168 = .ok (.aload_n 0, 1) := by decide +kernel
theorem dX5_arrive_169 : decode cX5_arrive 169 = .ok (.getfield 66, 3) := by decide +kernel
theorem dX5_arrive_172 : decode cX5_arrive 172 = .ok (.iload_n 1, 1) := by decide +kernel
theorem dX5_arrive_173 : decode cX5_arrive 173 = .ok (.laload, 1) := by decide +kernel
theorem dX5_arrive_174 : decode cX5_arrive 174 = .ok (.aload_n 0, 1) := by decide +kernel
theorem dX5_arrive_175 : decode cX5_arrive 175 = .ok (.getfield 21, 3) := by decide +kernel
theorem dX5_arrive_178 : decode cX5_arrive 178 = .ok (.iload 4, 2) := by decide +kernel
theorem dX5_arrive_180 : decode cX5_arrive 180 = .ok (.laload, 1) := by decide +kernel
theorem dX5_arrive_181 : decode cX5_arrive 181 = .ok (.lcmp, 1) := by decide +kernel
theorem dX5_arrive_182 : decode cX5_arrive 182 = .ok (.ifCond .ge 13, 3) := by decide +kernel
theorem dX5_arrive_185 : decode cX5_arrive 185 = .ok (.aload_n 0, 1) := by decide +kernel
theorem dX5_arrive_186 : decode cX5_arrive 186 = .ok (.getfield 21, 3) := by decide +kernel
theorem dX5_arrive_189 : decode cX5_arrive 189 = .ok (.iload 4, 2) := by decide +kernel
theorem dX5_arrive_191 : decode cX5_arrive 191 = .ok (.laload, 1) := by decide +kernel
theorem dX5_arrive_192 : decode cX5_arrive 192 = .ok (.goto 9, 3) := by decide +kernel
theorem dX5_arrive_195 : decode cX5_arrive 195 = .ok (.aload_n 0, 1) := by decide +kernel
theorem dX5_arrive_196 : decode cX5_arrive 196 = .ok (.getfield 66, 3) := by decide +kernel
theorem dX5_arrive_199 : decode cX5_arrive 199 = .ok (.iload_n 1, 1) := by decide +kernel
theorem dX5_arrive_200 : decode cX5_arrive 200 = .ok (.laload, 1) := by decide +kernel
theorem dX5_arrive_201 : decode cX5_arrive 201 = .ok (.lastore, 1) := by decide +kernel
theorem dX5_arrive_202 : decode cX5_arrive 202 = .ok (.iconst 1, 1) := by decide +kernel
theorem dX5_arrive_203 : decode cX5_arrive 203 = .ok (.istore 5, 2) := by decide +kernel
theorem dX5_arrive_205 : decode cX5_arrive 205 = .ok (.iconst 0, 1) := by decide +kernel
theorem dX5_arrive_206 : decode cX5_arrive 206 = .ok (.istore 6, 2) := by decide +kernel
theorem dX5_arrive_208 : decode cX5_arrive 208 = .ok (.iload 6, 2) := by decide +kernel
theorem dX5_arrive_210 : decode cX5_arrive 210 = .ok (.aload_n 0, 1) := by decide +kernel
theorem dX5_arrive_211 : decode cX5_arrive 211 = .ok (.getfield 128, 3) := by decide +kernel
theorem dX5_arrive_214 : decode cX5_arrive 214 = .ok (.if_icmp .ge 43, 3) := by decide +kernel
theorem dX5_arrive_217 : decode cX5_arrive 217 = .ok (.iload 5, 2) := by decide +kernel
theorem dX5_arrive_219 : decode cX5_arrive 219 = .ok (.ifCond .eq 29, 3) := by decide +kernel
theorem dX5_arrive_222 : decode cX5_arrive 222 = .ok (.aload_n 0, 1) := by decide +kernel
theorem dX5_arrive_223 : decode cX5_arrive 223 = .ok (.getfield 24, 3) := by decide +kernel
theorem dX5_arrive_226 : decode cX5_arrive 226 = .ok (.iload 6, 2) := by decide +kernel
theorem dX5_arrive_228 : decode cX5_arrive 228 = .ok (.iaload, 1) := by decide +kernel
theorem dX5_arrive_229 : decode cX5_arrive 229 = .ok (.iload 4, 2) := by decide +kernel
theorem dX5_arrive_231 : decode cX5_arrive 231 = .ok (.if_icmp .ne 13, 3) := by decide +kernel
theorem dX5_arrive_234 : decode cX5_arrive 234 = .ok (.aload_n 0, 1) := by decide +kernel
theorem dX5_arrive_235 : decode cX5_arrive 235 = .ok (.getfield 42, 3) := by decide +kernel
theorem dX5_arrive_238 : decode cX5_arrive 238 = .ok (.iload 6, 2) := by decide +kernel
theorem dX5_arrive_240 : decode cX5_arrive 240 = .ok (.iaload, 1) := by decide +kernel
theorem dX5_arrive_241 : decode cX5_arrive 241 = .ok (.ifCond .ne 7, 3) := by decide +kernel
theorem dX5_arrive_244 : decode cX5_arrive 244 = .ok (.iconst 1, 1) := by decide +kernel
theorem dX5_arrive_245 : decode cX5_arrive 245 = .ok (.goto 4, 3) := by decide +kernel
theorem dX5_arrive_248 : decode cX5_arrive 248 = .ok (.iconst 0, 1) := by decide +kernel
theorem dX5_arrive_249 : decode cX5_arrive 249 = .ok (.istore 5, 2) := by decide +kernel
theorem dX5_arrive_251 : decode cX5_arrive 251 = .ok (.iinc 6 1, 3) := by decide +kernel
theorem dX5_arrive_254 : decode cX5_arrive 254 = .ok (.goto (-46), 3) := by decide +kernel
theorem dX5_arrive_257 : decode cX5_arrive 257 = .ok (.iload 5, 2) := by decide +kernel
theorem dX5_arrive_259 : decode cX5_arrive 259 = .ok (.ifCond .eq 29, 3) := by decide +kernel
theorem dX5_arrive_262 : decode cX5_arrive 262 = .ok (.aload_n 0, 1) := by decide +kernel
theorem dX5_arrive_263 : decode cX5_arrive 263 = .ok (.getfield 17, 3) := by decide +kernel
theorem dX5_arrive_266 : decode cX5_arrive 266 = .ok (.iload 4, 2) := by decide +kernel
theorem dX5_arrive_268 : decode cX5_arrive 268 = .ok (.laload, 1) := by decide +kernel
theorem dX5_arrive_269 : decode cX5_arrive 269 = .ok (.aload_n 0, 1) := by decide +kernel
theorem dX5_arrive_270 : decode cX5_arrive 270 = .ok (.getfield 135, 3) := by decide +kernel
theorem dX5_arrive_273 : decode cX5_arrive 273 = .ok (.lcmp, 1) := by decide +kernel
theorem dX5_arrive_274 : decode cX5_arrive 274 = .ok (.ifCond .ge 14, 3) := by decide +kernel
theorem dX5_arrive_277 : decode cX5_arrive 277 = .ok (.aload_n 0, 1) := by decide +kernel
theorem dX5_arrive_278 : decode cX5_arrive 278 = .ok (.getfield 17, 3) := by decide +kernel
theorem dX5_arrive_281 : decode cX5_arrive 281 = .ok (.iload 4, 2) := by decide +kernel
theorem dX5_arrive_283 : decode cX5_arrive 283 = .ok (.aload_n 0, 1) := by decide +kernel
theorem dX5_arrive_284 : decode cX5_arrive 284 = .ok (.getfield 135, 3) := by decide +kernel
theorem dX5_arrive_287 : decode cX5_arrive 287 = .ok (.lastore, 1) := by decide +kernel
theorem dX5_arrive_288 : decode cX5_arrive 288 = .ok (.aload_n 0, 1) := by decide +kernel
theorem dX5_arrive_289 : decode cX5_arrive 289 = .ok (.getfield 132, 3) := by decide +kernel
theorem dX5_arrive_292 : decode cX5_arrive 292 = .ok (.istore 5, 2) := by decide +kernel
theorem dX5_arrive_294 : decode cX5_arrive 294 = .ok (.aload_n 0, 1) := by decide +kernel
theorem dX5_arrive_295 : decode cX5_arrive 295 = .ok (.getfield 85, 3) := by decide +kernel
theorem dX5_arrive_298 : decode cX5_arrive 298 = .ok (.iload 5, 2) := by decide +kernel
theorem dX5_arrive_300 : decode cX5_arrive 300 = .ok (.iload_n 1, 1) := by decide +kernel
theorem dX5_arrive_301 : decode cX5_arrive 301 = .ok (.iastore, 1) := by decide +kernel
theorem dX5_arrive_302 : decode cX5_arrive 302 = .ok (.aload_n 0, 1) := by decide +kernel
theorem dX5_arrive_303 : decode cX5_arrive 303 = .ok (.getfield 88, 3) := by decide +kernel
theorem dX5_arrive_306 : decode cX5_arrive 306 = .ok (.iload 5, 2) := by decide +kernel
theorem dX5_arrive_308 : decode cX5_arrive 308 = .ok (.iload_n 2, 1) := by decide +kernel
theorem dX5_arrive_309 : decode cX5_arrive 309 = .ok (.iastore, 1) := by decide +kernel
theorem dX5_arrive_310 : decode cX5_arrive 310 = .ok (.aload_n 0, 1) := by decide +kernel
theorem dX5_arrive_311 : decode cX5_arrive 311 = .ok (.getfield 91, 3) := by decide +kernel
theorem dX5_arrive_314 : decode cX5_arrive 314 = .ok (.iload 5, 2) := by decide +kernel
theorem dX5_arrive_316 : decode cX5_arrive 316 = .ok (.aload_n 0, 1) := by decide +kernel
theorem dX5_arrive_317 : decode cX5_arrive 317 = .ok (.getfield 139, 3) := by decide +kernel
theorem dX5_arrive_320 : decode cX5_arrive 320 = .ok (.iastore, 1) := by decide +kernel
theorem dX5_arrive_321 : decode cX5_arrive 321 = .ok (.aload_n 0, 1) := by decide +kernel
theorem dX5_arrive_322 : decode cX5_arrive 322 = .ok (.getfield 94, 3) := by decide +kernel
theorem dX5_arrive_325 : decode cX5_arrive 325 = .ok (.iload 5, 2) := by decide +kernel
theorem dX5_arrive_327 : decode cX5_arrive 327 = .ok (.iconst (-1), 1) := by decide +kernel
theorem dX5_arrive_328 : decode cX5_arrive 328 = .ok (.iastore, 1) := by decide +kernel
theorem dX5_arrive_329 : decode cX5_arrive 329 = .ok (.aload_n 0, 1) := by decide +kernel
theorem dX5_arrive_330 : decode cX5_arrive 330 = .ok (.getfield 97, 3) := by decide +kernel
theorem dX5_arrive_333 : decode cX5_arrive 333 = .ok (.iload 5, 2) := by decide +kernel
theorem dX5_arrive_335 : decode cX5_arrive 335 = .ok (.iconst 0, 1) := by decide +kernel
theorem dX5_arrive_336 : decode cX5_arrive 336 = .ok (.iastore, 1) := by decide +kernel
theorem dX5_arrive_337 : decode cX5_arrive 337 = .ok (.aload_n 0, 1) := by decide +kernel
theorem dX5_arrive_338 : decode cX5_arrive 338 = .ok (.getfield 100, 3) := by decide +kernel
theorem dX5_arrive_341 : decode cX5_arrive 341 = .ok (.iload 5, 2) := by decide +kernel
theorem dX5_arrive_343 : decode cX5_arrive 343 = .ok (.iconst (-1), 1) := by decide +kernel
theorem dX5_arrive_344 : decode cX5_arrive 344 = .ok (.iastore, 1) := by decide +kernel
theorem dX5_arrive_345 : decode cX5_arrive 345 = .ok (.aload_n 0, 1) := by decide +kernel
theorem dX5_arrive_346 : decode cX5_arrive 346 = .ok (.getfield 103, 3) := by decide +kernel
theorem dX5_arrive_349 : decode cX5_arrive 349 = .ok (.iload 5, 2) := by decide +kernel
theorem dX5_arrive_351 : decode cX5_arrive 351 = .ok (.iconst (-1), 1) := by decide +kernel
theorem dX5_arrive_352 : decode cX5_arrive 352 = .ok (.iastore, 1) := by decide +kernel
theorem dX5_arrive_353 : decode cX5_arrive 353 = .ok (.aload_n 0, 1) := by decide +kernel
theorem dX5_arrive_354 : decode cX5_arrive 354 = .ok (.getfield 109, 3) := by decide +kernel
theorem dX5_arrive_357 : decode cX5_arrive 357 = .ok (.iload 5, 2) := by decide +kernel
theorem dX5_arrive_359 : decode cX5_arrive 359 = .ok (.iload_n 3, 1) := by decide +kernel
theorem dX5_arrive_360 : decode cX5_arrive 360 = .ok (.bastore, 1) := by decide +kernel
theorem dX5_arrive_361 : decode cX5_arrive 361 = .ok (.aload_n 0, 1) := by decide +kernel
theorem dX5_arrive_362 : decode cX5_arrive 362 = .ok (.getfield 42, 3) := by decide +kernel
theorem dX5_arrive_365 : decode cX5_arrive 365 = .ok (.iload_n 1, 1) := by decide +kernel
theorem dX5_arrive_366 : decode cX5_arrive 366 = .ok (.iaload, 1) := by decide +kernel
theorem dX5_arrive_367 : decode cX5_arrive 367 = .ok (.ifCond .ne 14, 3) := by decide +kernel
theorem dX5_arrive_370 : decode cX5_arrive 370 = .ok (.aload_n 0, 1) := by decide +kernel
theorem dX5_arrive_371 : decode cX5_arrive 371 = .ok (.getfield 36, 3) := by decide +kernel
theorem dX5_arrive_374 : decode cX5_arrive 374 = .ok (.iload_n 1, 1) := by decide +kernel
theorem dX5_arrive_375 : decode cX5_arrive 375 = .ok (.iload 5, 2) := by decide +kernel
theorem dX5_arrive_377 : decode cX5_arrive 377 = .ok (.iastore, 1) := by decide +kernel
theorem dX5_arrive_378 : decode cX5_arrive 378 = .ok (.goto 16, 3) := by decide +kernel
theorem dX5_arrive_381 : decode cX5_arrive 381 = .ok (.aload_n 0, 1) := by decide +kernel
theorem dX5_arrive_382 : decode cX5_arrive 382 = .ok (.getfield 103, 3) := by decide +kernel
theorem dX5_arrive_385 : decode cX5_arrive 385 = .ok (.aload_n 0, 1) := by decide +kernel
theorem dX5_arrive_386 : decode cX5_arrive 386 = .ok (.getfield 39, 3) := by decide +kernel
theorem dX5_arrive_389 : decode cX5_arrive 389 = .ok (.iload_n 1, 1) := by decide +kernel
theorem dX5_arrive_390 : decode cX5_arrive 390 = .ok (.iaload, 1) := by decide +kernel
theorem dX5_arrive_391 : decode cX5_arrive 391 = .ok (.iload 5, 2) := by decide +kernel
theorem dX5_arrive_393 : decode cX5_arrive 393 = .ok (.iastore, 1) := by decide +kernel
theorem dX5_arrive_394 : decode cX5_arrive 394 = .ok (.aload_n 0, 1) := by decide +kernel
theorem dX5_arrive_395 : decode cX5_arrive 395 = .ok (.getfield 39, 3) := by decide +kernel
theorem dX5_arrive_398 : decode cX5_arrive 398 = .ok (.iload_n 1, 1) := by decide +kernel
theorem dX5_arrive_399 : decode cX5_arrive 399 = .ok (.iload 5, 2) := by decide +kernel
theorem dX5_arrive_401 : decode cX5_arrive 401 = .ok (.iastore, 1) := by decide +kernel
theorem dX5_arrive_402 : decode cX5_arrive 402 = .ok (.aload_n 0, 1) := by decide +kernel
theorem dX5_arrive_403 : decode cX5_arrive 403 = .ok (.getfield 42, 3) := by decide +kernel
theorem dX5_arrive_406 : decode cX5_arrive 406 = .ok (.iload_n 1, 1) := by decide +kernel
theorem dX5_arrive_407 : decode cX5_arrive 407 = .ok (.dup2, 1) := by decide +kernel
theorem dX5_arrive_408 : decode cX5_arrive 408 = .ok (.iaload, 1) := by decide +kernel
theorem dX5_arrive_409 : decode cX5_arrive 409 = .ok (.iconst 1, 1) := by decide +kernel
theorem dX5_arrive_410 : decode cX5_arrive 410 = .ok (.iadd, 1) := by decide +kernel
theorem dX5_arrive_411 : decode cX5_arrive 411 = .ok (.iastore, 1) := by decide +kernel
theorem dX5_arrive_412 : decode cX5_arrive 412 = .ok (.aload_n 0, 1) := by decide +kernel
theorem dX5_arrive_413 : decode cX5_arrive 413 = .ok (.getfield 45, 3) := by decide +kernel
theorem dX5_arrive_416 : decode cX5_arrive 416 = .ok (.iload_n 1, 1) := by decide +kernel
theorem dX5_arrive_417 : decode cX5_arrive 417 = .ok (.dup2, 1) := by decide +kernel
theorem dX5_arrive_418 : decode cX5_arrive 418 = .ok (.iaload, 1) := by decide +kernel
theorem dX5_arrive_419 : decode cX5_arrive 419 = .ok (.iload_n 2, 1) := by decide +kernel
theorem dX5_arrive_420 : decode cX5_arrive 420 = .ok (.iadd, 1) := by decide +kernel
theorem dX5_arrive_421 : decode cX5_arrive 421 = .ok (.iastore, 1) := by decide +kernel
theorem dX5_arrive_422 : decode cX5_arrive 422 = .ok (.aload_n 0, 1) := by decide +kernel
theorem dX5_arrive_423 : decode cX5_arrive 423 = .ok (.dup, 1) := by decide +kernel
theorem dX5_arrive_424 : decode cX5_arrive 424 = .ok (.getfield 132, 3) := by decide +kernel
theorem dX5_arrive_427 : decode cX5_arrive 427 = .ok (.iconst 1, 1) := by decide +kernel
theorem dX5_arrive_428 : decode cX5_arrive 428 = .ok (.iadd, 1) := by decide +kernel
theorem dX5_arrive_429 : decode cX5_arrive 429 = .ok (.putfield 132, 3) := by decide +kernel
theorem dX5_arrive_432 : decode cX5_arrive 432 = .ok (.iload 5, 2) := by decide +kernel
theorem dX5_arrive_434 : decode cX5_arrive 434 = .ok (.ireturn, 1) := by decide +kernel
theorem dX5_passes_0 : decode cX5_passes 0 = .ok (.aload_n 0, 1) := by decide +kernel
theorem dX5_passes_1 : decode cX5_passes 1 = .ok (.dup, 1) := by decide +kernel
theorem dX5_passes_2 : decode cX5_passes 2 = .ok (.getfield 139, 3) := by decide +kernel
theorem dX5_passes_5 : decode cX5_passes 5 = .ok (.iload_n 1, 1) := by decide +kernel
theorem dX5_passes_6 : decode cX5_passes 6 = .ok (.iadd, 1) := by decide +kernel
theorem dX5_passes_7 : decode cX5_passes 7 = .ok (.putfield 139, 3) := by decide +kernel
theorem dX5_passes_10 : decode cX5_passes 10 = .ok (.iconst 0, 1) := by decide +kernel
theorem dX5_passes_11 : decode cX5_passes 11 = .ok (.istore_n 2, 1) := by decide +kernel
theorem dX5_passes_12 : decode cX5_passes 12 = .ok (.iload_n 2, 1) := by decide +kernel
theorem dX5_passes_13 : decode cX5_passes 13 = .ok (.bipush 20, 2) := by decide +kernel
theorem dX5_passes_15 : decode cX5_passes 15 = .ok (.if_icmp .ge 59, 3) := by decide +kernel
theorem dX5_passes_18 : decode cX5_passes 18 = .ok (.ldc2_w 115, 3) := by decide +kernel
theorem dX5_passes_21 : decode cX5_passes 21 = .ok (.aload_n 0, 1) := by decide +kernel
theorem dX5_passes_22 : decode cX5_passes 22 = .ok (.getfield 79, 3) := by decide +kernel
theorem dX5_passes_25 : decode cX5_passes 25 = .ok (.iload_n 2, 1) := by decide +kernel
theorem dX5_passes_26 : decode cX5_passes 26 = .ok (.iaload, 1) := by decide +kernel
theorem dX5_passes_27 : decode cX5_passes 27 = .ok (.i2l, 1) := by decide +kernel
theorem dX5_passes_28 : decode cX5_passes 28 = .ok (.lmul, 1) := by decide +kernel
theorem dX5_passes_29 : decode cX5_passes 29 = .ok (.lstore_n 3, 1) := by decide +kernel
theorem dX5_passes_30 : decode cX5_passes 30 = .ok (.aload_n 0, 1) := by decide +kernel
theorem dX5_passes_31 : decode cX5_passes 31 = .ok (.getfield 82, 3) := by decide +kernel
theorem dX5_passes_34 : decode cX5_passes 34 = .ok (.iload_n 2, 1) := by decide +kernel
theorem dX5_passes_35 : decode cX5_passes 35 = .ok (.laload, 1) := by decide +kernel
theorem dX5_passes_36 : decode cX5_passes 36 = .ok (.aload_n 0, 1) := by decide +kernel
theorem dX5_passes_37 : decode cX5_passes 37 = .ok (.getfield 76, 3) := by decide +kernel
theorem dX5_passes_40 : decode cX5_passes 40 = .ok (.iload_n 2, 1) := by decide +kernel
theorem dX5_passes_41 : decode cX5_passes 41 = .ok (.iaload, 1) := by decide +kernel
theorem dX5_passes_42 : decode cX5_passes 42 = .ok (.i2l, 1) := by decide +kernel
theorem dX5_passes_43 : decode cX5_passes 43 = .ok (.iload_n 1, 1) := by decide +kernel
theorem dX5_passes_44 : decode cX5_passes 44 = .ok (.i2l, 1) := by decide +kernel
theorem dX5_passes_45 : decode cX5_passes 45 = .ok (.lmul, 1) := by decide +kernel
theorem dX5_passes_46 : decode cX5_passes 46 = .ok (.ladd, 1) := by decide +kernel
theorem dX5_passes_47 : decode cX5_passes 47 = .ok (.lstore 5, 2) := by decide +kernel
theorem dX5_passes_49 : decode cX5_passes 49 = .ok (.aload_n 0, 1) := by decide +kernel
theorem dX5_passes_50 : decode cX5_passes 50 = .ok (.getfield 82, 3) := by decide +kernel
theorem dX5_passes_53 : decode cX5_passes 53 = .ok (.iload_n 2, 1) := by decide +kernel
theorem dX5_passes_54 : decode cX5_passes 54 = .ok (.lload 5, 2) := by decide +kernel
theorem dX5_passes_56 : decode cX5_passes 56 = .ok (.lload_n 3, 1) := by decide +kernel
theorem dX5_passes_57 : decode cX5_passes 57 = .ok (.lcmp, 1) := by decide +kernel
theorem dX5_passes_58 : decode cX5_passes 58 = .ok (.ifCond .le 7, 3) := by decide +kernel
theorem dX5_passes_61 : decode cX5_passes 61 = .ok (.lload_n 3, 1) := by decide +kernel
theorem dX5_passes_62 : decode cX5_passes 62 = .ok (.goto 5, 3) := by decide +kernel
theorem dX5_passes_65 : decode cX5_passes 65 = .ok (.lload 5, 2) := by decide +kernel
theorem dX5_passes_67 : decode cX5_passes 67 = .ok (.lastore, 1) := by decide +kernel
theorem dX5_passes_68 : decode cX5_passes 68 = .ok (.iinc 2 1, 3) := by decide +kernel
theorem dX5_passes_71 : decode cX5_passes 71 = .ok (.goto (-59), 3) := by decide +kernel
theorem dX5_passes_74 : decode cX5_passes 74 = .ok (.return_, 1) := by decide +kernel
theorem dX5_isIdle_0 : decode cX5_isIdle 0 = .ok (.aload_n 0, 1) := by decide +kernel
theorem dX5_isIdle_1 : decode cX5_isIdle 1 = .ok (.getfield 142, 3) := by decide +kernel
theorem dX5_isIdle_4 : decode cX5_isIdle 4 = .ok (.ifCond .ne 7, 3) := by decide +kernel
theorem dX5_isIdle_7 : decode cX5_isIdle 7 = .ok (.iconst 1, 1) := by decide +kernel
theorem dX5_isIdle_8 : decode cX5_isIdle 8 = .ok (.goto 4, 3) := by decide +kernel
theorem dX5_isIdle_11 : decode cX5_isIdle 11 = .ok (.iconst 0, 1) := by decide +kernel
theorem dX5_isIdle_12 : decode cX5_isIdle 12 = .ok (.istore_n 1, 1) := by decide +kernel
theorem dX5_isIdle_13 : decode cX5_isIdle 13 = .ok (.iconst 0, 1) := by decide +kernel
theorem dX5_isIdle_14 : decode cX5_isIdle 14 = .ok (.istore_n 2, 1) := by decide +kernel
theorem dX5_isIdle_15 : decode cX5_isIdle 15 = .ok (.iload_n 2, 1) := by decide +kernel
theorem dX5_isIdle_16 : decode cX5_isIdle 16 = .ok (.aload_n 0, 1) := by decide +kernel
theorem dX5_isIdle_17 : decode cX5_isIdle 17 = .ok (.getfield 128, 3) := by decide +kernel
theorem dX5_isIdle_20 : decode cX5_isIdle 20 = .ok (.if_icmp .ge 28, 3) := by decide +kernel
theorem dX5_isIdle_23 : decode cX5_isIdle 23 = .ok (.iload_n 1, 1) := by decide +kernel
theorem dX5_isIdle_24 : decode cX5_isIdle 24 = .ok (.ifCond .eq 16, 3) := by decide +kernel
theorem dX5_isIdle_27 : decode cX5_isIdle 27 = .ok (.aload_n 0, 1) := by decide +kernel
theorem dX5_isIdle_28 : decode cX5_isIdle 28 = .ok (.getfield 42, 3) := by decide +kernel
theorem dX5_isIdle_31 : decode cX5_isIdle 31 = .ok (.iload_n 2, 1) := by decide +kernel
theorem dX5_isIdle_32 : decode cX5_isIdle 32 = .ok (.iaload, 1) := by decide +kernel
theorem dX5_isIdle_33 : decode cX5_isIdle 33 = .ok (.ifCond .ne 7, 3) := by decide +kernel
theorem dX5_isIdle_36 : decode cX5_isIdle 36 = .ok (.iconst 1, 1) := by decide +kernel
theorem dX5_isIdle_37 : decode cX5_isIdle 37 = .ok (.goto 4, 3) := by decide +kernel
theorem dX5_isIdle_40 : decode cX5_isIdle 40 = .ok (.iconst 0, 1) := by decide +kernel
theorem dX5_isIdle_41 : decode cX5_isIdle 41 = .ok (.istore_n 1, 1) := by decide +kernel
theorem dX5_isIdle_42 : decode cX5_isIdle 42 = .ok (.iinc 2 1, 3) := by decide +kernel
theorem dX5_isIdle_45 : decode cX5_isIdle 45 = .ok (.goto (-30), 3) := by decide +kernel
theorem dX5_isIdle_48 : decode cX5_isIdle 48 = .ok (.iload_n 1, 1) := by decide +kernel
theorem dX5_isIdle_49 : decode cX5_isIdle 49 = .ok (.ireturn, 1) := by decide +kernel
set_option maxRecDepth 20000 in
theorem ggX5_run_X5_in : GoodIn wsX5_run wsX5_in := goodIn_r _ [11] (by decide +kernel) (by decide +kernel)
set_option maxRecDepth 20000 in
theorem gX5_run_X5_in : GoodIn wsX5_run (va_wsS RX5 120 yX5_in wsX5_in) := goodIn_app (goodIn_of _ (by decide +kernel)) ggX5_run_X5_in
set_option maxRecDepth 20000 in
theorem ggX5_run_X5_isIdle : GoodIn wsX5_run wsX5_isIdle := goodIn_r _ [15, 5, 16, 17, 77, 78, 79, 80, 81, 82, 83, 84, 85, 86, 87, 88, 89, 90, 91, 92, 93, 94, 95, 96, 97, 98, 99, 100, 101, 102, 103, 104, 105, 106, 107, 108, 109, 110, 111, 112, 113, 114, 115, 116, 117, 118] (by decide +kernel) (by decide +kernel)
set_option maxRecDepth 20000 in
theorem gX5_run_X5_isIdle : GoodIn wsX5_run (wsV RX5 150 RX5 yX5_isIdle wsX5_isIdle) := goodIn_app (goodIn_of _ (by decide +kernel)) ggX5_run_X5_isIdle
set_option maxRecDepth 20000 in
theorem ggX5_run_X5_passes : GoodIn wsX5_run wsX5_passes := goodIn_r _ [21, 2, 22, 23, 24, 25, 77, 78, 79, 80, 81, 82, 83, 84, 85, 86, 87, 88, 89, 90, 91, 92, 93, 94, 95, 96, 97, 98, 99, 100, 101, 102, 103, 104, 105, 106, 107, 108, 109, 110, 111, 112, 113, 114, 115, 116, 117, 118] (by decide +kernel) (by decide +kernel)
set_option maxRecDepth 20000 in
theorem gX5_run_X5_passes : GoodIn wsX5_run (wsV RX5 154 RX5 yX5_passes wsX5_passes) := goodIn_app (goodIn_of _ (by decide +kernel)) ggX5_run_X5_passes
set_option maxRecDepth 20000 in
theorem ggX5_run_X5_begins : GoodIn wsX5_run wsX5_begins := goodIn_r _ [29, 16, 17, 30, 2, 31, 32, 33, 34, 35, 36, 37, 10, 38, 39, 40, 41, 42, 43, 44, 45, 46, 47, 48, 49, 50, 51, 52, 53, 4, 7, 5, 24, 22, 54, 55, 56, 57, 58, 59, 60, 61, 62, 63, 64, 65, 66, 67, 68, 69, 70, 71, 72, 73, 74, 75, 76, 77, 78, 79, 80, 81, 82, 83, 84, 85, 86, 87, 88, 89, 90, 91, 92, 93, 94, 95, 96, 97, 98, 99, 100, 101, 102, 103, 104, 105, 106, 107, 108, 109, 110, 111, 112, 113, 114, 115, 116, 117, 118] (by decide +kernel) (by decide +kernel)
set_option maxRecDepth 20000 in
theorem gX5_run_X5_begins : GoodIn wsX5_run (wsV RX5 158 RX5 yX5_begins wsX5_begins) := goodIn_app (goodIn_of _ (by decide +kernel)) ggX5_run_X5_begins
theorem dX5_run_0 : decode cX5_run 0 = .ok (.iload_n 1, 1) := by decide +kernel
theorem dX5_run_1 : decode cX5_run 1 = .ok (.iconst 1, 1) := by decide +kernel
theorem dX5_run_2 : decode cX5_run 2 = .ok (.ldc 145, 2) := by decide +kernel
theorem dX5_run_4 : decode cX5_run 4 = .ok (.invokestatic 120, 3) := by decide +kernel
theorem dX5_run_7 : decode cX5_run 7 = .ok (.ifCond .eq 14, 3) := by decide +kernel
theorem dX5_run_10 : decode cX5_run 10 = .ok (.aload_n 0, 1) := by decide +kernel
theorem dX5_run_11 : decode cX5_run 11 = .ok (.getfield 139, 3) := by decide +kernel
theorem dX5_run_14 : decode cX5_run 14 = .ok (.ldc 146, 2) := by decide +kernel
theorem dX5_run_16 : decode cX5_run 16 = .ok (.iload_n 1, 1) := by decide +kernel
theorem dX5_run_17 : decode cX5_run 17 = .ok (.isub, 1) := by decide +kernel
theorem dX5_run_18 : decode cX5_run 18 = .ok (.if_icmp .le 5, 3) := by decide +kernel
theorem dX5_run_21 : decode cX5_run 21 = .ok (.iconst (-1), 1) := by decide +kernel
theorem dX5_run_22 : decode cX5_run 22 = .ok (.ireturn, 1) := by decide +kernel
theorem dX5_run_23 : decode cX5_run 23 = .ok (.aload_n 0, 1) := by decide +kernel
theorem dX5_run_24 : decode cX5_run 24 = .ok (.getfield 147, 3) := by decide +kernel
theorem dX5_run_27 : decode cX5_run 27 = .ok (.istore_n 2, 1) := by decide +kernel
theorem dX5_run_28 : decode cX5_run 28 = .ok (.aload_n 0, 1) := by decide +kernel
theorem dX5_run_29 : decode cX5_run 29 = .ok (.getfield 139, 3) := by decide +kernel
theorem dX5_run_32 : decode cX5_run 32 = .ok (.iload_n 1, 1) := by decide +kernel
theorem dX5_run_33 : decode cX5_run 33 = .ok (.iadd, 1) := by decide +kernel
theorem dX5_run_34 : decode cX5_run 34 = .ok (.istore_n 3, 1) := by decide +kernel
theorem dX5_run_35 : decode cX5_run 35 = .ok (.aload_n 0, 1) := by decide +kernel
theorem dX5_run_36 : decode cX5_run 36 = .ok (.getfield 139, 3) := by decide +kernel
theorem dX5_run_39 : decode cX5_run 39 = .ok (.iload_n 3, 1) := by decide +kernel
theorem dX5_run_40 : decode cX5_run 40 = .ok (.if_icmp .ge 130, 3) := by decide +kernel
theorem dX5_run_43 : decode cX5_run 43 = .ok (.aload_n 0, 1) := by decide +kernel
theorem dX5_run_44 : decode cX5_run 44 = .ok (.invokevirtual 150, 3) := by decide +kernel
theorem dX5_run_47 : decode cX5_run 47 = .ok (.ifCond .eq 16, 3) := by decide +kernel
theorem dX5_run_50 : decode cX5_run 50 = .ok (.aload_n 0, 1) := by decide +kernel
theorem dX5_run_51 : decode cX5_run 51 = .ok (.iload_n 3, 1) := by decide +kernel
theorem dX5_run_52 : decode cX5_run 52 = .ok (.aload_n 0, 1) := by decide +kernel
theorem dX5_run_53 : decode cX5_run 53 = .ok (.getfield 139, 3) := by decide +kernel
theorem dX5_run_56 : decode cX5_run 56 = .ok (.isub, 1) := by decide +kernel
theorem dX5_run_57 : decode cX5_run 57 = .ok (.invokevirtual 154, 3) := by decide +kernel
theorem dX5_run_60 : decode cX5_run 60 = .ok (.goto (-25), 3) := by decide +kernel
theorem dX5_run_63 : decode cX5_run 63 = .ok (.aload_n 0, 1) := by decide +kernel
theorem dX5_run_64 : decode cX5_run 64 = .ok (.getfield 142, 3) := by decide +kernel
theorem dX5_run_67 : decode cX5_run 67 = .ok (.ifCond .ne 7, 3) := by decide +kernel
theorem dX5_run_70 : decode cX5_run 70 = .ok (.aload_n 0, 1) := by decide +kernel
theorem dX5_run_71 : decode cX5_run 71 = .ok (.invokevirtual 158, 3) := by decide +kernel
theorem dX5_run_74 : decode cX5_run 74 = .ok (.aload_n 0, 1) := by decide +kernel
theorem dX5_run_75 : decode cX5_run 75 = .ok (.getfield 142, 3) := by decide +kernel
theorem dX5_run_78 : decode cX5_run 78 = .ok (.ifCond .ne 7, 3) := by decide +kernel
theorem dX5_run_81 : decode cX5_run 81 = .ok (.iconst 1, 1) := by decide +kernel
theorem dX5_run_82 : decode cX5_run 82 = .ok (.goto 29, 3) := by decide +kernel
theorem dX5_run_85 : decode cX5_run 85 = .ok (.aload_n 0, 1) := by decide +kernel
theorem dX5_run_86 : decode cX5_run 86 = .ok (.getfield 142, 3) := by decide +kernel
theorem dX5_run_89 : decode cX5_run 89 = .ok (.iload_n 3, 1) := by decide +kernel
theorem dX5_run_90 : decode cX5_run 90 = .ok (.aload_n 0, 1) := by decide +kernel
theorem dX5_run_91 : decode cX5_run 91 = .ok (.getfield 139, 3) := by decide +kernel
theorem dX5_run_94 : decode cX5_run 94 = .ok (.isub, 1) := by decide +kernel
theorem dX5_run_95 : decode cX5_run 95 = .ok (.if_icmp .ge 10, 3) := by decide +kernel
theorem dX5_run_98 : decode cX5_run 98 = .ok (.aload_n 0, 1) := by decide +kernel
theorem dX5_run_99 : decode cX5_run 99 = .ok (.getfield 142, 3) := by decide +kernel
theorem dX5_run_102 : decode cX5_run 102 = .ok (.goto 9, 3) := by decide +kernel
theorem dX5_run_105 : decode cX5_run 105 = .ok (.iload_n 3, 1) := by decide +kernel
theorem dX5_run_106 : decode cX5_run 106 = .ok (.aload_n 0, 1) := by decide +kernel
theorem dX5_run_107 : decode cX5_run 107 = .ok (.getfield 139, 3) := by decide +kernel
theorem dX5_run_110 : decode cX5_run 110 = .ok (.isub, 1) := by decide +kernel
theorem dX5_run_111 : decode cX5_run 111 = .ok (.istore 4, 2) := by decide +kernel
theorem dX5_run_113 : decode cX5_run 113 = .ok (.aload_n 0, 1) := by decide +kernel
theorem dX5_run_114 : decode cX5_run 114 = .ok (.getfield 142, 3) := by decide +kernel
theorem dX5_run_117 : decode cX5_run 117 = .ok (.ifCond .le 44, 3) := by decide +kernel
theorem dX5_run_120 : decode cX5_run 120 = .ok (.aload_n 0, 1) := by decide +kernel
theorem dX5_run_121 : decode cX5_run 121 = .ok (.dup, 1) := by decide +kernel
theorem dX5_run_122 : decode cX5_run 122 = .ok (.getfield 161, 3) := by decide +kernel
theorem dX5_run_125 : decode cX5_run 125 = .ok (.iload 4, 2) := by decide +kernel
theorem dX5_run_127 : decode cX5_run 127 = .ok (.iadd, 1) := by decide +kernel
theorem dX5_run_128 : decode cX5_run 128 = .ok (.putfield 161, 3) := by decide +kernel
theorem dX5_run_131 : decode cX5_run 131 = .ok (.aload_n 0, 1) := by decide +kernel
theorem dX5_run_132 : decode cX5_run 132 = .ok (.dup, 1) := by decide +kernel
theorem dX5_run_133 : decode cX5_run 133 = .ok (.getfield 142, 3) := by decide +kernel
theorem dX5_run_136 : decode cX5_run 136 = .ok (.iload 4, 2) := by decide +kernel
theorem dX5_run_138 : decode cX5_run 138 = .ok (.isub, 1) := by decide +kernel
theorem dX5_run_139 : decode cX5_run 139 = .ok (.putfield 142, 3) := by decide +kernel
theorem dX5_run_142 : decode cX5_run 142 = .ok (.aload_n 0, 1) := by decide +kernel
theorem dX5_run_143 : decode cX5_run 143 = .ok (.aload_n 0, 1) := by decide +kernel
theorem dX5_run_144 : decode cX5_run 144 = .ok (.getfield 142, 3) := by decide +kernel
theorem dX5_run_147 : decode cX5_run 147 = .ok (.ifCond .ne 7, 3) := by decide +kernel
theorem dX5_run_150 : decode cX5_run 150 = .ok (.iconst (-1), 1) := by decide +kernel
theorem dX5_run_151 : decode cX5_run 151 = .ok (.goto 7, 3) := by decide +kernel
theorem dX5_run_154 : decode cX5_run 154 = .ok (.aload_n 0, 1) := by decide +kernel
theorem dX5_run_155 : decode cX5_run 155 = .ok (.getfield 9, 3) := by decide +kernel
theorem dX5_run_158 : decode cX5_run 158 = .ok (.putfield 9, 3) := by decide +kernel
theorem dX5_run_161 : decode cX5_run 161 = .ok (.aload_n 0, 1) := by decide +kernel
theorem dX5_run_162 : decode cX5_run 162 = .ok (.iload 4, 2) := by decide +kernel
theorem dX5_run_164 : decode cX5_run 164 = .ok (.invokevirtual 154, 3) := by decide +kernel
theorem dX5_run_167 : decode cX5_run 167 = .ok (.goto (-132), 3) := by decide +kernel
theorem dX5_run_170 : decode cX5_run 170 = .ok (.aload_n 0, 1) := by decide +kernel
theorem dX5_run_171 : decode cX5_run 171 = .ok (.getfield 147, 3) := by decide +kernel
theorem dX5_run_174 : decode cX5_run 174 = .ok (.iload_n 2, 1) := by decide +kernel
theorem dX5_run_175 : decode cX5_run 175 = .ok (.isub, 1) := by decide +kernel
theorem dX5_run_176 : decode cX5_run 176 = .ok (.ireturn, 1) := by decide +kernel
theorem dX5_startOf_0 : decode cX5_startOf 0 = .ok (.aload_n 0, 1) := by decide +kernel
theorem dX5_startOf_1 : decode cX5_startOf 1 = .ok (.getfield 91, 3) := by decide +kernel
theorem dX5_startOf_4 : decode cX5_startOf 4 = .ok (.aload_n 0, 1) := by decide +kernel
theorem dX5_startOf_5 : decode cX5_startOf 5 = .ok (.getfield 36, 3) := by decide +kernel
theorem dX5_startOf_8 : decode cX5_startOf 8 = .ok (.iload_n 1, 1) := by decide +kernel
theorem dX5_startOf_9 : decode cX5_startOf 9 = .ok (.iaload, 1) := by decide +kernel
theorem dX5_startOf_10 : decode cX5_startOf 10 = .ok (.iaload, 1) := by decide +kernel
theorem dX5_startOf_11 : decode cX5_startOf 11 = .ok (.istore_n 2, 1) := by decide +kernel
theorem dX5_startOf_12 : decode cX5_startOf 12 = .ok (.aload_n 0, 1) := by decide +kernel
theorem dX5_startOf_13 : decode cX5_startOf 13 = .ok (.getfield 60, 3) := by decide +kernel
theorem dX5_startOf_16 : decode cX5_startOf 16 = .ok (.iload_n 1, 1) := by decide +kernel
theorem dX5_startOf_17 : decode cX5_startOf 17 = .ok (.iaload, 1) := by decide +kernel
theorem dX5_startOf_18 : decode cX5_startOf 18 = .ok (.iload_n 2, 1) := by decide +kernel
theorem dX5_startOf_19 : decode cX5_startOf 19 = .ok (.if_icmp .le 12, 3) := by decide +kernel
theorem dX5_startOf_22 : decode cX5_startOf 22 = .ok (.aload_n 0, 1) := by decide +kernel
theorem dX5_startOf_23 : decode cX5_startOf 23 = .ok (.getfield 60, 3) := by decide +kernel
theorem dX5_startOf_26 : decode cX5_startOf 26 = .ok (.iload_n 1, 1) := by decide +kernel
theorem dX5_startOf_27 : decode cX5_startOf 27 = .ok (.iaload, 1) := by decide +kernel
theorem dX5_startOf_28 : decode cX5_startOf 28 = .ok (.goto 4, 3) := by decide +kernel
theorem dX5_startOf_31 : decode cX5_startOf 31 = .ok (.iload_n 2, 1) := by decide +kernel
theorem dX5_startOf_32 : decode cX5_startOf 32 = .ok (.ireturn, 1) := by decide +kernel
set_option maxRecDepth 20000 in
theorem ggX5_deadlineOf_X5_startOf : GoodIn wsX5_deadlineOf wsX5_startOf := goodIn_r _ [8, 9, 3, 10, 11, 12, 13, 14, 15, 16, 17, 18, 19, 20, 21, 22, 23, 24, 25, 26, 27, 28, 29, 30, 31, 32, 33, 34, 35, 36, 37, 38, 39, 40, 41, 42, 43, 44, 45, 46, 47, 48, 49, 50, 51, 52] (by decide +kernel) (by decide +kernel)
set_option maxRecDepth 20000 in
theorem gX5_deadlineOf_X5_startOf : GoodIn wsX5_deadlineOf (wsV RX5 164 RX5 yX5_startOf wsX5_startOf) := goodIn_app (goodIn_of _ (by decide +kernel)) ggX5_deadlineOf_X5_startOf
theorem dX5_deadlineOf_0 : decode cX5_deadlineOf 0 = .ok (.aload_n 0, 1) := by decide +kernel
theorem dX5_deadlineOf_1 : decode cX5_deadlineOf 1 = .ok (.getfield 30, 3) := by decide +kernel
theorem dX5_deadlineOf_4 : decode cX5_deadlineOf 4 = .ok (.iload_n 1, 1) := by decide +kernel
theorem dX5_deadlineOf_5 : decode cX5_deadlineOf 5 = .ok (.iaload, 1) := by decide +kernel
theorem dX5_deadlineOf_6 : decode cX5_deadlineOf 6 = .ok (.istore_n 2, 1) := by decide +kernel
theorem dX5_deadlineOf_7 : decode cX5_deadlineOf 7 = .ok (.aload_n 0, 1) := by decide +kernel
theorem dX5_deadlineOf_8 : decode cX5_deadlineOf 8 = .ok (.iload_n 1, 1) := by decide +kernel
theorem dX5_deadlineOf_9 : decode cX5_deadlineOf 9 = .ok (.invokevirtual 164, 3) := by decide +kernel
theorem dX5_deadlineOf_12 : decode cX5_deadlineOf 12 = .ok (.sipush 1000, 3) := by decide +kernel
theorem dX5_deadlineOf_15 : decode cX5_deadlineOf 15 = .ok (.aload_n 0, 1) := by decide +kernel
theorem dX5_deadlineOf_16 : decode cX5_deadlineOf 16 = .ok (.getfield 88, 3) := by decide +kernel
theorem dX5_deadlineOf_19 : decode cX5_deadlineOf 19 = .ok (.aload_n 0, 1) := by decide +kernel
theorem dX5_deadlineOf_20 : decode cX5_deadlineOf 20 = .ok (.getfield 36, 3) := by decide +kernel
theorem dX5_deadlineOf_23 : decode cX5_deadlineOf 23 = .ok (.iload_n 1, 1) := by decide +kernel
theorem dX5_deadlineOf_24 : decode cX5_deadlineOf 24 = .ok (.iaload, 1) := by decide +kernel
theorem dX5_deadlineOf_25 : decode cX5_deadlineOf 25 = .ok (.iaload, 1) := by decide +kernel
theorem dX5_deadlineOf_26 : decode cX5_deadlineOf 26 = .ok (.imul, 1) := by decide +kernel
theorem dX5_deadlineOf_27 : decode cX5_deadlineOf 27 = .ok (.iload_n 2, 1) := by decide +kernel
theorem dX5_deadlineOf_28 : decode cX5_deadlineOf 28 = .ok (.iadd, 1) := by decide +kernel
theorem dX5_deadlineOf_29 : decode cX5_deadlineOf 29 = .ok (.iconst 1, 1) := by decide +kernel
theorem dX5_deadlineOf_30 : decode cX5_deadlineOf 30 = .ok (.isub, 1) := by decide +kernel
theorem dX5_deadlineOf_31 : decode cX5_deadlineOf 31 = .ok (.iload_n 2, 1) := by decide +kernel
theorem dX5_deadlineOf_32 : decode cX5_deadlineOf 32 = .ok (.idiv, 1) := by decide +kernel
theorem dX5_deadlineOf_33 : decode cX5_deadlineOf 33 = .ok (.iadd, 1) := by decide +kernel
theorem dX5_deadlineOf_34 : decode cX5_deadlineOf 34 = .ok (.ireturn, 1) := by decide +kernel
set_option maxRecDepth 20000 in
theorem ggX5_begins_X5_startOf : GoodIn wsX5_begins wsX5_startOf := goodIn_r _ [13, 14, 15, 5, 57, 58, 59, 60, 61, 62, 63, 64, 65, 66, 67, 68, 69, 70, 71, 72, 73, 74, 75, 76, 77, 78, 79, 80, 81, 82, 83, 84, 85, 86, 87, 88, 89, 90, 91, 92, 93, 94, 95, 96, 97, 98] (by decide +kernel) (by decide +kernel)
set_option maxRecDepth 20000 in
theorem gX5_begins_X5_startOf : GoodIn wsX5_begins (wsV RX5 164 RX5 yX5_startOf wsX5_startOf) := goodIn_app (goodIn_of _ (by decide +kernel)) ggX5_begins_X5_startOf
set_option maxRecDepth 20000 in
theorem ggX5_begins_X5_deadlineOf : GoodIn wsX5_begins wsX5_deadlineOf := goodIn_r _ [19, 3, 8, 15, 9, 10, 11, 12, 13, 14, 5, 57, 58, 59, 60, 61, 62, 63, 64, 65, 66, 67, 68, 69, 70, 71, 72, 73, 74, 75, 76, 77, 78, 79, 80, 81, 82, 83, 84, 85, 86, 87, 88, 89, 90, 91, 92, 93, 94, 95, 96, 97, 98] (by decide +kernel) (by decide +kernel)
set_option maxRecDepth 20000 in
theorem gX5_begins_X5_deadlineOf : GoodIn wsX5_begins (wsV RX5 168 RX5 yX5_deadlineOf wsX5_deadlineOf) := goodIn_app (goodIn_of _ (by decide +kernel)) ggX5_begins_X5_deadlineOf
set_option maxRecDepth 20000 in
theorem ggX5_begins_X5_goes : GoodIn wsX5_begins wsX5_goes := goodIn_r _ [23, 15, 24, 2, 25, 8, 26, 4, 27, 28, 29, 30, 31, 32, 33, 34, 57, 58, 59, 60, 61, 62, 63, 64, 65, 66, 67, 68, 69, 70, 71, 72, 73, 74, 75, 76, 77, 78, 79, 80, 81, 82, 83, 84, 85, 86, 87, 88, 89, 90, 91, 92, 93, 94, 95, 96, 97, 98] (by decide +kernel) (by decide +kernel)
set_option maxRecDepth 20000 in
theorem gX5_begins_X5_goes : GoodIn wsX5_begins (wsV RX5 171 RX5 yX5_goes wsX5_goes) := goodIn_app (goodIn_of _ (by decide +kernel)) ggX5_begins_X5_goes
set_option maxRecDepth 20000 in
theorem ggX5_begins_X5_excess : GoodIn wsX5_begins wsX5_excess := goodIn_r _ [38, 39, 1, 34, 2, 33, 8, 15, 32, 40, 41, 42, 43, 44, 45, 46, 47, 48, 12, 49, 50, 51, 52, 53, 54, 55, 56, 20, 21, 22, 23, 24, 25, 26, 4, 27, 28, 29, 30, 31, 57, 58, 59, 60, 61, 62, 63, 64, 65, 66, 67, 68, 69, 70, 71, 72, 73, 74, 75, 76, 77, 78, 79, 80, 81, 82, 83, 84, 85, 86, 87, 88, 89, 90, 91, 92, 93, 94, 95, 96, 97, 98] (by decide +kernel) (by decide +kernel)
set_option maxRecDepth 20000 in
theorem gX5_begins_X5_excess : GoodIn wsX5_begins (wsV RX5 175 RX5 yX5_excess wsX5_excess) := goodIn_app (goodIn_of _ (by decide +kernel)) ggX5_begins_X5_excess
theorem dX5_begins_0 : decode cX5_begins 0 = .ok (.iconst (-1), 1) := by decide +kernel
theorem dX5_begins_1 : decode cX5_begins 1 = .ok (.istore_n 1, 1) := by decide +kernel
theorem dX5_begins_2 : decode cX5_begins 2 = .ok (.iconst 0, 1) := by decide +kernel
theorem dX5_begins_3 : decode cX5_begins 3 = .ok (.istore_n 2, 1) := by decide +kernel
theorem dX5_begins_4 : decode cX5_begins 4 = .ok (.iload_n 2, 1) := by decide +kernel
theorem dX5_begins_5 : decode cX5_begins 5 = .ok (.aload_n 0, 1) := by decide +kernel
theorem dX5_begins_6 : decode cX5_begins 6 = .ok (.getfield 128, 3) := by decide +kernel
theorem dX5_begins_9 : decode cX5_begins 9 = .ok (.if_icmp .ge 59, 3) := by decide +kernel
theorem dX5_begins_12 : decode cX5_begins 12 = .ok (.aload_n 0, 1) := by decide +kernel
theorem dX5_begins_13 : decode cX5_begins 13 = .ok (.getfield 42, 3) := by decide +kernel
theorem dX5_begins_16 : decode cX5_begins 16 = .ok (.iload_n 2, 1) := by decide +kernel
theorem dX5_begins_17 : decode cX5_begins 17 = .ok (.iaload, 1) := by decide +kernel
theorem dX5_begins_18 : decode cX5_begins 18 = .ok (.ifCond .le 44, 3) := by decide +kernel
theorem dX5_begins_21 : decode cX5_begins 21 = .ok (.aload_n 0, 1) := by decide +kernel
theorem dX5_begins_22 : decode cX5_begins 22 = .ok (.getfield 30, 3) := by decide +kernel
theorem dX5_begins_25 : decode cX5_begins 25 = .ok (.iload_n 2, 1) := by decide +kernel
theorem dX5_begins_26 : decode cX5_begins 26 = .ok (.iaload, 1) := by decide +kernel
theorem dX5_begins_27 : decode cX5_begins 27 = .ok (.ifCond .le 35, 3) := by decide +kernel
theorem dX5_begins_30 : decode cX5_begins 30 = .ok (.aload_n 0, 1) := by decide +kernel
theorem dX5_begins_31 : decode cX5_begins 31 = .ok (.iload_n 2, 1) := by decide +kernel
theorem dX5_begins_32 : decode cX5_begins 32 = .ok (.invokevirtual 164, 3) := by decide +kernel
theorem dX5_begins_35 : decode cX5_begins 35 = .ok (.aload_n 0, 1) := by decide +kernel
theorem dX5_begins_36 : decode cX5_begins 36 = .ok (.getfield 139, 3) := by decide +kernel
theorem dX5_begins_39 : decode cX5_begins 39 = .ok (.if_icmp .gt 23, 3) := by decide +kernel
theorem dX5_begins_42 : decode cX5_begins 42 = .ok (.iload_n 1, 1) := by decide +kernel
theorem dX5_begins_43 : decode cX5_begins 43 = .ok (.iconst (-1), 1) := by decide +kernel
theorem dX5_begins_44 : decode cX5_begins 44 = .ok (.if_icmp .eq 16, 3) := by decide +kernel
theorem dX5_begins_47 : decode cX5_begins 47 = .ok (.aload_n 0, 1) := by decide +kernel
theorem dX5_begins_48 : decode cX5_begins 48 = .ok (.iload_n 2, 1) := by decide +kernel
theorem dX5_begins_49 : decode cX5_begins 49 = .ok (.invokevirtual 168, 3) := by decide +kernel
theorem dX5_begins_52 : decode cX5_begins 52 = .ok (.aload_n 0, 1) := by decide +kernel
theorem dX5_begins_53 : decode cX5_begins 53 = .ok (.iload_n 1, 1) := by decide +kernel
theorem dX5_begins_54 : decode cX5_begins 54 = .ok (.invokevirtual 168, 3) := by decide +kernel
theorem dX5_begins_57 : decode cX5_begins 57 = .ok (.if_icmp .ge 5, 3) := by decide +kernel
theorem dX5_begins_60 : decode cX5_begins 60 = .ok (.iload_n 2, 1) := by decide +kernel
theorem dX5_begins_61 : decode cX5_begins 61 = .ok (.istore_n 1, 1) := by decide +kernel
theorem dX5_begins_62 : decode cX5_begins 62 = .ok (.iinc 2 1, 3) := by decide +kernel
theorem dX5_begins_65 : decode cX5_begins 65 = .ok (.goto (-61), 3) := by decide +kernel
theorem dX5_begins_68 : decode cX5_begins 68 = .ok (.iload_n 1, 1) := by decide +kernel
theorem dX5_begins_69 : decode cX5_begins 69 = .ok (.iconst (-1), 1) := by decide +kernel
theorem dX5_begins_70 : decode cX5_begins 70 = .ok (.if_icmp .eq 46, 3) := by decide +kernel
theorem dX5_begins_73 : decode cX5_begins 73 = .ok (.aload_n 0, 1) := by decide +kernel
theorem dX5_begins_74 : decode cX5_begins 74 = .ok (.iload_n 1, 1) := by decide +kernel
theorem dX5_begins_75 : decode cX5_begins 75 = .ok (.invokevirtual 168, 3) := by decide +kernel
theorem dX5_begins_78 : decode cX5_begins 78 = .ok (.istore_n 2, 1) := by decide +kernel
theorem dX5_begins_79 : decode cX5_begins 79 = .ok (.aload_n 0, 1) := by decide +kernel
theorem dX5_begins_80 : decode cX5_begins 80 = .ok (.getfield 60, 3) := by decide +kernel
theorem dX5_begins_83 : decode cX5_begins 83 = .ok (.iload_n 1, 1) := by decide +kernel
theorem dX5_begins_84 : decode cX5_begins 84 = .ok (.iload_n 2, 1) := by decide +kernel
theorem dX5_begins_85 : decode cX5_begins 85 = .ok (.iastore, 1) := by decide +kernel
theorem dX5_begins_86 : decode cX5_begins 86 = .ok (.aload_n 0, 1) := by decide +kernel
theorem dX5_begins_87 : decode cX5_begins 87 = .ok (.iload_n 1, 1) := by decide +kernel
theorem dX5_begins_88 : decode cX5_begins 88 = .ok (.iconst 1, 1) := by decide +kernel
theorem dX5_begins_89 : decode cX5_begins 89 = .ok (.invokevirtual 171, 3) := by decide +kernel
theorem dX5_begins_92 : decode cX5_begins 92 = .ok (.istore_n 3, 1) := by decide +kernel
theorem dX5_begins_93 : decode cX5_begins 93 = .ok (.aload_n 0, 1) := by decide +kernel
theorem dX5_begins_94 : decode cX5_begins 94 = .ok (.getfield 100, 3) := by decide +kernel
theorem dX5_begins_97 : decode cX5_begins 97 = .ok (.iload_n 3, 1) := by decide +kernel
theorem dX5_begins_98 : decode cX5_begins 98 = .ok (.iload_n 2, 1) := by decide +kernel
theorem dX5_begins_99 : decode cX5_begins 99 = .ok (.iastore, 1) := by decide +kernel
theorem dX5_begins_100 : decode cX5_begins 100 = .ok (.aload_n 0, 1) := by decide +kernel
theorem dX5_begins_101 : decode cX5_begins 101 = .ok (.getfield 48, 3) := by decide +kernel
theorem dX5_begins_104 : decode cX5_begins 104 = .ok (.iload_n 1, 1) := by decide +kernel
theorem dX5_begins_105 : decode cX5_begins 105 = .ok (.dup2, 1) := by decide +kernel
theorem dX5_begins_106 : decode cX5_begins 106 = .ok (.iaload, 1) := by decide +kernel
theorem dX5_begins_107 : decode cX5_begins 107 = .ok (.aload_n 0, 1) := by decide +kernel
theorem dX5_begins_108 : decode cX5_begins 108 = .ok (.getfield 88, 3) := by decide +kernel
theorem dX5_begins_111 : decode cX5_begins 111 = .ok (.iload_n 3, 1) := by decide +kernel
theorem dX5_begins_112 : decode cX5_begins 112 = .ok (.iaload, 1) := by decide +kernel
theorem dX5_begins_113 : decode cX5_begins 113 = .ok (.iadd, 1) := by decide +kernel
end
section
theorem dX5_begins_114 : decode cX5_begins 114 = .ok (.iastore, 1) := by decide +kernel
theorem dX5_begins_115 : decode cX5_begins 115 = .ok (.return_, 1) := by decide +kernel
theorem dX5_begins_116 : decode cX5_begins 116 = .ok (.aload_n 0, 1) := by decide +kernel
theorem dX5_begins_117 : decode cX5_begins 117 = .ok (.invokevirtual 175, 3) := by decide +kernel
theorem dX5_begins_120 : decode cX5_begins 120 = .ok (.return_, 1) := by decide +kernel
theorem dX5_tagOf_0 : decode cX5_tagOf 0 = .ok (.aload_n 0, 1) := by decide +kernel
theorem dX5_tagOf_1 : decode cX5_tagOf 1 = .ok (.getfield 66, 3) := by decide +kernel
theorem dX5_tagOf_4 : decode cX5_tagOf 4 = .ok (.iload_n 1, 1) := by decide +kernel
theorem dX5_tagOf_5 : decode cX5_tagOf 5 = .ok (.laload, 1) := by decide +kernel
theorem dX5_tagOf_6 : decode cX5_tagOf 6 = .ok (.ldc2_w 177, 3) := by decide +kernel
theorem dX5_tagOf_9 : decode cX5_tagOf 9 = .ok (.aload_n 0, 1) := by decide +kernel
theorem dX5_tagOf_10 : decode cX5_tagOf 10 = .ok (.getfield 27, 3) := by decide +kernel
theorem dX5_tagOf_13 : decode cX5_tagOf 13 = .ok (.iload_n 1, 1) := by decide +kernel
theorem dX5_tagOf_14 : decode cX5_tagOf 14 = .ok (.iaload, 1) := by decide +kernel
theorem dX5_tagOf_15 : decode cX5_tagOf 15 = .ok (.i2l, 1) := by decide +kernel
theorem dX5_tagOf_16 : decode cX5_tagOf 16 = .ok (.ldiv, 1) := by decide +kernel
theorem dX5_tagOf_17 : decode cX5_tagOf 17 = .ok (.aload_n 0, 1) := by decide +kernel
theorem dX5_tagOf_18 : decode cX5_tagOf 18 = .ok (.getfield 88, 3) := by decide +kernel
theorem dX5_tagOf_21 : decode cX5_tagOf 21 = .ok (.aload_n 0, 1) := by decide +kernel
theorem dX5_tagOf_22 : decode cX5_tagOf 22 = .ok (.getfield 36, 3) := by decide +kernel
theorem dX5_tagOf_25 : decode cX5_tagOf 25 = .ok (.iload_n 1, 1) := by decide +kernel
theorem dX5_tagOf_26 : decode cX5_tagOf 26 = .ok (.iaload, 1) := by decide +kernel
theorem dX5_tagOf_27 : decode cX5_tagOf 27 = .ok (.iaload, 1) := by decide +kernel
theorem dX5_tagOf_28 : decode cX5_tagOf 28 = .ok (.i2l, 1) := by decide +kernel
theorem dX5_tagOf_29 : decode cX5_tagOf 29 = .ok (.lmul, 1) := by decide +kernel
theorem dX5_tagOf_30 : decode cX5_tagOf 30 = .ok (.ladd, 1) := by decide +kernel
theorem dX5_tagOf_31 : decode cX5_tagOf 31 = .ok (.lreturn, 1) := by decide +kernel
theorem dX5_groupTagOf_0 : decode cX5_groupTagOf 0 = .ok (.aload_n 0, 1) := by decide +kernel
theorem dX5_groupTagOf_1 : decode cX5_groupTagOf 1 = .ok (.getfield 24, 3) := by decide +kernel
theorem dX5_groupTagOf_4 : decode cX5_groupTagOf 4 = .ok (.iload_n 1, 1) := by decide +kernel
theorem dX5_groupTagOf_5 : decode cX5_groupTagOf 5 = .ok (.iaload, 1) := by decide +kernel
theorem dX5_groupTagOf_6 : decode cX5_groupTagOf 6 = .ok (.istore_n 2, 1) := by decide +kernel
theorem dX5_groupTagOf_7 : decode cX5_groupTagOf 7 = .ok (.aload_n 0, 1) := by decide +kernel
theorem dX5_groupTagOf_8 : decode cX5_groupTagOf 8 = .ok (.getfield 17, 3) := by decide +kernel
theorem dX5_groupTagOf_11 : decode cX5_groupTagOf 11 = .ok (.iload_n 2, 1) := by decide +kernel
theorem dX5_groupTagOf_12 : decode cX5_groupTagOf 12 = .ok (.laload, 1) := by decide +kernel
theorem dX5_groupTagOf_13 : decode cX5_groupTagOf 13 = .ok (.ldc2_w 177, 3) := by decide +kernel
theorem dX5_groupTagOf_16 : decode cX5_groupTagOf 16 = .ok (.aload_n 0, 1) := by decide +kernel
theorem dX5_groupTagOf_17 : decode cX5_groupTagOf 17 = .ok (.getfield 13, 3) := by decide +kernel
theorem dX5_groupTagOf_20 : decode cX5_groupTagOf 20 = .ok (.iload_n 2, 1) := by decide +kernel
theorem dX5_groupTagOf_21 : decode cX5_groupTagOf 21 = .ok (.iaload, 1) := by decide +kernel
theorem dX5_groupTagOf_22 : decode cX5_groupTagOf 22 = .ok (.i2l, 1) := by decide +kernel
theorem dX5_groupTagOf_23 : decode cX5_groupTagOf 23 = .ok (.ldiv, 1) := by decide +kernel
theorem dX5_groupTagOf_24 : decode cX5_groupTagOf 24 = .ok (.aload_n 0, 1) := by decide +kernel
theorem dX5_groupTagOf_25 : decode cX5_groupTagOf 25 = .ok (.getfield 88, 3) := by decide +kernel
theorem dX5_groupTagOf_28 : decode cX5_groupTagOf 28 = .ok (.aload_n 0, 1) := by decide +kernel
theorem dX5_groupTagOf_29 : decode cX5_groupTagOf 29 = .ok (.getfield 36, 3) := by decide +kernel
theorem dX5_groupTagOf_32 : decode cX5_groupTagOf 32 = .ok (.iload_n 1, 1) := by decide +kernel
theorem dX5_groupTagOf_33 : decode cX5_groupTagOf 33 = .ok (.iaload, 1) := by decide +kernel
theorem dX5_groupTagOf_34 : decode cX5_groupTagOf 34 = .ok (.iaload, 1) := by decide +kernel
theorem dX5_groupTagOf_35 : decode cX5_groupTagOf 35 = .ok (.i2l, 1) := by decide +kernel
theorem dX5_groupTagOf_36 : decode cX5_groupTagOf 36 = .ok (.lmul, 1) := by decide +kernel
theorem dX5_groupTagOf_37 : decode cX5_groupTagOf 37 = .ok (.ladd, 1) := by decide +kernel
theorem dX5_groupTagOf_38 : decode cX5_groupTagOf 38 = .ok (.lreturn, 1) := by decide +kernel
set_option maxRecDepth 20000 in
theorem ggX5_excess_X5_tagOf : GoodIn wsX5_excess wsX5_tagOf := goodIn_r _ [19, 10, 20, 21, 6, 7, 40, 41, 42, 43, 44, 45, 46, 47, 48, 49, 50, 51, 52, 53, 54, 55, 56, 57, 58, 59, 60, 61, 62, 63, 64, 65, 66, 67, 68, 69, 70, 71, 72, 73, 74, 75, 76, 77, 78, 79, 80, 81] (by decide +kernel) (by decide +kernel)
set_option maxRecDepth 20000 in
theorem gX5_excess_X5_tagOf : GoodIn wsX5_excess (wsV RX5 179 RX5 yX5_tagOf wsX5_tagOf) := goodIn_app (goodIn_of _ (by decide +kernel)) ggX5_excess_X5_tagOf
set_option maxRecDepth 20000 in
theorem ggX5_excess_X5_groupTagOf : GoodIn wsX5_excess wsX5_groupTagOf := goodIn_r _ [25, 3, 12, 20, 26, 6, 7, 40, 41, 42, 43, 44, 45, 46, 47, 48, 49, 50, 51, 52, 53, 54, 55, 56, 57, 58, 59, 60, 61, 62, 63, 64, 65, 66, 67, 68, 69, 70, 71, 72, 73, 74, 75, 76, 77, 78, 79, 80, 81] (by decide +kernel) (by decide +kernel)
set_option maxRecDepth 20000 in
theorem gX5_excess_X5_groupTagOf : GoodIn wsX5_excess (wsV RX5 183 RX5 yX5_groupTagOf wsX5_groupTagOf) := goodIn_app (goodIn_of _ (by decide +kernel)) ggX5_excess_X5_groupTagOf
set_option maxRecDepth 20000 in
theorem ggX5_excess_X5_goes : GoodIn wsX5_excess wsX5_goes := goodIn_r _ [30, 7, 31, 4, 32, 6, 33, 34, 35, 36, 37, 38, 39, 8, 5, 3, 40, 41, 42, 43, 44, 45, 46, 47, 48, 49, 50, 51, 52, 53, 54, 55, 56, 57, 58, 59, 60, 61, 62, 63, 64, 65, 66, 67, 68, 69, 70, 71, 72, 73, 74, 75, 76, 77, 78, 79, 80, 81] (by decide +kernel) (by decide +kernel)
set_option maxRecDepth 20000 in
theorem gX5_excess_X5_goes : GoodIn wsX5_excess (wsV RX5 171 RX5 yX5_goes wsX5_goes) := goodIn_app (goodIn_of _ (by decide +kernel)) ggX5_excess_X5_goes
theorem dX5_excess_0 : decode cX5_excess 0 = .ok (.iconst (-1), 1) := by decide +kernel
theorem dX5_excess_1 : decode cX5_excess 1 = .ok (.istore_n 1, 1) := by decide +kernel
theorem dX5_excess_2 : decode cX5_excess 2 = .ok (.iconst 0, 1) := by decide +kernel
theorem dX5_excess_3 : decode cX5_excess 3 = .ok (.istore_n 2, 1) := by decide +kernel
theorem dX5_excess_4 : decode cX5_excess 4 = .ok (.iload_n 2, 1) := by decide +kernel
theorem dX5_excess_5 : decode cX5_excess 5 = .ok (.aload_n 0, 1) := by decide +kernel
theorem dX5_excess_6 : decode cX5_excess 6 = .ok (.getfield 117, 3) := by decide +kernel
theorem dX5_excess_9 : decode cX5_excess 9 = .ok (.if_icmp .ge 163, 3) := by decide +kernel
theorem dX5_excess_12 : decode cX5_excess 12 = .ok (.iconst (-1), 1) := by decide +kernel
theorem dX5_excess_13 : decode cX5_excess 13 = .ok (.istore_n 3, 1) := by decide +kernel
theorem dX5_excess_14 : decode cX5_excess 14 = .ok (.iconst 0, 1) := by decide +kernel
theorem dX5_excess_15 : decode cX5_excess 15 = .ok (.istore 4, 2) := by decide +kernel
theorem dX5_excess_17 : decode cX5_excess 17 = .ok (.iload 4, 2) := by decide +kernel
theorem dX5_excess_19 : decode cX5_excess 19 = .ok (.aload_n 0, 1) := by decide +kernel
theorem dX5_excess_20 : decode cX5_excess 20 = .ok (.getfield 128, 3) := by decide +kernel
theorem dX5_excess_23 : decode cX5_excess 23 = .ok (.if_icmp .ge 117, 3) := by decide +kernel
theorem dX5_excess_26 : decode cX5_excess 26 = .ok (.aload_n 0, 1) := by decide +kernel
theorem dX5_excess_27 : decode cX5_excess 27 = .ok (.getfield 24, 3) := by decide +kernel
theorem dX5_excess_30 : decode cX5_excess 30 = .ok (.iload 4, 2) := by decide +kernel
theorem dX5_excess_32 : decode cX5_excess 32 = .ok (.iaload, 1) := by decide +kernel
theorem dX5_excess_33 : decode cX5_excess 33 = .ok (.iload_n 2, 1) := by decide +kernel
theorem dX5_excess_34 : decode cX5_excess 34 = .ok (.if_icmp .ne 100, 3) := by decide +kernel
theorem dX5_excess_37 : decode cX5_excess 37 = .ok (.aload_n 0, 1) := by decide +kernel
theorem dX5_excess_38 : decode cX5_excess 38 = .ok (.getfield 42, 3) := by decide +kernel
theorem dX5_excess_41 : decode cX5_excess 41 = .ok (.iload 4, 2) := by decide +kernel
theorem dX5_excess_43 : decode cX5_excess 43 = .ok (.iaload, 1) := by decide +kernel
theorem dX5_excess_44 : decode cX5_excess 44 = .ok (.ifCond .ne 6, 3) := by decide +kernel
theorem dX5_excess_47 : decode cX5_excess 47 = .ok (.goto 87, 3) := by decide +kernel
theorem dX5_excess_50 : decode cX5_excess 50 = .ok (.ldc2_w 115, 3) := by decide +kernel
theorem dX5_excess_53 : decode cX5_excess 53 = .ok (.aload_n 0, 1) := by decide +kernel
theorem dX5_excess_54 : decode cX5_excess 54 = .ok (.getfield 88, 3) := by decide +kernel
theorem dX5_excess_57 : decode cX5_excess 57 = .ok (.aload_n 0, 1) := by decide +kernel
theorem dX5_excess_58 : decode cX5_excess 58 = .ok (.getfield 36, 3) := by decide +kernel
theorem dX5_excess_61 : decode cX5_excess 61 = .ok (.iload 4, 2) := by decide +kernel
theorem dX5_excess_63 : decode cX5_excess 63 = .ok (.iaload, 1) := by decide +kernel
theorem dX5_excess_64 : decode cX5_excess 64 = .ok (.iaload, 1) := by decide +kernel
theorem dX5_excess_65 : decode cX5_excess 65 = .ok (.i2l, 1) := by decide +kernel
theorem dX5_excess_66 : decode cX5_excess 66 = .ok (.lmul, 1) := by decide +kernel
theorem dX5_excess_67 : decode cX5_excess 67 = .ok (.lstore 5, 2) := by decide +kernel
theorem dX5_excess_69 : decode cX5_excess 69 = .ok (.aload_n 0, 1) := by decide +kernel
theorem dX5_excess_70 : decode cX5_excess 70 = .ok (.getfield 82, 3) := by decide +kernel
theorem dX5_excess_73 : decode cX5_excess 73 = .ok (.iload 4, 2) := by decide +kernel
theorem dX5_excess_75 : decode cX5_excess 75 = .ok (.laload, 1) := by decide +kernel
theorem dX5_excess_76 : decode cX5_excess 76 = .ok (.lload 5, 2) := by decide +kernel
theorem dX5_excess_78 : decode cX5_excess 78 = .ok (.lcmp, 1) := by decide +kernel
theorem dX5_excess_79 : decode cX5_excess 79 = .ok (.ifCond .lt 18, 3) := by decide +kernel
theorem dX5_excess_82 : decode cX5_excess 82 = .ok (.aload_n 0, 1) := by decide +kernel
theorem dX5_excess_83 : decode cX5_excess 83 = .ok (.getfield 82, 3) := by decide +kernel
theorem dX5_excess_86 : decode cX5_excess 86 = .ok (.bipush 8, 2) := by decide +kernel
theorem dX5_excess_88 : decode cX5_excess 88 = .ok (.iload_n 2, 1) := by decide +kernel
theorem dX5_excess_89 : decode cX5_excess 89 = .ok (.iadd, 1) := by decide +kernel
theorem dX5_excess_90 : decode cX5_excess 90 = .ok (.laload, 1) := by decide +kernel
theorem dX5_excess_91 : decode cX5_excess 91 = .ok (.lload 5, 2) := by decide +kernel
theorem dX5_excess_93 : decode cX5_excess 93 = .ok (.lcmp, 1) := by decide +kernel
theorem dX5_excess_94 : decode cX5_excess 94 = .ok (.ifCond .ge 17, 3) := by decide +kernel
theorem dX5_excess_97 : decode cX5_excess 97 = .ok (.aload_n 0, 1) := by decide +kernel
theorem dX5_excess_98 : decode cX5_excess 98 = .ok (.getfield 63, 3) := by decide +kernel
theorem dX5_excess_101 : decode cX5_excess 101 = .ok (.iload 4, 2) := by decide +kernel
theorem dX5_excess_103 : decode cX5_excess 103 = .ok (.dup2, 1) := by decide +kernel
theorem dX5_excess_104 : decode cX5_excess 104 = .ok (.iaload, 1) := by decide +kernel
theorem dX5_excess_105 : decode cX5_excess 105 = .ok (.iconst 1, 1) := by decide +kernel
theorem dX5_excess_106 : decode cX5_excess 106 = .ok (.iadd, 1) := by decide +kernel
theorem dX5_excess_107 : decode cX5_excess 107 = .ok (.iastore, 1) := by decide +kernel
theorem dX5_excess_108 : decode cX5_excess 108 = .ok (.goto 26, 3) := by decide +kernel
theorem dX5_excess_111 : decode cX5_excess 111 = .ok (.iload_n 3, 1) := by decide +kernel
theorem dX5_excess_112 : decode cX5_excess 112 = .ok (.iconst (-1), 1) := by decide +kernel
theorem dX5_excess_113 : decode cX5_excess 113 = .ok (.if_icmp .eq 18, 3) := by decide +kernel
theorem dX5_excess_116 : decode cX5_excess 116 = .ok (.aload_n 0, 1) := by decide +kernel
theorem dX5_excess_117 : decode cX5_excess 117 = .ok (.iload 4, 2) := by decide +kernel
theorem dX5_excess_119 : decode cX5_excess 119 = .ok (.invokevirtual 179, 3) := by decide +kernel
theorem dX5_excess_122 : decode cX5_excess 122 = .ok (.aload_n 0, 1) := by decide +kernel
theorem dX5_excess_123 : decode cX5_excess 123 = .ok (.iload_n 3, 1) := by decide +kernel
theorem dX5_excess_124 : decode cX5_excess 124 = .ok (.invokevirtual 179, 3) := by decide +kernel
theorem dX5_excess_127 : decode cX5_excess 127 = .ok (.lcmp, 1) := by decide +kernel
theorem dX5_excess_128 : decode cX5_excess 128 = .ok (.ifCond .ge 6, 3) := by decide +kernel
theorem dX5_excess_131 : decode cX5_excess 131 = .ok (.iload 4, 2) := by decide +kernel
theorem dX5_excess_133 : decode cX5_excess 133 = .ok (.istore_n 3, 1) := by decide +kernel
theorem dX5_excess_134 : decode cX5_excess 134 = .ok (.iinc 4 1, 3) := by decide +kernel
theorem dX5_excess_137 : decode cX5_excess 137 = .ok (.goto (-120), 3) := by decide +kernel
theorem dX5_excess_140 : decode cX5_excess 140 = .ok (.iload_n 3, 1) := by decide +kernel
theorem dX5_excess_141 : decode cX5_excess 141 = .ok (.iconst (-1), 1) := by decide +kernel
theorem dX5_excess_142 : decode cX5_excess 142 = .ok (.if_icmp .eq 24, 3) := by decide +kernel
theorem dX5_excess_145 : decode cX5_excess 145 = .ok (.iload_n 1, 1) := by decide +kernel
theorem dX5_excess_146 : decode cX5_excess 146 = .ok (.iconst (-1), 1) := by decide +kernel
theorem dX5_excess_147 : decode cX5_excess 147 = .ok (.if_icmp .eq 17, 3) := by decide +kernel
theorem dX5_excess_150 : decode cX5_excess 150 = .ok (.aload_n 0, 1) := by decide +kernel
theorem dX5_excess_151 : decode cX5_excess 151 = .ok (.iload_n 3, 1) := by decide +kernel
theorem dX5_excess_152 : decode cX5_excess 152 = .ok (.invokevirtual 183, 3) := by decide +kernel
theorem dX5_excess_155 : decode cX5_excess 155 = .ok (.aload_n 0, 1) := by decide +kernel
theorem dX5_excess_156 : decode cX5_excess 156 = .ok (.iload_n 1, 1) := by decide +kernel
theorem dX5_excess_157 : decode cX5_excess 157 = .ok (.invokevirtual 183, 3) := by decide +kernel
theorem dX5_excess_160 : decode cX5_excess 160 = .ok (.lcmp, 1) := by decide +kernel
theorem dX5_excess_161 : decode cX5_excess 161 = .ok (.ifCond .ge 5, 3) := by decide +kernel
theorem dX5_excess_164 : decode cX5_excess 164 = .ok (.iload_n 3, 1) := by decide +kernel
theorem dX5_excess_165 : decode cX5_excess 165 = .ok (.istore_n 1, 1) := by decide +kernel
theorem dX5_excess_166 : decode cX5_excess 166 = .ok (.iinc 2 1, 3) := by decide +kernel
theorem dX5_excess_169 : decode cX5_excess 169 = .ok (.goto (-165), 3) := by decide +kernel
theorem dX5_excess_172 : decode cX5_excess 172 = .ok (.iload_n 1, 1) := by decide +kernel
theorem dX5_excess_173 : decode cX5_excess 173 = .ok (.iconst (-1), 1) := by decide +kernel
theorem dX5_excess_174 : decode cX5_excess 174 = .ok (.if_icmp .ne 4, 3) := by decide +kernel
theorem dX5_excess_177 : decode cX5_excess 177 = .ok (.return_, 1) := by decide +kernel
theorem dX5_excess_178 : decode cX5_excess 178 = .ok (.aload_n 0, 1) := by decide +kernel
theorem dX5_excess_179 : decode cX5_excess 179 = .ok (.getfield 24, 3) := by decide +kernel
theorem dX5_excess_182 : decode cX5_excess 182 = .ok (.iload_n 1, 1) := by decide +kernel
theorem dX5_excess_183 : decode cX5_excess 183 = .ok (.iaload, 1) := by decide +kernel
theorem dX5_excess_184 : decode cX5_excess 184 = .ok (.istore_n 2, 1) := by decide +kernel
theorem dX5_excess_185 : decode cX5_excess 185 = .ok (.aload_n 0, 1) := by decide +kernel
theorem dX5_excess_186 : decode cX5_excess 186 = .ok (.iload_n 1, 1) := by decide +kernel
theorem dX5_excess_187 : decode cX5_excess 187 = .ok (.invokevirtual 179, 3) := by decide +kernel
theorem dX5_excess_190 : decode cX5_excess 190 = .ok (.lstore_n 3, 1) := by decide +kernel
theorem dX5_excess_191 : decode cX5_excess 191 = .ok (.aload_n 0, 1) := by decide +kernel
theorem dX5_excess_192 : decode cX5_excess 192 = .ok (.iload_n 1, 1) := by decide +kernel
theorem dX5_excess_193 : decode cX5_excess 193 = .ok (.invokevirtual 183, 3) := by decide +kernel
theorem dX5_excess_196 : decode cX5_excess 196 = .ok (.lstore 5, 2) := by decide +kernel
theorem dX5_excess_198 : decode cX5_excess 198 = .ok (.aload_n 0, 1) := by decide +kernel
theorem dX5_excess_199 : decode cX5_excess 199 = .ok (.getfield 66, 3) := by decide +kernel
theorem dX5_excess_202 : decode cX5_excess 202 = .ok (.iload_n 1, 1) := by decide +kernel
theorem dX5_excess_203 : decode cX5_excess 203 = .ok (.lload_n 3, 1) := by decide +kernel
theorem dX5_excess_204 : decode cX5_excess 204 = .ok (.lastore, 1) := by decide +kernel
theorem dX5_excess_205 : decode cX5_excess 205 = .ok (.aload_n 0, 1) := by decide +kernel
theorem dX5_excess_206 : decode cX5_excess 206 = .ok (.getfield 21, 3) := by decide +kernel
theorem dX5_excess_209 : decode cX5_excess 209 = .ok (.iload_n 2, 1) := by decide +kernel
theorem dX5_excess_210 : decode cX5_excess 210 = .ok (.aload_n 0, 1) := by decide +kernel
theorem dX5_excess_211 : decode cX5_excess 211 = .ok (.getfield 21, 3) := by decide +kernel
theorem dX5_excess_214 : decode cX5_excess 214 = .ok (.iload_n 2, 1) := by decide +kernel
theorem dX5_excess_215 : decode cX5_excess 215 = .ok (.laload, 1) := by decide +kernel
theorem dX5_excess_216 : decode cX5_excess 216 = .ok (.lload_n 3, 1) := by decide +kernel
theorem dX5_excess_217 : decode cX5_excess 217 = .ok (.lcmp, 1) := by decide +kernel
theorem dX5_excess_218 : decode cX5_excess 218 = .ok (.ifCond .ge 7, 3) := by decide +kernel
theorem dX5_excess_221 : decode cX5_excess 221 = .ok (.lload_n 3, 1) := by decide +kernel
theorem dX5_excess_222 : decode cX5_excess 222 = .ok (.goto 9, 3) := by decide +kernel
theorem dX5_excess_225 : decode cX5_excess 225 = .ok (.aload_n 0, 1) := by decide +kernel
theorem dX5_excess_226 : decode cX5_excess 226 = .ok (.getfield 21, 3) := by decide +kernel
theorem dX5_excess_229 : decode cX5_excess 229 = .ok (.iload_n 2, 1) := by decide +kernel
theorem dX5_excess_230 : decode cX5_excess 230 = .ok (.laload, 1) := by decide +kernel
theorem dX5_excess_231 : decode cX5_excess 231 = .ok (.lastore, 1) := by decide +kernel
theorem dX5_excess_232 : decode cX5_excess 232 = .ok (.aload_n 0, 1) := by decide +kernel
theorem dX5_excess_233 : decode cX5_excess 233 = .ok (.getfield 17, 3) := by decide +kernel
theorem dX5_excess_236 : decode cX5_excess 236 = .ok (.iload_n 2, 1) := by decide +kernel
theorem dX5_excess_237 : decode cX5_excess 237 = .ok (.lload 5, 2) := by decide +kernel
theorem dX5_excess_239 : decode cX5_excess 239 = .ok (.lastore, 1) := by decide +kernel
theorem dX5_excess_240 : decode cX5_excess 240 = .ok (.aload_n 0, 1) := by decide +kernel
theorem dX5_excess_241 : decode cX5_excess 241 = .ok (.aload_n 0, 1) := by decide +kernel
theorem dX5_excess_242 : decode cX5_excess 242 = .ok (.getfield 135, 3) := by decide +kernel
theorem dX5_excess_245 : decode cX5_excess 245 = .ok (.lload 5, 2) := by decide +kernel
theorem dX5_excess_247 : decode cX5_excess 247 = .ok (.lcmp, 1) := by decide +kernel
theorem dX5_excess_248 : decode cX5_excess 248 = .ok (.ifCond .ge 8, 3) := by decide +kernel
theorem dX5_excess_251 : decode cX5_excess 251 = .ok (.lload 5, 2) := by decide +kernel
theorem dX5_excess_253 : decode cX5_excess 253 = .ok (.goto 7, 3) := by decide +kernel
theorem dX5_excess_256 : decode cX5_excess 256 = .ok (.aload_n 0, 1) := by decide +kernel
theorem dX5_excess_257 : decode cX5_excess 257 = .ok (.getfield 135, 3) := by decide +kernel
theorem dX5_excess_260 : decode cX5_excess 260 = .ok (.putfield 135, 3) := by decide +kernel
theorem dX5_excess_263 : decode cX5_excess 263 = .ok (.aload_n 0, 1) := by decide +kernel
theorem dX5_excess_264 : decode cX5_excess 264 = .ok (.iload_n 1, 1) := by decide +kernel
theorem dX5_excess_265 : decode cX5_excess 265 = .ok (.iconst 2, 1) := by decide +kernel
theorem dX5_excess_266 : decode cX5_excess 266 = .ok (.invokevirtual 171, 3) := by decide +kernel
theorem dX5_excess_269 : decode cX5_excess 269 = .ok (.istore 7, 2) := by decide +kernel
theorem dX5_excess_271 : decode cX5_excess 271 = .ok (.aload_n 0, 1) := by decide +kernel
theorem dX5_excess_272 : decode cX5_excess 272 = .ok (.getfield 51, 3) := by decide +kernel
theorem dX5_excess_275 : decode cX5_excess 275 = .ok (.iload_n 1, 1) := by decide +kernel
theorem dX5_excess_276 : decode cX5_excess 276 = .ok (.dup2, 1) := by decide +kernel
theorem dX5_excess_277 : decode cX5_excess 277 = .ok (.iaload, 1) := by decide +kernel
theorem dX5_excess_278 : decode cX5_excess 278 = .ok (.aload_n 0, 1) := by decide +kernel
theorem dX5_excess_279 : decode cX5_excess 279 = .ok (.getfield 88, 3) := by decide +kernel
theorem dX5_excess_282 : decode cX5_excess 282 = .ok (.iload 7, 2) := by decide +kernel
theorem dX5_excess_284 : decode cX5_excess 284 = .ok (.iaload, 1) := by decide +kernel
theorem dX5_excess_285 : decode cX5_excess 285 = .ok (.iadd, 1) := by decide +kernel
theorem dX5_excess_286 : decode cX5_excess 286 = .ok (.iastore, 1) := by decide +kernel
theorem dX5_excess_287 : decode cX5_excess 287 = .ok (.return_, 1) := by decide +kernel
theorem dX5_goes_0 : decode cX5_goes 0 = .ok (.aload_n 0, 1) := by decide +kernel
theorem dX5_goes_1 : decode cX5_goes 1 = .ok (.getfield 36, 3) := by decide +kernel
theorem dX5_goes_4 : decode cX5_goes 4 = .ok (.iload_n 1, 1) := by decide +kernel
theorem dX5_goes_5 : decode cX5_goes 5 = .ok (.iaload, 1) := by decide +kernel
theorem dX5_goes_6 : decode cX5_goes 6 = .ok (.istore_n 3, 1) := by decide +kernel
theorem dX5_goes_7 : decode cX5_goes 7 = .ok (.aload_n 0, 1) := by decide +kernel
theorem dX5_goes_8 : decode cX5_goes 8 = .ok (.getfield 36, 3) := by decide +kernel
theorem dX5_goes_11 : decode cX5_goes 11 = .ok (.iload_n 1, 1) := by decide +kernel
theorem dX5_goes_12 : decode cX5_goes 12 = .ok (.aload_n 0, 1) := by decide +kernel
theorem dX5_goes_13 : decode cX5_goes 13 = .ok (.getfield 103, 3) := by decide +kernel
theorem dX5_goes_16 : decode cX5_goes 16 = .ok (.iload_n 3, 1) := by decide +kernel
theorem dX5_goes_17 : decode cX5_goes 17 = .ok (.iaload, 1) := by decide +kernel
theorem dX5_goes_18 : decode cX5_goes 18 = .ok (.iastore, 1) := by decide +kernel
theorem dX5_goes_19 : decode cX5_goes 19 = .ok (.aload_n 0, 1) := by decide +kernel
theorem dX5_goes_20 : decode cX5_goes 20 = .ok (.getfield 42, 3) := by decide +kernel
theorem dX5_goes_23 : decode cX5_goes 23 = .ok (.iload_n 1, 1) := by decide +kernel
theorem dX5_goes_24 : decode cX5_goes 24 = .ok (.dup2, 1) := by decide +kernel
theorem dX5_goes_25 : decode cX5_goes 25 = .ok (.iaload, 1) := by decide +kernel
theorem dX5_goes_26 : decode cX5_goes 26 = .ok (.iconst 1, 1) := by decide +kernel
theorem dX5_goes_27 : decode cX5_goes 27 = .ok (.isub, 1) := by decide +kernel
theorem dX5_goes_28 : decode cX5_goes 28 = .ok (.iastore, 1) := by decide +kernel
theorem dX5_goes_29 : decode cX5_goes 29 = .ok (.aload_n 0, 1) := by decide +kernel
theorem dX5_goes_30 : decode cX5_goes 30 = .ok (.getfield 45, 3) := by decide +kernel
theorem dX5_goes_33 : decode cX5_goes 33 = .ok (.iload_n 1, 1) := by decide +kernel
theorem dX5_goes_34 : decode cX5_goes 34 = .ok (.dup2, 1) := by decide +kernel
theorem dX5_goes_35 : decode cX5_goes 35 = .ok (.iaload, 1) := by decide +kernel
theorem dX5_goes_36 : decode cX5_goes 36 = .ok (.aload_n 0, 1) := by decide +kernel
theorem dX5_goes_37 : decode cX5_goes 37 = .ok (.getfield 88, 3) := by decide +kernel
theorem dX5_goes_40 : decode cX5_goes 40 = .ok (.iload_n 3, 1) := by decide +kernel
theorem dX5_goes_41 : decode cX5_goes 41 = .ok (.iaload, 1) := by decide +kernel
theorem dX5_goes_42 : decode cX5_goes 42 = .ok (.isub, 1) := by decide +kernel
theorem dX5_goes_43 : decode cX5_goes 43 = .ok (.iastore, 1) := by decide +kernel
theorem dX5_goes_44 : decode cX5_goes 44 = .ok (.aload_n 0, 1) := by decide +kernel
theorem dX5_goes_45 : decode cX5_goes 45 = .ok (.getfield 94, 3) := by decide +kernel
theorem dX5_goes_48 : decode cX5_goes 48 = .ok (.iload_n 3, 1) := by decide +kernel
theorem dX5_goes_49 : decode cX5_goes 49 = .ok (.aload_n 0, 1) := by decide +kernel
theorem dX5_goes_50 : decode cX5_goes 50 = .ok (.getfield 139, 3) := by decide +kernel
theorem dX5_goes_53 : decode cX5_goes 53 = .ok (.iastore, 1) := by decide +kernel
theorem dX5_goes_54 : decode cX5_goes 54 = .ok (.aload_n 0, 1) := by decide +kernel
theorem dX5_goes_55 : decode cX5_goes 55 = .ok (.getfield 97, 3) := by decide +kernel
theorem dX5_goes_58 : decode cX5_goes 58 = .ok (.iload_n 3, 1) := by decide +kernel
theorem dX5_goes_59 : decode cX5_goes 59 = .ok (.iload_n 2, 1) := by decide +kernel
theorem dX5_goes_60 : decode cX5_goes 60 = .ok (.iastore, 1) := by decide +kernel
theorem dX5_goes_61 : decode cX5_goes 61 = .ok (.aload_n 0, 1) := by decide +kernel
theorem dX5_goes_62 : decode cX5_goes 62 = .ok (.getfield 106, 3) := by decide +kernel
theorem dX5_goes_65 : decode cX5_goes 65 = .ok (.aload_n 0, 1) := by decide +kernel
theorem dX5_goes_66 : decode cX5_goes 66 = .ok (.getfield 147, 3) := by decide +kernel
theorem dX5_goes_69 : decode cX5_goes 69 = .ok (.iload_n 3, 1) := by decide +kernel
theorem dX5_goes_70 : decode cX5_goes 70 = .ok (.iastore, 1) := by decide +kernel
theorem dX5_goes_71 : decode cX5_goes 71 = .ok (.aload_n 0, 1) := by decide +kernel
theorem dX5_goes_72 : decode cX5_goes 72 = .ok (.dup, 1) := by decide +kernel
theorem dX5_goes_73 : decode cX5_goes 73 = .ok (.getfield 147, 3) := by decide +kernel
theorem dX5_goes_76 : decode cX5_goes 76 = .ok (.iconst 1, 1) := by decide +kernel
theorem dX5_goes_77 : decode cX5_goes 77 = .ok (.iadd, 1) := by decide +kernel
theorem dX5_goes_78 : decode cX5_goes 78 = .ok (.putfield 147, 3) := by decide +kernel
theorem dX5_goes_81 : decode cX5_goes 81 = .ok (.aload_n 0, 1) := by decide +kernel
theorem dX5_goes_82 : decode cX5_goes 82 = .ok (.iload_n 3, 1) := by decide +kernel
theorem dX5_goes_83 : decode cX5_goes 83 = .ok (.putfield 9, 3) := by decide +kernel
theorem dX5_goes_86 : decode cX5_goes 86 = .ok (.aload_n 0, 1) := by decide +kernel
theorem dX5_goes_87 : decode cX5_goes 87 = .ok (.aload_n 0, 1) := by decide +kernel
theorem dX5_goes_88 : decode cX5_goes 88 = .ok (.getfield 88, 3) := by decide +kernel
theorem dX5_goes_91 : decode cX5_goes 91 = .ok (.iload_n 3, 1) := by decide +kernel
theorem dX5_goes_92 : decode cX5_goes 92 = .ok (.iaload, 1) := by decide +kernel
theorem dX5_goes_93 : decode cX5_goes 93 = .ok (.putfield 142, 3) := by decide +kernel
theorem dX5_goes_96 : decode cX5_goes 96 = .ok (.aload_n 0, 1) := by decide +kernel
theorem dX5_goes_97 : decode cX5_goes 97 = .ok (.getfield 82, 3) := by decide +kernel
theorem dX5_goes_100 : decode cX5_goes 100 = .ok (.iload_n 1, 1) := by decide +kernel
theorem dX5_goes_101 : decode cX5_goes 101 = .ok (.dup2, 1) := by decide +kernel
theorem dX5_goes_102 : decode cX5_goes 102 = .ok (.laload, 1) := by decide +kernel
theorem dX5_goes_103 : decode cX5_goes 103 = .ok (.ldc2_w 115, 3) := by decide +kernel
theorem dX5_goes_106 : decode cX5_goes 106 = .ok (.aload_n 0, 1) := by decide +kernel
theorem dX5_goes_107 : decode cX5_goes 107 = .ok (.getfield 88, 3) := by decide +kernel
theorem dX5_goes_110 : decode cX5_goes 110 = .ok (.iload_n 3, 1) := by decide +kernel
theorem dX5_goes_111 : decode cX5_goes 111 = .ok (.iaload, 1) := by decide +kernel
theorem dX5_goes_112 : decode cX5_goes 112 = .ok (.i2l, 1) := by decide +kernel
theorem dX5_goes_113 : decode cX5_goes 113 = .ok (.lmul, 1) := by decide +kernel
theorem dX5_goes_114 : decode cX5_goes 114 = .ok (.lsub, 1) := by decide +kernel
theorem dX5_goes_115 : decode cX5_goes 115 = .ok (.lastore, 1) := by decide +kernel
theorem dX5_goes_116 : decode cX5_goes 116 = .ok (.aload_n 0, 1) := by decide +kernel
theorem dX5_goes_117 : decode cX5_goes 117 = .ok (.getfield 82, 3) := by decide +kernel
theorem dX5_goes_120 : decode cX5_goes 120 = .ok (.bipush 8, 2) := by decide +kernel
theorem dX5_goes_122 : decode cX5_goes 122 = .ok (.aload_n 0, 1) := by decide +kernel
theorem dX5_goes_123 : decode cX5_goes 123 = .ok (.getfield 24, 3) := by decide +kernel
theorem dX5_goes_126 : decode cX5_goes 126 = .ok (.iload_n 1, 1) := by decide +kernel
theorem dX5_goes_127 : decode cX5_goes 127 = .ok (.iaload, 1) := by decide +kernel
theorem dX5_goes_128 : decode cX5_goes 128 = .ok (.iadd, 1) := by decide +kernel
theorem dX5_goes_129 : decode cX5_goes 129 = .ok (.dup2, 1) := by decide +kernel
theorem dX5_goes_130 : decode cX5_goes 130 = .ok (.laload, 1) := by decide +kernel
theorem dX5_goes_131 : decode cX5_goes 131 = .ok (.ldc2_w 115, 3) := by decide +kernel
theorem dX5_goes_134 : decode cX5_goes 134 = .ok (.aload_n 0, 1) := by decide +kernel
theorem dX5_goes_135 : decode cX5_goes 135 = .ok (.getfield 88, 3) := by decide +kernel
theorem dX5_goes_138 : decode cX5_goes 138 = .ok (.iload_n 3, 1) := by decide +kernel
theorem dX5_goes_139 : decode cX5_goes 139 = .ok (.iaload, 1) := by decide +kernel
theorem dX5_goes_140 : decode cX5_goes 140 = .ok (.i2l, 1) := by decide +kernel
theorem dX5_goes_141 : decode cX5_goes 141 = .ok (.lmul, 1) := by decide +kernel
theorem dX5_goes_142 : decode cX5_goes 142 = .ok (.lsub, 1) := by decide +kernel
theorem dX5_goes_143 : decode cX5_goes 143 = .ok (.lastore, 1) := by decide +kernel
theorem dX5_goes_144 : decode cX5_goes 144 = .ok (.iload_n 3, 1) := by decide +kernel
theorem dX5_goes_145 : decode cX5_goes 145 = .ok (.ireturn, 1) := by decide +kernel
theorem dX5_now_0 : decode cX5_now 0 = .ok (.aload_n 0, 1) := by decide +kernel
theorem dX5_now_1 : decode cX5_now 1 = .ok (.getfield 139, 3) := by decide +kernel
theorem dX5_now_4 : decode cX5_now 4 = .ok (.ireturn, 1) := by decide +kernel
set_option maxRecDepth 20000 in
theorem ggX5_packet_X5_in : GoodIn wsX5_packet wsX5_in := goodIn_r _ [12] (by decide +kernel) (by decide +kernel)
set_option maxRecDepth 20000 in
theorem gX5_packet_X5_in : GoodIn wsX5_packet (va_wsS RX5 120 yX5_in wsX5_in) := goodIn_app (goodIn_of _ (by decide +kernel)) ggX5_packet_X5_in
theorem dX5_packet_0 : decode cX5_packet 0 = .ok (.iload_n 1, 1) := by decide +kernel
theorem dX5_packet_1 : decode cX5_packet 1 = .ok (.iconst 0, 1) := by decide +kernel
theorem dX5_packet_2 : decode cX5_packet 2 = .ok (.aload_n 0, 1) := by decide +kernel
theorem dX5_packet_3 : decode cX5_packet 3 = .ok (.getfield 132, 3) := by decide +kernel
theorem dX5_packet_6 : decode cX5_packet 6 = .ok (.iconst 1, 1) := by decide +kernel
theorem dX5_packet_7 : decode cX5_packet 7 = .ok (.isub, 1) := by decide +kernel
theorem dX5_packet_8 : decode cX5_packet 8 = .ok (.invokestatic 120, 3) := by decide +kernel
theorem dX5_packet_11 : decode cX5_packet 11 = .ok (.ifCond .ne 5, 3) := by decide +kernel
theorem dX5_packet_14 : decode cX5_packet 14 = .ok (.iconst (-1), 1) := by decide +kernel
theorem dX5_packet_15 : decode cX5_packet 15 = .ok (.ireturn, 1) := by decide +kernel
theorem dX5_packet_16 : decode cX5_packet 16 = .ok (.iload_n 2, 1) := by decide +kernel
theorem dX5_packet_17 : decode cX5_packet 17 = .ok (.tableswitch 100 0 6 #[43, 50, 57, 64, 71, 78, 85], 43) := by decide +kernel
theorem dX5_packet_60 : decode cX5_packet 60 = .ok (.aload_n 0, 1) := by decide +kernel
theorem dX5_packet_61 : decode cX5_packet 61 = .ok (.getfield 85, 3) := by decide +kernel
theorem dX5_packet_64 : decode cX5_packet 64 = .ok (.iload_n 1, 1) := by decide +kernel
theorem dX5_packet_65 : decode cX5_packet 65 = .ok (.iaload, 1) := by decide +kernel
theorem dX5_packet_66 : decode cX5_packet 66 = .ok (.ireturn, 1) := by decide +kernel
theorem dX5_packet_67 : decode cX5_packet 67 = .ok (.aload_n 0, 1) := by decide +kernel
theorem dX5_packet_68 : decode cX5_packet 68 = .ok (.getfield 88, 3) := by decide +kernel
theorem dX5_packet_71 : decode cX5_packet 71 = .ok (.iload_n 1, 1) := by decide +kernel
theorem dX5_packet_72 : decode cX5_packet 72 = .ok (.iaload, 1) := by decide +kernel
theorem dX5_packet_73 : decode cX5_packet 73 = .ok (.ireturn, 1) := by decide +kernel
theorem dX5_packet_74 : decode cX5_packet 74 = .ok (.aload_n 0, 1) := by decide +kernel
theorem dX5_packet_75 : decode cX5_packet 75 = .ok (.getfield 91, 3) := by decide +kernel
theorem dX5_packet_78 : decode cX5_packet 78 = .ok (.iload_n 1, 1) := by decide +kernel
theorem dX5_packet_79 : decode cX5_packet 79 = .ok (.iaload, 1) := by decide +kernel
theorem dX5_packet_80 : decode cX5_packet 80 = .ok (.ireturn, 1) := by decide +kernel
theorem dX5_packet_81 : decode cX5_packet 81 = .ok (.aload_n 0, 1) := by decide +kernel
theorem dX5_packet_82 : decode cX5_packet 82 = .ok (.getfield 94, 3) := by decide +kernel
theorem dX5_packet_85 : decode cX5_packet 85 = .ok (.iload_n 1, 1) := by decide +kernel
theorem dX5_packet_86 : decode cX5_packet 86 = .ok (.iaload, 1) := by decide +kernel
theorem dX5_packet_87 : decode cX5_packet 87 = .ok (.ireturn, 1) := by decide +kernel
theorem dX5_packet_88 : decode cX5_packet 88 = .ok (.aload_n 0, 1) := by decide +kernel
theorem dX5_packet_89 : decode cX5_packet 89 = .ok (.getfield 97, 3) := by decide +kernel
theorem dX5_packet_92 : decode cX5_packet 92 = .ok (.iload_n 1, 1) := by decide +kernel
theorem dX5_packet_93 : decode cX5_packet 93 = .ok (.iaload, 1) := by decide +kernel
theorem dX5_packet_94 : decode cX5_packet 94 = .ok (.ireturn, 1) := by decide +kernel
theorem dX5_packet_95 : decode cX5_packet 95 = .ok (.aload_n 0, 1) := by decide +kernel
theorem dX5_packet_96 : decode cX5_packet 96 = .ok (.getfield 100, 3) := by decide +kernel
theorem dX5_packet_99 : decode cX5_packet 99 = .ok (.iload_n 1, 1) := by decide +kernel
theorem dX5_packet_100 : decode cX5_packet 100 = .ok (.iaload, 1) := by decide +kernel
theorem dX5_packet_101 : decode cX5_packet 101 = .ok (.ireturn, 1) := by decide +kernel
theorem dX5_packet_102 : decode cX5_packet 102 = .ok (.aload_n 0, 1) := by decide +kernel
theorem dX5_packet_103 : decode cX5_packet 103 = .ok (.getfield 109, 3) := by decide +kernel
theorem dX5_packet_106 : decode cX5_packet 106 = .ok (.iload_n 1, 1) := by decide +kernel
theorem dX5_packet_107 : decode cX5_packet 107 = .ok (.baload, 1) := by decide +kernel
theorem dX5_packet_108 : decode cX5_packet 108 = .ok (.ifCond .eq 7, 3) := by decide +kernel
theorem dX5_packet_111 : decode cX5_packet 111 = .ok (.iconst 1, 1) := by decide +kernel
theorem dX5_packet_112 : decode cX5_packet 112 = .ok (.goto 4, 3) := by decide +kernel
theorem dX5_packet_115 : decode cX5_packet 115 = .ok (.iconst 0, 1) := by decide +kernel
theorem dX5_packet_116 : decode cX5_packet 116 = .ok (.ireturn, 1) := by decide +kernel
theorem dX5_packet_117 : decode cX5_packet 117 = .ok (.iconst (-1), 1) := by decide +kernel
theorem dX5_packet_118 : decode cX5_packet 118 = .ok (.ireturn, 1) := by decide +kernel
set_option maxRecDepth 20000 in
theorem ggX5_sent_X5_in : GoodIn wsX5_sent wsX5_in := goodIn_r _ [6] (by decide +kernel) (by decide +kernel)
set_option maxRecDepth 20000 in
theorem gX5_sent_X5_in : GoodIn wsX5_sent (va_wsS RX5 120 yX5_in wsX5_in) := goodIn_app (goodIn_of _ (by decide +kernel)) ggX5_sent_X5_in
theorem dX5_sent_0 : decode cX5_sent 0 = .ok (.iload_n 1, 1) := by decide +kernel
theorem dX5_sent_1 : decode cX5_sent 1 = .ok (.iconst 0, 1) := by decide +kernel
theorem dX5_sent_2 : decode cX5_sent 2 = .ok (.aload_n 0, 1) := by decide +kernel
theorem dX5_sent_3 : decode cX5_sent 3 = .ok (.getfield 147, 3) := by decide +kernel
theorem dX5_sent_6 : decode cX5_sent 6 = .ok (.iconst 1, 1) := by decide +kernel
theorem dX5_sent_7 : decode cX5_sent 7 = .ok (.isub, 1) := by decide +kernel
theorem dX5_sent_8 : decode cX5_sent 8 = .ok (.invokestatic 120, 3) := by decide +kernel
theorem dX5_sent_11 : decode cX5_sent 11 = .ok (.ifCond .eq 12, 3) := by decide +kernel
theorem dX5_sent_14 : decode cX5_sent 14 = .ok (.aload_n 0, 1) := by decide +kernel
theorem dX5_sent_15 : decode cX5_sent 15 = .ok (.getfield 106, 3) := by decide +kernel
theorem dX5_sent_18 : decode cX5_sent 18 = .ok (.iload_n 1, 1) := by decide +kernel
theorem dX5_sent_19 : decode cX5_sent 19 = .ok (.iaload, 1) := by decide +kernel
theorem dX5_sent_20 : decode cX5_sent 20 = .ok (.goto 4, 3) := by decide +kernel
theorem dX5_sent_23 : decode cX5_sent 23 = .ok (.iconst (-1), 1) := by decide +kernel
theorem dX5_sent_24 : decode cX5_sent 24 = .ok (.ireturn, 1) := by decide +kernel
set_option maxRecDepth 20000 in
theorem ggX5_about_X5_in : GoodIn wsX5_about wsX5_in := goodIn_r _ [13] (by decide +kernel) (by decide +kernel)
set_option maxRecDepth 20000 in
theorem gX5_about_X5_in : GoodIn wsX5_about (va_wsS RX5 120 yX5_in wsX5_in) := goodIn_app (goodIn_of _ (by decide +kernel)) ggX5_about_X5_in
theorem dX5_about_0 : decode cX5_about 0 = .ok (.iload_n 1, 1) := by decide +kernel
theorem dX5_about_1 : decode cX5_about 1 = .ok (.iconst 0, 1) := by decide +kernel
theorem dX5_about_2 : decode cX5_about 2 = .ok (.aload_n 0, 1) := by decide +kernel
theorem dX5_about_3 : decode cX5_about 3 = .ok (.getfield 128, 3) := by decide +kernel
theorem dX5_about_6 : decode cX5_about 6 = .ok (.iconst 1, 1) := by decide +kernel
theorem dX5_about_7 : decode cX5_about 7 = .ok (.isub, 1) := by decide +kernel
theorem dX5_about_8 : decode cX5_about 8 = .ok (.invokestatic 120, 3) := by decide +kernel
theorem dX5_about_11 : decode cX5_about 11 = .ok (.ifCond .ne 5, 3) := by decide +kernel
theorem dX5_about_14 : decode cX5_about 14 = .ok (.iconst (-1), 1) := by decide +kernel
theorem dX5_about_15 : decode cX5_about 15 = .ok (.ireturn, 1) := by decide +kernel
theorem dX5_about_16 : decode cX5_about 16 = .ok (.iload_n 2, 1) := by decide +kernel
theorem dX5_about_17 : decode cX5_about 17 = .ok (.tableswitch 103 0 7 #[47, 54, 61, 68, 75, 82, 89, 96], 47) := by decide +kernel
theorem dX5_about_64 : decode cX5_about 64 = .ok (.aload_n 0, 1) := by decide +kernel
theorem dX5_about_65 : decode cX5_about 65 = .ok (.getfield 42, 3) := by decide +kernel
theorem dX5_about_68 : decode cX5_about 68 = .ok (.iload_n 1, 1) := by decide +kernel
theorem dX5_about_69 : decode cX5_about 69 = .ok (.iaload, 1) := by decide +kernel
theorem dX5_about_70 : decode cX5_about 70 = .ok (.ireturn, 1) := by decide +kernel
theorem dX5_about_71 : decode cX5_about 71 = .ok (.aload_n 0, 1) := by decide +kernel
theorem dX5_about_72 : decode cX5_about 72 = .ok (.getfield 45, 3) := by decide +kernel
theorem dX5_about_75 : decode cX5_about 75 = .ok (.iload_n 1, 1) := by decide +kernel
theorem dX5_about_76 : decode cX5_about 76 = .ok (.iaload, 1) := by decide +kernel
theorem dX5_about_77 : decode cX5_about 77 = .ok (.ireturn, 1) := by decide +kernel
theorem dX5_about_78 : decode cX5_about 78 = .ok (.aload_n 0, 1) := by decide +kernel
theorem dX5_about_79 : decode cX5_about 79 = .ok (.getfield 48, 3) := by decide +kernel
theorem dX5_about_82 : decode cX5_about 82 = .ok (.iload_n 1, 1) := by decide +kernel
theorem dX5_about_83 : decode cX5_about 83 = .ok (.iaload, 1) := by decide +kernel
theorem dX5_about_84 : decode cX5_about 84 = .ok (.ireturn, 1) := by decide +kernel
theorem dX5_about_85 : decode cX5_about 85 = .ok (.aload_n 0, 1) := by decide +kernel
theorem dX5_about_86 : decode cX5_about 86 = .ok (.getfield 51, 3) := by decide +kernel
theorem dX5_about_89 : decode cX5_about 89 = .ok (.iload_n 1, 1) := by decide +kernel
theorem dX5_about_90 : decode cX5_about 90 = .ok (.iaload, 1) := by decide +kernel
theorem dX5_about_91 : decode cX5_about 91 = .ok (.ireturn, 1) := by decide +kernel
theorem dX5_about_92 : decode cX5_about 92 = .ok (.aload_n 0, 1) := by decide +kernel
theorem dX5_about_93 : decode cX5_about 93 = .ok (.getfield 54, 3) := by decide +kernel
theorem dX5_about_96 : decode cX5_about 96 = .ok (.iload_n 1, 1) := by decide +kernel
theorem dX5_about_97 : decode cX5_about 97 = .ok (.iaload, 1) := by decide +kernel
theorem dX5_about_98 : decode cX5_about 98 = .ok (.ireturn, 1) := by decide +kernel
theorem dX5_about_99 : decode cX5_about 99 = .ok (.aload_n 0, 1) := by decide +kernel
theorem dX5_about_100 : decode cX5_about 100 = .ok (.getfield 57, 3) := by decide +kernel
theorem dX5_about_103 : decode cX5_about 103 = .ok (.iload_n 1, 1) := by decide +kernel
theorem dX5_about_104 : decode cX5_about 104 = .ok (.iaload, 1) := by decide +kernel
theorem dX5_about_105 : decode cX5_about 105 = .ok (.ireturn, 1) := by decide +kernel
theorem dX5_about_106 : decode cX5_about 106 = .ok (.aload_n 0, 1) := by decide +kernel
theorem dX5_about_107 : decode cX5_about 107 = .ok (.getfield 60, 3) := by decide +kernel
theorem dX5_about_110 : decode cX5_about 110 = .ok (.iload_n 1, 1) := by decide +kernel
theorem dX5_about_111 : decode cX5_about 111 = .ok (.iaload, 1) := by decide +kernel
theorem dX5_about_112 : decode cX5_about 112 = .ok (.ireturn, 1) := by decide +kernel
theorem dX5_about_113 : decode cX5_about 113 = .ok (.aload_n 0, 1) := by decide +kernel
theorem dX5_about_114 : decode cX5_about 114 = .ok (.getfield 63, 3) := by decide +kernel
theorem dX5_about_117 : decode cX5_about 117 = .ok (.iload_n 1, 1) := by decide +kernel
theorem dX5_about_118 : decode cX5_about 118 = .ok (.iaload, 1) := by decide +kernel
theorem dX5_about_119 : decode cX5_about 119 = .ok (.ireturn, 1) := by decide +kernel
theorem dX5_about_120 : decode cX5_about 120 = .ok (.iconst (-1), 1) := by decide +kernel
theorem dX5_about_121 : decode cX5_about 121 = .ok (.ireturn, 1) := by decide +kernel
set_option maxRecDepth 20000 in
theorem ggX5_tokens_X5_in : GoodIn wsX5_tokens wsX5_in := goodIn_r _ [7] (by decide +kernel) (by decide +kernel)
set_option maxRecDepth 20000 in
theorem gX5_tokens_X5_in : GoodIn wsX5_tokens (va_wsS RX5 120 yX5_in wsX5_in) := goodIn_app (goodIn_of _ (by decide +kernel)) ggX5_tokens_X5_in
theorem dX5_tokens_0 : decode cX5_tokens 0 = .ok (.iload_n 2, 1) := by decide +kernel
theorem dX5_tokens_1 : decode cX5_tokens 1 = .ok (.iconst 1, 1) := by decide +kernel
theorem dX5_tokens_2 : decode cX5_tokens 2 = .ok (.if_icmp .ne 31, 3) := by decide +kernel
theorem dX5_tokens_5 : decode cX5_tokens 5 = .ok (.iload_n 1, 1) := by decide +kernel
theorem dX5_tokens_6 : decode cX5_tokens 6 = .ok (.iconst 0, 1) := by decide +kernel
theorem dX5_tokens_7 : decode cX5_tokens 7 = .ok (.aload_n 0, 1) := by decide +kernel
theorem dX5_tokens_8 : decode cX5_tokens 8 = .ok (.getfield 117, 3) := by decide +kernel
theorem dX5_tokens_11 : decode cX5_tokens 11 = .ok (.iconst 1, 1) := by decide +kernel
theorem dX5_tokens_12 : decode cX5_tokens 12 = .ok (.isub, 1) := by decide +kernel
theorem dX5_tokens_13 : decode cX5_tokens 13 = .ok (.invokestatic 120, 3) := by decide +kernel
theorem dX5_tokens_16 : decode cX5_tokens 16 = .ok (.ifCond .eq 15, 3) := by decide +kernel
theorem dX5_tokens_19 : decode cX5_tokens 19 = .ok (.aload_n 0, 1) := by decide +kernel
theorem dX5_tokens_20 : decode cX5_tokens 20 = .ok (.getfield 82, 3) := by decide +kernel
theorem dX5_tokens_23 : decode cX5_tokens 23 = .ok (.bipush 8, 2) := by decide +kernel
theorem dX5_tokens_25 : decode cX5_tokens 25 = .ok (.iload_n 1, 1) := by decide +kernel
theorem dX5_tokens_26 : decode cX5_tokens 26 = .ok (.iadd, 1) := by decide +kernel
theorem dX5_tokens_27 : decode cX5_tokens 27 = .ok (.laload, 1) := by decide +kernel
theorem dX5_tokens_28 : decode cX5_tokens 28 = .ok (.goto 4, 3) := by decide +kernel
theorem dX5_tokens_31 : decode cX5_tokens 31 = .ok (.lconst 0, 1) := by decide +kernel
theorem dX5_tokens_32 : decode cX5_tokens 32 = .ok (.lreturn, 1) := by decide +kernel
theorem dX5_tokens_33 : decode cX5_tokens 33 = .ok (.iload_n 1, 1) := by decide +kernel
theorem dX5_tokens_34 : decode cX5_tokens 34 = .ok (.iconst 0, 1) := by decide +kernel
theorem dX5_tokens_35 : decode cX5_tokens 35 = .ok (.aload_n 0, 1) := by decide +kernel
theorem dX5_tokens_36 : decode cX5_tokens 36 = .ok (.getfield 128, 3) := by decide +kernel
theorem dX5_tokens_39 : decode cX5_tokens 39 = .ok (.iconst 1, 1) := by decide +kernel
theorem dX5_tokens_40 : decode cX5_tokens 40 = .ok (.isub, 1) := by decide +kernel
theorem dX5_tokens_41 : decode cX5_tokens 41 = .ok (.invokestatic 120, 3) := by decide +kernel
theorem dX5_tokens_44 : decode cX5_tokens 44 = .ok (.ifCond .ne 5, 3) := by decide +kernel
theorem dX5_tokens_47 : decode cX5_tokens 47 = .ok (.lconst 0, 1) := by decide +kernel
theorem dX5_tokens_48 : decode cX5_tokens 48 = .ok (.lreturn, 1) := by decide +kernel
theorem dX5_tokens_49 : decode cX5_tokens 49 = .ok (.iload_n 2, 1) := by decide +kernel
theorem dX5_tokens_50 : decode cX5_tokens 50 = .ok (.ifCond .ne 12, 3) := by decide +kernel
theorem dX5_tokens_53 : decode cX5_tokens 53 = .ok (.aload_n 0, 1) := by decide +kernel
theorem dX5_tokens_54 : decode cX5_tokens 54 = .ok (.getfield 82, 3) := by decide +kernel
theorem dX5_tokens_57 : decode cX5_tokens 57 = .ok (.iload_n 1, 1) := by decide +kernel
theorem dX5_tokens_58 : decode cX5_tokens 58 = .ok (.laload, 1) := by decide +kernel
theorem dX5_tokens_59 : decode cX5_tokens 59 = .ok (.goto 21, 3) := by decide +kernel
theorem dX5_tokens_62 : decode cX5_tokens 62 = .ok (.iload_n 2, 1) := by decide +kernel
theorem dX5_tokens_63 : decode cX5_tokens 63 = .ok (.iconst 2, 1) := by decide +kernel
theorem dX5_tokens_64 : decode cX5_tokens 64 = .ok (.if_icmp .ne 15, 3) := by decide +kernel
theorem dX5_tokens_67 : decode cX5_tokens 67 = .ok (.aload_n 0, 1) := by decide +kernel
theorem dX5_tokens_68 : decode cX5_tokens 68 = .ok (.getfield 82, 3) := by decide +kernel
theorem dX5_tokens_71 : decode cX5_tokens 71 = .ok (.bipush 12, 2) := by decide +kernel
theorem dX5_tokens_73 : decode cX5_tokens 73 = .ok (.iload_n 1, 1) := by decide +kernel
theorem dX5_tokens_74 : decode cX5_tokens 74 = .ok (.iadd, 1) := by decide +kernel
theorem dX5_tokens_75 : decode cX5_tokens 75 = .ok (.laload, 1) := by decide +kernel
theorem dX5_tokens_76 : decode cX5_tokens 76 = .ok (.goto 4, 3) := by decide +kernel
theorem dX5_tokens_79 : decode cX5_tokens 79 = .ok (.lconst 0, 1) := by decide +kernel
theorem dX5_tokens_80 : decode cX5_tokens 80 = .ok (.lreturn, 1) := by decide +kernel
set_option maxRecDepth 20000 in
theorem ggX5_tag_X5_in : GoodIn wsX5_tag wsX5_in := goodIn_r _ [10] (by decide +kernel) (by decide +kernel)
set_option maxRecDepth 20000 in
theorem gX5_tag_X5_in : GoodIn wsX5_tag (va_wsS RX5 120 yX5_in wsX5_in) := goodIn_app (goodIn_of _ (by decide +kernel)) ggX5_tag_X5_in
theorem dX5_tag_0 : decode cX5_tag 0 = .ok (.iload_n 2, 1) := by decide +kernel
theorem dX5_tag_1 : decode cX5_tag 1 = .ok (.iconst 3, 1) := by decide +kernel
theorem dX5_tag_2 : decode cX5_tag 2 = .ok (.if_icmp .ne 8, 3) := by decide +kernel
theorem dX5_tag_5 : decode cX5_tag 5 = .ok (.aload_n 0, 1) := by decide +kernel
theorem dX5_tag_6 : decode cX5_tag 6 = .ok (.getfield 135, 3) := by decide +kernel
theorem dX5_tag_9 : decode cX5_tag 9 = .ok (.lreturn, 1) := by decide +kernel
theorem dX5_tag_10 : decode cX5_tag 10 = .ok (.iload_n 2, 1) := by decide +kernel
theorem dX5_tag_11 : decode cX5_tag 11 = .ok (.ifCond .ne 28, 3) := by decide +kernel
theorem dX5_tag_14 : decode cX5_tag 14 = .ok (.iload_n 1, 1) := by decide +kernel
theorem dX5_tag_15 : decode cX5_tag 15 = .ok (.iconst 0, 1) := by decide +kernel
theorem dX5_tag_16 : decode cX5_tag 16 = .ok (.aload_n 0, 1) := by decide +kernel
theorem dX5_tag_17 : decode cX5_tag 17 = .ok (.getfield 128, 3) := by decide +kernel
theorem dX5_tag_20 : decode cX5_tag 20 = .ok (.iconst 1, 1) := by decide +kernel
theorem dX5_tag_21 : decode cX5_tag 21 = .ok (.isub, 1) := by decide +kernel
theorem dX5_tag_22 : decode cX5_tag 22 = .ok (.invokestatic 120, 3) := by decide +kernel
theorem dX5_tag_25 : decode cX5_tag 25 = .ok (.ifCond .eq 12, 3) := by decide +kernel
theorem dX5_tag_28 : decode cX5_tag 28 = .ok (.aload_n 0, 1) := by decide +kernel
theorem dX5_tag_29 : decode cX5_tag 29 = .ok (.getfield 66, 3) := by decide +kernel
theorem dX5_tag_32 : decode cX5_tag 32 = .ok (.iload_n 1, 1) := by decide +kernel
theorem dX5_tag_33 : decode cX5_tag 33 = .ok (.laload, 1) := by decide +kernel
theorem dX5_tag_34 : decode cX5_tag 34 = .ok (.goto 4, 3) := by decide +kernel
theorem dX5_tag_37 : decode cX5_tag 37 = .ok (.lconst 0, 1) := by decide +kernel
theorem dX5_tag_38 : decode cX5_tag 38 = .ok (.lreturn, 1) := by decide +kernel
theorem dX5_tag_39 : decode cX5_tag 39 = .ok (.iload_n 2, 1) := by decide +kernel
theorem dX5_tag_40 : decode cX5_tag 40 = .ok (.iconst 1, 1) := by decide +kernel
theorem dX5_tag_41 : decode cX5_tag 41 = .ok (.if_icmp .eq 8, 3) := by decide +kernel
theorem dX5_tag_44 : decode cX5_tag 44 = .ok (.iload_n 2, 1) := by decide +kernel
theorem dX5_tag_45 : decode cX5_tag 45 = .ok (.iconst 2, 1) := by decide +kernel
theorem dX5_tag_46 : decode cX5_tag 46 = .ok (.if_icmp .ne 21, 3) := by decide +kernel
theorem dX5_tag_49 : decode cX5_tag 49 = .ok (.iload_n 1, 1) := by decide +kernel
theorem dX5_tag_50 : decode cX5_tag 50 = .ok (.iconst 0, 1) := by decide +kernel
theorem dX5_tag_51 : decode cX5_tag 51 = .ok (.aload_n 0, 1) := by decide +kernel
theorem dX5_tag_52 : decode cX5_tag 52 = .ok (.getfield 117, 3) := by decide +kernel
theorem dX5_tag_55 : decode cX5_tag 55 = .ok (.iconst 1, 1) := by decide +kernel
theorem dX5_tag_56 : decode cX5_tag 56 = .ok (.isub, 1) := by decide +kernel
theorem dX5_tag_57 : decode cX5_tag 57 = .ok (.invokestatic 120, 3) := by decide +kernel
theorem dX5_tag_60 : decode cX5_tag 60 = .ok (.ifCond .eq 7, 3) := by decide +kernel
theorem dX5_tag_63 : decode cX5_tag 63 = .ok (.iconst 1, 1) := by decide +kernel
theorem dX5_tag_64 : decode cX5_tag 64 = .ok (.goto 4, 3) := by decide +kernel
theorem dX5_tag_67 : decode cX5_tag 67 = .ok (.iconst 0, 1) := by decide +kernel
theorem dX5_tag_68 : decode cX5_tag 68 = .ok (.istore_n 3, 1) := by decide +kernel
theorem dX5_tag_69 : decode cX5_tag 69 = .ok (.iload_n 3, 1) := by decide +kernel
theorem dX5_tag_70 : decode cX5_tag 70 = .ok (.ifCond .ne 7, 3) := by decide +kernel
theorem dX5_tag_73 : decode cX5_tag 73 = .ok (.lconst 0, 1) := by decide +kernel
theorem dX5_tag_74 : decode cX5_tag 74 = .ok (.goto 23, 3) := by decide +kernel
theorem dX5_tag_77 : decode cX5_tag 77 = .ok (.iload_n 2, 1) := by decide +kernel
theorem dX5_tag_78 : decode cX5_tag 78 = .ok (.iconst 1, 1) := by decide +kernel
theorem dX5_tag_79 : decode cX5_tag 79 = .ok (.if_icmp .ne 12, 3) := by decide +kernel
theorem dX5_tag_82 : decode cX5_tag 82 = .ok (.aload_n 0, 1) := by decide +kernel
theorem dX5_tag_83 : decode cX5_tag 83 = .ok (.getfield 17, 3) := by decide +kernel
theorem dX5_tag_86 : decode cX5_tag 86 = .ok (.iload_n 1, 1) := by decide +kernel
theorem dX5_tag_87 : decode cX5_tag 87 = .ok (.laload, 1) := by decide +kernel
theorem dX5_tag_88 : decode cX5_tag 88 = .ok (.goto 9, 3) := by decide +kernel
theorem dX5_tag_91 : decode cX5_tag 91 = .ok (.aload_n 0, 1) := by decide +kernel
theorem dX5_tag_92 : decode cX5_tag 92 = .ok (.getfield 21, 3) := by decide +kernel
theorem dX5_tag_95 : decode cX5_tag 95 = .ok (.iload_n 1, 1) := by decide +kernel
theorem dX5_tag_96 : decode cX5_tag 96 = .ok (.laload, 1) := by decide +kernel
theorem dX5_tag_97 : decode cX5_tag 97 = .ok (.lreturn, 1) := by decide +kernel
theorem dX5_count_0 : decode cX5_count 0 = .ok (.iload_n 1, 1) := by decide +kernel
theorem dX5_count_1 : decode cX5_count 1 = .ok (.tableswitch 69 0 5 #[39, 44, 49, 54, 59, 64], 39) := by decide +kernel
theorem dX5_count_40 : decode cX5_count 40 = .ok (.aload_n 0, 1) := by decide +kernel
theorem dX5_count_41 : decode cX5_count 41 = .ok (.getfield 117, 3) := by decide +kernel
theorem dX5_count_44 : decode cX5_count 44 = .ok (.ireturn, 1) := by decide +kernel
theorem dX5_count_45 : decode cX5_count 45 = .ok (.aload_n 0, 1) := by decide +kernel
theorem dX5_count_46 : decode cX5_count 46 = .ok (.getfield 128, 3) := by decide +kernel
theorem dX5_count_49 : decode cX5_count 49 = .ok (.ireturn, 1) := by decide +kernel
theorem dX5_count_50 : decode cX5_count 50 = .ok (.aload_n 0, 1) := by decide +kernel
theorem dX5_count_51 : decode cX5_count 51 = .ok (.getfield 132, 3) := by decide +kernel
theorem dX5_count_54 : decode cX5_count 54 = .ok (.ireturn, 1) := by decide +kernel
theorem dX5_count_55 : decode cX5_count 55 = .ok (.aload_n 0, 1) := by decide +kernel
theorem dX5_count_56 : decode cX5_count 56 = .ok (.getfield 147, 3) := by decide +kernel
theorem dX5_count_59 : decode cX5_count 59 = .ok (.ireturn, 1) := by decide +kernel
theorem dX5_count_60 : decode cX5_count 60 = .ok (.aload_n 0, 1) := by decide +kernel
theorem dX5_count_61 : decode cX5_count 61 = .ok (.getfield 161, 3) := by decide +kernel
theorem dX5_count_64 : decode cX5_count 64 = .ok (.ireturn, 1) := by decide +kernel
theorem dX5_count_65 : decode cX5_count 65 = .ok (.aload_n 0, 1) := by decide +kernel
theorem dX5_count_66 : decode cX5_count 66 = .ok (.getfield 9, 3) := by decide +kernel
theorem dX5_count_69 : decode cX5_count 69 = .ok (.ireturn, 1) := by decide +kernel
theorem dX5_count_70 : decode cX5_count 70 = .ok (.iconst (-1), 1) := by decide +kernel
theorem dX5_count_71 : decode cX5_count 71 = .ok (.ireturn, 1) := by decide +kernel
theorem dJ9_max_7cf53_0 : decode cJ9_max_7cf53 0 = .ok (.iload_n 0, 1) := by decide +kernel
theorem dJ9_max_7cf53_1 : decode cJ9_max_7cf53 1 = .ok (.iload_n 1, 1) := by decide +kernel
theorem dJ9_max_7cf53_2 : decode cJ9_max_7cf53 2 = .ok (.if_icmp .lt 7, 3) := by decide +kernel
theorem dJ9_max_7cf53_5 : decode cJ9_max_7cf53 5 = .ok (.iload_n 0, 1) := by decide +kernel
theorem dJ9_max_7cf53_6 : decode cJ9_max_7cf53 6 = .ok (.goto 4, 3) := by decide +kernel
theorem dJ9_max_7cf53_9 : decode cJ9_max_7cf53 9 = .ok (.iload_n 1, 1) := by decide +kernel
theorem dJ9_max_7cf53_10 : decode cJ9_max_7cf53 10 = .ok (.ireturn, 1) := by decide +kernel
theorem dJ9_max_f86c9_0 : decode cJ9_max_f86c9 0 = .ok (.lload_n 0, 1) := by decide +kernel
theorem dJ9_max_f86c9_1 : decode cJ9_max_f86c9 1 = .ok (.lload_n 2, 1) := by decide +kernel
theorem dJ9_max_f86c9_2 : decode cJ9_max_f86c9 2 = .ok (.lcmp, 1) := by decide +kernel
theorem dJ9_max_f86c9_3 : decode cJ9_max_f86c9 3 = .ok (.ifCond .lt 7, 3) := by decide +kernel
theorem dJ9_max_f86c9_6 : decode cJ9_max_f86c9 6 = .ok (.lload_n 0, 1) := by decide +kernel
theorem dJ9_max_f86c9_7 : decode cJ9_max_f86c9 7 = .ok (.goto 4, 3) := by decide +kernel
theorem dJ9_max_f86c9_10 : decode cJ9_max_f86c9 10 = .ok (.lload_n 2, 1) := by decide +kernel
theorem dJ9_max_f86c9_11 : decode cJ9_max_f86c9 11 = .ok (.lreturn, 1) := by decide +kernel
theorem dJ9_min_7cf53_0 : decode cJ9_min_7cf53 0 = .ok (.iload_n 0, 1) := by decide +kernel
theorem dJ9_min_7cf53_1 : decode cJ9_min_7cf53 1 = .ok (.iload_n 1, 1) := by decide +kernel
theorem dJ9_min_7cf53_2 : decode cJ9_min_7cf53 2 = .ok (.if_icmp .gt 7, 3) := by decide +kernel
theorem dJ9_min_7cf53_5 : decode cJ9_min_7cf53 5 = .ok (.iload_n 0, 1) := by decide +kernel
theorem dJ9_min_7cf53_6 : decode cJ9_min_7cf53 6 = .ok (.goto 4, 3) := by decide +kernel
theorem dJ9_min_7cf53_9 : decode cJ9_min_7cf53 9 = .ok (.iload_n 1, 1) := by decide +kernel
theorem dJ9_min_7cf53_10 : decode cJ9_min_7cf53 10 = .ok (.ireturn, 1) := by decide +kernel
theorem dJ9_min_f86c9_0 : decode cJ9_min_f86c9 0 = .ok (.lload_n 0, 1) := by decide +kernel
theorem dJ9_min_f86c9_1 : decode cJ9_min_f86c9 1 = .ok (.lload_n 2, 1) := by decide +kernel
theorem dJ9_min_f86c9_2 : decode cJ9_min_f86c9 2 = .ok (.lcmp, 1) := by decide +kernel
theorem dJ9_min_f86c9_3 : decode cJ9_min_f86c9 3 = .ok (.ifCond .gt 7, 3) := by decide +kernel
theorem dJ9_min_f86c9_6 : decode cJ9_min_f86c9 6 = .ok (.lload_n 0, 1) := by decide +kernel
theorem dJ9_min_f86c9_7 : decode cJ9_min_f86c9 7 = .ok (.goto 4, 3) := by decide +kernel
theorem dJ9_min_f86c9_10 : decode cJ9_min_f86c9 10 = .ok (.lload_n 2, 1) := by decide +kernel
theorem dJ9_min_f86c9_11 : decode cJ9_min_f86c9 11 = .ok (.lreturn, 1) := by decide +kernel
theorem dJxa1e45_init_da8c8_0 : decode cJxa1e45_init_da8c8 0 = .ok (.aload_n 0, 1) := by decide +kernel
theorem dJxa1e45_init_da8c8_1 : decode cJxa1e45_init_da8c8 1 = .ok (.invokespecial 1, 3) := by decide +kernel
theorem dJxa1e45_init_da8c8_4 : decode cJxa1e45_init_da8c8 4 = .ok (.return_, 1) := by decide +kernel
set_option maxRecDepth 20000 in
theorem ggJxc12de_init_da8c8_Jxa1e45_init_da8c8 : GoodIn wsJxc12de_init_da8c8 wsJxa1e45_init_da8c8 := goodIn_r _ [5, 6, 7, 8] (by decide +kernel) (by decide +kernel)
set_option maxRecDepth 20000 in
theorem gJxc12de_init_da8c8_Jxa1e45_init_da8c8 : GoodIn wsJxc12de_init_da8c8 (wsJxa1e45_init_da8c8) := ggJxc12de_init_da8c8_Jxa1e45_init_da8c8
theorem dJxc12de_init_da8c8_0 : decode cJxc12de_init_da8c8 0 = .ok (.aload_n 0, 1) := by decide +kernel
theorem dJxc12de_init_da8c8_1 : decode cJxc12de_init_da8c8 1 = .ok (.invokespecial 1, 3) := by decide +kernel
theorem dJxc12de_init_da8c8_4 : decode cJxc12de_init_da8c8 4 = .ok (.aload_n 0, 1) := by decide +kernel
theorem dJxc12de_init_da8c8_5 : decode cJxc12de_init_da8c8 5 = .ok (.iconst 0, 1) := by decide +kernel
theorem dJxc12de_init_da8c8_6 : decode cJxc12de_init_da8c8 6 = .ok (.putfield 7, 3) := by decide +kernel
theorem dJxc12de_init_da8c8_9 : decode cJxc12de_init_da8c8 9 = .ok (.return_, 1) := by decide +kernel
set_option maxRecDepth 20000 in
theorem ggJx4a65c_init_da8c8_Jxc12de_init_da8c8 : GoodIn wsJx4a65c_init_da8c8 wsJxc12de_init_da8c8 := goodIn_r _ [6, 7, 8, 9, 10, 11, 12, 13, 14, 15, 16, 17] (by decide +kernel) (by decide +kernel)
set_option maxRecDepth 20000 in
theorem gJx4a65c_init_da8c8_Jxc12de_init_da8c8 : GoodIn wsJx4a65c_init_da8c8 (wsJxc12de_init_da8c8) := ggJx4a65c_init_da8c8_Jxc12de_init_da8c8
theorem dJx4a65c_init_da8c8_0 : decode cJx4a65c_init_da8c8 0 = .ok (.aload_n 0, 1) := by decide +kernel
theorem dJx4a65c_init_da8c8_1 : decode cJx4a65c_init_da8c8 1 = .ok (.invokespecial 1, 3) := by decide +kernel
theorem dJx4a65c_init_da8c8_4 : decode cJx4a65c_init_da8c8 4 = .ok (.aload_n 0, 1) := by decide +kernel
theorem dJx4a65c_init_da8c8_5 : decode cJx4a65c_init_da8c8 5 = .ok (.getstatic 39, 3) := by decide +kernel
theorem dJx4a65c_init_da8c8_8 : decode cJx4a65c_init_da8c8 8 = .ok (.putfield 9, 3) := by decide +kernel
theorem dJx4a65c_init_da8c8_11 : decode cJx4a65c_init_da8c8 11 = .ok (.return_, 1) := by decide +kernel
set_option maxRecDepth 20000 in
theorem ggJx4a65c_grow_92f84_J8_newLength_cabcc : GoodIn wsJx4a65c_grow_92f84 wsJ8_newLength_cabcc := goodIn_r _ [11, 12, 4, 5, 6, 13, 14, 15, 10, 16] (by decide +kernel) (by decide +kernel)
set_option maxRecDepth 20000 in
theorem gJx4a65c_grow_92f84_J8_newLength_cabcc : GoodIn wsJx4a65c_grow_92f84 (va_wsS RJx4a65c 73 yJ8_newLength_cabcc wsJ8_newLength_cabcc) := goodIn_app (goodIn_of _ (by decide +kernel)) ggJx4a65c_grow_92f84_J8_newLength_cabcc
set_option maxRecDepth 20000 in
theorem ggJx4a65c_grow_92f84_J7_copyOf_1904c : GoodIn wsJx4a65c_grow_92f84 wsJ7_copyOf_1904c := goodIn_r _ [20, 21, 22, 23, 24, 25, 26, 19, 27, 28, 29, 30, 31, 5, 32, 33, 34, 35, 36] (by decide +kernel) (by decide +kernel)
set_option maxRecDepth 20000 in
theorem gJx4a65c_grow_92f84_J7_copyOf_1904c : GoodIn wsJx4a65c_grow_92f84 (va_wsS RJx4a65c 66 yJ7_copyOf_1904c wsJ7_copyOf_1904c) := goodIn_app (goodIn_of _ (by decide +kernel)) ggJx4a65c_grow_92f84_J7_copyOf_1904c
theorem dJx4a65c_grow_92f84_0 : decode cJx4a65c_grow_92f84 0 = .ok (.aload_n 0, 1) := by decide +kernel
theorem dJx4a65c_grow_92f84_1 : decode cJx4a65c_grow_92f84 1 = .ok (.getfield 9, 3) := by decide +kernel
theorem dJx4a65c_grow_92f84_4 : decode cJx4a65c_grow_92f84 4 = .ok (.arraylength, 1) := by decide +kernel
theorem dJx4a65c_grow_92f84_5 : decode cJx4a65c_grow_92f84 5 = .ok (.istore_n 2, 1) := by decide +kernel
theorem dJx4a65c_grow_92f84_6 : decode cJx4a65c_grow_92f84 6 = .ok (.iload_n 2, 1) := by decide +kernel
theorem dJx4a65c_grow_92f84_7 : decode cJx4a65c_grow_92f84 7 = .ok (.ifCond .gt 13, 3) := by decide +kernel
theorem dJx4a65c_grow_92f84_10 : decode cJx4a65c_grow_92f84 10 = .ok (.aload_n 0, 1) := by decide +kernel
theorem dJx4a65c_grow_92f84_11 : decode cJx4a65c_grow_92f84 11 = .ok (.getfield 9, 3) := by decide +kernel
theorem dJx4a65c_grow_92f84_14 : decode cJx4a65c_grow_92f84 14 = .ok (.getstatic 39, 3) := by decide +kernel
theorem dJx4a65c_grow_92f84_17 : decode cJx4a65c_grow_92f84 17 = .ok (.if_acmp .eq 28, 3) := by decide +kernel
theorem dJx4a65c_grow_92f84_20 : decode cJx4a65c_grow_92f84 20 = .ok (.iload_n 2, 1) := by decide +kernel
theorem dJx4a65c_grow_92f84_21 : decode cJx4a65c_grow_92f84 21 = .ok (.iload_n 1, 1) := by decide +kernel
theorem dJx4a65c_grow_92f84_22 : decode cJx4a65c_grow_92f84 22 = .ok (.iload_n 2, 1) := by decide +kernel
theorem dJx4a65c_grow_92f84_23 : decode cJx4a65c_grow_92f84 23 = .ok (.isub, 1) := by decide +kernel
theorem dJx4a65c_grow_92f84_24 : decode cJx4a65c_grow_92f84 24 = .ok (.iload_n 2, 1) := by decide +kernel
theorem dJx4a65c_grow_92f84_25 : decode cJx4a65c_grow_92f84 25 = .ok (.iconst 1, 1) := by decide +kernel
theorem dJx4a65c_grow_92f84_26 : decode cJx4a65c_grow_92f84 26 = .ok (.ishr, 1) := by decide +kernel
theorem dJx4a65c_grow_92f84_27 : decode cJx4a65c_grow_92f84 27 = .ok (.invokestatic 73, 3) := by decide +kernel
theorem dJx4a65c_grow_92f84_30 : decode cJx4a65c_grow_92f84 30 = .ok (.istore_n 3, 1) := by decide +kernel
theorem dJx4a65c_grow_92f84_31 : decode cJx4a65c_grow_92f84 31 = .ok (.aload_n 0, 1) := by decide +kernel
theorem dJx4a65c_grow_92f84_32 : decode cJx4a65c_grow_92f84 32 = .ok (.aload_n 0, 1) := by decide +kernel
theorem dJx4a65c_grow_92f84_33 : decode cJx4a65c_grow_92f84 33 = .ok (.getfield 9, 3) := by decide +kernel
theorem dJx4a65c_grow_92f84_36 : decode cJx4a65c_grow_92f84 36 = .ok (.iload_n 3, 1) := by decide +kernel
theorem dJx4a65c_grow_92f84_37 : decode cJx4a65c_grow_92f84 37 = .ok (.invokestatic 66, 3) := by decide +kernel
theorem dJx4a65c_grow_92f84_40 : decode cJx4a65c_grow_92f84 40 = .ok (.dup_x1, 1) := by decide +kernel
theorem dJx4a65c_grow_92f84_41 : decode cJx4a65c_grow_92f84 41 = .ok (.putfield 9, 3) := by decide +kernel
theorem dJx4a65c_grow_92f84_44 : decode cJx4a65c_grow_92f84 44 = .ok (.areturn, 1) := by decide +kernel
theorem dJx4a65c_grow_92f84_45 : decode cJx4a65c_grow_92f84 45 = .ok (.aload_n 0, 1) := by decide +kernel
theorem dJx4a65c_grow_92f84_46 : decode cJx4a65c_grow_92f84 46 = .ok (.bipush 10, 2) := by decide +kernel
theorem dJx4a65c_grow_92f84_48 : decode cJx4a65c_grow_92f84 48 = .ok (.iload_n 1, 1) := by decide +kernel
theorem dJx4a65c_grow_92f84_49 : decode cJx4a65c_grow_92f84 49 = .ok (.invokestatic 79, 3) := by decide +kernel
theorem dJx4a65c_grow_92f84_52 : decode cJx4a65c_grow_92f84 52 = .ok (.anewarray 7, 3) := by decide +kernel
theorem dJx4a65c_grow_92f84_55 : decode cJx4a65c_grow_92f84 55 = .ok (.dup_x1, 1) := by decide +kernel
theorem dJx4a65c_grow_92f84_56 : decode cJx4a65c_grow_92f84 56 = .ok (.putfield 9, 3) := by decide +kernel
theorem dJx4a65c_grow_92f84_59 : decode cJx4a65c_grow_92f84 59 = .ok (.areturn, 1) := by decide +kernel
set_option maxRecDepth 20000 in
theorem ggJx4a65c_grow_d5877_Jx4a65c_grow_92f84 : GoodIn wsJx4a65c_grow_d5877 wsJx4a65c_grow_92f84 := goodIn_r _ [6, 7, 8, 9, 10, 11, 12, 13, 14, 15, 16, 17, 18, 19, 20, 21, 22, 23, 24, 25, 26, 27, 28, 29, 30, 31, 32, 33, 34, 35, 36, 37, 38, 39, 40, 41, 42, 43, 44, 45] (by decide +kernel) (by decide +kernel)
set_option maxRecDepth 20000 in
theorem gJx4a65c_grow_d5877_Jx4a65c_grow_92f84 : GoodIn wsJx4a65c_grow_d5877 (wsV RJx4a65c 69 RJx4a65c yJx4a65c_grow_92f84 wsJx4a65c_grow_92f84) := goodIn_app (goodIn_of _ (by decide +kernel)) ggJx4a65c_grow_d5877_Jx4a65c_grow_92f84
theorem dJx4a65c_grow_d5877_0 : decode cJx4a65c_grow_d5877 0 = .ok (.aload_n 0, 1) := by decide +kernel
theorem dJx4a65c_grow_d5877_1 : decode cJx4a65c_grow_d5877 1 = .ok (.aload_n 0, 1) := by decide +kernel
theorem dJx4a65c_grow_d5877_2 : decode cJx4a65c_grow_d5877 2 = .ok (.getfield 48, 3) := by decide +kernel
theorem dJx4a65c_grow_d5877_5 : decode cJx4a65c_grow_d5877 5 = .ok (.iconst 1, 1) := by decide +kernel
theorem dJx4a65c_grow_d5877_6 : decode cJx4a65c_grow_d5877 6 = .ok (.iadd, 1) := by decide +kernel
theorem dJx4a65c_grow_d5877_7 : decode cJx4a65c_grow_d5877 7 = .ok (.invokevirtual 69, 3) := by decide +kernel
theorem dJx4a65c_grow_d5877_10 : decode cJx4a65c_grow_d5877 10 = .ok (.areturn, 1) := by decide +kernel
theorem dJx4a65c_size_8abf5_0 : decode cJx4a65c_size_8abf5 0 = .ok (.aload_n 0, 1) := by decide +kernel
theorem dJx4a65c_size_8abf5_1 : decode cJx4a65c_size_8abf5 1 = .ok (.getfield 48, 3) := by decide +kernel
theorem dJx4a65c_size_8abf5_4 : decode cJx4a65c_size_8abf5 4 = .ok (.ireturn, 1) := by decide +kernel
theorem dJx4a65c_elementData_915e3_0 : decode cJx4a65c_elementData_915e3 0 = .ok (.aload_n 0, 1) := by decide +kernel
theorem dJx4a65c_elementData_915e3_1 : decode cJx4a65c_elementData_915e3 1 = .ok (.getfield 9, 3) := by decide +kernel
theorem dJx4a65c_elementData_915e3_4 : decode cJx4a65c_elementData_915e3 4 = .ok (.iload_n 1, 1) := by decide +kernel
theorem dJx4a65c_elementData_915e3_5 : decode cJx4a65c_elementData_915e3 5 = .ok (.aaload, 1) := by decide +kernel
theorem dJx4a65c_elementData_915e3_6 : decode cJx4a65c_elementData_915e3 6 = .ok (.areturn, 1) := by decide +kernel
set_option maxRecDepth 20000 in
theorem ggJx4a65c_get_915e3_J15_checkIndex_7cf53 : GoodIn wsJx4a65c_get_915e3 wsJ15_checkIndex_7cf53 := goodIn_r _ [5, 6, 7, 8, 9] (by decide +kernel) (by decide +kernel)
set_option maxRecDepth 20000 in
theorem gJx4a65c_get_915e3_J15_checkIndex_7cf53 : GoodIn wsJx4a65c_get_915e3 (va_wsS RJx4a65c 118 yJ15_checkIndex_7cf53 wsJ15_checkIndex_7cf53) := goodIn_app (goodIn_of _ (by decide +kernel)) ggJx4a65c_get_915e3_J15_checkIndex_7cf53
set_option maxRecDepth 20000 in
theorem ggJx4a65c_get_915e3_Jx4a65c_elementData_915e3 : GoodIn wsJx4a65c_get_915e3 wsJx4a65c_elementData_915e3 := goodIn_r _ [14, 15, 16, 17, 18] (by decide +kernel) (by decide +kernel)
set_option maxRecDepth 20000 in
theorem gJx4a65c_get_915e3_Jx4a65c_elementData_915e3 : GoodIn wsJx4a65c_get_915e3 (wsV RJx4a65c 123 RJx4a65c yJx4a65c_elementData_915e3 wsJx4a65c_elementData_915e3) := goodIn_app (goodIn_of _ (by decide +kernel)) ggJx4a65c_get_915e3_Jx4a65c_elementData_915e3
theorem dJx4a65c_get_915e3_0 : decode cJx4a65c_get_915e3 0 = .ok (.iload_n 1, 1) := by decide +kernel
theorem dJx4a65c_get_915e3_1 : decode cJx4a65c_get_915e3 1 = .ok (.aload_n 0, 1) := by decide +kernel
theorem dJx4a65c_get_915e3_2 : decode cJx4a65c_get_915e3 2 = .ok (.getfield 48, 3) := by decide +kernel
theorem dJx4a65c_get_915e3_5 : decode cJx4a65c_get_915e3 5 = .ok (.invokestatic 118, 3) := by decide +kernel
theorem dJx4a65c_get_915e3_8 : decode cJx4a65c_get_915e3 8 = .ok (.pop, 1) := by decide +kernel
theorem dJx4a65c_get_915e3_9 : decode cJx4a65c_get_915e3 9 = .ok (.aload_n 0, 1) := by decide +kernel
theorem dJx4a65c_get_915e3_10 : decode cJx4a65c_get_915e3 10 = .ok (.iload_n 1, 1) := by decide +kernel
theorem dJx4a65c_get_915e3_11 : decode cJx4a65c_get_915e3 11 = .ok (.invokevirtual 123, 3) := by decide +kernel
theorem dJx4a65c_get_915e3_14 : decode cJx4a65c_get_915e3 14 = .ok (.areturn, 1) := by decide +kernel
set_option maxRecDepth 20000 in
theorem ggJx4a65c_add_72be8_Jx4a65c_grow_d5877 : GoodIn wsJx4a65c_add_72be8 wsJx4a65c_grow_d5877 := goodIn_r _ [6, 1, 7, 8, 9, 5, 10, 11, 12, 13, 14, 15, 16, 17, 18, 19, 20, 21, 22, 23, 24, 25, 26, 27, 28, 29, 30, 31, 32, 33, 34, 35, 36, 37, 38, 39, 40, 41, 42, 43, 44, 45, 46, 47, 48, 49] (by decide +kernel) (by decide +kernel)
set_option maxRecDepth 20000 in
theorem gJx4a65c_add_72be8_Jx4a65c_grow_d5877 : GoodIn wsJx4a65c_add_72be8 (wsV RJx4a65c 129 RJx4a65c yJx4a65c_grow_d5877 wsJx4a65c_grow_d5877) := goodIn_app (goodIn_of _ (by decide +kernel)) ggJx4a65c_add_72be8_Jx4a65c_grow_d5877
theorem dJx4a65c_add_72be8_0 : decode cJx4a65c_add_72be8 0 = .ok (.iload_n 3, 1) := by decide +kernel
theorem dJx4a65c_add_72be8_1 : decode cJx4a65c_add_72be8 1 = .ok (.aload_n 2, 1) := by decide +kernel
theorem dJx4a65c_add_72be8_2 : decode cJx4a65c_add_72be8 2 = .ok (.arraylength, 1) := by decide +kernel
theorem dJx4a65c_add_72be8_3 : decode cJx4a65c_add_72be8 3 = .ok (.if_icmp .ne 8, 3) := by decide +kernel
theorem dJx4a65c_add_72be8_6 : decode cJx4a65c_add_72be8 6 = .ok (.aload_n 0, 1) := by decide +kernel
theorem dJx4a65c_add_72be8_7 : decode cJx4a65c_add_72be8 7 = .ok (.invokevirtual 129, 3) := by decide +kernel
theorem dJx4a65c_add_72be8_10 : decode cJx4a65c_add_72be8 10 = .ok (.astore_n 2, 1) := by decide +kernel
theorem dJx4a65c_add_72be8_11 : decode cJx4a65c_add_72be8 11 = .ok (.aload_n 2, 1) := by decide +kernel
theorem dJx4a65c_add_72be8_12 : decode cJx4a65c_add_72be8 12 = .ok (.iload_n 3, 1) := by decide +kernel
theorem dJx4a65c_add_72be8_13 : decode cJx4a65c_add_72be8 13 = .ok (.aload_n 1, 1) := by decide +kernel
theorem dJx4a65c_add_72be8_14 : decode cJx4a65c_add_72be8 14 = .ok (.aastore, 1) := by decide +kernel
theorem dJx4a65c_add_72be8_15 : decode cJx4a65c_add_72be8 15 = .ok (.aload_n 0, 1) := by decide +kernel
theorem dJx4a65c_add_72be8_16 : decode cJx4a65c_add_72be8 16 = .ok (.iload_n 3, 1) := by decide +kernel
theorem dJx4a65c_add_72be8_17 : decode cJx4a65c_add_72be8 17 = .ok (.iconst 1, 1) := by decide +kernel
theorem dJx4a65c_add_72be8_18 : decode cJx4a65c_add_72be8 18 = .ok (.iadd, 1) := by decide +kernel
theorem dJx4a65c_add_72be8_19 : decode cJx4a65c_add_72be8 19 = .ok (.putfield 48, 3) := by decide +kernel
theorem dJx4a65c_add_72be8_22 : decode cJx4a65c_add_72be8 22 = .ok (.return_, 1) := by decide +kernel
set_option maxRecDepth 20000 in
theorem ggJx4a65c_add_9ea2d_Jx4a65c_add_72be8 : GoodIn wsJx4a65c_add_9ea2d wsJx4a65c_add_72be8 := goodIn_r _ [9, 4, 10, 11, 12, 8, 13, 14, 15, 16, 17, 3, 18, 19, 20, 21, 22, 23, 24, 25, 26, 27, 28, 29, 30, 31, 32, 33, 34, 35, 36, 37, 38, 39, 40, 41, 42, 43, 44, 45, 46, 47, 48, 49, 50, 51, 52, 53, 54, 55] (by decide +kernel) (by decide +kernel)
set_option maxRecDepth 20000 in
theorem gJx4a65c_add_9ea2d_Jx4a65c_add_72be8 : GoodIn wsJx4a65c_add_9ea2d (wsV RJx4a65c 131 RJx4a65c yJx4a65c_add_72be8 wsJx4a65c_add_72be8) := goodIn_app (goodIn_of _ (by decide +kernel)) ggJx4a65c_add_9ea2d_Jx4a65c_add_72be8
theorem dJx4a65c_add_9ea2d_0 : decode cJx4a65c_add_9ea2d 0 = .ok (.aload_n 0, 1) := by decide +kernel
theorem dJx4a65c_add_9ea2d_1 : decode cJx4a65c_add_9ea2d 1 = .ok (.dup, 1) := by decide +kernel
theorem dJx4a65c_add_9ea2d_2 : decode cJx4a65c_add_9ea2d 2 = .ok (.getfield 63, 3) := by decide +kernel
theorem dJx4a65c_add_9ea2d_5 : decode cJx4a65c_add_9ea2d 5 = .ok (.iconst 1, 1) := by decide +kernel
theorem dJx4a65c_add_9ea2d_6 : decode cJx4a65c_add_9ea2d 6 = .ok (.iadd, 1) := by decide +kernel
theorem dJx4a65c_add_9ea2d_7 : decode cJx4a65c_add_9ea2d 7 = .ok (.putfield 63, 3) := by decide +kernel
theorem dJx4a65c_add_9ea2d_10 : decode cJx4a65c_add_9ea2d 10 = .ok (.aload_n 0, 1) := by decide +kernel
theorem dJx4a65c_add_9ea2d_11 : decode cJx4a65c_add_9ea2d 11 = .ok (.aload_n 1, 1) := by decide +kernel
theorem dJx4a65c_add_9ea2d_12 : decode cJx4a65c_add_9ea2d 12 = .ok (.aload_n 0, 1) := by decide +kernel
theorem dJx4a65c_add_9ea2d_13 : decode cJx4a65c_add_9ea2d 13 = .ok (.getfield 9, 3) := by decide +kernel
theorem dJx4a65c_add_9ea2d_16 : decode cJx4a65c_add_9ea2d 16 = .ok (.aload_n 0, 1) := by decide +kernel
theorem dJx4a65c_add_9ea2d_17 : decode cJx4a65c_add_9ea2d 17 = .ok (.getfield 48, 3) := by decide +kernel
theorem dJx4a65c_add_9ea2d_20 : decode cJx4a65c_add_9ea2d 20 = .ok (.invokevirtual 131, 3) := by decide +kernel
theorem dJx4a65c_add_9ea2d_23 : decode cJx4a65c_add_9ea2d 23 = .ok (.iconst 1, 1) := by decide +kernel
theorem dJx4a65c_add_9ea2d_24 : decode cJx4a65c_add_9ea2d 24 = .ok (.ireturn, 1) := by decide +kernel
set_option maxRecDepth 20000 in
theorem ggJ7_copyOf_1904c_J7_copyOf_6403c : GoodIn wsJ7_copyOf_1904c wsJ7_copyOf_6403c := goodIn_r _ [8, 9, 10, 11, 12, 13, 14, 15, 16, 17, 18] (by decide +kernel) (by decide +kernel)
set_option maxRecDepth 20000 in
theorem gJ7_copyOf_1904c_J7_copyOf_6403c : GoodIn wsJ7_copyOf_1904c (va_wsS RJ7 300 yJ7_copyOf_6403c wsJ7_copyOf_6403c) := goodIn_app (goodIn_of _ (by decide +kernel)) ggJ7_copyOf_1904c_J7_copyOf_6403c
theorem dJ7_copyOf_1904c_0 : decode cJ7_copyOf_1904c 0 = .ok (.aload_n 0, 1) := by decide +kernel
theorem dJ7_copyOf_1904c_1 : decode cJ7_copyOf_1904c 1 = .ok (.iload_n 1, 1) := by decide +kernel
theorem dJ7_copyOf_1904c_2 : decode cJ7_copyOf_1904c 2 = .ok (.aload_n 0, 1) := by decide +kernel
theorem dJ7_copyOf_1904c_3 : decode cJ7_copyOf_1904c 3 = .ok (.invokevirtual 86, 3) := by decide +kernel
theorem dJ7_copyOf_1904c_6 : decode cJ7_copyOf_1904c 6 = .ok (.invokestatic 300, 3) := by decide +kernel
theorem dJ7_copyOf_1904c_9 : decode cJ7_copyOf_1904c 9 = .ok (.areturn, 1) := by decide +kernel
theorem dJ7_copyOf_6403c_0 : decode cJ7_copyOf_6403c 0 = .ok (.aload_n 2, 1) := by decide +kernel
theorem dJ7_copyOf_6403c_1 : decode cJ7_copyOf_6403c 1 = .ok (.ldc 110, 2) := by decide +kernel
theorem dJ7_copyOf_6403c_3 : decode cJ7_copyOf_6403c 3 = .ok (.if_acmp .ne 10, 3) := by decide +kernel
theorem dJ7_copyOf_6403c_6 : decode cJ7_copyOf_6403c 6 = .ok (.iload_n 1, 1) := by decide +kernel
theorem dJ7_copyOf_6403c_7 : decode cJ7_copyOf_6403c 7 = .ok (.anewarray 2, 3) := by decide +kernel
theorem dJ7_copyOf_6403c_10 : decode cJ7_copyOf_6403c 10 = .ok (.goto 14, 3) := by decide +kernel
theorem dJ7_copyOf_6403c_13 : decode cJ7_copyOf_6403c 13 = .ok (.aload_n 2, 1) := by decide +kernel
theorem dJ7_copyOf_6403c_14 : decode cJ7_copyOf_6403c 14 = .ok (.invokevirtual 90, 3) := by decide +kernel
theorem dJ7_copyOf_6403c_17 : decode cJ7_copyOf_6403c 17 = .ok (.iload_n 1, 1) := by decide +kernel
theorem dJ7_copyOf_6403c_18 : decode cJ7_copyOf_6403c 18 = .ok (.invokestatic 95, 3) := by decide +kernel
theorem dJ7_copyOf_6403c_21 : decode cJ7_copyOf_6403c 21 = .ok (.checkcast 110, 3) := by decide +kernel
theorem dJ7_copyOf_6403c_24 : decode cJ7_copyOf_6403c 24 = .ok (.astore_n 3, 1) := by decide +kernel
theorem dJ7_copyOf_6403c_25 : decode cJ7_copyOf_6403c 25 = .ok (.aload_n 0, 1) := by decide +kernel
theorem dJ7_copyOf_6403c_26 : decode cJ7_copyOf_6403c 26 = .ok (.iconst 0, 1) := by decide +kernel
theorem dJ7_copyOf_6403c_27 : decode cJ7_copyOf_6403c 27 = .ok (.aload_n 3, 1) := by decide +kernel
theorem dJ7_copyOf_6403c_28 : decode cJ7_copyOf_6403c 28 = .ok (.iconst 0, 1) := by decide +kernel
theorem dJ7_copyOf_6403c_29 : decode cJ7_copyOf_6403c 29 = .ok (.aload_n 0, 1) := by decide +kernel
theorem dJ7_copyOf_6403c_30 : decode cJ7_copyOf_6403c 30 = .ok (.arraylength, 1) := by decide +kernel
theorem dJ7_copyOf_6403c_31 : decode cJ7_copyOf_6403c 31 = .ok (.iload_n 1, 1) := by decide +kernel
theorem dJ7_copyOf_6403c_32 : decode cJ7_copyOf_6403c 32 = .ok (.invokestatic 304, 3) := by decide +kernel
theorem dJ7_copyOf_6403c_35 : decode cJ7_copyOf_6403c 35 = .ok (.invokestatic 150, 3) := by decide +kernel
theorem dJ7_copyOf_6403c_38 : decode cJ7_copyOf_6403c 38 = .ok (.aload_n 3, 1) := by decide +kernel
theorem dJ7_copyOf_6403c_39 : decode cJ7_copyOf_6403c 39 = .ok (.areturn, 1) := by decide +kernel
set_option maxRecDepth 20000 in
theorem ggJ15_checkIndex_7cf53_J3_checkIndex_8e157 : GoodIn wsJ15_checkIndex_7cf53 wsJ3_checkIndex_8e157 := goodIn_r _ [4] (by decide +kernel) (by decide +kernel)
set_option maxRecDepth 20000 in
theorem gJ15_checkIndex_7cf53_J3_checkIndex_8e157 : GoodIn wsJ15_checkIndex_7cf53 (va_wsS RJ15 105 yJ3_checkIndex_8e157 wsJ3_checkIndex_8e157) := goodIn_app (goodIn_of _ (by decide +kernel)) ggJ15_checkIndex_7cf53_J3_checkIndex_8e157
theorem dJ15_checkIndex_7cf53_0 : decode cJ15_checkIndex_7cf53 0 = .ok (.iload_n 0, 1) := by decide +kernel
theorem dJ15_checkIndex_7cf53_1 : decode cJ15_checkIndex_7cf53 1 = .ok (.iload_n 1, 1) := by decide +kernel
theorem dJ15_checkIndex_7cf53_2 : decode cJ15_checkIndex_7cf53 2 = .ok (.aconst_null, 1) := by decide +kernel
theorem dJ15_checkIndex_7cf53_3 : decode cJ15_checkIndex_7cf53 3 = .ok (.invokestatic 105, 3) := by decide +kernel
theorem dJ15_checkIndex_7cf53_6 : decode cJ15_checkIndex_7cf53 6 = .ok (.ireturn, 1) := by decide +kernel
set_option maxRecDepth 20000 in
theorem ggJ8_newLength_cabcc_J8_hugeLength_7cf53 : GoodIn wsJ8_newLength_cabcc wsJ8_hugeLength_7cf53 := goodIn_r _ [9, 5] (by decide +kernel) (by decide +kernel)
set_option maxRecDepth 20000 in
theorem gJ8_newLength_cabcc_J8_hugeLength_7cf53 : GoodIn wsJ8_newLength_cabcc (va_wsS RJ8 201 yJ8_hugeLength_7cf53 wsJ8_hugeLength_7cf53) := goodIn_app (goodIn_of _ (by decide +kernel)) ggJ8_newLength_cabcc_J8_hugeLength_7cf53
theorem dJ8_newLength_cabcc_0 : decode cJ8_newLength_cabcc 0 = .ok (.iload_n 0, 1) := by decide +kernel
theorem dJ8_newLength_cabcc_1 : decode cJ8_newLength_cabcc 1 = .ok (.iload_n 1, 1) := by decide +kernel
theorem dJ8_newLength_cabcc_2 : decode cJ8_newLength_cabcc 2 = .ok (.iload_n 2, 1) := by decide +kernel
theorem dJ8_newLength_cabcc_3 : decode cJ8_newLength_cabcc 3 = .ok (.invokestatic 194, 3) := by decide +kernel
theorem dJ8_newLength_cabcc_6 : decode cJ8_newLength_cabcc 6 = .ok (.iadd, 1) := by decide +kernel
theorem dJ8_newLength_cabcc_7 : decode cJ8_newLength_cabcc 7 = .ok (.istore_n 3, 1) := by decide +kernel
theorem dJ8_newLength_cabcc_8 : decode cJ8_newLength_cabcc 8 = .ok (.iconst 0, 1) := by decide +kernel
theorem dJ8_newLength_cabcc_9 : decode cJ8_newLength_cabcc 9 = .ok (.iload_n 3, 1) := by decide +kernel
theorem dJ8_newLength_cabcc_10 : decode cJ8_newLength_cabcc 10 = .ok (.if_icmp .ge 11, 3) := by decide +kernel
theorem dJ8_newLength_cabcc_13 : decode cJ8_newLength_cabcc 13 = .ok (.iload_n 3, 1) := by decide +kernel
theorem dJ8_newLength_cabcc_14 : decode cJ8_newLength_cabcc 14 = .ok (.ldc 200, 2) := by decide +kernel
theorem dJ8_newLength_cabcc_16 : decode cJ8_newLength_cabcc 16 = .ok (.if_icmp .gt 5, 3) := by decide +kernel
theorem dJ8_newLength_cabcc_19 : decode cJ8_newLength_cabcc 19 = .ok (.iload_n 3, 1) := by decide +kernel
theorem dJ8_newLength_cabcc_20 : decode cJ8_newLength_cabcc 20 = .ok (.ireturn, 1) := by decide +kernel
theorem dJ8_newLength_cabcc_21 : decode cJ8_newLength_cabcc 21 = .ok (.iload_n 0, 1) := by decide +kernel
theorem dJ8_newLength_cabcc_22 : decode cJ8_newLength_cabcc 22 = .ok (.iload_n 1, 1) := by decide +kernel
theorem dJ8_newLength_cabcc_23 : decode cJ8_newLength_cabcc 23 = .ok (.invokestatic 201, 3) := by decide +kernel
theorem dJ8_newLength_cabcc_26 : decode cJ8_newLength_cabcc 26 = .ok (.ireturn, 1) := by decide +kernel
theorem dJ8_hugeLength_7cf53_0 : decode cJ8_hugeLength_7cf53 0 = .ok (.iload_n 0, 1) := by decide +kernel
theorem dJ8_hugeLength_7cf53_1 : decode cJ8_hugeLength_7cf53 1 = .ok (.iload_n 1, 1) := by decide +kernel
theorem dJ8_hugeLength_7cf53_2 : decode cJ8_hugeLength_7cf53 2 = .ok (.iadd, 1) := by decide +kernel
theorem dJ8_hugeLength_7cf53_3 : decode cJ8_hugeLength_7cf53 3 = .ok (.istore_n 2, 1) := by decide +kernel
theorem dJ8_hugeLength_7cf53_4 : decode cJ8_hugeLength_7cf53 4 = .ok (.iload_n 2, 1) := by decide +kernel
theorem dJ8_hugeLength_7cf53_5 : decode cJ8_hugeLength_7cf53 5 = .ok (.ifCond .ge 44, 3) := by decide +kernel
theorem dJ8_hugeLength_7cf53_8 : decode cJ8_hugeLength_7cf53 8 = .ok (.new 204, 3) := by decide +kernel
theorem dJ8_hugeLength_7cf53_11 : decode cJ8_hugeLength_7cf53 11 = .ok (.dup, 1) := by decide +kernel
theorem dJ8_hugeLength_7cf53_12 : decode cJ8_hugeLength_7cf53 12 = .ok (.new 89, 3) := by decide +kernel
theorem dJ8_hugeLength_7cf53_15 : decode cJ8_hugeLength_7cf53 15 = .ok (.dup, 1) := by decide +kernel
theorem dJ8_hugeLength_7cf53_16 : decode cJ8_hugeLength_7cf53 16 = .ok (.invokespecial 91, 3) := by decide +kernel
theorem dJ8_hugeLength_7cf53_19 : decode cJ8_hugeLength_7cf53 19 = .ok (.ldc 206, 2) := by decide +kernel
theorem dJ8_hugeLength_7cf53_21 : decode cJ8_hugeLength_7cf53 21 = .ok (.invokevirtual 94, 3) := by decide +kernel
theorem dJ8_hugeLength_7cf53_24 : decode cJ8_hugeLength_7cf53 24 = .ok (.iload_n 0, 1) := by decide +kernel
theorem dJ8_hugeLength_7cf53_25 : decode cJ8_hugeLength_7cf53 25 = .ok (.invokevirtual 98, 3) := by decide +kernel
theorem dJ8_hugeLength_7cf53_28 : decode cJ8_hugeLength_7cf53 28 = .ok (.ldc 208, 2) := by decide +kernel
theorem dJ8_hugeLength_7cf53_30 : decode cJ8_hugeLength_7cf53 30 = .ok (.invokevirtual 94, 3) := by decide +kernel
theorem dJ8_hugeLength_7cf53_33 : decode cJ8_hugeLength_7cf53 33 = .ok (.iload_n 1, 1) := by decide +kernel
theorem dJ8_hugeLength_7cf53_34 : decode cJ8_hugeLength_7cf53 34 = .ok (.invokevirtual 98, 3) := by decide +kernel
theorem dJ8_hugeLength_7cf53_37 : decode cJ8_hugeLength_7cf53 37 = .ok (.ldc 210, 2) := by decide +kernel
theorem dJ8_hugeLength_7cf53_39 : decode cJ8_hugeLength_7cf53 39 = .ok (.invokevirtual 94, 3) := by decide +kernel
theorem dJ8_hugeLength_7cf53_42 : decode cJ8_hugeLength_7cf53 42 = .ok (.invokevirtual 101, 3) := by decide +kernel
theorem dJ8_hugeLength_7cf53_45 : decode cJ8_hugeLength_7cf53 45 = .ok (.invokespecial 212, 3) := by decide +kernel
theorem dJ8_hugeLength_7cf53_48 : decode cJ8_hugeLength_7cf53 48 = .ok (.athrow, 1) := by decide +kernel
theorem dJ8_hugeLength_7cf53_49 : decode cJ8_hugeLength_7cf53 49 = .ok (.iload_n 2, 1) := by decide +kernel
theorem dJ8_hugeLength_7cf53_50 : decode cJ8_hugeLength_7cf53 50 = .ok (.ldc 200, 2) := by decide +kernel
theorem dJ8_hugeLength_7cf53_52 : decode cJ8_hugeLength_7cf53 52 = .ok (.if_icmp .gt 6, 3) := by decide +kernel
theorem dJ8_hugeLength_7cf53_55 : decode cJ8_hugeLength_7cf53 55 = .ok (.ldc 200, 2) := by decide +kernel
theorem dJ8_hugeLength_7cf53_57 : decode cJ8_hugeLength_7cf53 57 = .ok (.ireturn, 1) := by decide +kernel
theorem dJ8_hugeLength_7cf53_58 : decode cJ8_hugeLength_7cf53 58 = .ok (.iload_n 2, 1) := by decide +kernel
theorem dJ8_hugeLength_7cf53_59 : decode cJ8_hugeLength_7cf53 59 = .ok (.ireturn, 1) := by decide +kernel
theorem dJ3_checkIndex_8e157_0 : decode cJ3_checkIndex_8e157 0 = .ok (.iload_n 0, 1) := by decide +kernel
theorem dJ3_checkIndex_8e157_1 : decode cJ3_checkIndex_8e157 1 = .ok (.ifCond .lt 8, 3) := by decide +kernel
theorem dJ3_checkIndex_8e157_4 : decode cJ3_checkIndex_8e157 4 = .ok (.iload_n 0, 1) := by decide +kernel
theorem dJ3_checkIndex_8e157_5 : decode cJ3_checkIndex_8e157 5 = .ok (.iload_n 1, 1) := by decide +kernel
theorem dJ3_checkIndex_8e157_6 : decode cJ3_checkIndex_8e157 6 = .ok (.if_icmp .lt 10, 3) := by decide +kernel
theorem dJ3_checkIndex_8e157_9 : decode cJ3_checkIndex_8e157 9 = .ok (.aload_n 2, 1) := by decide +kernel
theorem dJ3_checkIndex_8e157_10 : decode cJ3_checkIndex_8e157 10 = .ok (.iload_n 0, 1) := by decide +kernel
theorem dJ3_checkIndex_8e157_11 : decode cJ3_checkIndex_8e157 11 = .ok (.iload_n 1, 1) := by decide +kernel
theorem dJ3_checkIndex_8e157_12 : decode cJ3_checkIndex_8e157 12 = .ok (.invokestatic 95, 3) := by decide +kernel
theorem dJ3_checkIndex_8e157_15 : decode cJ3_checkIndex_8e157 15 = .ok (.athrow, 1) := by decide +kernel
theorem dJ3_checkIndex_8e157_16 : decode cJ3_checkIndex_8e157 16 = .ok (.iload_n 0, 1) := by decide +kernel
theorem dJ3_checkIndex_8e157_17 : decode cJ3_checkIndex_8e157 17 = .ok (.ireturn, 1) := by decide +kernel
end
section
/-! THE WORLD: every cell that class, reference and law hold, by its address. 'nu' says of an address which kind of cell is there (0 to 6: the place of its class in vwCl; 7 int array, 8 long array, 9 boolean array, 10 array of Objects, 11 the list's own empty array, which nobody writes); the tables say what each holds. -/
abbrev kw_St : Type := (Nat → Nat → Int32) × (Nat → Nat → Int64) × (Nat → Nat → Option Nat) × (Nat → Nat → Int32) × (Nat → Nat → Int64) × (Nat → Nat → Option Nat) × (Nat → Nat)
abbrev kI (x : kw_St) : Nat → Nat → Int32 := x.1
abbrev kJ (x : kw_St) : Nat → Nat → Int64 := x.2.1
abbrev kR (x : kw_St) : Nat → Nat → Option Nat := x.2.2.1
abbrev kA (x : kw_St) : Nat → Nat → Int32 := x.2.2.2.1
abbrev kB (x : kw_St) : Nat → Nat → Int64 := x.2.2.2.2.1
abbrev kC (x : kw_St) : Nat → Nat → Option Nat := x.2.2.2.2.2.1
abbrev kN (x : kw_St) : Nat → Nat := x.2.2.2.2.2.2
def sI (x : kw_St) (id a : Nat) (v : Int32) : kw_St := (fun i b => if i = id ∧ b = a then v else x.1 i b, x.2)
def sJ (x : kw_St) (id a : Nat) (v : Int64) : kw_St := (x.1, fun i b => if i = id ∧ b = a then v else x.2.1 i b, x.2.2)
def sR (x : kw_St) (id a : Nat) (v : Option Nat) : kw_St := (x.1, x.2.1, fun i b => if i = id ∧ b = a then v else x.2.2.1 i b, x.2.2.2)
def sA (x : kw_St) (a k : Nat) (v : Int32) : kw_St := (x.1, x.2.1, x.2.2.1, fun b => if b = a then upd (x.2.2.2.1 b) k v else x.2.2.2.1 b, x.2.2.2.2)
def sB (x : kw_St) (a k : Nat) (v : Int64) : kw_St := (x.1, x.2.1, x.2.2.1, x.2.2.2.1, fun b => if b = a then vp_updL (x.2.2.2.2.1 b) k v else x.2.2.2.2.1 b, x.2.2.2.2.2)
def sC (x : kw_St) (a k : Nat) (v : Option Nat) : kw_St := (x.1, x.2.1, x.2.2.1, x.2.2.2.1, x.2.2.2.2.1, fun b => if b = a then va_up (x.2.2.2.2.2.1 b) k v else x.2.2.2.2.2.1 b, x.2.2.2.2.2.2)
/-- a fresh cell at a: all its fields and places as they begin, n places -/
def sNew (x : kw_St) (a n : Nat) : kw_St := (fun i b => if b = a then 0 else x.1 i b, fun i b => if b = a then 0 else x.2.1 i b, fun i b => if b = a then none else x.2.2.1 i b, fun b => if b = a then (fun _ => 0) else x.2.2.2.1 b, fun b => if b = a then (fun _ => 0) else x.2.2.2.2.1 b, fun b => if b = a then (fun _ => none) else x.2.2.2.2.2.1 b, fun b => if b = a then n else x.2.2.2.2.2.2 b)
/-- an array's whole row of references is put -/
def sCrow (x : kw_St) (a : Nat) (r : Nat → Option Nat) : kw_St := (x.1, x.2.1, x.2.2.1, x.2.2.2.1, x.2.2.2.2.1, fun b => if b = a then r else x.2.2.2.2.2.1 b, x.2.2.2.2.2.2)
theorem kI_sI (x : kw_St) (id a : Nat) (v : Int32) (i b : Nat) : kI (sI x id a v) i b = if i = id ∧ b = a then v else kI x i b := rfl
theorem kI_self (x : kw_St) (id a : Nat) (v : Int32) : kI (sI x id a v) id a = v := by simp [kI_sI]
theorem kJ_sJ (x : kw_St) (id a : Nat) (v : Int64) (i b : Nat) : kJ (sJ x id a v) i b = if i = id ∧ b = a then v else kJ x i b := rfl
theorem kJ_self (x : kw_St) (id a : Nat) (v : Int64) : kJ (sJ x id a v) id a = v := by simp [kJ_sJ]
theorem kR_sR (x : kw_St) (id a : Nat) (v : Option Nat) (i b : Nat) : kR (sR x id a v) i b = if i = id ∧ b = a then v else kR x i b := rfl
theorem kR_self (x : kw_St) (id a : Nat) (v : Option Nat) : kR (sR x id a v) id a = v := by simp [kR_sR]
theorem kA_sA (x : kw_St) (a k : Nat) (v : Int32) (b : Nat) : kA (sA x a k v) b = if b = a then upd (kA x b) k v else kA x b := rfl
theorem kB_sB (x : kw_St) (a k : Nat) (v : Int64) (b : Nat) : kB (sB x a k v) b = if b = a then vp_updL (kB x b) k v else kB x b := rfl
theorem kC_sC (x : kw_St) (a k : Nat) (v : Option Nat) (b : Nat) : kC (sC x a k v) b = if b = a then va_up (kC x b) k v else kC x b := rfl
abbrev kw_G : Type := va_G × (ClassId × ClassId × ClassId × ClassId) × (Nat × Nat)
abbrev kw_ty (G : kw_G) : List (ClassId × FieldType) := [(G.2.1.1, .int), (G.2.1.2.1, .long), (G.2.1.2.2.1, .boolean), (G.2.1.2.2.2, .object "java/lang/Object")]
/-- the fields of a class: 0 an int, 1 a long, 2 a reference -/
def kw_fl : Nat → List Nat
  | 0 => [0, 2, 0]
  | 1 => [0, 1, 1]
  | 2 => [0, 2, 0, 0, 1, 1]
  | 3 => [2, 0, 0, 2, 0, 2, 0, 2, 2, 0, 0, 0, 0, 0, 0, 0, 0, 1]
  | 4 => [0, 0, 0, 0, 0, 0, 0, 0, 2]
  | 5 => [2, 2, 2, 2, 0, 0, 0, 0, 1]
  | 6 => [0, 0, 0, 0, 0, 0, 0, 0, 0, 2, 2, 2, 1, 2, 2, 2, 2, 2, 2, 2, 2, 2, 2, 2, 2, 2, 2, 2, 2, 2, 2, 2, 2, 2, 2, 2, 2, 2, 2, 2, 2, 2]
  | _ => []
def kw_fv (x : kw_St) (id a t : Nat) : Value := if t = 0 then .int (kI x id a) else if t = 1 then .long (kJ x id a) else va_rf (kR x id a)
def kw_go (x : kw_St) (a : Nat) : Nat → List Nat → List Value
  | _, [] => []
  | id, t :: l => kw_fv x id a t :: kw_go x a (id + 1) l
theorem kw_go_get (x : kw_St) (a : Nat) : ∀ (l : List Nat) (id j : Nat), (kw_go x a id l)[j]? = (l[j]?).map (kw_fv x (id + j) a)
  | [], id, j => by simp [kw_go]
  | t :: l, id, 0 => by simp [kw_go]
  | t :: l, id, j + 1 => by
    simp only [kw_go, List.getElem?_cons_succ]
    rw [kw_go_get x a l (id + 1) j, show id + 1 + j = id + (j + 1) by omega]
theorem kw_go_len (x : kw_St) (a : Nat) : ∀ (l : List Nat) (id : Nat), (kw_go x a id l).length = l.length
  | [], id => rfl
  | t :: l, id => by simp [kw_go, kw_go_len x a l (id + 1)]
abbrev kw_ob (x : kw_St) (q a : Nat) : List Value := kw_go x a (50 * q) (kw_fl q)
/-- the cell at a, if it is of kind q -/
def kw_ce (G : kw_G) (x : kw_St) (q a : Nat) : va_E := if q < 7 then .inr (q, kw_ob x q a) else if q = 7 then .inl (G.2.1.1, kN x a, .inl (kA x a)) else if q = 8 then .inl (G.2.1.2.1, kN x a, .inr (.inl (kB x a))) else if q = 9 then .inl (G.2.1.2.2.1, kN x a, .inl (kA x a)) else .inl (G.2.1.2.2.2, kN x a, .inr (.inr (.inr (.inr (kC x a)))))
def kw_W (G : kw_G) (A : Nat → Prop) (nu : Nat → Option Nat) (x : kw_St) (H : Heap) : Prop := ∀ a q, nu a = some q → va_at G.1 vwCl (a, kw_ce G x q a) H ∧ (q = 11 ∨ A a)
theorem kw_one {D : va_G} {cl : List vw_C} {q : Nat × va_E} {H : Heap} (h : va_at D cl q H) : va_P D cl [q] H := by
  intro k r hk
  cases k with
  | zero => cases hk; exact h
  | succ k => simp at hk
theorem kw_W.up {G : kw_G} {A : Nat → Prop} {nu : Nat → Option Nat} {x y : kw_St} {H H1 : Heap} {a q : Nat} (h : kw_W G A nu x H) (ha : nu a = some q) (hv : va_at G.1 vwCl (a, kw_ce G y q a) H1) (oq : ∀ r : Nat, r ≠ a → H1[r]? = H[r]?) (hy : ∀ b r, b ≠ a → kw_ce G y r b = kw_ce G x r b) : kw_W G A nu y H1 := by
  intro b r hb
  by_cases e : b = a
  · subst e
    rw [ha] at hb
    cases hb
    exact ⟨hv, (h b q ha).2⟩
  · rw [hy b r e]
    exact ⟨(h b r hb).1.kept (oq b e), (h b r hb).2⟩
theorem kw_fv_ne {x y : kw_St} {b : Nat} (hI : ∀ i, kI y i b = kI x i b) (hJ : ∀ i, kJ y i b = kJ x i b) (hR : ∀ i, kR y i b = kR x i b) : ∀ (l : List Nat) (id : Nat), kw_go y b id l = kw_go x b id l
  | [], _ => rfl
  | t :: l, id => by
    simp only [kw_go, kw_fv]
    rw [hI id, hJ id, hR id, kw_fv_ne hI hJ hR l (id + 1)]
theorem kw_ce_ne {G : kw_G} {x y : kw_St} {b : Nat} (hI : ∀ i, kI y i b = kI x i b) (hJ : ∀ i, kJ y i b = kJ x i b) (hR : ∀ i, kR y i b = kR x i b) (hA : kA y b = kA x b) (hB : kB y b = kB x b) (hC : kC y b = kC x b) (hN : kN y b = kN x b) (r : Nat) : kw_ce G y r b = kw_ce G x r b := by
  unfold kw_ce kw_ob
  rw [kw_fv_ne hI hJ hR, hA, hB, hC, hN]
theorem kw_ne_sI {G : kw_G} {x : kw_St} {id a b : Nat} {v : Int32} (r : Nat) (h : b ≠ a) : kw_ce G (sI x id a v) r b = kw_ce G x r b := kw_ce_ne (x := x) (y := sI x id a v) (fun i => by simp [kI_sI, h]) (fun _ => rfl) (fun _ => rfl) rfl rfl rfl rfl r
theorem kw_ne_sJ {G : kw_G} {x : kw_St} {id a b : Nat} {v : Int64} (r : Nat) (h : b ≠ a) : kw_ce G (sJ x id a v) r b = kw_ce G x r b := kw_ce_ne (x := x) (y := sJ x id a v) (fun _ => rfl) (fun i => by simp [kJ_sJ, h]) (fun _ => rfl) rfl rfl rfl rfl r
theorem kw_ne_sR {G : kw_G} {x : kw_St} {id a b : Nat} {v : Option Nat} (r : Nat) (h : b ≠ a) : kw_ce G (sR x id a v) r b = kw_ce G x r b := kw_ce_ne (x := x) (y := sR x id a v) (fun _ => rfl) (fun _ => rfl) (fun i => by simp [kR_sR, h]) rfl rfl rfl rfl r
theorem kw_ne_sA {G : kw_G} {x : kw_St} {k a b : Nat} {v : Int32} (r : Nat) (h : b ≠ a) : kw_ce G (sA x a k v) r b = kw_ce G x r b := kw_ce_ne (x := x) (y := sA x a k v) (fun _ => rfl) (fun _ => rfl) (fun _ => rfl) (by simp [kA_sA, h]) rfl rfl rfl r
theorem kw_ne_sB {G : kw_G} {x : kw_St} {k a b : Nat} {v : Int64} (r : Nat) (h : b ≠ a) : kw_ce G (sB x a k v) r b = kw_ce G x r b := kw_ce_ne (x := x) (y := sB x a k v) (fun _ => rfl) (fun _ => rfl) (fun _ => rfl) rfl (by simp [kB_sB, h]) rfl rfl r
theorem kw_ne_sC {G : kw_G} {x : kw_St} {k a b : Nat} {v : Option Nat} (r : Nat) (h : b ≠ a) : kw_ce G (sC x a k v) r b = kw_ce G x r b := kw_ce_ne (x := x) (y := sC x a k v) (fun _ => rfl) (fun _ => rfl) (fun _ => rfl) rfl rfl (by simp [kC_sC, h]) rfl r
theorem kw_ne_sCrow {G : kw_G} {x : kw_St} {a b : Nat} {v : Nat → Option Nat} (r : Nat) (h : b ≠ a) : kw_ce G (sCrow x a v) r b = kw_ce G x r b := kw_ce_ne (x := x) (y := sCrow x a v) (fun _ => rfl) (fun _ => rfl) (fun _ => rfl) rfl rfl (by simp [sCrow, kC, h]) rfl r
theorem kw_ne_sNew {G : kw_G} {x : kw_St} {a b n : Nat} (r : Nat) (h : b ≠ a) : kw_ce G (sNew x a n) r b = kw_ce G x r b := kw_ce_ne (x := x) (y := sNew x a n) (fun _ => by simp [sNew, kI, h]) (fun _ => by simp [sNew, kJ, h]) (fun _ => by simp [sNew, kR, h]) (by simp [sNew, kA, h]) (by simp [sNew, kB, h]) (by simp [sNew, kC, h]) (by simp [sNew, kN, h]) r
/-- an object's fields behind a store -/
theorem kw_fv_other {x y : kw_St} {a : Nat} {id : Nat} (hI : ∀ i, i ≠ id → kI y i a = kI x i a) (hJ : ∀ i, i ≠ id → kJ y i a = kJ x i a) (hR : ∀ i, i ≠ id → kR y i a = kR x i a) {q j t : Nat} {v : Value} (hj : (kw_fl q)[j]? = some t) (hid : 50 * q + j = id) (hv : kw_fv y id a t = v) : kw_ob y q a = (kw_ob x q a).set j v := by
  apply List.ext_getElem?
  intro k
  have hl : j < (kw_ob x q a).length := by rw [kw_go_len]; exact (List.getElem?_eq_some_iff.mp hj).1
  by_cases e : k = j
  · subst e
    rw [List.getElem?_set_self hl, kw_go_get, hj, Option.map_some, hid, hv]
  · rw [List.getElem?_set_ne (Ne.symm e), kw_go_get, kw_go_get]
    have hne : 50 * q + k ≠ id := by omega
    cases (kw_fl q)[k]? with
    | none => rfl
    | some t2 => simp only [Option.map_some, kw_fv]; rw [hI _ hne, hJ _ hne, hR _ hne]
theorem kw_ce_ob {G : kw_G} {x : kw_St} {q a : Nat} (h : q < 7) : kw_ce G x q a = .inr (q, kw_ob x q a) := by simp [kw_ce, h]
theorem kw_ob_get {x : kw_St} {q a j t id : Nat} (hj : (kw_fl q)[j]? = some t) (hid : 50 * q + j = id) : (kw_ob x q a)[j]? = some (kw_fv x id a t) := by rw [kw_go_get, hj, Option.map_some, hid]
section KWR
variable {p : Program} {l : Launch} {e : Env} {R : Room} {s : State} {m : MethodId} {args : Array Value} {below : List Frame} {meth : Method} {c : Code} {H : Heap} {locs : List Loc} {cells slots : Nat} {Q : State → Prop}
variable {cc : ByteArray} {pc nL : Nat} {ls : Array Slot} {rest : List Value} {G : kw_G} {A : Nat → Prop} {nu : Nat → Option Nat} {x : kw_St} {a q : Nat} {H0 : Heap} {Ts : List Cond} {own : String}
theorem kw_get (S : CallFix p m c cc nL s args Ts own) (hK : va_K G.1 vwCl (kw_ty G) s) (hW : kw_W G A nu x H) (ha : nu a = some q) (j id t : Nat) {C : String} {T : u_T} {N index : Nat} (hc : vwCl[q]? = some (C, T, N)) (hin : ∀ w ∈ u_ws C T N, w ∈ Ts) (hq : q < 7) (hj : (kw_fl q)[j]? = some t) (hid : 50 * q + j = id) (hjN : j < N) {ref : String} (hl : Cond.fieldLink own index ref (T j).2.1 (T j).2.2.1 ∈ Ts) (hsame : ∀ z, s.fieldFound? (T j).1 (T j).2.1 (T j).2.2.1 = some z → s.fieldFound? ref (T j).2.1 (T j).2.2.1 = some z) (hdg : decode cc pc = .ok (.getfield index, 3))
    (kk : W p l e R s m args below meth c H locs cells slots Q (F0 m (pc + 3) ls (kw_fv x id a t :: rest))) : W p l e R s m args below meth c H locs cells slots Q (F0 m pc ls (.ref a :: rest)) := by
  have h1 := (hW a q ha).1
  rw [kw_ce_ob hq] at h1
  exact va_get S.1 S.2.1 S.2.2.2.2 hin S.2.2.2.1 hK (kw_one h1) 0 rfl hc j hjN (S.2.2.2.2 _ hl) hsame (kw_ob_get hj hid) hdg kk
theorem kw_getI (S : CallFix p m c cc nL s args Ts own) (hK : va_K G.1 vwCl (kw_ty G) s) (hW : kw_W G A nu x H) (ha : nu a = some q) (j id : Nat) {C : String} {T : u_T} {N index : Nat} (hc : vwCl[q]? = some (C, T, N)) (hin : ∀ w ∈ u_ws C T N, w ∈ Ts) (hq : q < 7) (hj : (kw_fl q)[j]? = some 0) (hid : 50 * q + j = id) (hjN : j < N) (hl : Cond.fieldLink own index (T j).1 (T j).2.1 (T j).2.2.1 ∈ Ts) (hdg : decode cc pc = .ok (.getfield index, 3)) {v : Int32} (hv : kI x id a = v)
    (kk : W p l e R s m args below meth c H locs cells slots Q (F0 m (pc + 3) ls (.int v :: rest))) : W p l e R s m args below meth c H locs cells slots Q (F0 m pc ls (.ref a :: rest)) := by
  subst hv
  exact kw_get S hK hW ha j id 0 hc hin hq hj hid hjN hl (fun _ h => h) hdg kk
theorem kw_getJ (S : CallFix p m c cc nL s args Ts own) (hK : va_K G.1 vwCl (kw_ty G) s) (hW : kw_W G A nu x H) (ha : nu a = some q) (j id : Nat) {C : String} {T : u_T} {N index : Nat} (hc : vwCl[q]? = some (C, T, N)) (hin : ∀ w ∈ u_ws C T N, w ∈ Ts) (hq : q < 7) (hj : (kw_fl q)[j]? = some 1) (hid : 50 * q + j = id) (hjN : j < N) (hl : Cond.fieldLink own index (T j).1 (T j).2.1 (T j).2.2.1 ∈ Ts) (hdg : decode cc pc = .ok (.getfield index, 3)) {v : Int64} (hv : kJ x id a = v)
    (kk : W p l e R s m args below meth c H locs cells slots Q (F0 m (pc + 3) ls (.long v :: rest))) : W p l e R s m args below meth c H locs cells slots Q (F0 m pc ls (.ref a :: rest)) := by
  subst hv
  exact kw_get S hK hW ha j id 1 hc hin hq hj hid hjN hl (fun _ h => h) hdg kk
theorem kw_getR (S : CallFix p m c cc nL s args Ts own) (hK : va_K G.1 vwCl (kw_ty G) s) (hW : kw_W G A nu x H) (ha : nu a = some q) (j id : Nat) {C : String} {T : u_T} {N index : Nat} (hc : vwCl[q]? = some (C, T, N)) (hin : ∀ w ∈ u_ws C T N, w ∈ Ts) (hq : q < 7) (hj : (kw_fl q)[j]? = some 2) (hid : 50 * q + j = id) (hjN : j < N) (hl : Cond.fieldLink own index (T j).1 (T j).2.1 (T j).2.2.1 ∈ Ts) (hdg : decode cc pc = .ok (.getfield index, 3)) {v : Option Nat} (hv : kR x id a = v)
    (kk : W p l e R s m args below meth c H locs cells slots Q (F0 m (pc + 3) ls (va_rf v :: rest))) : W p l e R s m args below meth c H locs cells slots Q (F0 m pc ls (.ref a :: rest)) := by
  subst hv
  exact kw_get S hK hW ha j id 2 hc hin hq hj hid hjN hl (fun _ h => h) hdg kk
/-- a store into a field, whatever it holds -/
theorem kw_put (S : CallFix p m c cc nL s args Ts own) (hK : va_K G.1 vwCl (kw_ty G) s) (hW : kw_W G A nu x H) (hS0 : va_S A H0 H locs) (ha : nu a = some q) (j id t : Nat) {y : kw_St} {v : Value} {C : String} {T : u_T} {N index : Nat} (hc : vwCl[q]? = some (C, T, N)) (hin : ∀ w ∈ u_ws C T N, w ∈ Ts) (ty0 : Nat → FieldType) (hty : ∀ k, k < N → parseFieldDescriptor (T k).2.2.1 = some (ty0 k)) (hnm : ∀ a, a < N → ∀ b, b < N → a ≠ b → (T a).2.1 ≠ (T b).2.1) (hq : q < 7) (hj : (kw_fl q)[j]? = some t) (hid : 50 * q + j = id) (hjN : j < N) {ref : String} (hl : Cond.fieldLink own index ref (T j).2.1 (T j).2.2.1 ∈ Ts) (hsame : ∀ z, s.fieldFound? (T j).1 (T j).2.1 (T j).2.2.1 = some z → s.fieldFound? ref (T j).2.1 (T j).2.2.1 = some z)
    (hfin : (T j).2.2.2 = false ∨ ((T j).2.2.2 = true ∧ meth.name = "<init>" ∧ (T j).1 = own)) {ty : FieldType} (hd : parseFieldDescriptor (T j).2.2.1 = some ty) (hn : narrow ty v = v) (hfit : fits ty v = true) (hdg : decode cc pc = .ok (.putfield index, 3))
    (hI : ∀ i, i ≠ id → kI y i a = kI x i a) (hJ : ∀ i, i ≠ id → kJ y i a = kJ x i a) (hR : ∀ i, i ≠ id → kR y i a = kR x i a) (hv : kw_fv y id a t = v) (hne : ∀ b r, b ≠ a → kw_ce G y r b = kw_ce G x r b)
    (kk : ∀ (H1 : Heap) (locs1 : List Loc), kw_W G A nu y H1 → va_S A H0 H1 locs1 → W p l e R s m args below meth c H1 locs1 cells slots Q (F0 m (pc + 3) ls rest)) : W p l e R s m args below meth c H locs cells slots Q (F0 m pc ls (v :: .ref a :: rest)) := by
  have hA : A a := by
    rcases (hW a q ha).2 with h | h
    · omega
    · exact h
  have h1 := (hW a q ha).1
  rw [kw_ce_ob hq] at h1
  have hap := va_apart (own := own) S.2.2.2.2 hin ty0 hty hnm hK hc
  have hlen : j < (kw_ob x q a).length := by rw [kw_go_len]; exact (List.getElem?_eq_some_iff.mp hj).1
  obtain ⟨r, h1, cell, q1, q2, q3, q4⟩ := h1
  have hr : r = (C, T, N) := Option.some.inj (h1.symm.trans hc)
  subst hr
  obtain ⟨hS, hfc, kC, hkC, hkind⟩ := hK.1 q _ hc
  obtain ⟨cf, kf, fi, f, hi, hsl⟩ := hS j hjN
  have hst := (u_facts hfc hkC (u_lays S.2.2.2.2 hin hjN) hi).1
  have hlay := S.2.2.2.2 _ (hin _ (u_in_lay hjN))
  unfold u_lay at hlay
  have fin : ∀ H' : Heap, H'[a]? = some (cell.setSlot f.slot v) → H'.size = H.size → (∀ r, r ≠ a → H'[r]? = H[r]?) → W p l e R s m args below meth c H' (locs ++ [⟨a, f.slot⟩]) cells slots Q (F0 m (pc + 3) ls rest) := by
    intro H' e1 e2 e3
    rw [hsl] at e1 ⊢
    refine kk H' _ (hW.up ha ?_ e3 hne) (hS0.put e2 e3 hA)
    rw [kw_ce_ob hq, kw_fv_other hI hJ hR hj hid hv]
    exact ⟨_, hc, t_OB.to (V := updV (vp_V (kw_ob x q a)) j v) ⟨_, e1, q2, q3, t_set q4 hap hjN v⟩ (fun k _ => vp_updV_set hlen v k)⟩
  rcases hfin with hfin | ⟨hfin, hin2, hdecl⟩
  · rw [if_neg (by rw [hfin]; decide)] at hlay
    have h6 := u_store hfc hkC hkind hlay hi hd hn hfit
    exact W.putK S.1 S.2.1 (f := f) ⟨S.2.2.2.1, S.2.2.2.2 _ hl, ⟨_, _, _, hsame _ hi⟩, hst⟩ (by rw [q2]; exact h6) q1 q3 (by rw [hsl]; exact k2_hasslot (q4 j hjN)) rfl rfl hdg fin
  · rw [if_pos hfin] at hlay
    have hcf : m.cls = cf := by
      obtain ⟨_, _, c', _, _, _, -, -, hf', -, -, -, hown2, -⟩ := Cond.laysFinal_spec hlay
      have e1 : c' = cf := by have := hi.symm.trans hf'; simp at this; exact this.1.symm
      rw [hdecl] at hown2
      rw [← e1]; exact Option.some.inj (S.2.2.2.1.symm.trans hown2)
    have h6 := u_fits hfc hkC hkind (Or.inr hlay) hi hd hn hfit
    exact W.putFinK S.1 S.2.1 S.2.2.2.1 (S.2.2.2.2 _ hl) (hsame _ hi) hst hcf hin2 (by rw [q2]; exact h6) q1 q3 (by rw [hsl]; exact k2_hasslot (q4 j hjN)) rfl rfl hdg fin
theorem kw_putI (S : CallFix p m c cc nL s args Ts own) (hK : va_K G.1 vwCl (kw_ty G) s) (hW : kw_W G A nu x H) (hS0 : va_S A H0 H locs) (ha : nu a = some q) (j id : Nat) {v : Int32} {C : String} {T : u_T} {N index : Nat} (hc : vwCl[q]? = some (C, T, N)) (hin : ∀ w ∈ u_ws C T N, w ∈ Ts) (ty0 : Nat → FieldType) (hty : ∀ k, k < N → parseFieldDescriptor (T k).2.2.1 = some (ty0 k)) (hnm : ∀ a, a < N → ∀ b, b < N → a ≠ b → (T a).2.1 ≠ (T b).2.1) (hq : q < 7) (hj : (kw_fl q)[j]? = some 0) (hid : 50 * q + j = id) (hjN : j < N) (hl : Cond.fieldLink own index (T j).1 (T j).2.1 (T j).2.2.1 ∈ Ts)
    (hfin : (T j).2.2.2 = false ∨ ((T j).2.2.2 = true ∧ meth.name = "<init>" ∧ (T j).1 = own)) {ty : FieldType} (hd : parseFieldDescriptor (T j).2.2.1 = some ty) (hn : narrow ty (.int v) = .int v) (hfit : fits ty (.int v) = true) (hdg : decode cc pc = .ok (.putfield index, 3))
    (kk : ∀ (H1 : Heap) (locs1 : List Loc), kw_W G A nu (sI x id a v) H1 → va_S A H0 H1 locs1 → W p l e R s m args below meth c H1 locs1 cells slots Q (F0 m (pc + 3) ls rest)) : W p l e R s m args below meth c H locs cells slots Q (F0 m pc ls (.int v :: .ref a :: rest)) :=
  kw_put (x := x) (y := sI x id a v) S hK hW hS0 ha j id 0 hc hin ty0 hty hnm hq hj hid hjN hl (fun _ h => h) hfin hd hn hfit hdg (fun i h => by simp [kI_sI, h]) (fun _ _ => rfl) (fun _ _ => rfl) (by simp [kw_fv, kI_sI]) (fun b r h => kw_ne_sI r h) kk
theorem kw_putJ (S : CallFix p m c cc nL s args Ts own) (hK : va_K G.1 vwCl (kw_ty G) s) (hW : kw_W G A nu x H) (hS0 : va_S A H0 H locs) (ha : nu a = some q) (j id : Nat) {v : Int64} {C : String} {T : u_T} {N index : Nat} (hc : vwCl[q]? = some (C, T, N)) (hin : ∀ w ∈ u_ws C T N, w ∈ Ts) (ty0 : Nat → FieldType) (hty : ∀ k, k < N → parseFieldDescriptor (T k).2.2.1 = some (ty0 k)) (hnm : ∀ a, a < N → ∀ b, b < N → a ≠ b → (T a).2.1 ≠ (T b).2.1) (hq : q < 7) (hj : (kw_fl q)[j]? = some 1) (hid : 50 * q + j = id) (hjN : j < N) (hl : Cond.fieldLink own index (T j).1 (T j).2.1 (T j).2.2.1 ∈ Ts)
    (hfin : (T j).2.2.2 = false ∨ ((T j).2.2.2 = true ∧ meth.name = "<init>" ∧ (T j).1 = own)) {ty : FieldType} (hd : parseFieldDescriptor (T j).2.2.1 = some ty) (hn : narrow ty (.long v) = .long v) (hfit : fits ty (.long v) = true) (hdg : decode cc pc = .ok (.putfield index, 3))
    (kk : ∀ (H1 : Heap) (locs1 : List Loc), kw_W G A nu (sJ x id a v) H1 → va_S A H0 H1 locs1 → W p l e R s m args below meth c H1 locs1 cells slots Q (F0 m (pc + 3) ls rest)) : W p l e R s m args below meth c H locs cells slots Q (F0 m pc ls (.long v :: .ref a :: rest)) :=
  kw_put (x := x) (y := sJ x id a v) S hK hW hS0 ha j id 1 hc hin ty0 hty hnm hq hj hid hjN hl (fun _ h => h) hfin hd hn hfit hdg (fun _ _ => rfl) (fun i h => by simp [kJ_sJ, h]) (fun _ _ => rfl) (by simp [kw_fv, kJ_sJ]) (fun b r h => kw_ne_sJ r h) kk
theorem kw_putR (S : CallFix p m c cc nL s args Ts own) (hK : va_K G.1 vwCl (kw_ty G) s) (hW : kw_W G A nu x H) (hS0 : va_S A H0 H locs) (ha : nu a = some q) (j id : Nat) {v : Option Nat} {w : Value} (hw : va_rf v = w) {C : String} {T : u_T} {N index : Nat} (hc : vwCl[q]? = some (C, T, N)) (hin : ∀ w ∈ u_ws C T N, w ∈ Ts) (ty0 : Nat → FieldType) (hty : ∀ k, k < N → parseFieldDescriptor (T k).2.2.1 = some (ty0 k)) (hnm : ∀ a, a < N → ∀ b, b < N → a ≠ b → (T a).2.1 ≠ (T b).2.1) (hq : q < 7) (hj : (kw_fl q)[j]? = some 2) (hid : 50 * q + j = id) (hjN : j < N) (hl : Cond.fieldLink own index (T j).1 (T j).2.1 (T j).2.2.1 ∈ Ts)
    (hfin : (T j).2.2.2 = false ∨ ((T j).2.2.2 = true ∧ meth.name = "<init>" ∧ (T j).1 = own)) {ty : FieldType} (hd : parseFieldDescriptor (T j).2.2.1 = some ty) (hn : narrow ty w = w) (hfit : fits ty w = true) (hdg : decode cc pc = .ok (.putfield index, 3))
    (kk : ∀ (H1 : Heap) (locs1 : List Loc), kw_W G A nu (sR x id a v) H1 → va_S A H0 H1 locs1 → W p l e R s m args below meth c H1 locs1 cells slots Q (F0 m (pc + 3) ls rest)) : W p l e R s m args below meth c H locs cells slots Q (F0 m pc ls (w :: .ref a :: rest)) :=
  kw_put (x := x) (y := sR x id a v) S hK hW hS0 ha j id 2 hc hin ty0 hty hnm hq hj hid hjN hl (fun _ h => h) hfin hd hn hfit hdg (fun _ _ => rfl) (fun _ _ => rfl) (fun i h => by simp [kR_sR, h]) (by simp [kw_fv, kR_sR, hw]) (fun b r h => kw_ne_sR r h) kk
end KWR
end
section
/-! arrays, fresh cells, a method's entry and end, calls -/
/-- an int is the number k of a place below n -/
def kw_ix (i : Int32) (k n : Nat) : Prop := vp_in i n ∧ i.toNatClampNeg = k
theorem kw_ix.nI {k n : Nat} (h : k < n) (hn : n < 2 ^ 31) : kw_ix (nI k) k n := ⟨vp_in_nI h hn, nI_clamp (by omega)⟩
theorem kw_ix.lt {i : Int32} {k n : Nat} (h : kw_ix i k n) : k < n := h.2 ▸ (Nat.not_le.mp fun q => h.1 (Or.inr q))
/-- what a launch knows of classes, and what the class's own code never changes -/
def kw_K (G : kw_G) (U : State) : Prop := va_K G.1 vwCl (kw_ty G) U ∧ va_AO "java/lang/Object" U ∧ va_Mi "[Ljava/lang/Object;" G.2.2.2 U ∧ va_Dc U ∧ va_Nw (.castable RX1 "java/lang/Object") U ∧ va_Nw (.castable RX2 "java/lang/Object") U ∧ va_Nw (.castable RX3 "java/lang/Object") U
theorem kw_K.warm {G : kw_G} {u U : State} (hW : u.WarmedH U.vm) (h : kw_K G u) : kw_K G U := ⟨va_K.moved hW.alike h.1, va_AO.moved hW.alike h.2.1, va_Mi.moved hW.alike h.2.2.1, va_Dc.moved hW.alike h.2.2.2.1, va_Nw.warmC hW h.2.2.2.2.1, va_Nw.warmC hW h.2.2.2.2.2.1, va_Nw.warmC hW h.2.2.2.2.2.2⟩
theorem kw_K.call {G : kw_G} {U : State} {g : JFrame} {mk : MethodId} {a : Array Value} (h : kw_K G U) : kw_K G (U.calling g mk a) := by
  have e : U.vm.Alike (U.calling g mk a).vm := Vm.Alike.refl U.vm
  exact ⟨va_K.moved e h.1, va_AO.moved e h.2.1, va_Mi.moved e h.2.2.1, va_Dc.moved e h.2.2.2.1, va_Nw.same rfl rfl h.2.2.2.2.1, va_Nw.same rfl rfl h.2.2.2.2.2.1, va_Nw.same rfl rfl h.2.2.2.2.2.2⟩
abbrev kw_Z (G : kw_G) (A : Nat → Prop) (U : State) (H : Heap) : Prop := va_Z "java/util/ArrayList" "DEFAULTCAPACITY_EMPTY_ELEMENTDATA" "[Ljava/lang/Object;" (.ref G.2.2.1) A U H
/-- which cells a method may write: those of the world, and fresh ones -/
def kw_Rg (nu : Nat → Option Nat) (sz : Nat) : Nat → Prop := fun r => (∃ q, nu r = some q ∧ q ≠ 11) ∨ sz ≤ r
def kw_Pc (G : kw_G) (nu : Nat → Option Nat) (x : kw_St) (sz : Nat) (av : List Value) : Array Value → State → Prop := va_Pc av (fun U => U.heap.size = sz ∧ kw_W G (fun _ => True) nu x U.heap ∧ kw_K G U ∧ kw_Z G (kw_Rg nu sz) U U.heap)
def kw_Qc (G : kw_G) (A : Nat → Prop) (post : Option Value → (Nat → Option Nat) → kw_St → Prop) : Array Value → State → Outcome → State → Prop := fun _ st oc t => (∃ v nu' y, oc = .returned v ∧ post v nu' y ∧ kw_W G A nu' y t.heap) ∧ va_F A st t
/-- THE CONTRACT of a method: with these arguments in this world it returns, and 'post' holds of its answer and of the world behind it -/
def kw_M (l : Launch) (G : kw_G) (y : MethodName) (ws : List Cond) (rm : Room) (mc ms : Nat) (av : List Value) (nu : Nat → Option Nat) (x : kw_St) (post : Option Value → (Nat → Option Nat) → kw_St → Prop) : Prop := ∀ sz : Nat, Met l y ws rm (kw_Pc G nu x sz av) (kw_Qc G (kw_Rg nu sz) post) mc ms (kw_Rg nu sz)
theorem kw_M.ofW {l : Launch} {G : kw_G} {y : MethodName} {ws ws' : List Cond} {rm : Room} {mc ms : Nat} {av : List Value} {nu : Nat → Option Nat} {x : kw_St} {post : Option Value → (Nat → Option Nat) → kw_St → Prop} {cc : ByteArray} {maxL : Nat} {ret : Option FieldType} (hy : plainName y.cls = true) (hw : ws = Cond.code y cc maxL ret :: ws') (hav : (lg_sl av).length ≤ maxL)
    (body : ∀ (p : Program) (e : Env) (s : State) (m : MethodId) (args : Array Value) (below : List Frame) (meth : Method) (c : Code) (A : Nat → Prop) (ls : Array Slot), CallFix p m c cc maxL s args ws y.cls → meth.sig.returnType = ret → meth.locks = false → meth.name = y.name → kw_K G s → kw_Z G A s s.heap → (∀ r, s.heap.size ≤ r → A r) → kw_W G A nu x s.heap → va_S A s.heap s.heap [] → lv_has ls maxL (lv_args 0 av) →
      W p l e rm s m args below meth c s.heap [] 0 0 (MQ below (kw_Qc G A post) args s mc ms A) (F0 m 0 ls [])) : kw_M l G y ws rm mc ms av nu x post := by
  intro sz
  refine Met.ofW (cc := cc) (maxL := maxL) (ret := ret) hy hw ?_
  intro p e s m args below meth c s₁ B hml hv
  obtain ⟨rfl, hsz, hW, hK, hZ⟩ := hv
  subst hsz
  have hl := lv_entry av (n := maxL) hav
  rw [lg_entry_eq]
  have hW' : kw_W G (kw_Rg nu s.heap.size) nu x s.heap := fun a q h => ⟨(hW a q h).1, by
    by_cases e : q = 11
    · exact Or.inl e
    · exact Or.inr (Or.inl ⟨q, h, e⟩)⟩
  exact body p e s m _ below meth c (kw_Rg nu s.heap.size) _ ⟨B.exec, B.bytes, hml, findClass_of_methodNamed B.named, atoms_spec (ws := ws) B.pre⟩ B.returns B.notSynchronized (name_of_methodNamed B.named B.method).1 hK hZ (fun r h => Or.inr h) hW' va_S.rf hl
section KWC
variable {p : Program} {l : Launch} {e : Env} {R : Room} {s : State} {m : MethodId} {args : Array Value} {below : List Frame} {meth : Method} {c : Code} {H : Heap} {locs : List Loc} {cells slots : Nat} {Q : State → Prop}
variable {cc : ByteArray} {pc nL : Nat} {ls : Array Slot} {rest : List Value} {G : kw_G} {A : Nat → Prop} {nu : Nat → Option Nat} {x : kw_St} {a q : Nat} {H0 : Heap} {Ts : List Cond} {own : String}
variable {post : Option Value → (Nat → Option Nat) → kw_St → Prop} {mc ms : Nat}
theorem kw_ends (hW : kw_W G A nu x H) (hS : va_S A s.heap H locs) {v : Option Value} (hp : post v nu x) (t : State) (ht : t.heap = H) : kw_Qc G A post args s (.returned v) t := ⟨⟨v, nu, x, rfl, hp, by rw [ht]; exact hW⟩, hS.F ht⟩
theorem kw_vret (S : CallFix p m c cc nL s args Ts own) (hr : meth.sig.returnType = none) (hlocks : meth.locks = false) (hW : kw_W G A nu x H) (hS : va_S A s.heap H locs) (hc : cells ≤ mc) (hs : slots ≤ ms) (hdg : decode cc pc = .ok (.return_, 1)) (hp : post none nu x) : W p l e R s m args below meth c H locs cells slots (MQ below (kw_Qc G A post) args s mc ms A) (F0 m pc ls []) :=
  W.widen hc hs (W.vret S.1 S.2.1 hr (fun t ht _ => kw_ends hW hS hp t ht) hS.2.2 hdg hlocks)
theorem kw_iret (S : CallFix p m c cc nL s args Ts own) (hr : meth.sig.returnType = some .int) (hlocks : meth.locks = false) (hW : kw_W G A nu x H) (hS : va_S A s.heap H locs) (hc : cells ≤ mc) (hs : slots ≤ ms) (hdg : decode cc pc = .ok (.ireturn, 1)) {v : Int32} (hp : post (some (.int v)) nu x) : W p l e R s m args below meth c H locs cells slots (MQ below (kw_Qc G A post) args s mc ms A) (F0 m pc ls [.int v]) :=
  W.widen hc hs (W.iret S.1 S.2.1 hr (fun t ht _ => kw_ends hW hS hp t ht) hS.2.2 hdg hlocks)
theorem kw_zret (S : CallFix p m c cc nL s args Ts own) (hr : meth.sig.returnType = some .boolean) (hlocks : meth.locks = false) (hW : kw_W G A nu x H) (hS : va_S A s.heap H locs) (hc : cells ≤ mc) (hs : slots ≤ ms) (hdg : decode cc pc = .ok (.ireturn, 1)) {v : Int32} (hn : narrow .boolean (.int v) = .int v) (hp : post (some (.int v)) nu x) : W p l e R s m args below meth c H locs cells slots (MQ below (kw_Qc G A post) args s mc ms A) (F0 m pc ls [.int v]) :=
  W.widen hc hs (W.zret S.1 S.2.1 hr hn (fun t ht _ => kw_ends hW hS hp t ht) hS.2.2 hdg hlocks)
theorem kw_lret (S : CallFix p m c cc nL s args Ts own) (hr : meth.sig.returnType = some .long) (hlocks : meth.locks = false) (hW : kw_W G A nu x H) (hS : va_S A s.heap H locs) (hc : cells ≤ mc) (hs : slots ≤ ms) (hdg : decode cc pc = .ok (.lreturn, 1)) {v : Int64} (hp : post (some (.long v)) nu x) : W p l e R s m args below meth c H locs cells slots (MQ below (kw_Qc G A post) args s mc ms A) (F0 m pc ls [.long v]) :=
  W.widen hc hs (W.lret S.1 S.2.1 hr (fun t ht _ => kw_ends hW hS hp t ht) hS.2.2 hdg hlocks)
theorem kw_aret (S : CallFix p m c cc nL s args Ts own) {rt : FieldType} (hr : meth.sig.returnType = some rt) (hrt : (∃ n, rt = .object n) ∨ ∃ t, rt = .array t) (hlocks : meth.locks = false) (hW : kw_W G A nu x H) (hS : va_S A s.heap H locs) (hc : cells ≤ mc) (hs : slots ≤ ms) (hdg : decode cc pc = .ok (.areturn, 1)) {v : Option Nat} (hp : post (some (va_rf v)) nu x) : W p l e R s m args below meth c H locs cells slots (MQ below (kw_Qc G A post) args s mc ms A) (F0 m pc ls [va_rf v]) :=
  W.widen hc hs (W.aret S.1 S.2.1 hr hrt (va_rf_or v) (fun t ht _ => kw_ends hW hS hp t ht) hS.2.2 hdg hlocks)
/-- behind a call -/
theorem kw_call {st0 : List Value} {a : Array Value} (hr : va_Run p l e R s m args below meth c H locs cells slots mc ms (F0 m pc ls st0) rest (kw_Qc G (kw_Rg nu H.size) post a) (kw_Rg nu H.size)) (hA : ∀ r, s.heap.size ≤ r → A r) (hW : kw_W G A nu x H) (hS : va_S A s.heap H locs)
    (kk : ∀ (v : Option Value) (nu' : Nat → Option Nat) (y : kw_St) (H1 : Heap) (locs1 : List Loc), post v nu' y → kw_W G A nu' y H1 → va_S A s.heap H1 locs1 → W p l e R s m args below meth c H1 locs1 (cells + mc) (slots + ms) Q (F0 m (pc + 3) ls (v.toList ++ rest))) : W p l e R s m args below meth c H locs cells slots Q (F0 m pc ls st0) := by
  have hF : ∀ r, kw_Rg nu H.size r → A r := by
    intro r h
    rcases h with ⟨q, h1, h2⟩ | h
    · rcases (hW r q h1).2 with h3 | h3
      · exact absurd h3 h2
      · exact h3
    · exact hA r (Nat.le_trans hS.1 h)
  intro T hT X
  obtain ⟨v, st₀, t, T', L, h0, X', hL, e1, e2, ⟨⟨v2, nu', y, hv, hp, hw⟩, hz, hk⟩, st⟩ := hr T hT X
  cases hv
  rw [h0] at hz hk
  obtain ⟨t2, a1, b1⟩ := kk v nu' y T'.heap (locs ++ L) hp (fun b r hb => ⟨by rw [e1]; exact (hw b r hb).1, (hw b r hb).2.imp id (hF b)⟩)
    ⟨Nat.le_trans hS.1 (by rw [e1]; exact hz), fun q h1 h2 => by rw [e1, hk q (Nat.lt_of_lt_of_le h1 hS.1) (fun z => h2 (hF q z))]; exact hS.2.1 q h1 h2, fun q hq => by
      rcases List.mem_append.mp hq with h | h
      · exact hS.2.2 q h
      · exact hF _ (hL q h)⟩ T' rfl X'
  exact ⟨t2, st t2 a1, b1⟩
theorem kw_pre {av : List Value} (hK : kw_K G s) (hZ : kw_Z G A s s.heap) (hA : ∀ r, s.heap.size ≤ r → A r) (hW : kw_W G A nu x H) (hS : va_S A s.heap H locs) (U : State) (hU : U.heap = H) (hw : s.WarmedH U.vm) : kw_Pc G nu x H.size av av.toArray U := by
  refine ⟨rfl, by rw [hU], by rw [hU]; exact fun b r hb => ⟨(hW b r hb).1, Or.inr trivial⟩, hK.warm hw, ?_⟩
  have h1 : kw_Z G A U U.heap := (va_Z.moved hw.alike (hZ.kept (H1 := U.heap) (fun r h1 h2 => by rw [hU]; exact hS.2.1 r h1 h2)))
  refine h1.narrow (fun r h => ?_)
  rcases h with ⟨q, h1, h2⟩ | h
  · rcases (hW r q h1).2 with h3 | h3
    · exact absurd h3 h2
    · exact h3
  · exact hA r (Nat.le_trans hS.1 h)
theorem kw_blind {av : List Value} {sz : Nat} : FrameBlind (kw_Pc G nu x sz av) := by
  intro a U g mk h
  obtain ⟨h1, h2, h3, h4, h5⟩ := h
  exact ⟨h1, h2, h3, h4.call, va_Z.moved (u := U) (U := U.calling g mk a) (Vm.Alike.refl U.vm) h5⟩
theorem kw_callV (S : CallFix p m c cc nL s args Ts own) (hK : kw_K G s) (hZ : kw_Z G A s s.heap) (hA : ∀ r, s.heap.size ≤ r → A r) (hW : kw_W G A nu x H) (hS : va_S A s.heap H locs) {b : Nat} {As st0 : List Value} {y : MethodName} {ws : List Cond} {rm : Room} {bytes : ByteArray} {maxL n index : Nat} {ret : Option FieldType} {C : String} {T : u_T} {N : Nat}
    (hM : kw_M l G y ws rm mc ms (.ref b :: As) nu x post) (cw : CallW R s args own C index y bytes maxL ret ws rm mc ms n) (hb : nu b = some q) (hq : q < 7) (hc : vwCl[q]? = some (C, T, N)) (hn : As.length = n) (hsize : ls.size = nL) (hst : st0 = As.reverse ++ .ref b :: rest) (hr : (rest.map fun v => v.category).sum ≤ 8) (hdg : decode cc pc = .ok (.invokevirtual index, 3)) (hf : cells + mc ≤ R.cells ∧ slots + ms ≤ R.slots)
    (kk : ∀ (v : Option Value) (nu' : Nat → Option Nat) (y : kw_St) (H1 : Heap) (locs1 : List Loc), post v nu' y → kw_W G A nu' y H1 → va_S A s.heap H1 locs1 → W p l e R s m args below meth c H1 locs1 (cells + mc) (slots + ms) Q (F0 m (pc + 3) ls (v.toList ++ rest))) : W p l e R s m args below meth c H locs cells slots Q (F0 m pc ls st0) := by
  have h1 := (hW b q hb).1
  rw [kw_ce_ob hq] at h1
  exact kw_call (va_runV S (hM H.size) cw ⟨kw_blind, va_recv hK.1 (kw_one h1) (ci := q) (q0 := 0) hc rfl, fun U hU hw => kw_pre hK hZ hA hW hS U hU hw⟩ rfl hn hsize hst (lv_room hr) hdg hf) hA hW hS kk
theorem kw_callS (S : CallFix p m c cc nL s args Ts own) (hK : kw_K G s) (hZ : kw_Z G A s s.heap) (hA : ∀ r, s.heap.size ≤ r → A r) (hW : kw_W G A nu x H) (hS : va_S A s.heap H locs) {As st0 : List Value} {y : MethodName} {ws : List Cond} {rm : Room} {bytes : ByteArray} {maxL n index : Nat} {ret : Option FieldType}
    (hM : kw_M l G y ws rm mc ms As nu x post) (cw : CallB R s args own index y bytes maxL ret ws rm mc ms n ∧ (Cond.static y).before args s = true) (hn : As.length = n) (hsize : ls.size = nL) (hst : st0 = As.reverse ++ rest) (hr : (rest.map fun v => v.category).sum ≤ 8) (hdg : decode cc pc = .ok (.invokestatic index, 3)) (hf : cells + mc ≤ R.cells ∧ slots + ms ≤ R.slots)
    (kk : ∀ (v : Option Value) (nu' : Nat → Option Nat) (y : kw_St) (H1 : Heap) (locs1 : List Loc), post v nu' y → kw_W G A nu' y H1 → va_S A s.heap H1 locs1 → W p l e R s m args below meth c H1 locs1 (cells + mc) (slots + ms) Q (F0 m (pc + 3) ls (v.toList ++ rest))) : W p l e R s m args below meth c H locs cells slots Q (F0 m pc ls st0) :=
  kw_call (va_runS S (hM H.size) cw ⟨kw_blind, fun U hU hw => kw_pre hK hZ hA hW hS U hU hw⟩ rfl hn hsize hst (lv_room hr) hdg hf) hA hW hS kk
theorem kw_callI (S : CallFix p m c cc nL s args Ts own) (hK : kw_K G s) (hZ : kw_Z G A s s.heap) (hA : ∀ r, s.heap.size ≤ r → A r) (hW : kw_W G A nu x H) (hS : va_S A s.heap H locs) {b : Nat} {As st0 : List Value} {y : MethodName} {ws : List Cond} {rm : Room} {bytes : ByteArray} {maxL n index : Nat}
    (hM : kw_M l G y ws rm mc ms (.ref b :: As) nu x post) (cw : CallB R s args own index y bytes maxL none ws rm mc ms n ∧ y.name = "<init>" ∧ (Cond.instanceMethod y).before args s = true) (hn : As.length = n) (hsize : ls.size = nL) (hst : st0 = As.reverse ++ .ref b :: rest) (hr : (rest.map fun v => v.category).sum ≤ 8) (hdg : decode cc pc = .ok (.invokespecial index, 3)) (hf : cells + mc ≤ R.cells ∧ slots + ms ≤ R.slots)
    (kk : ∀ (v : Option Value) (nu' : Nat → Option Nat) (y : kw_St) (H1 : Heap) (locs1 : List Loc), post v nu' y → kw_W G A nu' y H1 → va_S A s.heap H1 locs1 → W p l e R s m args below meth c H1 locs1 (cells + mc) (slots + ms) Q (F0 m (pc + 3) ls (v.toList ++ rest))) : W p l e R s m args below meth c H locs cells slots Q (F0 m pc ls st0) :=
  kw_call (va_runI S (hM H.size) cw ⟨kw_blind, fun U hU hw => kw_pre hK hZ hA hW hS U hU hw⟩ rfl hn hsize hst (lv_room hr) hdg hf) hA hW hS kk
theorem kw_iald (S : CallFix p m c cc nL s args Ts own) (hK : kw_K G s) (hW : kw_W G A nu x H) (ha : nu a = some 7) {i : Int32} {k : Nat} (hi : kw_ix i k (kN x a)) (hdg : decode cc pc = .ok (.iaload, 1)) {v : Int32} (hv : kA x a k = v)
    (kk : W p l e R s m args below meth c H locs cells slots Q (F0 m (pc + 1) ls (.int v :: rest))) : W p l e R s m args below meth c H locs cells slots Q (F0 m pc ls (.int i :: .ref a :: rest)) := by
  obtain ⟨h1, h2⟩ := hi
  subst h2 hv
  exact va_iald S.1 S.2.1 hK.1 (kw_one (hW a 7 ha).1) 0 0 rfl rfl h1 hdg kk
theorem kw_zald (S : CallFix p m c cc nL s args Ts own) (hK : kw_K G s) (hW : kw_W G A nu x H) (ha : nu a = some 9) {i : Int32} {k : Nat} (hi : kw_ix i k (kN x a)) (hdg : decode cc pc = .ok (.baload, 1)) {v : Int32} (hv : kA x a k = v)
    (kk : W p l e R s m args below meth c H locs cells slots Q (F0 m (pc + 1) ls (.int v :: rest))) : W p l e R s m args below meth c H locs cells slots Q (F0 m pc ls (.int i :: .ref a :: rest)) := by
  obtain ⟨h1, h2⟩ := hi
  subst h2 hv
  exact va_zald S.1 S.2.1 hK.1 (kw_one (hW a 9 ha).1) 0 2 rfl rfl h1 hdg kk
theorem kw_lald (S : CallFix p m c cc nL s args Ts own) (hK : kw_K G s) (hW : kw_W G A nu x H) (ha : nu a = some 8) {i : Int32} {k : Nat} (hi : kw_ix i k (kN x a)) (hdg : decode cc pc = .ok (.laload, 1)) {v : Int64} (hv : kB x a k = v)
    (kk : W p l e R s m args below meth c H locs cells slots Q (F0 m (pc + 1) ls (.long v :: rest))) : W p l e R s m args below meth c H locs cells slots Q (F0 m pc ls (.int i :: .ref a :: rest)) := by
  obtain ⟨h1, h2⟩ := hi
  subst h2 hv
  exact va_lald S.1 S.2.1 hK.1 (kw_one (hW a 8 ha).1) 0 1 rfl rfl h1 hdg kk
theorem kw_aald (S : CallFix p m c cc nL s args Ts own) (hK : kw_K G s) (hW : kw_W G A nu x H) (ha : nu a = some 10) {i : Int32} {k : Nat} (hi : kw_ix i k (kN x a)) (hdg : decode cc pc = .ok (.aaload, 1)) {v : Option Nat} (hv : kC x a k = v)
    (kk : W p l e R s m args below meth c H locs cells slots Q (F0 m (pc + 1) ls (va_rf v :: rest))) : W p l e R s m args below meth c H locs cells slots Q (F0 m pc ls (.int i :: .ref a :: rest)) := by
  obtain ⟨h1, h2⟩ := hi
  subst h2 hv
  exact va_aldq S.1 S.2.1 hK.1 (kw_one (hW a 10 ha).1) 0 3 rfl rfl h1 hdg kk
theorem kw_iast (S : CallFix p m c cc nL s args Ts own) (hK : kw_K G s) (hW : kw_W G A nu x H) (hS : va_S A H0 H locs) (ha : nu a = some 7) {i : Int32} {k : Nat} (hi : kw_ix i k (kN x a)) (hdg : decode cc pc = .ok (.iastore, 1)) {v : Int32}
    (kk : ∀ (H1 : Heap) (locs1 : List Loc), kw_W G A nu (sA x a k v) H1 → va_S A H0 H1 locs1 → W p l e R s m args below meth c H1 locs1 cells slots Q (F0 m (pc + 1) ls rest)) : W p l e R s m args below meth c H locs cells slots Q (F0 m pc ls (.int v :: .int i :: .ref a :: rest)) := by
  obtain ⟨h1, h2⟩ := hi
  subst h2
  have hA : A a := (hW a 7 ha).2.resolve_left (by decide)
  have hcell : H[a]? = some (vp_cell G.2.1.1 (kN x a, .inl (kA x a))) := (hW a 7 ha).1
  refine W.iast S.1 S.2.1 hcell ((hK.1.2 0 _ rfl).1 _ (fun j => .int (kA x a j))) (fun q => by cases q) (by show ¬ (i < 0 ∨ (arrV _ _ _).slots.size ≤ _); rw [arrV_size]; exact h1) rfl rfl hdg fun H1 e z oq => ?_
  refine kk H1 _ (hW.up ha ?_ oq (fun b r h => kw_ne_sA r h)) (hS.put z oq hA)
  show H1[a]? = some (vp_cell G.2.1.1 (kN x a, .inl (kA (sA x a i.toNatClampNeg v) a)))
  rw [e, kA_sA, if_pos rfl, vp_cell_i, vp_cell_i, arrV_store]
  congr 2
  funext r
  by_cases hr : r = i.toNatClampNeg
  · subst hr; simp [updV, upd]
  · simp [updV, upd, hr]
theorem kw_zast (S : CallFix p m c cc nL s args Ts own) (hK : kw_K G s) (hW : kw_W G A nu x H) (hS : va_S A H0 H locs) (ha : nu a = some 9) {i : Int32} {k : Nat} (hi : kw_ix i k (kN x a)) (hdg : decode cc pc = .ok (.bastore, 1)) {v : Int32} (hv : vp_nar .boolean v = v)
    (kk : ∀ (H1 : Heap) (locs1 : List Loc), kw_W G A nu (sA x a k v) H1 → va_S A H0 H1 locs1 → W p l e R s m args below meth c H1 locs1 cells slots Q (F0 m (pc + 1) ls rest)) : W p l e R s m args below meth c H locs cells slots Q (F0 m pc ls (.int v :: .int i :: .ref a :: rest)) := by
  obtain ⟨h1, h2⟩ := hi
  subst h2
  have hA : A a := (hW a 9 ha).2.resolve_left (by decide)
  have hcell : H[a]? = some (vp_cell G.2.1.2.2.1 (kN x a, .inl (kA x a))) := (hW a 9 ha).1
  refine W.zast S.1 S.2.1 hcell ((hK.1.2 2 _ rfl).1 _ (fun j => .int (kA x a j))) (fun q => by cases q) (by show ¬ (i < 0 ∨ (arrV _ _ _).slots.size ≤ _); rw [arrV_size]; exact h1) rfl rfl hdg fun H1 e z oq => ?_
  refine kk H1 _ (hW.up ha ?_ oq (fun b r h => kw_ne_sA r h)) (hS.put z oq hA)
  show H1[a]? = some (vp_cell G.2.1.2.2.1 (kN x a, .inl (kA (sA x a i.toNatClampNeg v) a)))
  rw [e, kA_sA, if_pos rfl, vp_cell_i, vp_cell_i, arrV_store]
  congr 2
  funext r
  by_cases hr : r = i.toNatClampNeg
  · subst hr
    have h9 : narrow .boolean (.int v) = .int (vp_nar .boolean v) := by simp [vp_nar, narrow]
    simp only [updV, upd, if_true]
    rw [h9, hv]
  · simp [updV, upd, hr]
theorem kw_last (S : CallFix p m c cc nL s args Ts own) (hK : kw_K G s) (hW : kw_W G A nu x H) (hS : va_S A H0 H locs) (ha : nu a = some 8) {i : Int32} {k : Nat} (hi : kw_ix i k (kN x a)) (hdg : decode cc pc = .ok (.lastore, 1)) {v : Int64}
    (kk : ∀ (H1 : Heap) (locs1 : List Loc), kw_W G A nu (sB x a k v) H1 → va_S A H0 H1 locs1 → W p l e R s m args below meth c H1 locs1 cells slots Q (F0 m (pc + 1) ls rest)) : W p l e R s m args below meth c H locs cells slots Q (F0 m pc ls (.long v :: .int i :: .ref a :: rest)) := by
  obtain ⟨h1, h2⟩ := hi
  subst h2
  have hA : A a := (hW a 8 ha).2.resolve_left (by decide)
  have hcell : H[a]? = some (vp_cell G.2.1.2.1 (kN x a, .inr (.inl (kB x a)))) := (hW a 8 ha).1
  refine W.last S.1 S.2.1 hcell ((hK.1.2 1 _ rfl).1 _ (fun j => .long (kB x a j))) (fun q => by cases q) (by show ¬ (i < 0 ∨ (arrV _ _ _).slots.size ≤ _); rw [arrV_size]; exact h1) rfl rfl hdg fun H1 e z oq => ?_
  refine kk H1 _ (hW.up ha ?_ oq (fun b r h => kw_ne_sB r h)) (hS.put z oq hA)
  show H1[a]? = some (vp_cell G.2.1.2.1 (kN x a, .inr (.inl (kB (sB x a i.toNatClampNeg v) a))))
  rw [e, kB_sB, if_pos rfl, vp_cell_l, vp_cell_l, arrV_store]
  congr 2
  funext r
  by_cases hr : r = i.toNatClampNeg
  · subst hr; simp [updV, vp_updL]
  · simp [updV, vp_updL, hr]
/-- a fresh object -/
theorem kw_new (S : CallFix p m c cc nL s args Ts own) (hK : kw_K G s) (hW : kw_W G A nu x H) (hS : va_S A s.heap H locs) (hA : ∀ r, s.heap.size ≤ r → A r) (q : Nat) {C : String} {T : u_T} {N index : Nat} (hc : vwCl[q]? = some (C, T, N)) (hin : ∀ w ∈ u_ws C T N, w ∈ Ts) (ty0 : Nat → FieldType) (hty : ∀ k, k < N → parseFieldDescriptor (T k).2.2.1 = some (ty0 k)) (hq : q < 7) (hdv : ∀ (y : kw_St) (b : Nat), (∀ i, kI y i b = 0) → (∀ i, kJ y i b = 0) → (∀ i, kR y i b = none) → ∀ j, j < N → defaultValue (ty0 j) = vp_V (kw_ob y q b) j)
    (hcl : Cond.classLink own index C ∈ Ts) (hinst : Cond.instantiable C N ∈ Ts) (hini : Cond.initialized C ∈ Ts) (hcells : cells + 1 ≤ R.cells) (hslots : slots + N ≤ R.slots) (hdg : decode cc pc = .ok (.new index, 3))
    (kk : ∀ (b : Nat) (H1 : Heap), nu b = none → kw_W G A (va_up nu b (some q)) (sNew x b 0) H1 → va_S A s.heap H1 locs → W p l e R s m args below meth c H1 locs (cells + 1) (slots + N) Q (F0 m (pc + 3) ls (.ref b :: rest))) : W p l e R s m args below meth c H locs cells slots Q (F0 m pc ls rest) := by
  have hKn := hK.1.1 q _ hc
  refine W.newcK S.1 S.2.1 S.2.2.2.1 (S.2.2.2.2 _ hcl) (S.2.2.2.2 _ hinst) (S.2.2.2.2 _ hini) rfl hdg hcells hslots hKn.2.1 rfl fun H1 kC hkC e1 z1 o1 => ?_
  have hfr : nu H.size = none := by
    cases h : nu H.size with
    | none => rfl
    | some r => exact absurd (hW _ r h).1.lt (Nat.lt_irrefl _)
  refine kk H.size H1 hfr (fun b r hb => ?_) ⟨Nat.le_trans hS.1 (by omega), fun r h1 h2 => (o1 r (Nat.lt_of_lt_of_le h1 hS.1)).trans (hS.2.1 r h1 h2), hS.2.2⟩
  by_cases e : b = H.size
  · subst e
    rw [va_up_self] at hb
    cases hb
    refine ⟨?_, Or.inr (hA _ hS.1)⟩
    rw [kw_ce_ob hq]
    exact ⟨_, hc, (u_born ty0 S.2.2.2.2 hin hKn hkC e1 hty).to (hdv _ _ (fun i => by simp [sNew, kI]) (fun i => by simp [sNew, kJ]) (fun i => by simp [sNew, kR]))⟩
  · rw [va_up_ne _ _ e] at hb
    rw [kw_ne_sNew r e]
    exact ⟨(hW b r hb).1.kept (o1 b (hW b r hb).1.lt), (hW b r hb).2⟩
end KWC
end
section
/-! rules for the rows that a program lays: reads behind stores, references that are known, branches on truth values and on compared longs, calls whose end is known, Math -/
theorem kI_sJ (x : kw_St) (id a : Nat) (v : Int64) : kI (sJ x id a v) = kI x := rfl
theorem kI_sR (x : kw_St) (id a : Nat) (v : Option Nat) : kI (sR x id a v) = kI x := rfl
theorem kI_sA (x : kw_St) (a k : Nat) (v : Int32) : kI (sA x a k v) = kI x := rfl
theorem kI_sB (x : kw_St) (a k : Nat) (v : Int64) : kI (sB x a k v) = kI x := rfl
theorem kI_sC (x : kw_St) (a k : Nat) (v : Option Nat) : kI (sC x a k v) = kI x := rfl
theorem kI_sCrow (x : kw_St) (a : Nat) (v : Nat → Option Nat) : kI (sCrow x a v) = kI x := rfl
theorem kJ_sI (x : kw_St) (id a : Nat) (v : Int32) : kJ (sI x id a v) = kJ x := rfl
theorem kJ_sR (x : kw_St) (id a : Nat) (v : Option Nat) : kJ (sR x id a v) = kJ x := rfl
theorem kJ_sA (x : kw_St) (a k : Nat) (v : Int32) : kJ (sA x a k v) = kJ x := rfl
theorem kJ_sB (x : kw_St) (a k : Nat) (v : Int64) : kJ (sB x a k v) = kJ x := rfl
theorem kJ_sC (x : kw_St) (a k : Nat) (v : Option Nat) : kJ (sC x a k v) = kJ x := rfl
theorem kJ_sCrow (x : kw_St) (a : Nat) (v : Nat → Option Nat) : kJ (sCrow x a v) = kJ x := rfl
theorem kR_sI (x : kw_St) (id a : Nat) (v : Int32) : kR (sI x id a v) = kR x := rfl
theorem kR_sJ (x : kw_St) (id a : Nat) (v : Int64) : kR (sJ x id a v) = kR x := rfl
theorem kR_sA (x : kw_St) (a k : Nat) (v : Int32) : kR (sA x a k v) = kR x := rfl
theorem kR_sB (x : kw_St) (a k : Nat) (v : Int64) : kR (sB x a k v) = kR x := rfl
theorem kR_sC (x : kw_St) (a k : Nat) (v : Option Nat) : kR (sC x a k v) = kR x := rfl
theorem kR_sCrow (x : kw_St) (a : Nat) (v : Nat → Option Nat) : kR (sCrow x a v) = kR x := rfl
theorem kA_sI (x : kw_St) (id a : Nat) (v : Int32) : kA (sI x id a v) = kA x := rfl
theorem kA_sJ (x : kw_St) (id a : Nat) (v : Int64) : kA (sJ x id a v) = kA x := rfl
theorem kA_sR (x : kw_St) (id a : Nat) (v : Option Nat) : kA (sR x id a v) = kA x := rfl
theorem kA_sB (x : kw_St) (a k : Nat) (v : Int64) : kA (sB x a k v) = kA x := rfl
theorem kA_sC (x : kw_St) (a k : Nat) (v : Option Nat) : kA (sC x a k v) = kA x := rfl
theorem kA_sCrow (x : kw_St) (a : Nat) (v : Nat → Option Nat) : kA (sCrow x a v) = kA x := rfl
theorem kB_sI (x : kw_St) (id a : Nat) (v : Int32) : kB (sI x id a v) = kB x := rfl
theorem kB_sJ (x : kw_St) (id a : Nat) (v : Int64) : kB (sJ x id a v) = kB x := rfl
theorem kB_sR (x : kw_St) (id a : Nat) (v : Option Nat) : kB (sR x id a v) = kB x := rfl
theorem kB_sA (x : kw_St) (a k : Nat) (v : Int32) : kB (sA x a k v) = kB x := rfl
theorem kB_sC (x : kw_St) (a k : Nat) (v : Option Nat) : kB (sC x a k v) = kB x := rfl
theorem kB_sCrow (x : kw_St) (a : Nat) (v : Nat → Option Nat) : kB (sCrow x a v) = kB x := rfl
theorem kC_sI (x : kw_St) (id a : Nat) (v : Int32) : kC (sI x id a v) = kC x := rfl
theorem kC_sJ (x : kw_St) (id a : Nat) (v : Int64) : kC (sJ x id a v) = kC x := rfl
theorem kC_sR (x : kw_St) (id a : Nat) (v : Option Nat) : kC (sR x id a v) = kC x := rfl
theorem kC_sA (x : kw_St) (a k : Nat) (v : Int32) : kC (sA x a k v) = kC x := rfl
theorem kC_sB (x : kw_St) (a k : Nat) (v : Int64) : kC (sB x a k v) = kC x := rfl
theorem kN_sI (x : kw_St) (id a : Nat) (v : Int32) : kN (sI x id a v) = kN x := rfl
theorem kN_sJ (x : kw_St) (id a : Nat) (v : Int64) : kN (sJ x id a v) = kN x := rfl
theorem kN_sR (x : kw_St) (id a : Nat) (v : Option Nat) : kN (sR x id a v) = kN x := rfl
theorem kN_sA (x : kw_St) (a k : Nat) (v : Int32) : kN (sA x a k v) = kN x := rfl
theorem kN_sB (x : kw_St) (a k : Nat) (v : Int64) : kN (sB x a k v) = kN x := rfl
theorem kN_sC (x : kw_St) (a k : Nat) (v : Option Nat) : kN (sC x a k v) = kN x := rfl
theorem kN_sCrow (x : kw_St) (a : Nat) (v : Nat → Option Nat) : kN (sCrow x a v) = kN x := rfl
theorem kC_sCrow (x : kw_St) (a : Nat) (v : Nat → Option Nat) (b : Nat) : kC (sCrow x a v) b = if b = a then v else kC x b := rfl
theorem kI_sNew (x : kw_St) (a n i b : Nat) : kI (sNew x a n) i b = if b = a then 0 else kI x i b := rfl
theorem kJ_sNew (x : kw_St) (a n i b : Nat) : kJ (sNew x a n) i b = if b = a then 0 else kJ x i b := rfl
theorem kR_sNew (x : kw_St) (a n i b : Nat) : kR (sNew x a n) i b = if b = a then none else kR x i b := rfl
theorem kA_sNew (x : kw_St) (a n b : Nat) : kA (sNew x a n) b = if b = a then (fun _ => 0) else kA x b := rfl
theorem kB_sNew (x : kw_St) (a n b : Nat) : kB (sNew x a n) b = if b = a then (fun _ => 0) else kB x b := rfl
theorem kC_sNew (x : kw_St) (a n b : Nat) : kC (sNew x a n) b = if b = a then (fun _ => none) else kC x b := rfl
theorem kN_sNew (x : kw_St) (a n b : Nat) : kN (sNew x a n) b = if b = a then n else kN x b := rfl
/-- a truth value as an int -/
def kw_b (c : Prop) [Decidable c] : Int32 := if c then 1 else 0
theorem kw_b_t {c : Prop} [Decidable c] (h : c) : kw_b c = 1 := by simp [kw_b, h]
theorem kw_b_f {c : Prop} [Decidable c] (h : ¬ c) : kw_b c = 0 := by simp [kw_b, h]
theorem kw_b_0 {c : Prop} [Decidable c] : kw_b c = 0 ↔ ¬ c := by by_cases h : c <;> simp [kw_b, h]
theorem kw_b_n {c : Prop} [Decidable c] : narrow .boolean (.int (kw_b c)) = .int (kw_b c) := by by_cases h : c <;> simp [kw_b, h] <;> rfl
theorem kw_b_v {c : Prop} [Decidable c] : vp_nar .boolean (kw_b c) = kw_b c := by by_cases h : c <;> simp [kw_b, h] <;> rfl
theorem kw_b_01 {c : Prop} [Decidable c] : kw_b c = 0 ∨ kw_b c = 1 := by by_cases h : c <;> simp [kw_b, h]
theorem kw_n0 : narrow .boolean (.int 0) = .int 0 := rfl
theorem kw_n1 : narrow .boolean (.int 1) = .int 1 := rfl
/-- the end of a method that makes no cell: its answer, and what the tables hold -/
def kw_P (nu : Nat → Option Nat) (v0 : Option Value) (y0 : kw_St) : Option Value → (Nat → Option Nat) → kw_St → Prop := fun v nu' y => v = v0 ∧ nu' = nu ∧ y = y0
section KWX
variable {p : Program} {l : Launch} {e : Env} {R : Room} {s : State} {m : MethodId} {args : Array Value} {below : List Frame} {meth : Method} {c : Code} {H : Heap} {locs : List Loc} {cells slots : Nat} {Q : State → Prop}
variable {cc : ByteArray} {pc nL : Nat} {ls : Array Slot} {rest : List Value} {G : kw_G} {A : Nat → Prop} {nu : Nat → Option Nat} {x : kw_St} {a q : Nat} {H0 : Heap} {Ts : List Cond} {own : String}
variable {post : Option Value → (Nat → Option Nat) → kw_St → Prop} {mc ms : Nat}
theorem kx_gI (S : CallFix p m c cc nL s args Ts own) (hK : kw_K G s) (hW : kw_W G A nu x H) (ha : nu a = some q) (j id : Nat) {C : String} {T : u_T} {N index : Nat} (hc : vwCl[q]? = some (C, T, N)) (hin : ∀ w ∈ u_ws C T N, w ∈ Ts) (hq : q < 7) (hj : (kw_fl q)[j]? = some 0) (hid : 50 * q + j = id) (hjN : j < N) (hl : Cond.fieldLink own index (T j).1 (T j).2.1 (T j).2.2.1 ∈ Ts) (hdg : decode cc pc = .ok (.getfield index, 3)) {v : Int32} (hv : kI x id a = v) (kk : W p l e R s m args below meth c H locs cells slots Q (F0 m (pc + 3) ls (.int v :: rest))) : W p l e R s m args below meth c H locs cells slots Q (F0 m pc ls (.ref a :: rest)) := kw_getI S hK.1 hW ha j id hc hin hq hj hid hjN hl hdg hv kk
theorem kx_gJ (S : CallFix p m c cc nL s args Ts own) (hK : kw_K G s) (hW : kw_W G A nu x H) (ha : nu a = some q) (j id : Nat) {C : String} {T : u_T} {N index : Nat} (hc : vwCl[q]? = some (C, T, N)) (hin : ∀ w ∈ u_ws C T N, w ∈ Ts) (hq : q < 7) (hj : (kw_fl q)[j]? = some 1) (hid : 50 * q + j = id) (hjN : j < N) (hl : Cond.fieldLink own index (T j).1 (T j).2.1 (T j).2.2.1 ∈ Ts) (hdg : decode cc pc = .ok (.getfield index, 3)) {v : Int64} (hv : kJ x id a = v) (kk : W p l e R s m args below meth c H locs cells slots Q (F0 m (pc + 3) ls (.long v :: rest))) : W p l e R s m args below meth c H locs cells slots Q (F0 m pc ls (.ref a :: rest)) := kw_getJ S hK.1 hW ha j id hc hin hq hj hid hjN hl hdg hv kk
theorem kx_gO (S : CallFix p m c cc nL s args Ts own) (hK : kw_K G s) (hW : kw_W G A nu x H) (ha : nu a = some q) (j id : Nat) {C : String} {T : u_T} {N index : Nat} (hc : vwCl[q]? = some (C, T, N)) (hin : ∀ w ∈ u_ws C T N, w ∈ Ts) (hq : q < 7) (hj : (kw_fl q)[j]? = some 2) (hid : 50 * q + j = id) (hjN : j < N) (hl : Cond.fieldLink own index (T j).1 (T j).2.1 (T j).2.2.1 ∈ Ts) (hdg : decode cc pc = .ok (.getfield index, 3)) {v : Option Nat} (hv : kR x id a = v) (kk : W p l e R s m args below meth c H locs cells slots Q (F0 m (pc + 3) ls (va_rf v :: rest))) : W p l e R s m args below meth c H locs cells slots Q (F0 m pc ls (.ref a :: rest)) := kw_getR S hK.1 hW ha j id hc hin hq hj hid hjN hl hdg hv kk
theorem kx_gA (S : CallFix p m c cc nL s args Ts own) (hK : kw_K G s) (hW : kw_W G A nu x H) (ha : nu a = some q) (j id : Nat) {C : String} {T : u_T} {N index : Nat} (hc : vwCl[q]? = some (C, T, N)) (hin : ∀ w ∈ u_ws C T N, w ∈ Ts) (hq : q < 7) (hj : (kw_fl q)[j]? = some 2) (hid : 50 * q + j = id) (hjN : j < N) (hl : Cond.fieldLink own index (T j).1 (T j).2.1 (T j).2.2.1 ∈ Ts) (hdg : decode cc pc = .ok (.getfield index, 3)) {b : Nat} (hv : kR x id a = some b) (kk : W p l e R s m args below meth c H locs cells slots Q (F0 m (pc + 3) ls (.ref b :: rest))) : W p l e R s m args below meth c H locs cells slots Q (F0 m pc ls (.ref a :: rest)) := kw_getR S hK.1 hW ha j id hc hin hq hj hid hjN hl hdg hv kk
theorem kx_gN (S : CallFix p m c cc nL s args Ts own) (hK : kw_K G s) (hW : kw_W G A nu x H) (ha : nu a = some q) (j id : Nat) {C : String} {T : u_T} {N index : Nat} (hc : vwCl[q]? = some (C, T, N)) (hin : ∀ w ∈ u_ws C T N, w ∈ Ts) (hq : q < 7) (hj : (kw_fl q)[j]? = some 2) (hid : 50 * q + j = id) (hjN : j < N) (hl : Cond.fieldLink own index (T j).1 (T j).2.1 (T j).2.2.1 ∈ Ts) (hdg : decode cc pc = .ok (.getfield index, 3)) (hv : kR x id a = none) (kk : W p l e R s m args below meth c H locs cells slots Q (F0 m (pc + 3) ls (.null :: rest))) : W p l e R s m args below meth c H locs cells slots Q (F0 m pc ls (.ref a :: rest)) := kw_getR S hK.1 hW ha j id hc hin hq hj hid hjN hl hdg hv kk
theorem kx_pI (S : CallFix p m c cc nL s args Ts own) (hK : kw_K G s) (hW : kw_W G A nu x H) (hS0 : va_S A H0 H locs) (ha : nu a = some q) (j id : Nat) {v : Int32} {C : String} {T : u_T} {N index : Nat} (hc : vwCl[q]? = some (C, T, N)) (hin : ∀ w ∈ u_ws C T N, w ∈ Ts) {ty0 : Nat → FieldType} (hty : ∀ k, k < N → parseFieldDescriptor (T k).2.2.1 = some (ty0 k)) (hnm : ∀ a, a < N → ∀ b, b < N → a ≠ b → (T a).2.1 ≠ (T b).2.1) (hq : q < 7) (hj : (kw_fl q)[j]? = some 0) (hid : 50 * q + j = id) (hjN : j < N) (hl : Cond.fieldLink own index (T j).1 (T j).2.1 (T j).2.2.1 ∈ Ts) (hfin : (T j).2.2.2 = false ∨ ((T j).2.2.2 = true ∧ meth.name = "<init>" ∧ (T j).1 = own)) (hd : parseFieldDescriptor (T j).2.2.1 = some .int) (hdg : decode cc pc = .ok (.putfield index, 3)) (kk : ∀ (H1 : Heap) (locs1 : List Loc), kw_W G A nu (sI x id a v) H1 → va_S A H0 H1 locs1 → W p l e R s m args below meth c H1 locs1 cells slots Q (F0 m (pc + 3) ls rest)) : W p l e R s m args below meth c H locs cells slots Q (F0 m pc ls (.int v :: .ref a :: rest)) := kw_putI S hK.1 hW hS0 ha j id hc hin ty0 hty hnm hq hj hid hjN hl hfin hd rfl rfl hdg kk
theorem kx_pZ (S : CallFix p m c cc nL s args Ts own) (hK : kw_K G s) (hW : kw_W G A nu x H) (hS0 : va_S A H0 H locs) (ha : nu a = some q) (j id : Nat) {v : Int32} {C : String} {T : u_T} {N index : Nat} (hc : vwCl[q]? = some (C, T, N)) (hin : ∀ w ∈ u_ws C T N, w ∈ Ts) {ty0 : Nat → FieldType} (hty : ∀ k, k < N → parseFieldDescriptor (T k).2.2.1 = some (ty0 k)) (hnm : ∀ a, a < N → ∀ b, b < N → a ≠ b → (T a).2.1 ≠ (T b).2.1) (hq : q < 7) (hj : (kw_fl q)[j]? = some 0) (hid : 50 * q + j = id) (hjN : j < N) (hl : Cond.fieldLink own index (T j).1 (T j).2.1 (T j).2.2.1 ∈ Ts) (hfin : (T j).2.2.2 = false ∨ ((T j).2.2.2 = true ∧ meth.name = "<init>" ∧ (T j).1 = own)) (hd : parseFieldDescriptor (T j).2.2.1 = some .boolean) (hv : v = 0 ∨ v = 1) (hdg : decode cc pc = .ok (.putfield index, 3)) (kk : ∀ (H1 : Heap) (locs1 : List Loc), kw_W G A nu (sI x id a v) H1 → va_S A H0 H1 locs1 → W p l e R s m args below meth c H1 locs1 cells slots Q (F0 m (pc + 3) ls rest)) : W p l e R s m args below meth c H locs cells slots Q (F0 m pc ls (.int v :: .ref a :: rest)) := kw_putI S hK.1 hW hS0 ha j id hc hin ty0 hty hnm hq hj hid hjN hl hfin hd (by rcases hv with rfl | rfl <;> rfl) (by rcases hv with rfl | rfl <;> rfl) hdg kk
theorem kx_pJ (S : CallFix p m c cc nL s args Ts own) (hK : kw_K G s) (hW : kw_W G A nu x H) (hS0 : va_S A H0 H locs) (ha : nu a = some q) (j id : Nat) {v : Int64} {C : String} {T : u_T} {N index : Nat} (hc : vwCl[q]? = some (C, T, N)) (hin : ∀ w ∈ u_ws C T N, w ∈ Ts) {ty0 : Nat → FieldType} (hty : ∀ k, k < N → parseFieldDescriptor (T k).2.2.1 = some (ty0 k)) (hnm : ∀ a, a < N → ∀ b, b < N → a ≠ b → (T a).2.1 ≠ (T b).2.1) (hq : q < 7) (hj : (kw_fl q)[j]? = some 1) (hid : 50 * q + j = id) (hjN : j < N) (hl : Cond.fieldLink own index (T j).1 (T j).2.1 (T j).2.2.1 ∈ Ts) (hfin : (T j).2.2.2 = false ∨ ((T j).2.2.2 = true ∧ meth.name = "<init>" ∧ (T j).1 = own)) (hd : parseFieldDescriptor (T j).2.2.1 = some .long) (hdg : decode cc pc = .ok (.putfield index, 3)) (kk : ∀ (H1 : Heap) (locs1 : List Loc), kw_W G A nu (sJ x id a v) H1 → va_S A H0 H1 locs1 → W p l e R s m args below meth c H1 locs1 cells slots Q (F0 m (pc + 3) ls rest)) : W p l e R s m args below meth c H locs cells slots Q (F0 m pc ls (.long v :: .ref a :: rest)) := kw_putJ S hK.1 hW hS0 ha j id hc hin ty0 hty hnm hq hj hid hjN hl hfin hd rfl rfl hdg kk
theorem kx_pA (S : CallFix p m c cc nL s args Ts own) (hK : kw_K G s) (hW : kw_W G A nu x H) (hS0 : va_S A H0 H locs) (ha : nu a = some q) (j id : Nat) {v : Nat} {C : String} {T : u_T} {N index : Nat} (hc : vwCl[q]? = some (C, T, N)) (hin : ∀ w ∈ u_ws C T N, w ∈ Ts) {ty0 : Nat → FieldType} (hty : ∀ k, k < N → parseFieldDescriptor (T k).2.2.1 = some (ty0 k)) (hnm : ∀ a, a < N → ∀ b, b < N → a ≠ b → (T a).2.1 ≠ (T b).2.1) (hq : q < 7) (hj : (kw_fl q)[j]? = some 2) (hid : 50 * q + j = id) (hjN : j < N) (hl : Cond.fieldLink own index (T j).1 (T j).2.1 (T j).2.2.1 ∈ Ts) (hfin : (T j).2.2.2 = false ∨ ((T j).2.2.2 = true ∧ meth.name = "<init>" ∧ (T j).1 = own)) {ty : FieldType} (hd : parseFieldDescriptor (T j).2.2.1 = some ty) (ht : (∃ n, ty = .object n) ∨ ∃ t, ty = .array t) (hdg : decode cc pc = .ok (.putfield index, 3)) (kk : ∀ (H1 : Heap) (locs1 : List Loc), kw_W G A nu (sR x id a (some v)) H1 → va_S A H0 H1 locs1 → W p l e R s m args below meth c H1 locs1 cells slots Q (F0 m (pc + 3) ls rest)) : W p l e R s m args below meth c H locs cells slots Q (F0 m pc ls (.ref v :: .ref a :: rest)) := kw_putR S hK.1 hW hS0 ha j id (v := some v) rfl hc hin ty0 hty hnm hq hj hid hjN hl hfin hd (by rcases ht with ⟨n, rfl⟩ | ⟨t, rfl⟩ <;> rfl) (by rcases ht with ⟨n, rfl⟩ | ⟨t, rfl⟩ <;> rfl) hdg kk
theorem kx_pN (S : CallFix p m c cc nL s args Ts own) (hK : kw_K G s) (hW : kw_W G A nu x H) (hS0 : va_S A H0 H locs) (ha : nu a = some q) (j id : Nat)  {C : String} {T : u_T} {N index : Nat} (hc : vwCl[q]? = some (C, T, N)) (hin : ∀ w ∈ u_ws C T N, w ∈ Ts) {ty0 : Nat → FieldType} (hty : ∀ k, k < N → parseFieldDescriptor (T k).2.2.1 = some (ty0 k)) (hnm : ∀ a, a < N → ∀ b, b < N → a ≠ b → (T a).2.1 ≠ (T b).2.1) (hq : q < 7) (hj : (kw_fl q)[j]? = some 2) (hid : 50 * q + j = id) (hjN : j < N) (hl : Cond.fieldLink own index (T j).1 (T j).2.1 (T j).2.2.1 ∈ Ts) (hfin : (T j).2.2.2 = false ∨ ((T j).2.2.2 = true ∧ meth.name = "<init>" ∧ (T j).1 = own)) {ty : FieldType} (hd : parseFieldDescriptor (T j).2.2.1 = some ty) (ht : (∃ n, ty = .object n) ∨ ∃ t, ty = .array t) (hdg : decode cc pc = .ok (.putfield index, 3)) (kk : ∀ (H1 : Heap) (locs1 : List Loc), kw_W G A nu (sR x id a (none)) H1 → va_S A H0 H1 locs1 → W p l e R s m args below meth c H1 locs1 cells slots Q (F0 m (pc + 3) ls rest)) : W p l e R s m args below meth c H locs cells slots Q (F0 m pc ls (.null :: .ref a :: rest)) := kw_putR S hK.1 hW hS0 ha j id (v := none) rfl hc hin ty0 hty hnm hq hj hid hjN hl hfin hd (by rcases ht with ⟨n, rfl⟩ | ⟨t, rfl⟩ <;> rfl) (by rcases ht with ⟨n, rfl⟩ | ⟨t, rfl⟩ <;> rfl) hdg kk
theorem kx_pO (S : CallFix p m c cc nL s args Ts own) (hK : kw_K G s) (hW : kw_W G A nu x H) (hS0 : va_S A H0 H locs) (ha : nu a = some q) (j id : Nat) {v : Option Nat} {C : String} {T : u_T} {N index : Nat} (hc : vwCl[q]? = some (C, T, N)) (hin : ∀ w ∈ u_ws C T N, w ∈ Ts) {ty0 : Nat → FieldType} (hty : ∀ k, k < N → parseFieldDescriptor (T k).2.2.1 = some (ty0 k)) (hnm : ∀ a, a < N → ∀ b, b < N → a ≠ b → (T a).2.1 ≠ (T b).2.1) (hq : q < 7) (hj : (kw_fl q)[j]? = some 2) (hid : 50 * q + j = id) (hjN : j < N) (hl : Cond.fieldLink own index (T j).1 (T j).2.1 (T j).2.2.1 ∈ Ts) (hfin : (T j).2.2.2 = false ∨ ((T j).2.2.2 = true ∧ meth.name = "<init>" ∧ (T j).1 = own)) {ty : FieldType} (hd : parseFieldDescriptor (T j).2.2.1 = some ty) (ht : (∃ n, ty = .object n) ∨ ∃ t, ty = .array t) (hdg : decode cc pc = .ok (.putfield index, 3)) (kk : ∀ (H1 : Heap) (locs1 : List Loc), kw_W G A nu (sR x id a (v)) H1 → va_S A H0 H1 locs1 → W p l e R s m args below meth c H1 locs1 cells slots Q (F0 m (pc + 3) ls rest)) : W p l e R s m args below meth c H locs cells slots Q (F0 m pc ls (va_rf v :: .ref a :: rest)) := kw_putR S hK.1 hW hS0 ha j id (v := v) rfl hc hin ty0 hty hnm hq hj hid hjN hl hfin hd (by rcases ht with ⟨n, rfl⟩ | ⟨t, rfl⟩ <;> cases v <;> rfl) (by rcases ht with ⟨n, rfl⟩ | ⟨t, rfl⟩ <;> cases v <;> rfl) hdg kk
theorem kx_ifz_eq (S : CallFix p m c cc nL s args Ts own) {b : Prop} [Decidable b] {off : Int} {tgt : Nat} (hdg : decode cc pc = .ok (.ifCond .eq off, 3)) (ht : (pc : Int) + off = (tgt : Int)) (kt : ¬ b → W p l e R s m args below meth c H locs cells slots Q (F0 m tgt ls (rest))) (kf : b → W p l e R s m args below meth c H locs cells slots Q (F0 m (pc + 3) ls (rest))) : W p l e R s m args below meth c H locs cells slots Q (F0 m pc ls (.int (kw_b b) :: rest)) := lv_if_eq S.1 S.2.1 hdg ht (fun h => kt (kw_b_0.mp h)) (fun h => kf (Classical.not_not.mp (fun n => h (kw_b_0.mpr n))))
theorem kx_ifz_ne (S : CallFix p m c cc nL s args Ts own) {b : Prop} [Decidable b] {off : Int} {tgt : Nat} (hdg : decode cc pc = .ok (.ifCond .ne off, 3)) (ht : (pc : Int) + off = (tgt : Int)) (kt : b → W p l e R s m args below meth c H locs cells slots Q (F0 m tgt ls (rest))) (kf : ¬ b → W p l e R s m args below meth c H locs cells slots Q (F0 m (pc + 3) ls (rest))) : W p l e R s m args below meth c H locs cells slots Q (F0 m pc ls (.int (kw_b b) :: rest)) := lv_if_ne S.1 S.2.1 hdg ht (fun h => kt (Classical.not_not.mp (fun n => h (kw_b_0.mpr n)))) (fun h => kf (by first | exact kw_b_0.mp h | exact kw_b_0.mp (Classical.not_not.mp h)))
theorem kx_lc_lt (S : CallFix p m c cc nL s args Ts own) {x1 y1 : Int64} {off : Int} {tgt : Nat} (hdg : decode cc pc = .ok (.lcmp, 1)) (hd2 : decode cc (pc + 1) = .ok (.ifCond .lt off, 3)) (ht : ((pc + 1 : Nat) : Int) + off = (tgt : Int)) (kt : x1 < y1 → W p l e R s m args below meth c H locs cells slots Q (F0 m tgt ls (rest))) (kf : ¬ (x1 < y1) → W p l e R s m args below meth c H locs cells slots Q (F0 m (pc + 1 + 3) ls (rest))) : W p l e R s m args below meth c H locs cells slots Q (F0 m pc ls (.long y1 :: .long x1 :: rest)) := W.lcmp S.1 S.2.1 hdg (lv_if_lt S.1 S.2.1 hd2 ht (fun h => kt ((lg_cmp_lt x1 y1).mp h)) (fun h => kf (fun n => h ((lg_cmp_lt x1 y1).mpr n))))
theorem kx_lc_ge (S : CallFix p m c cc nL s args Ts own) {x1 y1 : Int64} {off : Int} {tgt : Nat} (hdg : decode cc pc = .ok (.lcmp, 1)) (hd2 : decode cc (pc + 1) = .ok (.ifCond .ge off, 3)) (ht : ((pc + 1 : Nat) : Int) + off = (tgt : Int)) (kt : y1 ≤ x1 → W p l e R s m args below meth c H locs cells slots Q (F0 m tgt ls (rest))) (kf : ¬ (y1 ≤ x1) → W p l e R s m args below meth c H locs cells slots Q (F0 m (pc + 1 + 3) ls (rest))) : W p l e R s m args below meth c H locs cells slots Q (F0 m pc ls (.long y1 :: .long x1 :: rest)) := W.lcmp S.1 S.2.1 hdg (lv_if_ge S.1 S.2.1 hd2 ht (fun h => kt ((lg_cmp_ge x1 y1).mp h)) (fun h => kf (fun n => h ((lg_cmp_ge x1 y1).mpr n))))
theorem kx_lc_gt (S : CallFix p m c cc nL s args Ts own) {x1 y1 : Int64} {off : Int} {tgt : Nat} (hdg : decode cc pc = .ok (.lcmp, 1)) (hd2 : decode cc (pc + 1) = .ok (.ifCond .gt off, 3)) (ht : ((pc + 1 : Nat) : Int) + off = (tgt : Int)) (kt : y1 < x1 → W p l e R s m args below meth c H locs cells slots Q (F0 m tgt ls (rest))) (kf : ¬ (y1 < x1) → W p l e R s m args below meth c H locs cells slots Q (F0 m (pc + 1 + 3) ls (rest))) : W p l e R s m args below meth c H locs cells slots Q (F0 m pc ls (.long y1 :: .long x1 :: rest)) := W.lcmp S.1 S.2.1 hdg (lv_if_gt S.1 S.2.1 hd2 ht (fun h => kt ((lg_cmp_gt x1 y1).mp h)) (fun h => kf (fun n => h ((lg_cmp_gt x1 y1).mpr n))))
theorem kx_lc_le (S : CallFix p m c cc nL s args Ts own) {x1 y1 : Int64} {off : Int} {tgt : Nat} (hdg : decode cc pc = .ok (.lcmp, 1)) (hd2 : decode cc (pc + 1) = .ok (.ifCond .le off, 3)) (ht : ((pc + 1 : Nat) : Int) + off = (tgt : Int)) (kt : x1 ≤ y1 → W p l e R s m args below meth c H locs cells slots Q (F0 m tgt ls (rest))) (kf : ¬ (x1 ≤ y1) → W p l e R s m args below meth c H locs cells slots Q (F0 m (pc + 1 + 3) ls (rest))) : W p l e R s m args below meth c H locs cells slots Q (F0 m pc ls (.long y1 :: .long x1 :: rest)) := W.lcmp S.1 S.2.1 hdg (lv_if_le S.1 S.2.1 hd2 ht (fun h => kt ((lg_cmp_le x1 y1).mp h)) (fun h => kf (fun n => h ((lg_cmp_le x1 y1).mpr n))))
theorem kx_lc_eq (S : CallFix p m c cc nL s args Ts own) {x1 y1 : Int64} {off : Int} {tgt : Nat} (hdg : decode cc pc = .ok (.lcmp, 1)) (hd2 : decode cc (pc + 1) = .ok (.ifCond .eq off, 3)) (ht : ((pc + 1 : Nat) : Int) + off = (tgt : Int)) (kt : x1 = y1 → W p l e R s m args below meth c H locs cells slots Q (F0 m tgt ls (rest))) (kf : ¬ (x1 = y1) → W p l e R s m args below meth c H locs cells slots Q (F0 m (pc + 1 + 3) ls (rest))) : W p l e R s m args below meth c H locs cells slots Q (F0 m pc ls (.long y1 :: .long x1 :: rest)) := W.lcmp S.1 S.2.1 hdg (lv_if_eq S.1 S.2.1 hd2 ht (fun h => kt ((lg_cmp_eq x1 y1).mp h)) (fun h => kf (fun n => h ((lg_cmp_eq x1 y1).mpr n))))
theorem kx_lc_ne (S : CallFix p m c cc nL s args Ts own) {x1 y1 : Int64} {off : Int} {tgt : Nat} (hdg : decode cc pc = .ok (.lcmp, 1)) (hd2 : decode cc (pc + 1) = .ok (.ifCond .ne off, 3)) (ht : ((pc + 1 : Nat) : Int) + off = (tgt : Int)) (kt : ¬ x1 = y1 → W p l e R s m args below meth c H locs cells slots Q (F0 m tgt ls (rest))) (kf : ¬ (¬ x1 = y1) → W p l e R s m args below meth c H locs cells slots Q (F0 m (pc + 1 + 3) ls (rest))) : W p l e R s m args below meth c H locs cells slots Q (F0 m pc ls (.long y1 :: .long x1 :: rest)) := W.lcmp S.1 S.2.1 hdg (lv_if_ne S.1 S.2.1 hd2 ht (fun h => kt (fun q => h ((lg_cmp_eq x1 y1).mpr q))) (fun h => kf (fun n => n ((lg_cmp_eq x1 y1).mp (by first | exact h | exact Classical.not_not.mp h)))))
theorem kx_cV (S : CallFix p m c cc nL s args Ts own) (hK : kw_K G s) (hZ : kw_Z G A s s.heap) (hA : ∀ r, s.heap.size ≤ r → A r) (hW : kw_W G A nu x H) (hS : va_S A s.heap H locs) {v0 : Option Value} {y0 : kw_St} {st1 : List Value} {b : Nat} {As st0 : List Value} {y : MethodName} {ws : List Cond} {rm : Room} {bytes : ByteArray} {maxL n index : Nat} {ret : Option FieldType} {C : String} {T : u_T} {N : Nat} (hM : kw_M l G y ws rm mc ms (.ref b :: As) nu x (kw_P nu v0 y0)) (cw : CallW R s args own C index y bytes maxL ret ws rm mc ms n) (hb : nu b = some q) (hq : q < 7) (hc : vwCl[q]? = some (C, T, N)) (hn : As.length = n) (hsize : ls.size = nL) (hst : st0 = As.reverse ++ .ref b :: rest) (hr : (rest.map fun v => v.category).sum ≤ 8) (hdg : decode cc pc = .ok (.invokevirtual index, 3)) (hf : cells + mc ≤ R.cells ∧ slots + ms ≤ R.slots) (hst1 : v0.toList ++ rest = st1) (kk : ∀ (H1 : Heap) (locs1 : List Loc), kw_W G A nu y0 H1 → va_S A s.heap H1 locs1 → W p l e R s m args below meth c H1 locs1 (cells + mc) (slots + ms) Q (F0 m (pc + 3) ls st1)) : W p l e R s m args below meth c H locs cells slots Q (F0 m pc ls (st0)) := kw_callV S hK hZ hA hW hS hM cw hb hq hc hn hsize hst hr hdg hf (fun v nu' y H1 locs1 hp hW hS => by obtain ⟨e1, e2, e3⟩ := hp; subst e1; rw [e2, e3] at hW; rw [hst1]; exact kk H1 locs1 hW hS)
theorem kx_cS (S : CallFix p m c cc nL s args Ts own) (hK : kw_K G s) (hZ : kw_Z G A s s.heap) (hA : ∀ r, s.heap.size ≤ r → A r) (hW : kw_W G A nu x H) (hS : va_S A s.heap H locs) {v0 : Option Value} {y0 : kw_St} {st1 : List Value} {As st0 : List Value} {y : MethodName} {ws : List Cond} {rm : Room} {bytes : ByteArray} {maxL n index : Nat} {ret : Option FieldType} (hM : kw_M l G y ws rm mc ms As nu x (kw_P nu v0 y0)) (cw : CallB R s args own index y bytes maxL ret ws rm mc ms n ∧ (Cond.static y).before args s = true) (hn : As.length = n) (hsize : ls.size = nL) (hst : st0 = As.reverse ++ rest) (hr : (rest.map fun v => v.category).sum ≤ 8) (hdg : decode cc pc = .ok (.invokestatic index, 3)) (hf : cells + mc ≤ R.cells ∧ slots + ms ≤ R.slots) (hst1 : v0.toList ++ rest = st1) (kk : ∀ (H1 : Heap) (locs1 : List Loc), kw_W G A nu y0 H1 → va_S A s.heap H1 locs1 → W p l e R s m args below meth c H1 locs1 (cells + mc) (slots + ms) Q (F0 m (pc + 3) ls st1)) : W p l e R s m args below meth c H locs cells slots Q (F0 m pc ls (st0)) := kw_callS S hK hZ hA hW hS hM cw hn hsize hst hr hdg hf (fun v nu' y H1 locs1 hp hW hS => by obtain ⟨e1, e2, e3⟩ := hp; subst e1; rw [e2, e3] at hW; rw [hst1]; exact kk H1 locs1 hW hS)
theorem kx_cI (S : CallFix p m c cc nL s args Ts own) (hK : kw_K G s) (hZ : kw_Z G A s s.heap) (hA : ∀ r, s.heap.size ≤ r → A r) (hW : kw_W G A nu x H) (hS : va_S A s.heap H locs) {v0 : Option Value} {y0 : kw_St} {st1 : List Value} {b : Nat} {As st0 : List Value} {y : MethodName} {ws : List Cond} {rm : Room} {bytes : ByteArray} {maxL n index : Nat} (hM : kw_M l G y ws rm mc ms (.ref b :: As) nu x (kw_P nu v0 y0)) (cw : CallB R s args own index y bytes maxL none ws rm mc ms n ∧ y.name = "<init>" ∧ (Cond.instanceMethod y).before args s = true) (hn : As.length = n) (hsize : ls.size = nL) (hst : st0 = As.reverse ++ .ref b :: rest) (hr : (rest.map fun v => v.category).sum ≤ 8) (hdg : decode cc pc = .ok (.invokespecial index, 3)) (hf : cells + mc ≤ R.cells ∧ slots + ms ≤ R.slots) (hst1 : v0.toList ++ rest = st1) (kk : ∀ (H1 : Heap) (locs1 : List Loc), kw_W G A nu y0 H1 → va_S A s.heap H1 locs1 → W p l e R s m args below meth c H1 locs1 (cells + mc) (slots + ms) Q (F0 m (pc + 3) ls st1)) : W p l e R s m args below meth c H locs cells slots Q (F0 m pc ls (st0)) := kw_callI S hK hZ hA hW hS hM cw hn hsize hst hr hdg hf (fun v nu' y H1 locs1 hp hW hS => by obtain ⟨e1, e2, e3⟩ := hp; subst e1; rw [e2, e3] at hW; rw [hst1]; exact kk H1 locs1 hW hS)
theorem kx_maxi (S : CallFix p m c cc nL s args Ts own) (hz : ls.size = nL) {index : Nat} (h1 : Cond.methodLink own index Lib.Math.max.name ∈ Ts) (h2 : Cond.static Lib.Math.max.name ∈ Ts) (h3 : Cond.initialized "java/lang/Math" ∈ Ts) (h4 : Cond.code Lib.Math.max.name Lib.Math.max.code 2 (some .int) ∈ Ts) (hf : 1 ≤ R.frames) (hlo : (rest.map fun v => v.category).sum + 13 ≤ R.locals) (hc : cells ≤ R.cells) (hs : slots ≤ R.slots) {x1 y1 : Int32} (hdg : decode cc pc = .ok (.invokestatic index, 3)) (kk : W p l e R s m args below meth c H locs cells slots Q (F0 m (pc + 3) ls (.int (if x1 < y1 then y1 else x1) :: rest))) : W p l e R s m args below meth c H locs cells slots Q (F0 m pc ls (.int y1 :: .int x1 :: rest)) := va_mmax S.1 S.2.1 (S.2.2.1.trans hz.symm) S.2.2.2.1 (S.2.2.2.2 _ h1) (S.2.2.2.2 _ h2) (S.2.2.2.2 _ h3) (S.2.2.2.2 _ h4) hf hlo hc hs hdg kk
theorem kx_mini (S : CallFix p m c cc nL s args Ts own) (hz : ls.size = nL) {index : Nat} (h1 : Cond.methodLink own index Lib.Math.min.name ∈ Ts) (h2 : Cond.static Lib.Math.min.name ∈ Ts) (h3 : Cond.initialized "java/lang/Math" ∈ Ts) (h4 : Cond.code Lib.Math.min.name Lib.Math.min.code 2 (some .int) ∈ Ts) (hf : 1 ≤ R.frames) (hlo : (rest.map fun v => v.category).sum + 13 ≤ R.locals) (hc : cells ≤ R.cells) (hs : slots ≤ R.slots) {x1 y1 : Int32} (hdg : decode cc pc = .ok (.invokestatic index, 3)) (kk : W p l e R s m args below meth c H locs cells slots Q (F0 m (pc + 3) ls (.int (if y1 < x1 then y1 else x1) :: rest))) : W p l e R s m args below meth c H locs cells slots Q (F0 m pc ls (.int y1 :: .int x1 :: rest)) := va_mmin S.1 S.2.1 (S.2.2.1.trans hz.symm) S.2.2.2.1 (S.2.2.2.2 _ h1) (S.2.2.2.2 _ h2) (S.2.2.2.2 _ h3) (S.2.2.2.2 _ h4) hf hlo hc hs hdg kk
theorem kx_maxl (S : CallFix p m c cc nL s args Ts own) (hz : ls.size = nL) {index : Nat} (h1 : Cond.methodLink own index Lib.MathLoose.max_long.x ∈ Ts) (h2 : Cond.static Lib.MathLoose.max_long.x ∈ Ts) (h3 : Cond.initialized "java/lang/Math" ∈ Ts) (h4 : Cond.code Lib.MathLoose.max_long.x Lib.MathLoose.max_long.code 4 (some .long) ∈ Ts) (hf : 1 ≤ R.frames) (hlo : (rest.map fun v => v.category).sum + 15 ≤ R.locals) (hc : cells ≤ R.cells) (hs : slots ≤ R.slots) {x1 y1 : Int64} (hdg : decode cc pc = .ok (.invokestatic index, 3)) (kk : W p l e R s m args below meth c H locs cells slots Q (F0 m (pc + 3) ls (.long (if y1 < x1 then x1 else y1) :: rest))) : W p l e R s m args below meth c H locs cells slots Q (F0 m pc ls (.long y1 :: .long x1 :: rest)) := va_mmax_long S.1 S.2.1 (S.2.2.1.trans hz.symm) S.2.2.2.1 (S.2.2.2.2 _ h1) (S.2.2.2.2 _ h2) (S.2.2.2.2 _ h3) (S.2.2.2.2 _ h4) hf hlo hc hs hdg kk
theorem kx_minl (S : CallFix p m c cc nL s args Ts own) (hz : ls.size = nL) {index : Nat} (h1 : Cond.methodLink own index Lib.MathLoose.min_long.x ∈ Ts) (h2 : Cond.static Lib.MathLoose.min_long.x ∈ Ts) (h3 : Cond.initialized "java/lang/Math" ∈ Ts) (h4 : Cond.code Lib.MathLoose.min_long.x Lib.MathLoose.min_long.code 4 (some .long) ∈ Ts) (hf : 1 ≤ R.frames) (hlo : (rest.map fun v => v.category).sum + 15 ≤ R.locals) (hc : cells ≤ R.cells) (hs : slots ≤ R.slots) {x1 y1 : Int64} (hdg : decode cc pc = .ok (.invokestatic index, 3)) (kk : W p l e R s m args below meth c H locs cells slots Q (F0 m (pc + 3) ls (.long (if y1 < x1 then y1 else x1) :: rest))) : W p l e R s m args below meth c H locs cells slots Q (F0 m pc ls (.long y1 :: .long x1 :: rest)) := va_mmin_long S.1 S.2.1 (S.2.2.1.trans hz.symm) S.2.2.2.1 (S.2.2.2.2 _ h1) (S.2.2.2.2 _ h2) (S.2.2.2.2 _ h3) (S.2.2.2.2 _ h4) hf hlo hc hs hdg kk
end KWX
end
section
/-! what the small methods answer, and what they do to the tables -/
theorem kw_out {W : Int32} {h : Int} (hn : ∀ n : Nat, (n : Int) ≤ h → W ≠ Int32.ofNat n) : W.toInt < 0 ∨ h < W.toInt := by
  rcases Int.lt_or_le W.toInt 0 with q | q
  · exact Or.inl q
  rcases Int.lt_or_le h W.toInt with q2 | q2
  · exact Or.inr q2
  obtain ⟨j, hj, e⟩ := nI_of (x := W) (by rw [Int32.lt_iff_toInt_lt, Int32.toInt_zero]; omega)
  refine absurd e (hn j ?_)
  rw [e, nI_toInt hj] at q2
  exact q2
theorem kw_out3 {W : Int32} (h0 : ¬ W = 0) (h1 : ¬ W = 1) (h2 : ¬ W = 2) : W.toInt < 0 ∨ (2 : Int) < W.toInt := kw_out (fun n hn => by
  rcases (show n = 0 ∨ n = 1 ∨ n = 2 by omega) with rfl | rfl | rfl
  · exact h0
  · exact h1
  · exact h2)
theorem kw_out4 {W : Int32} (h0 : ¬ W = 0) (h1 : ¬ W = 1) (h2 : ¬ W = 2) (h3 : ¬ W = 3) : W.toInt < 0 ∨ (3 : Int) < W.toInt := kw_out (fun n hn => by
  rcases (show n = 0 ∨ n = 1 ∨ n = 2 ∨ n = 3 by omega) with rfl | rfl | rfl | rfl
  · exact h0
  · exact h1
  · exact h2
  · exact h3)
theorem kw_out6 {W : Int32} (h0 : ¬ W = 0) (h1 : ¬ W = 1) (h2 : ¬ W = 2) (h3 : ¬ W = 3) (h4 : ¬ W = 4) (h5 : ¬ W = 5) : W.toInt < 0 ∨ (5 : Int) < W.toInt := kw_out (fun n hn => by
  rcases (show n = 0 ∨ n = 1 ∨ n = 2 ∨ n = 3 ∨ n = 4 ∨ n = 5 by omega) with rfl | rfl | rfl | rfl | rfl | rfl
  · exact h0
  · exact h1
  · exact h2
  · exact h3
  · exact h4
  · exact h5)
theorem kw_out7 {W : Int32} (h0 : ¬ W = 0) (h1 : ¬ W = 1) (h2 : ¬ W = 2) (h3 : ¬ W = 3) (h4 : ¬ W = 4) (h5 : ¬ W = 5) (h6 : ¬ W = 6) : W.toInt < 0 ∨ (6 : Int) < W.toInt := kw_out (fun n hn => by
  rcases (show n = 0 ∨ n = 1 ∨ n = 2 ∨ n = 3 ∨ n = 4 ∨ n = 5 ∨ n = 6 by omega) with rfl | rfl | rfl | rfl | rfl | rfl | rfl
  · exact h0
  · exact h1
  · exact h2
  · exact h3
  · exact h4
  · exact h5
  · exact h6)
theorem kw_out8 {W : Int32} (h0 : ¬ W = 0) (h1 : ¬ W = 1) (h2 : ¬ W = 2) (h3 : ¬ W = 3) (h4 : ¬ W = 4) (h5 : ¬ W = 5) (h6 : ¬ W = 6) (h7 : ¬ W = 7) : W.toInt < 0 ∨ (7 : Int) < W.toInt := kw_out (fun n hn => by
  rcases (show n = 0 ∨ n = 1 ∨ n = 2 ∨ n = 3 ∨ n = 4 ∨ n = 5 ∨ n = 6 ∨ n = 7 by omega) with rfl | rfl | rfl | rfl | rfl | rfl | rfl | rfl
  · exact h0
  · exact h1
  · exact h2
  · exact h3
  · exact h4
  · exact h5
  · exact h6
  · exact h7)
set_option maxHeartbeats 1000000 in
set_option maxRecDepth 100000 in
/-- Bucket(rate, burst) -/
theorem c_X0_init (l : Launch) (G : kw_G) (nu : Nat → Option Nat) (x : kw_St) (b : Nat) (r : Int32) (bu : Int32) (hb : nu b = some 1)  : kw_M l G yX0_init wsX0_init { frames := 1, cells := 0, slots := 0, locals := 20 } 0 0 [.ref b, .int (r), .int (bu)] nu x (kw_P nu (none) (sJ (sJ (sI x 50 b r) 51 b (1000 * (bu).toInt64)) 52 b (1000 * (bu).toInt64))) := by
  refine kw_M.ofW (cc := cX0_init) (maxL := 3) (ret := none) (by decide) rfl (Nat.le_of_ble_eq_true rfl) ?_
  intro p e s m args below meth c A ls S hr hlk hnm hK hZ hA hW hS hl
  have hl : lv_has ls 3 [(0, .ref b), (1, .int (r)), (2, .int (bu))] := hl
  have iX0 : ∀ w ∈ wsX00, w ∈ wsX0_init := by decide +kernel
  refine lv_aload_n S.1 S.2.1 dX0_init_0 rfl (lv_at hl 0 rfl) ?_
  refine W.objInit S.1 S.2.1 S.2.2.2.1 (S.2.2.2.2 _ (by decide +kernel)) (S.2.2.2.2 _ (by decide +kernel)) (S.2.2.2.2 _ (by decide +kernel)) rfl (by rw [S.2.2.1]; exact hl.1) rfl dX0_init_1 (Nat.le_of_ble_eq_true rfl) (Nat.le_of_ble_eq_true rfl) ?_
  refine W.eq (g2 := F0 m 4 ls []) rfl ?_
  refine lv_aload_n S.1 S.2.1 dX0_init_4 rfl (lv_at hl 0 rfl) ?_
  refine lv_iload_n S.1 S.2.1 dX0_init_5 rfl (lv_at hl 1 rfl) ?_
  refine kx_pI S hK hW hS hb 0 50  rfl iX0 tyX0_ok nmX0 (by decide) rfl rfl (by decide) (by decide +kernel) (Or.inr ⟨rfl, hnm, rfl⟩) rfl dX0_init_6 (fun H locs hW hS => ?_)
  refine lv_aload_n S.1 S.2.1 dX0_init_9 rfl (lv_at hl 0 rfl) ?_
  refine lv_ldc2 (v := 1000) S.1 S.2.1 S.2.2.2.1 (S.2.2.2.2 _ (by decide +kernel)) dX0_init_10 ?_
  refine lv_iload_n S.1 S.2.1 dX0_init_13 rfl (lv_at hl 2 rfl) ?_
  refine lv_i2l S.1 S.2.1 dX0_init_14 rfl ?_
  refine lv_lmul S.1 S.2.1 dX0_init_15 ?_
  refine kx_pJ S hK hW hS hb 1 51  rfl iX0 tyX0_ok nmX0 (by decide) rfl rfl (by decide) (by decide +kernel) (Or.inr ⟨rfl, hnm, rfl⟩) rfl dX0_init_16 (fun H locs hW hS => ?_)
  refine lv_aload_n S.1 S.2.1 dX0_init_19 rfl (lv_at hl 0 rfl) ?_
  refine lv_aload_n S.1 S.2.1 dX0_init_20 rfl (lv_at hl 0 rfl) ?_
  refine kx_gJ S hK hW hb 1 51 rfl iX0 (by decide) rfl rfl (by decide) (by decide +kernel) dX0_init_21 (v := (1000) * ((bu).toInt64)) (by simp [kI_sNew, kJ_sNew, kR_sNew, kN_sNew, kI_sI, kI_sJ, kI_sR, kI_sA, kI_sB, kI_sC, kJ_sI, kJ_sJ, kJ_sR, kJ_sA, kJ_sB, kJ_sC, kR_sI, kR_sJ, kR_sR, kR_sA, kR_sB, kR_sC, kA_sI, kA_sJ, kA_sR, kA_sA, kA_sB, kA_sC, kB_sI, kB_sJ, kB_sR, kB_sA, kB_sB, kB_sC, kC_sI, kC_sJ, kC_sR, kC_sA, kC_sB, kC_sC, kN_sI, kN_sJ, kN_sR, kN_sA, kN_sB, kN_sC]) ?_
  refine kx_pJ S hK hW hS hb 2 52  rfl iX0 tyX0_ok nmX0 (by decide) rfl rfl (by decide) (by decide +kernel) (Or.inl rfl) rfl dX0_init_24 (fun H locs hW hS => ?_)
  refine kw_vret S hr hlk hW hS (by decide) (by decide) dX0_init_27 ?_
  refine ⟨?_, rfl, ?_⟩ <;> first | rfl | (simp [kw_b]; done) | (simp [kw_b, kI_sNew, kJ_sNew, kR_sNew, kN_sNew, kI_sI, kI_sJ, kI_sR, kI_sA, kI_sB, kI_sC, kJ_sI, kJ_sJ, kJ_sR, kJ_sA, kJ_sB, kJ_sC, kR_sI, kR_sJ, kR_sR, kR_sA, kR_sB, kR_sC, kA_sI, kA_sJ, kA_sR, kA_sA, kA_sB, kA_sC, kB_sI, kB_sJ, kB_sR, kB_sA, kB_sB, kB_sC, kC_sI, kC_sJ, kC_sR, kC_sA, kC_sB, kC_sC, kN_sI, kN_sJ, kN_sR, kN_sA, kN_sB, kN_sC]; done)
def q_fill (x : kw_St) (b : Nat) (t : Int32) : Int64 := if kJ x 52 b + (kI x 50 b).toInt64 * t.toInt64 < kJ x 51 b then kJ x 52 b + (kI x 50 b).toInt64 * t.toInt64 else kJ x 51 b
set_option maxHeartbeats 1000000 in
set_option maxRecDepth 100000 in
/-- Bucket.fill -/
theorem c_X0_fill (l : Launch) (G : kw_G) (nu : Nat → Option Nat) (x : kw_St) (b : Nat) (t : Int32) (hb : nu b = some 1)  : kw_M l G yX0_fill wsX0_fill { frames := 1, cells := 0, slots := 0, locals := 23 } 0 0 [.ref b, .int (t)] nu x (kw_P nu (none) (sJ x 52 b (q_fill x b t))) := by
  refine kw_M.ofW (cc := cX0_fill) (maxL := 2) (ret := none) (by decide) rfl (Nat.le_of_ble_eq_true rfl) ?_
  intro p e s m args below meth c A ls S hr hlk hnm hK hZ hA hW hS hl
  have hl : lv_has ls 2 [(0, .ref b), (1, .int (t))] := hl
  have iX0 : ∀ w ∈ wsX00, w ∈ wsX0_fill := by decide +kernel
  refine lv_aload_n S.1 S.2.1 dX0_fill_0 rfl (lv_at hl 0 rfl) ?_
  refine lv_aload_n S.1 S.2.1 dX0_fill_1 rfl (lv_at hl 0 rfl) ?_
  refine kx_gJ S hK hW hb 1 51 rfl iX0 (by decide) rfl rfl (by decide) (by decide +kernel) dX0_fill_2 (v := kJ x 51 b) rfl ?_
  refine lv_aload_n S.1 S.2.1 dX0_fill_5 rfl (lv_at hl 0 rfl) ?_
  refine kx_gJ S hK hW hb 2 52 rfl iX0 (by decide) rfl rfl (by decide) (by decide +kernel) dX0_fill_6 (v := kJ x 52 b) rfl ?_
  refine lv_aload_n S.1 S.2.1 dX0_fill_9 rfl (lv_at hl 0 rfl) ?_
  refine kx_gI S hK hW hb 0 50 rfl iX0 (by decide) rfl rfl (by decide) (by decide +kernel) dX0_fill_10 (v := kI x 50 b) rfl ?_
  refine lv_i2l S.1 S.2.1 dX0_fill_13 rfl ?_
  refine lv_iload_n S.1 S.2.1 dX0_fill_14 rfl (lv_at hl 1 rfl) ?_
  refine lv_i2l S.1 S.2.1 dX0_fill_15 rfl ?_
  refine lv_lmul S.1 S.2.1 dX0_fill_16 ?_
  refine lv_ladd S.1 S.2.1 dX0_fill_17 ?_
  refine kx_minl S hl.1 (by decide +kernel) (by decide +kernel) (by decide +kernel) (by decide +kernel) (Nat.le_of_ble_eq_true rfl) (Nat.le_of_ble_eq_true rfl) (by first | exact Nat.le_of_ble_eq_true rfl | exact Nat.le_refl _ | exact Nat.le_of_eq (Nat.zero_add _)) (by first | exact Nat.le_of_ble_eq_true rfl | exact Nat.le_of_eq (Nat.zero_add _) | exact Nat.le_refl _) dX0_fill_18 ?_
  refine kx_pJ S hK hW hS hb 2 52  rfl iX0 tyX0_ok nmX0 (by decide) rfl rfl (by decide) (by decide +kernel) (Or.inl rfl) rfl dX0_fill_21 (fun H locs hW hS => ?_)
  refine kw_vret S hr hlk hW hS (by decide) (by decide) dX0_fill_24 ?_
  refine ⟨?_, rfl, ?_⟩ <;> first | rfl | (simp [kw_b]; done) | (simp [kw_b, kI_sNew, kJ_sNew, kR_sNew, kN_sNew, kI_sI, kI_sJ, kI_sR, kI_sA, kI_sB, kI_sC, kJ_sI, kJ_sJ, kJ_sR, kJ_sA, kJ_sB, kJ_sC, kR_sI, kR_sJ, kR_sR, kR_sA, kR_sB, kR_sC, kA_sI, kA_sJ, kA_sR, kA_sA, kA_sB, kA_sC, kB_sI, kB_sJ, kB_sR, kB_sA, kB_sB, kB_sC, kC_sI, kC_sJ, kC_sR, kC_sA, kC_sB, kC_sC, kN_sI, kN_sJ, kN_sR, kN_sA, kN_sB, kN_sC]; done)
set_option maxHeartbeats 1000000 in
set_option maxRecDepth 100000 in
/-- Bucket.covers -/
theorem c_X0_covers (l : Launch) (G : kw_G) (nu : Nat → Option Nat) (x : kw_St) (b : Nat) (z : Int32) (hb : nu b = some 1)  : kw_M l G yX0_covers wsX0_covers { frames := 0, cells := 0, slots := 0, locals := 0 } 0 0 [.ref b, .int (z)] nu x (kw_P nu (some (.int (kw_b (¬ kJ x 52 b < 1000 * (z).toInt64)))) (x)) := by
  refine kw_M.ofW (cc := cX0_covers) (maxL := 2) (ret := (some .boolean)) (by decide) rfl (Nat.le_of_ble_eq_true rfl) ?_
  intro p e s m args below meth c A ls S hr hlk hnm hK hZ hA hW hS hl
  have hl : lv_has ls 2 [(0, .ref b), (1, .int (z))] := hl
  have iX0 : ∀ w ∈ wsX00, w ∈ wsX0_covers := by decide +kernel
  refine lv_aload_n S.1 S.2.1 dX0_covers_0 rfl (lv_at hl 0 rfl) ?_
  refine kx_gJ S hK hW hb 2 52 rfl iX0 (by decide) rfl rfl (by decide) (by decide +kernel) dX0_covers_1 (v := kJ x 52 b) rfl ?_
  refine lv_ldc2 (v := 1000) S.1 S.2.1 S.2.2.2.1 (S.2.2.2.2 _ (by decide +kernel)) dX0_covers_4 ?_
  refine lv_iload_n S.1 S.2.1 dX0_covers_7 rfl (lv_at hl 1 rfl) ?_
  refine lv_i2l S.1 S.2.1 dX0_covers_8 rfl ?_
  refine lv_lmul S.1 S.2.1 dX0_covers_9 ?_
  refine kx_lc_lt (tgt := 18) S dX0_covers_10 dX0_covers_11 (by decide) (fun c1 => ?_) (fun c1 => ?_)
  · skip
    refine lv_iconst (v := 0) S.1 S.2.1 dX0_covers_18 (by decide) ?_
    refine kw_zret S hr hlk hW hS (by decide) (by decide) dX0_covers_19 kw_n0 ?_
    refine ⟨?_, rfl, ?_⟩ <;> first | rfl | (simp [c1, kw_b]; done) | (simp [c1, kw_b, kI_sNew, kJ_sNew, kR_sNew, kN_sNew, kI_sI, kI_sJ, kI_sR, kI_sA, kI_sB, kI_sC, kJ_sI, kJ_sJ, kJ_sR, kJ_sA, kJ_sB, kJ_sC, kR_sI, kR_sJ, kR_sR, kR_sA, kR_sB, kR_sC, kA_sI, kA_sJ, kA_sR, kA_sA, kA_sB, kA_sC, kB_sI, kB_sJ, kB_sR, kB_sA, kB_sB, kB_sC, kC_sI, kC_sJ, kC_sR, kC_sA, kC_sB, kC_sC, kN_sI, kN_sJ, kN_sR, kN_sA, kN_sB, kN_sC]; done)
  · skip
    refine lv_iconst (v := 1) S.1 S.2.1 dX0_covers_14 (by decide) ?_
    refine lv_goto (tgt := 19) S.1 S.2.1 dX0_covers_15 (by decide) ?_
    refine kw_zret S hr hlk hW hS (by decide) (by decide) dX0_covers_19 kw_n1 ?_
    refine ⟨?_, rfl, ?_⟩ <;> first | rfl | (simp [c1, kw_b]; done) | (simp [c1, kw_b, kI_sNew, kJ_sNew, kR_sNew, kN_sNew, kI_sI, kI_sJ, kI_sR, kI_sA, kI_sB, kI_sC, kJ_sI, kJ_sJ, kJ_sR, kJ_sA, kJ_sB, kJ_sC, kR_sI, kR_sJ, kR_sR, kR_sA, kR_sB, kR_sC, kA_sI, kA_sJ, kA_sR, kA_sA, kA_sB, kA_sC, kB_sI, kB_sJ, kB_sR, kB_sA, kB_sB, kB_sC, kC_sI, kC_sJ, kC_sR, kC_sA, kC_sB, kC_sC, kN_sI, kN_sJ, kN_sR, kN_sA, kN_sB, kN_sC]; done)
set_option maxHeartbeats 1000000 in
set_option maxRecDepth 100000 in
/-- Bucket.take -/
theorem c_X0_take (l : Launch) (G : kw_G) (nu : Nat → Option Nat) (x : kw_St) (b : Nat) (z : Int32) (hb : nu b = some 1)  : kw_M l G yX0_take wsX0_take { frames := 0, cells := 0, slots := 0, locals := 0 } 0 0 [.ref b, .int (z)] nu x (kw_P nu (none) (sJ x 52 b (kJ x 52 b - 1000 * (z).toInt64))) := by
  refine kw_M.ofW (cc := cX0_take) (maxL := 2) (ret := none) (by decide) rfl (Nat.le_of_ble_eq_true rfl) ?_
  intro p e s m args below meth c A ls S hr hlk hnm hK hZ hA hW hS hl
  have hl : lv_has ls 2 [(0, .ref b), (1, .int (z))] := hl
  have iX0 : ∀ w ∈ wsX00, w ∈ wsX0_take := by decide +kernel
  refine lv_aload_n S.1 S.2.1 dX0_take_0 rfl (lv_at hl 0 rfl) ?_
  refine lv_dup S.1 S.2.1 dX0_take_1 rfl ?_
  refine kx_gJ S hK hW hb 2 52 rfl iX0 (by decide) rfl rfl (by decide) (by decide +kernel) dX0_take_2 (v := kJ x 52 b) rfl ?_
  refine lv_ldc2 (v := 1000) S.1 S.2.1 S.2.2.2.1 (S.2.2.2.2 _ (by decide +kernel)) dX0_take_5 ?_
  refine lv_iload_n S.1 S.2.1 dX0_take_8 rfl (lv_at hl 1 rfl) ?_
  refine lv_i2l S.1 S.2.1 dX0_take_9 rfl ?_
  refine lv_lmul S.1 S.2.1 dX0_take_10 ?_
  refine lv_lsub S.1 S.2.1 dX0_take_11 ?_
  refine kx_pJ S hK hW hS hb 2 52  rfl iX0 tyX0_ok nmX0 (by decide) rfl rfl (by decide) (by decide +kernel) (Or.inl rfl) rfl dX0_take_12 (fun H locs hW hS => ?_)
  refine kw_vret S hr hlk hW hS (by decide) (by decide) dX0_take_15 ?_
  refine ⟨?_, rfl, ?_⟩ <;> first | rfl | (simp [kw_b]; done) | (simp [kw_b, kI_sNew, kJ_sNew, kR_sNew, kN_sNew, kI_sI, kI_sJ, kI_sR, kI_sA, kI_sB, kI_sC, kJ_sI, kJ_sJ, kJ_sR, kJ_sA, kJ_sB, kJ_sC, kR_sI, kR_sJ, kR_sR, kR_sA, kR_sB, kR_sC, kA_sI, kA_sJ, kA_sR, kA_sA, kA_sB, kA_sC, kB_sI, kB_sJ, kB_sR, kB_sA, kB_sB, kB_sC, kC_sI, kC_sJ, kC_sR, kC_sA, kC_sB, kC_sC, kN_sI, kN_sJ, kN_sR, kN_sA, kN_sB, kN_sC]; done)
def q_tuc (x : kw_St) (b : Nat) (z : Int32) : Int64 := if 0 < 1000 * z.toInt64 - kJ x 52 b then (if 0 < kI x 50 b then (1000 * z.toInt64 - kJ x 52 b + (kI x 50 b).toInt64 - 1) / (kI x 50 b).toInt64 else 2147483647) else 0
theorem kw_d0 {r : Int32} (h : 0 < r) : ¬ r.toInt64 = 0 := by
  intro e
  have h2 : r.toInt64.toInt = 0 := by rw [e]; rfl
  rw [Int32.toInt_toInt64] at h2
  rw [Int32.lt_iff_toInt_lt, h2] at h
  exact absurd h (by decide)
set_option maxHeartbeats 1000000 in
set_option maxRecDepth 100000 in
/-- Bucket.ticksUntilCovers -/
theorem c_X0_ticksUntilCovers (l : Launch) (G : kw_G) (nu : Nat → Option Nat) (x : kw_St) (b : Nat) (z : Int32) (hb : nu b = some 1)  : kw_M l G yX0_ticksUntilCovers wsX0_ticksUntilCovers { frames := 0, cells := 0, slots := 0, locals := 0 } 0 0 [.ref b, .int (z)] nu x (kw_P nu (some (.long (q_tuc x b z))) (x)) := by
  refine kw_M.ofW (cc := cX0_ticksUntilCovers) (maxL := 4) (ret := (some .long)) (by decide) rfl (Nat.le_of_ble_eq_true rfl) ?_
  intro p e s m args below meth c A ls S hr hlk hnm hK hZ hA hW hS hl
  have hl : lv_has ls 4 [(0, .ref b), (1, .int (z))] := hl
  have iX0 : ∀ w ∈ wsX00, w ∈ wsX0_ticksUntilCovers := by decide +kernel
  refine lv_ldc2 (v := 1000) S.1 S.2.1 S.2.2.2.1 (S.2.2.2.2 _ (by decide +kernel)) dX0_ticksUntilCovers_0 ?_
  refine lv_iload_n S.1 S.2.1 dX0_ticksUntilCovers_3 rfl (lv_at hl 1 rfl) ?_
  refine lv_i2l S.1 S.2.1 dX0_ticksUntilCovers_4 rfl ?_
  refine lv_lmul S.1 S.2.1 dX0_ticksUntilCovers_5 ?_
  refine lv_aload_n S.1 S.2.1 dX0_ticksUntilCovers_6 rfl (lv_at hl 0 rfl) ?_
  refine kx_gJ S hK hW hb 2 52 rfl iX0 (by decide) rfl rfl (by decide) (by decide +kernel) dX0_ticksUntilCovers_7 (v := kJ x 52 b) rfl ?_
  refine lv_lsub S.1 S.2.1 dX0_ticksUntilCovers_10 ?_
  refine lv_lstore_n (lv' := [(2, .long (((1000) * ((z).toInt64)) - (kJ x 52 b))), (0, .ref b), (1, .int (z))]) S.1 S.2.1 dX0_ticksUntilCovers_11 rfl hl (by decide) rfl (fun ls hl => ?_)
  refine lv_lload_n S.1 S.2.1 dX0_ticksUntilCovers_12 rfl (lv_at hl 0 rfl) ?_
  refine lv_lconst (v := 0) S.1 S.2.1 dX0_ticksUntilCovers_13 (by decide) ?_
  refine kx_lc_gt (tgt := 20) S dX0_ticksUntilCovers_14 dX0_ticksUntilCovers_15 (by decide) (fun c1 => ?_) (fun c1 => ?_)
  · skip
    refine lv_aload_n S.1 S.2.1 dX0_ticksUntilCovers_20 rfl (lv_at hl 1 rfl) ?_
    refine kx_gI S hK hW hb 0 50 rfl iX0 (by decide) rfl rfl (by decide) (by decide +kernel) dX0_ticksUntilCovers_21 (v := kI x 50 b) rfl ?_
    refine lv_if_gt (tgt := 33) S.1 S.2.1 dX0_ticksUntilCovers_24 (by decide) (fun c2 => ?_) (fun c2 => ?_)
    · skip
      refine lv_lload_n S.1 S.2.1 dX0_ticksUntilCovers_33 rfl (lv_at hl 0 rfl) ?_
      refine lv_aload_n S.1 S.2.1 dX0_ticksUntilCovers_34 rfl (lv_at hl 1 rfl) ?_
      refine kx_gI S hK hW hb 0 50 rfl iX0 (by decide) rfl rfl (by decide) (by decide +kernel) dX0_ticksUntilCovers_35 (v := kI x 50 b) rfl ?_
      refine lv_i2l S.1 S.2.1 dX0_ticksUntilCovers_38 rfl ?_
      refine lv_ladd S.1 S.2.1 dX0_ticksUntilCovers_39 ?_
      refine lv_lconst (v := 1) S.1 S.2.1 dX0_ticksUntilCovers_40 (by decide) ?_
      refine lv_lsub S.1 S.2.1 dX0_ticksUntilCovers_41 ?_
      refine lv_aload_n S.1 S.2.1 dX0_ticksUntilCovers_42 rfl (lv_at hl 1 rfl) ?_
      refine kx_gI S hK hW hb 0 50 rfl iX0 (by decide) rfl rfl (by decide) (by decide +kernel) dX0_ticksUntilCovers_43 (v := kI x 50 b) rfl ?_
      refine lv_i2l S.1 S.2.1 dX0_ticksUntilCovers_46 rfl ?_
      refine lv_ldiv S.1 S.2.1 dX0_ticksUntilCovers_47 (kw_d0 (by assumption)) ?_
      refine kw_lret S hr hlk hW hS (by decide) (by decide) dX0_ticksUntilCovers_48 ?_
      refine ⟨?_, rfl, ?_⟩ <;> first | rfl | (simp [q_tuc, c1, c2, kw_b]; done) | (simp [q_tuc, c1, c2, kw_b, kI_sNew, kJ_sNew, kR_sNew, kN_sNew, kI_sI, kI_sJ, kI_sR, kI_sA, kI_sB, kI_sC, kJ_sI, kJ_sJ, kJ_sR, kJ_sA, kJ_sB, kJ_sC, kR_sI, kR_sJ, kR_sR, kR_sA, kR_sB, kR_sC, kA_sI, kA_sJ, kA_sR, kA_sA, kA_sB, kA_sC, kB_sI, kB_sJ, kB_sR, kB_sA, kB_sB, kB_sC, kC_sI, kC_sJ, kC_sR, kC_sA, kC_sB, kC_sC, kN_sI, kN_sJ, kN_sR, kN_sA, kN_sB, kN_sC]; done)
    · skip
      refine lv_ldc2 (v := 2147483647) S.1 S.2.1 S.2.2.2.1 (S.2.2.2.2 _ (by decide +kernel)) dX0_ticksUntilCovers_27 ?_
      refine lv_goto (tgt := 48) S.1 S.2.1 dX0_ticksUntilCovers_30 (by decide) ?_
      refine kw_lret S hr hlk hW hS (by decide) (by decide) dX0_ticksUntilCovers_48 ?_
      refine ⟨?_, rfl, ?_⟩ <;> first | rfl | (simp [q_tuc, c1, c2, kw_b]; done) | (simp [q_tuc, c1, c2, kw_b, kI_sNew, kJ_sNew, kR_sNew, kN_sNew, kI_sI, kI_sJ, kI_sR, kI_sA, kI_sB, kI_sC, kJ_sI, kJ_sJ, kJ_sR, kJ_sA, kJ_sB, kJ_sC, kR_sI, kR_sJ, kR_sR, kR_sA, kR_sB, kR_sC, kA_sI, kA_sJ, kA_sR, kA_sA, kA_sB, kA_sC, kB_sI, kB_sJ, kB_sR, kB_sA, kB_sB, kB_sC, kC_sI, kC_sJ, kC_sR, kC_sA, kC_sB, kC_sC, kN_sI, kN_sJ, kN_sR, kN_sA, kN_sB, kN_sC]; done)
  · skip
    refine lv_lconst (v := 0) S.1 S.2.1 dX0_ticksUntilCovers_18 (by decide) ?_
    refine kw_lret S hr hlk hW hS (by decide) (by decide) dX0_ticksUntilCovers_19 ?_
    refine ⟨?_, rfl, ?_⟩ <;> first | rfl | (simp [q_tuc, c1, kw_b]; done) | (simp [q_tuc, c1, kw_b, kI_sNew, kJ_sNew, kR_sNew, kN_sNew, kI_sI, kI_sJ, kI_sR, kI_sA, kI_sB, kI_sC, kJ_sI, kJ_sJ, kJ_sR, kJ_sA, kJ_sB, kJ_sC, kR_sI, kR_sJ, kR_sR, kR_sA, kR_sB, kR_sC, kA_sI, kA_sJ, kA_sR, kA_sA, kA_sB, kA_sC, kB_sI, kB_sJ, kB_sR, kB_sA, kB_sB, kB_sC, kC_sI, kC_sJ, kC_sR, kC_sA, kC_sB, kC_sC, kN_sI, kN_sJ, kN_sR, kN_sA, kN_sB, kN_sC]; done)
set_option maxHeartbeats 1000000 in
set_option maxRecDepth 100000 in
/-- Group(weight, ceiling) -/
theorem c_X1_init (l : Launch) (G : kw_G) (nu : Nat → Option Nat) (x : kw_St) (g : Nat) (w : Int32) (b : Nat) (hg : nu g = some 2)  : kw_M l G yX1_init wsX1_init { frames := 1, cells := 0, slots := 0, locals := 20 } 0 0 [.ref g, .int (w), .ref b] nu x (kw_P nu (none) (sR (sI x 100 g w) 101 g (some b))) := by
  refine kw_M.ofW (cc := cX1_init) (maxL := 3) (ret := none) (by decide) rfl (Nat.le_of_ble_eq_true rfl) ?_
  intro p e s m args below meth c A ls S hr hlk hnm hK hZ hA hW hS hl
  have hl : lv_has ls 3 [(0, .ref g), (1, .int (w)), (2, .ref b)] := hl
  have iX1 : ∀ w ∈ wsX10, w ∈ wsX1_init := by decide +kernel
  refine lv_aload_n S.1 S.2.1 dX1_init_0 rfl (lv_at hl 0 rfl) ?_
  refine W.objInit S.1 S.2.1 S.2.2.2.1 (S.2.2.2.2 _ (by decide +kernel)) (S.2.2.2.2 _ (by decide +kernel)) (S.2.2.2.2 _ (by decide +kernel)) rfl (by rw [S.2.2.1]; exact hl.1) rfl dX1_init_1 (Nat.le_of_ble_eq_true rfl) (Nat.le_of_ble_eq_true rfl) ?_
  refine W.eq (g2 := F0 m 4 ls []) rfl ?_
  refine lv_aload_n S.1 S.2.1 dX1_init_4 rfl (lv_at hl 0 rfl) ?_
  refine lv_iload_n S.1 S.2.1 dX1_init_5 rfl (lv_at hl 1 rfl) ?_
  refine kx_pI S hK hW hS hg 0 100  rfl iX1 tyX1_ok nmX1 (by decide) rfl rfl (by decide) (by decide +kernel) (Or.inr ⟨rfl, hnm, rfl⟩) rfl dX1_init_6 (fun H locs hW hS => ?_)
  refine lv_aload_n S.1 S.2.1 dX1_init_9 rfl (lv_at hl 0 rfl) ?_
  refine lv_aload_n S.1 S.2.1 dX1_init_10 rfl (lv_at hl 2 rfl) ?_
  refine kx_pA S hK hW hS hg 1 101  rfl iX1 tyX1_ok nmX1 (by decide) rfl rfl (by decide) (by decide +kernel) (Or.inr ⟨rfl, hnm, rfl⟩) rfl (Or.inl ⟨_, rfl⟩) dX1_init_11 (fun H locs hW hS => ?_)
  refine kw_vret S hr hlk hW hS (by decide) (by decide) dX1_init_14 ?_
  refine ⟨?_, rfl, ?_⟩ <;> first | rfl | (simp [kw_b]; done) | (simp [kw_b, kI_sNew, kJ_sNew, kR_sNew, kN_sNew, kI_sI, kI_sJ, kI_sR, kI_sA, kI_sB, kI_sC, kJ_sI, kJ_sJ, kJ_sR, kJ_sA, kJ_sB, kJ_sC, kR_sI, kR_sJ, kR_sR, kR_sA, kR_sB, kR_sC, kA_sI, kA_sJ, kA_sR, kA_sA, kA_sB, kA_sC, kB_sI, kB_sJ, kB_sR, kB_sA, kB_sB, kB_sC, kC_sI, kC_sJ, kC_sR, kC_sA, kC_sB, kC_sC, kN_sI, kN_sJ, kN_sR, kN_sA, kN_sB, kN_sC]; done)
def q_gtag (x : kw_St) (g : Nat) (z : Int32) : Int64 := if 0 < kI x 100 g then kJ x 104 g + 27720 * z.toInt64 / (kI x 100 g).toInt64 else kJ x 104 g
set_option maxHeartbeats 1000000 in
set_option maxRecDepth 100000 in
/-- Group.tagOf -/
theorem c_X1_tagOf (l : Launch) (G : kw_G) (nu : Nat → Option Nat) (x : kw_St) (g : Nat) (z : Int32) (hg : nu g = some 2)  : kw_M l G yX1_tagOf wsX1_tagOf { frames := 0, cells := 0, slots := 0, locals := 0 } 0 0 [.ref g, .int (z)] nu x (kw_P nu (some (.long (q_gtag x g z))) (x)) := by
  refine kw_M.ofW (cc := cX1_tagOf) (maxL := 2) (ret := (some .long)) (by decide) rfl (Nat.le_of_ble_eq_true rfl) ?_
  intro p e s m args below meth c A ls S hr hlk hnm hK hZ hA hW hS hl
  have hl : lv_has ls 2 [(0, .ref g), (1, .int (z))] := hl
  have iX1 : ∀ w ∈ wsX10, w ∈ wsX1_tagOf := by decide +kernel
  refine lv_aload_n S.1 S.2.1 dX1_tagOf_0 rfl (lv_at hl 0 rfl) ?_
  refine kx_gI S hK hW hg 0 100 rfl iX1 (by decide) rfl rfl (by decide) (by decide +kernel) dX1_tagOf_1 (v := kI x 100 g) rfl ?_
  refine lv_if_gt (tgt := 14) S.1 S.2.1 dX1_tagOf_4 (by decide) (fun c1 => ?_) (fun c1 => ?_)
  · skip
    refine lv_aload_n S.1 S.2.1 dX1_tagOf_14 rfl (lv_at hl 0 rfl) ?_
    refine kx_gJ S hK hW hg 4 104 rfl iX1 (by decide) rfl rfl (by decide) (by decide +kernel) dX1_tagOf_15 (v := kJ x 104 g) rfl ?_
    refine lv_ldc2 (v := 27720) S.1 S.2.1 S.2.2.2.1 (S.2.2.2.2 _ (by decide +kernel)) dX1_tagOf_18 ?_
    refine lv_iload_n S.1 S.2.1 dX1_tagOf_21 rfl (lv_at hl 1 rfl) ?_
    refine lv_i2l S.1 S.2.1 dX1_tagOf_22 rfl ?_
    refine lv_lmul S.1 S.2.1 dX1_tagOf_23 ?_
    refine lv_aload_n S.1 S.2.1 dX1_tagOf_24 rfl (lv_at hl 0 rfl) ?_
    refine kx_gI S hK hW hg 0 100 rfl iX1 (by decide) rfl rfl (by decide) (by decide +kernel) dX1_tagOf_25 (v := kI x 100 g) rfl ?_
    refine lv_i2l S.1 S.2.1 dX1_tagOf_28 rfl ?_
    refine lv_ldiv S.1 S.2.1 dX1_tagOf_29 (kw_d0 (by assumption)) ?_
    refine lv_ladd S.1 S.2.1 dX1_tagOf_30 ?_
    refine kw_lret S hr hlk hW hS (by decide) (by decide) dX1_tagOf_31 ?_
    refine ⟨?_, rfl, ?_⟩ <;> first | rfl | (simp [q_gtag, c1, kw_b]; done) | (simp [q_gtag, c1, kw_b, kI_sNew, kJ_sNew, kR_sNew, kN_sNew, kI_sI, kI_sJ, kI_sR, kI_sA, kI_sB, kI_sC, kJ_sI, kJ_sJ, kJ_sR, kJ_sA, kJ_sB, kJ_sC, kR_sI, kR_sJ, kR_sR, kR_sA, kR_sB, kR_sC, kA_sI, kA_sJ, kA_sR, kA_sA, kA_sB, kA_sC, kB_sI, kB_sJ, kB_sR, kB_sA, kB_sB, kB_sC, kC_sI, kC_sJ, kC_sR, kC_sA, kC_sB, kC_sC, kN_sI, kN_sJ, kN_sR, kN_sA, kN_sB, kN_sC]; done)
  · skip
    refine lv_aload_n S.1 S.2.1 dX1_tagOf_7 rfl (lv_at hl 0 rfl) ?_
    refine kx_gJ S hK hW hg 4 104 rfl iX1 (by decide) rfl rfl (by decide) (by decide +kernel) dX1_tagOf_8 (v := kJ x 104 g) rfl ?_
    refine lv_goto (tgt := 31) S.1 S.2.1 dX1_tagOf_11 (by decide) ?_
    refine kw_lret S hr hlk hW hS (by decide) (by decide) dX1_tagOf_31 ?_
    refine ⟨?_, rfl, ?_⟩ <;> first | rfl | (simp [q_gtag, c1, kw_b]; done) | (simp [q_gtag, c1, kw_b, kI_sNew, kJ_sNew, kR_sNew, kN_sNew, kI_sI, kI_sJ, kI_sR, kI_sA, kI_sB, kI_sC, kJ_sI, kJ_sJ, kJ_sR, kJ_sA, kJ_sB, kJ_sC, kR_sI, kR_sJ, kR_sR, kR_sA, kR_sB, kR_sC, kA_sI, kA_sJ, kA_sR, kA_sA, kA_sB, kA_sC, kB_sI, kB_sJ, kB_sR, kB_sA, kB_sB, kB_sC, kC_sI, kC_sJ, kC_sR, kC_sA, kC_sB, kC_sC, kN_sI, kN_sJ, kN_sR, kN_sA, kN_sB, kN_sC]; done)
set_option maxHeartbeats 1000000 in
set_option maxRecDepth 100000 in
/-- Packet(..) -/
theorem c_X3_init (l : Launch) (G : kw_G) (nu : Nat → Option Nat) (x : kw_St) (k : Nat) (no : Int32) (lf : Int32) (sz : Int32) (ca : Int32) (mk : Int32) (hk : nu k = some 4) (hmk : mk = 0 ∨ mk = 1) : kw_M l G yX3_init wsX3_init { frames := 1, cells := 0, slots := 0, locals := 20 } 0 0 [.ref k, .int (no), .int (lf), .int (sz), .int (ca), .int (mk)] nu x (kw_P nu (none) (sI (sI (sI (sI (sI (sI (sI (sI x 200 k no) 201 k lf) 202 k sz) 203 k ca) 204 k mk) 205 k (-1)) 206 k 0) 207 k (-1))) := by
  refine kw_M.ofW (cc := cX3_init) (maxL := 6) (ret := none) (by decide) rfl (Nat.le_of_ble_eq_true rfl) ?_
  intro p e s m args below meth c A ls S hr hlk hnm hK hZ hA hW hS hl
  have hl : lv_has ls 6 [(0, .ref k), (1, .int (no)), (2, .int (lf)), (3, .int (sz)), (4, .int (ca)), (5, .int (mk))] := hl
  have iX3 : ∀ w ∈ wsX30, w ∈ wsX3_init := by decide +kernel
  refine lv_aload_n S.1 S.2.1 dX3_init_0 rfl (lv_at hl 0 rfl) ?_
  refine W.objInit S.1 S.2.1 S.2.2.2.1 (S.2.2.2.2 _ (by decide +kernel)) (S.2.2.2.2 _ (by decide +kernel)) (S.2.2.2.2 _ (by decide +kernel)) rfl (by rw [S.2.2.1]; exact hl.1) rfl dX3_init_1 (Nat.le_of_ble_eq_true rfl) (Nat.le_of_ble_eq_true rfl) ?_
  refine W.eq (g2 := F0 m 4 ls []) rfl ?_
  refine lv_aload_n S.1 S.2.1 dX3_init_4 rfl (lv_at hl 0 rfl) ?_
  refine lv_iload_n S.1 S.2.1 dX3_init_5 rfl (lv_at hl 1 rfl) ?_
  refine kx_pI S hK hW hS hk 0 200  rfl iX3 tyX3_ok nmX3 (by decide) rfl rfl (by decide) (by decide +kernel) (Or.inr ⟨rfl, hnm, rfl⟩) rfl dX3_init_6 (fun H locs hW hS => ?_)
  refine lv_aload_n S.1 S.2.1 dX3_init_9 rfl (lv_at hl 0 rfl) ?_
  refine lv_iload_n S.1 S.2.1 dX3_init_10 rfl (lv_at hl 2 rfl) ?_
  refine kx_pI S hK hW hS hk 1 201  rfl iX3 tyX3_ok nmX3 (by decide) rfl rfl (by decide) (by decide +kernel) (Or.inr ⟨rfl, hnm, rfl⟩) rfl dX3_init_11 (fun H locs hW hS => ?_)
  refine lv_aload_n S.1 S.2.1 dX3_init_14 rfl (lv_at hl 0 rfl) ?_
  refine lv_iload_n S.1 S.2.1 dX3_init_15 rfl (lv_at hl 3 rfl) ?_
  refine kx_pI S hK hW hS hk 2 202  rfl iX3 tyX3_ok nmX3 (by decide) rfl rfl (by decide) (by decide +kernel) (Or.inr ⟨rfl, hnm, rfl⟩) rfl dX3_init_16 (fun H locs hW hS => ?_)
  refine lv_aload_n S.1 S.2.1 dX3_init_19 rfl (lv_at hl 0 rfl) ?_
  refine lv_iload S.1 S.2.1 dX3_init_20 (lv_at hl 4 rfl) ?_
  refine kx_pI S hK hW hS hk 3 203  rfl iX3 tyX3_ok nmX3 (by decide) rfl rfl (by decide) (by decide +kernel) (Or.inr ⟨rfl, hnm, rfl⟩) rfl dX3_init_22 (fun H locs hW hS => ?_)
  refine lv_aload_n S.1 S.2.1 dX3_init_25 rfl (lv_at hl 0 rfl) ?_
  refine lv_iload S.1 S.2.1 dX3_init_26 (lv_at hl 5 rfl) ?_
  refine kx_pZ S hK hW hS hk 4 204  rfl iX3 tyX3_ok nmX3 (by decide) rfl rfl (by decide) (by decide +kernel) (Or.inr ⟨rfl, hnm, rfl⟩) rfl hmk dX3_init_28 (fun H locs hW hS => ?_)
  refine lv_aload_n S.1 S.2.1 dX3_init_31 rfl (lv_at hl 0 rfl) ?_
  refine lv_iconst (v := (-1)) S.1 S.2.1 dX3_init_32 (by decide) ?_
  refine kx_pI S hK hW hS hk 5 205  rfl iX3 tyX3_ok nmX3 (by decide) rfl rfl (by decide) (by decide +kernel) (Or.inl rfl) rfl dX3_init_33 (fun H locs hW hS => ?_)
  refine lv_aload_n S.1 S.2.1 dX3_init_36 rfl (lv_at hl 0 rfl) ?_
  refine lv_iconst (v := 0) S.1 S.2.1 dX3_init_37 (by decide) ?_
  refine kx_pI S hK hW hS hk 6 206  rfl iX3 tyX3_ok nmX3 (by decide) rfl rfl (by decide) (by decide +kernel) (Or.inl rfl) rfl dX3_init_38 (fun H locs hW hS => ?_)
  refine lv_aload_n S.1 S.2.1 dX3_init_41 rfl (lv_at hl 0 rfl) ?_
  refine lv_iconst (v := (-1)) S.1 S.2.1 dX3_init_42 (by decide) ?_
  refine kx_pI S hK hW hS hk 7 207  rfl iX3 tyX3_ok nmX3 (by decide) rfl rfl (by decide) (by decide +kernel) (Or.inl rfl) rfl dX3_init_43 (fun H locs hW hS => ?_)
  refine kw_vret S hr hlk hW hS (by decide) (by decide) dX3_init_46 ?_
  refine ⟨?_, rfl, ?_⟩ <;> first | rfl | (simp [kw_b]; done) | (simp [kw_b, kI_sNew, kJ_sNew, kR_sNew, kN_sNew, kI_sI, kI_sJ, kI_sR, kI_sA, kI_sB, kI_sC, kJ_sI, kJ_sJ, kJ_sR, kJ_sA, kJ_sB, kJ_sC, kR_sI, kR_sJ, kR_sR, kR_sA, kR_sB, kR_sC, kA_sI, kA_sJ, kA_sR, kA_sA, kA_sB, kA_sC, kB_sI, kB_sJ, kB_sR, kB_sA, kB_sB, kB_sC, kC_sI, kC_sJ, kC_sR, kC_sA, kC_sB, kC_sC, kN_sI, kN_sJ, kN_sR, kN_sA, kN_sB, kN_sC]; done)
def q_pfig (x : kw_St) (k : Nat) (w : Int32) : Int32 := if w = 0 then kI x 201 k else if w = 1 then kI x 202 k else if w = 2 then kI x 203 k else if w = 3 then kI x 205 k else if w = 4 then kI x 206 k else if w = 5 then kI x 207 k else if w = 6 then (if kI x 204 k = 0 then 0 else 1) else -1
set_option maxHeartbeats 1000000 in
set_option maxRecDepth 100000 in
/-- Packet.figure -/
theorem c_X3_figure (l : Launch) (G : kw_G) (nu : Nat → Option Nat) (x : kw_St) (k : Nat) (w : Int32) (hk : nu k = some 4)  : kw_M l G yX3_figure wsX3_figure { frames := 0, cells := 0, slots := 0, locals := 0 } 0 0 [.ref k, .int (w)] nu x (kw_P nu (some (.int (q_pfig x k w))) (x)) := by
  refine kw_M.ofW (cc := cX3_figure) (maxL := 2) (ret := (some .int)) (by decide) rfl (Nat.le_of_ble_eq_true rfl) ?_
  intro p e s m args below meth c A ls S hr hlk hnm hK hZ hA hW hS hl
  have hl : lv_has ls 2 [(0, .ref k), (1, .int (w))] := hl
  have iX3 : ∀ w ∈ wsX30, w ∈ wsX3_figure := by decide +kernel
  refine lv_iload_n S.1 S.2.1 dX3_figure_0 rfl (lv_at hl 1 rfl) ?_
  by_cases w1 : w = 0
  · skip
    subst w1
    refine lv_tableIn (tgt := 44) S.1 S.2.1 dX3_figure_1 (by decide) (by decide) rfl (by decide) ?_
    refine lv_aload_n S.1 S.2.1 dX3_figure_44 rfl (lv_at hl 0 rfl) ?_
    refine kx_gI S hK hW hk 1 201 rfl iX3 (by decide) rfl rfl (by decide) (by decide +kernel) dX3_figure_45 (v := kI x 201 k) rfl ?_
    refine kw_iret S hr hlk hW hS (by decide) (by decide) dX3_figure_48 ?_
    refine ⟨?_, rfl, ?_⟩ <;> first | rfl | (simp [q_pfig, kw_b]; done) | (simp [q_pfig, kw_b, kI_sNew, kJ_sNew, kR_sNew, kN_sNew, kI_sI, kI_sJ, kI_sR, kI_sA, kI_sB, kI_sC, kJ_sI, kJ_sJ, kJ_sR, kJ_sA, kJ_sB, kJ_sC, kR_sI, kR_sJ, kR_sR, kR_sA, kR_sB, kR_sC, kA_sI, kA_sJ, kA_sR, kA_sA, kA_sB, kA_sC, kB_sI, kB_sJ, kB_sR, kB_sA, kB_sB, kB_sC, kC_sI, kC_sJ, kC_sR, kC_sA, kC_sB, kC_sC, kN_sI, kN_sJ, kN_sR, kN_sA, kN_sB, kN_sC]; done)
  by_cases w2 : w = 1
  · skip
    subst w2
    refine lv_tableIn (tgt := 49) S.1 S.2.1 dX3_figure_1 (by decide) (by decide) rfl (by decide) ?_
    refine lv_aload_n S.1 S.2.1 dX3_figure_49 rfl (lv_at hl 0 rfl) ?_
    refine kx_gI S hK hW hk 2 202 rfl iX3 (by decide) rfl rfl (by decide) (by decide +kernel) dX3_figure_50 (v := kI x 202 k) rfl ?_
    refine kw_iret S hr hlk hW hS (by decide) (by decide) dX3_figure_53 ?_
    refine ⟨?_, rfl, ?_⟩ <;> first | rfl | (simp [q_pfig, w1, kw_b]; done) | (simp [q_pfig, w1, kw_b, kI_sNew, kJ_sNew, kR_sNew, kN_sNew, kI_sI, kI_sJ, kI_sR, kI_sA, kI_sB, kI_sC, kJ_sI, kJ_sJ, kJ_sR, kJ_sA, kJ_sB, kJ_sC, kR_sI, kR_sJ, kR_sR, kR_sA, kR_sB, kR_sC, kA_sI, kA_sJ, kA_sR, kA_sA, kA_sB, kA_sC, kB_sI, kB_sJ, kB_sR, kB_sA, kB_sB, kB_sC, kC_sI, kC_sJ, kC_sR, kC_sA, kC_sB, kC_sC, kN_sI, kN_sJ, kN_sR, kN_sA, kN_sB, kN_sC]; done)
  by_cases w3 : w = 2
  · skip
    subst w3
    refine lv_tableIn (tgt := 54) S.1 S.2.1 dX3_figure_1 (by decide) (by decide) rfl (by decide) ?_
    refine lv_aload_n S.1 S.2.1 dX3_figure_54 rfl (lv_at hl 0 rfl) ?_
    refine kx_gI S hK hW hk 3 203 rfl iX3 (by decide) rfl rfl (by decide) (by decide +kernel) dX3_figure_55 (v := kI x 203 k) rfl ?_
    refine kw_iret S hr hlk hW hS (by decide) (by decide) dX3_figure_58 ?_
    refine ⟨?_, rfl, ?_⟩ <;> first | rfl | (simp [q_pfig, w1, w2, kw_b]; done) | (simp [q_pfig, w1, w2, kw_b, kI_sNew, kJ_sNew, kR_sNew, kN_sNew, kI_sI, kI_sJ, kI_sR, kI_sA, kI_sB, kI_sC, kJ_sI, kJ_sJ, kJ_sR, kJ_sA, kJ_sB, kJ_sC, kR_sI, kR_sJ, kR_sR, kR_sA, kR_sB, kR_sC, kA_sI, kA_sJ, kA_sR, kA_sA, kA_sB, kA_sC, kB_sI, kB_sJ, kB_sR, kB_sA, kB_sB, kB_sC, kC_sI, kC_sJ, kC_sR, kC_sA, kC_sB, kC_sC, kN_sI, kN_sJ, kN_sR, kN_sA, kN_sB, kN_sC]; done)
  by_cases w4 : w = 3
  · skip
    subst w4
    refine lv_tableIn (tgt := 59) S.1 S.2.1 dX3_figure_1 (by decide) (by decide) rfl (by decide) ?_
    refine lv_aload_n S.1 S.2.1 dX3_figure_59 rfl (lv_at hl 0 rfl) ?_
    refine kx_gI S hK hW hk 5 205 rfl iX3 (by decide) rfl rfl (by decide) (by decide +kernel) dX3_figure_60 (v := kI x 205 k) rfl ?_
    refine kw_iret S hr hlk hW hS (by decide) (by decide) dX3_figure_63 ?_
    refine ⟨?_, rfl, ?_⟩ <;> first | rfl | (simp [q_pfig, w1, w2, w3, kw_b]; done) | (simp [q_pfig, w1, w2, w3, kw_b, kI_sNew, kJ_sNew, kR_sNew, kN_sNew, kI_sI, kI_sJ, kI_sR, kI_sA, kI_sB, kI_sC, kJ_sI, kJ_sJ, kJ_sR, kJ_sA, kJ_sB, kJ_sC, kR_sI, kR_sJ, kR_sR, kR_sA, kR_sB, kR_sC, kA_sI, kA_sJ, kA_sR, kA_sA, kA_sB, kA_sC, kB_sI, kB_sJ, kB_sR, kB_sA, kB_sB, kB_sC, kC_sI, kC_sJ, kC_sR, kC_sA, kC_sB, kC_sC, kN_sI, kN_sJ, kN_sR, kN_sA, kN_sB, kN_sC]; done)
  by_cases w5 : w = 4
  · skip
    subst w5
    refine lv_tableIn (tgt := 64) S.1 S.2.1 dX3_figure_1 (by decide) (by decide) rfl (by decide) ?_
    refine lv_aload_n S.1 S.2.1 dX3_figure_64 rfl (lv_at hl 0 rfl) ?_
    refine kx_gI S hK hW hk 6 206 rfl iX3 (by decide) rfl rfl (by decide) (by decide +kernel) dX3_figure_65 (v := kI x 206 k) rfl ?_
    refine kw_iret S hr hlk hW hS (by decide) (by decide) dX3_figure_68 ?_
    refine ⟨?_, rfl, ?_⟩ <;> first | rfl | (simp [q_pfig, w1, w2, w3, w4, kw_b]; done) | (simp [q_pfig, w1, w2, w3, w4, kw_b, kI_sNew, kJ_sNew, kR_sNew, kN_sNew, kI_sI, kI_sJ, kI_sR, kI_sA, kI_sB, kI_sC, kJ_sI, kJ_sJ, kJ_sR, kJ_sA, kJ_sB, kJ_sC, kR_sI, kR_sJ, kR_sR, kR_sA, kR_sB, kR_sC, kA_sI, kA_sJ, kA_sR, kA_sA, kA_sB, kA_sC, kB_sI, kB_sJ, kB_sR, kB_sA, kB_sB, kB_sC, kC_sI, kC_sJ, kC_sR, kC_sA, kC_sB, kC_sC, kN_sI, kN_sJ, kN_sR, kN_sA, kN_sB, kN_sC]; done)
  by_cases w6 : w = 5
  · skip
    subst w6
    refine lv_tableIn (tgt := 69) S.1 S.2.1 dX3_figure_1 (by decide) (by decide) rfl (by decide) ?_
    refine lv_aload_n S.1 S.2.1 dX3_figure_69 rfl (lv_at hl 0 rfl) ?_
    refine kx_gI S hK hW hk 7 207 rfl iX3 (by decide) rfl rfl (by decide) (by decide +kernel) dX3_figure_70 (v := kI x 207 k) rfl ?_
    refine kw_iret S hr hlk hW hS (by decide) (by decide) dX3_figure_73 ?_
    refine ⟨?_, rfl, ?_⟩ <;> first | rfl | (simp [q_pfig, w1, w2, w3, w4, w5, kw_b]; done) | (simp [q_pfig, w1, w2, w3, w4, w5, kw_b, kI_sNew, kJ_sNew, kR_sNew, kN_sNew, kI_sI, kI_sJ, kI_sR, kI_sA, kI_sB, kI_sC, kJ_sI, kJ_sJ, kJ_sR, kJ_sA, kJ_sB, kJ_sC, kR_sI, kR_sJ, kR_sR, kR_sA, kR_sB, kR_sC, kA_sI, kA_sJ, kA_sR, kA_sA, kA_sB, kA_sC, kB_sI, kB_sJ, kB_sR, kB_sA, kB_sB, kB_sC, kC_sI, kC_sJ, kC_sR, kC_sA, kC_sB, kC_sC, kN_sI, kN_sJ, kN_sR, kN_sA, kN_sB, kN_sC]; done)
  by_cases w7 : w = 6
  · skip
    subst w7
    refine lv_tableIn (tgt := 74) S.1 S.2.1 dX3_figure_1 (by decide) (by decide) rfl (by decide) ?_
    refine lv_aload_n S.1 S.2.1 dX3_figure_74 rfl (lv_at hl 0 rfl) ?_
    refine kx_gI S hK hW hk 4 204 rfl iX3 (by decide) rfl rfl (by decide) (by decide +kernel) dX3_figure_75 (v := kI x 204 k) rfl ?_
    refine lv_if_eq (tgt := 85) S.1 S.2.1 dX3_figure_78 (by decide) (fun c8 => ?_) (fun c8 => ?_)
    · skip
      refine lv_iconst (v := 0) S.1 S.2.1 dX3_figure_85 (by decide) ?_
      refine kw_iret S hr hlk hW hS (by decide) (by decide) dX3_figure_86 ?_
      refine ⟨?_, rfl, ?_⟩ <;> first | rfl | (simp [q_pfig, w1, w2, w3, w4, w5, w6, c8, kw_b]; done) | (simp [q_pfig, w1, w2, w3, w4, w5, w6, c8, kw_b, kI_sNew, kJ_sNew, kR_sNew, kN_sNew, kI_sI, kI_sJ, kI_sR, kI_sA, kI_sB, kI_sC, kJ_sI, kJ_sJ, kJ_sR, kJ_sA, kJ_sB, kJ_sC, kR_sI, kR_sJ, kR_sR, kR_sA, kR_sB, kR_sC, kA_sI, kA_sJ, kA_sR, kA_sA, kA_sB, kA_sC, kB_sI, kB_sJ, kB_sR, kB_sA, kB_sB, kB_sC, kC_sI, kC_sJ, kC_sR, kC_sA, kC_sB, kC_sC, kN_sI, kN_sJ, kN_sR, kN_sA, kN_sB, kN_sC]; done)
    · skip
      refine lv_iconst (v := 1) S.1 S.2.1 dX3_figure_81 (by decide) ?_
      refine lv_goto (tgt := 86) S.1 S.2.1 dX3_figure_82 (by decide) ?_
      refine kw_iret S hr hlk hW hS (by decide) (by decide) dX3_figure_86 ?_
      refine ⟨?_, rfl, ?_⟩ <;> first | rfl | (simp [q_pfig, w1, w2, w3, w4, w5, w6, c8, kw_b]; done) | (simp [q_pfig, w1, w2, w3, w4, w5, w6, c8, kw_b, kI_sNew, kJ_sNew, kR_sNew, kN_sNew, kI_sI, kI_sJ, kI_sR, kI_sA, kI_sB, kI_sC, kJ_sI, kJ_sJ, kJ_sR, kJ_sA, kJ_sB, kJ_sC, kR_sI, kR_sJ, kR_sR, kR_sA, kR_sB, kR_sC, kA_sI, kA_sJ, kA_sR, kA_sA, kA_sB, kA_sC, kB_sI, kB_sJ, kB_sR, kB_sA, kB_sB, kB_sC, kC_sI, kC_sJ, kC_sR, kC_sA, kC_sB, kC_sC, kN_sI, kN_sJ, kN_sR, kN_sA, kN_sB, kN_sC]; done)
  refine lv_tableOut (tgt := 87) S.1 S.2.1 dX3_figure_1 (kw_out7 w1 w2 w3 w4 w5 w6 w7) (by decide) ?_
  refine lv_iconst (v := (-1)) S.1 S.2.1 dX3_figure_87 (by decide) ?_
  refine kw_iret S hr hlk hW hS (by decide) (by decide) dX3_figure_88 ?_
  refine ⟨?_, rfl, ?_⟩ <;> first | rfl | (simp [q_pfig, w1, w2, w3, w4, w5, w6, w7, kw_b]; done) | (simp [q_pfig, w1, w2, w3, w4, w5, w6, w7, kw_b, kI_sNew, kJ_sNew, kR_sNew, kN_sNew, kI_sI, kI_sJ, kI_sR, kI_sA, kI_sB, kI_sC, kJ_sI, kJ_sJ, kJ_sR, kJ_sA, kJ_sB, kJ_sC, kR_sI, kR_sJ, kR_sR, kR_sA, kR_sB, kR_sC, kA_sI, kA_sJ, kA_sR, kA_sA, kA_sB, kA_sC, kB_sI, kB_sJ, kB_sR, kB_sA, kB_sB, kB_sC, kC_sI, kC_sJ, kC_sR, kC_sA, kC_sB, kC_sC, kN_sI, kN_sJ, kN_sR, kN_sA, kN_sB, kN_sC]; done)
end
section
/-! Leaf: its fields, what its methods answer and do -/
set_option maxHeartbeats 1000000 in
set_option maxRecDepth 100000 in
/-- Leaf(group, weight, guarantee, ceiling, limit) -/
theorem c_X2_init (l : Launch) (G : kw_G) (nu : Nat → Option Nat) (x : kw_St) (a : Nat) (g : Nat) (w : Int32) (gu : Int32) (b : Nat) (li : Int32) (ha : nu a = some 3)  : kw_M l G yX2_init wsX2_init { frames := 1, cells := 0, slots := 0, locals := 20 } 0 0 [.ref a, .ref g, .int (w), .int (gu), .ref b, .int (li)] nu x (kw_P nu (none) (sI (sR (sI (sI (sR x 150 a (some g)) 151 a w) 152 a gu) 153 a (some b)) 154 a li)) := by
  refine kw_M.ofW (cc := cX2_init) (maxL := 6) (ret := none) (by decide) rfl (Nat.le_of_ble_eq_true rfl) ?_
  intro p e s m args below meth c A ls S hr hlk hnm hK hZ hA hW hS hl
  have hl : lv_has ls 6 [(0, .ref a), (1, .ref g), (2, .int (w)), (3, .int (gu)), (4, .ref b), (5, .int (li))] := hl
  have iX2 : ∀ w ∈ wsX20, w ∈ wsX2_init := by decide +kernel
  refine lv_aload_n S.1 S.2.1 dX2_init_0 rfl (lv_at hl 0 rfl) ?_
  refine W.objInit S.1 S.2.1 S.2.2.2.1 (S.2.2.2.2 _ (by decide +kernel)) (S.2.2.2.2 _ (by decide +kernel)) (S.2.2.2.2 _ (by decide +kernel)) rfl (by rw [S.2.2.1]; exact hl.1) rfl dX2_init_1 (Nat.le_of_ble_eq_true rfl) (Nat.le_of_ble_eq_true rfl) ?_
  refine W.eq (g2 := F0 m 4 ls []) rfl ?_
  refine lv_aload_n S.1 S.2.1 dX2_init_4 rfl (lv_at hl 0 rfl) ?_
  refine lv_aload_n S.1 S.2.1 dX2_init_5 rfl (lv_at hl 1 rfl) ?_
  refine kx_pA S hK hW hS ha 0 150  rfl iX2 tyX2_ok nmX2 (by decide) rfl rfl (by decide) (by decide +kernel) (Or.inr ⟨rfl, hnm, rfl⟩) rfl (Or.inl ⟨_, rfl⟩) dX2_init_6 (fun H locs hW hS => ?_)
  refine lv_aload_n S.1 S.2.1 dX2_init_9 rfl (lv_at hl 0 rfl) ?_
  refine lv_iload_n S.1 S.2.1 dX2_init_10 rfl (lv_at hl 2 rfl) ?_
  refine kx_pI S hK hW hS ha 1 151  rfl iX2 tyX2_ok nmX2 (by decide) rfl rfl (by decide) (by decide +kernel) (Or.inr ⟨rfl, hnm, rfl⟩) rfl dX2_init_11 (fun H locs hW hS => ?_)
  refine lv_aload_n S.1 S.2.1 dX2_init_14 rfl (lv_at hl 0 rfl) ?_
  refine lv_iload_n S.1 S.2.1 dX2_init_15 rfl (lv_at hl 3 rfl) ?_
  refine kx_pI S hK hW hS ha 2 152  rfl iX2 tyX2_ok nmX2 (by decide) rfl rfl (by decide) (by decide +kernel) (Or.inr ⟨rfl, hnm, rfl⟩) rfl dX2_init_16 (fun H locs hW hS => ?_)
  refine lv_aload_n S.1 S.2.1 dX2_init_19 rfl (lv_at hl 0 rfl) ?_
  refine lv_aload S.1 S.2.1 dX2_init_20 (lv_at hl 4 rfl) ?_
  refine kx_pA S hK hW hS ha 3 153  rfl iX2 tyX2_ok nmX2 (by decide) rfl rfl (by decide) (by decide +kernel) (Or.inr ⟨rfl, hnm, rfl⟩) rfl (Or.inl ⟨_, rfl⟩) dX2_init_22 (fun H locs hW hS => ?_)
  refine lv_aload_n S.1 S.2.1 dX2_init_25 rfl (lv_at hl 0 rfl) ?_
  refine lv_iload S.1 S.2.1 dX2_init_26 (lv_at hl 5 rfl) ?_
  refine kx_pI S hK hW hS ha 4 154  rfl iX2 tyX2_ok nmX2 (by decide) rfl rfl (by decide) (by decide +kernel) (Or.inr ⟨rfl, hnm, rfl⟩) rfl dX2_init_28 (fun H locs hW hS => ?_)
  refine kw_vret S hr hlk hW hS (by decide) (by decide) dX2_init_31 ?_
  refine ⟨?_, rfl, ?_⟩ <;> first | rfl | (simp [kw_b]; done) | (simp [kw_b, kI_sNew, kJ_sNew, kR_sNew, kN_sNew, kI_sI, kI_sJ, kI_sR, kI_sA, kI_sB, kI_sC, kJ_sI, kJ_sJ, kJ_sR, kJ_sA, kJ_sB, kJ_sC, kR_sI, kR_sJ, kR_sR, kR_sA, kR_sB, kR_sC, kA_sI, kA_sJ, kA_sR, kA_sA, kA_sB, kA_sC, kB_sI, kB_sJ, kB_sR, kB_sA, kB_sB, kB_sC, kC_sI, kC_sJ, kC_sR, kC_sA, kC_sB, kC_sC, kN_sI, kN_sJ, kN_sR, kN_sA, kN_sB, kN_sC]; done)
def q_start (x : kw_St) (a : Nat) : Int32 := match kR x 157 a with
  | none => 2147483647
  | some k => if 0 < kI x 152 a then (if kI x 165 a < kI x 203 k then kI x 203 k else kI x 165 a) else 2147483647
def q_dl (x : kw_St) (a : Nat) : Int32 := match kR x 157 a with
  | none => 2147483647
  | some k => if 0 < kI x 152 a then q_start x a + (1000 * kI x 202 k + kI x 152 a - 1) / kI x 152 a else 2147483647
def q_rdy (x : kw_St) (a b gb : Nat) : Bool := match kR x 157 a with
  | none => false
  | some k => decide (¬ kJ x 52 b < 1000 * (kI x 202 k).toInt64) && decide (¬ kJ x 52 gb < 1000 * (kI x 202 k).toInt64)
def q_held (x : kw_St) (a b gb : Nat) : Bool := match kR x 157 a with
  | none => false
  | some _ => !(q_rdy x a b gb)
def q_ltag (x : kw_St) (a : Nat) : Int64 := match kR x 157 a with
  | none => kJ x 167 a
  | some k => if 0 < kI x 151 a then kJ x 167 a + 27720 * (kI x 202 k).toInt64 / (kI x 151 a).toInt64 else kJ x 167 a
def q_lgtag (x : kw_St) (a g : Nat) : Int64 := match kR x 157 a with
  | none => kJ x 104 g
  | some k => q_gtag x g (kI x 202 k)
def q_tmg (x : kw_St) (a b gb : Nat) (t : Int32) : Int64 := match kR x 157 a with
  | none => 2147483647
  | some k => if (if q_tuc x gb (kI x 202 k) < q_tuc x b (kI x 202 k) then q_tuc x b (kI x 202 k) else q_tuc x gb (kI x 202 k)) < (q_start x a - t).toInt64 then (if q_tuc x gb (kI x 202 k) < q_tuc x b (kI x 202 k) then q_tuc x b (kI x 202 k) else q_tuc x gb (kI x 202 k)) else (q_start x a - t).toInt64
def q_pays (x : kw_St) (a : Nat) (z : Int32) : Bool := match kR x 155 a with
  | none => true
  | some k => decide (¬ kJ x 52 k < 1000 * z.toInt64)
def q_payx (x : kw_St) (a : Nat) (z : Int32) : kw_St := match kR x 155 a with
  | none => x
  | some k => if kJ x 52 k < 1000 * z.toInt64 then x else sJ x 52 k (kJ x 52 k - 1000 * z.toInt64)
def q_catch (x : kw_St) (a g : Nat) (m : Int64) : kw_St := match kR x 157 a with
  | none => if kI x 103 g = 0 then sJ (sJ x 167 a (if kJ x 105 g < kJ x 167 a then kJ x 167 a else kJ x 105 g)) 104 g (if m < kJ x 104 g then kJ x 104 g else m) else sJ x 167 a (if kJ x 105 g < kJ x 167 a then kJ x 167 a else kJ x 105 g)
  | some _ => if kI x 103 g = 0 then sJ x 104 g (if m < kJ x 104 g then kJ x 104 g else m) else x
def q_app (x : kw_St) (a g k : Nat) : kw_St := match kR x 158 a with
  | none => sI (sI (sI (sR (sR x 157 a (some k)) 158 a (some k)) 159 a (kI x 159 a + 1)) 160 a (kI x 160 a + kI x 202 k)) 103 g (kI x 103 g + 1)
  | some h => sI (sI (sI (sR (sR x 208 h (some k)) 158 a (some k)) 159 a (kI x 159 a + 1)) 160 a (kI x 160 a + kI x 202 k)) 103 g (kI x 103 g + 1)
/-- the first packet k of a class leaves -/
def q_rem (x : kw_St) (a g b gb k : Nat) (t : Int32) : kw_St := match kR x 208 k with
  | none => sJ (sJ (sI (sI (sI (sI (sR (sR (sR x 157 a none) 158 a none) 208 k none) 205 k t) 159 a (kI x 159 a - 1)) 160 a (kI x 160 a - kI x 202 k)) 103 g (kI x 103 g - 1)) 52 b (kJ x 52 b - 1000 * (kI x 202 k).toInt64)) 52 gb (kJ x 52 gb - 1000 * (kI x 202 k).toInt64)
  | some h => sJ (sJ (sI (sI (sI (sI (sR (sR x 157 a (some h)) 208 k none) 205 k t) 159 a (kI x 159 a - 1)) 160 a (kI x 160 a - kI x 202 k)) 103 g (kI x 103 g - 1)) 52 b (kJ x 52 b - 1000 * (kI x 202 k).toInt64)) 52 gb (kJ x 52 gb - 1000 * (kI x 202 k).toInt64)
def q_lfig (x : kw_St) (a : Nat) (w : Int32) : Int32 := if w = 0 then kI x 159 a else if w = 1 then kI x 160 a else if w = 2 then kI x 161 a else if w = 3 then kI x 162 a else if w = 4 then kI x 163 a else if w = 5 then kI x 164 a else if w = 6 then kI x 165 a else if w = 7 then kI x 166 a else -1
theorem kw_d1 {r : Int32} (h : 0 < r) : ¬ r = 0 := by
  intro e
  rw [e] at h
  exact absurd h (by decide)
set_option maxHeartbeats 1000000 in
set_option maxRecDepth 100000 in
/-- Leaf.start -/
theorem c_X2_start (l : Launch) (G : kw_G) (nu : Nat → Option Nat) (x : kw_St) (a : Nat) (ha : nu a = some 3) (hfi : ∀ k, kR x 157 a = some k → nu k = some 4) : kw_M l G yX2_start wsX2_start { frames := 1, cells := 0, slots := 0, locals := 23 } 0 0 [.ref a] nu x (kw_P nu (some (.int (q_start x a))) (x)) := by
  refine kw_M.ofW (cc := cX2_start) (maxL := 1) (ret := (some .int)) (by decide) rfl (Nat.le_of_ble_eq_true rfl) ?_
  intro p e s m args below meth c A ls S hr hlk hnm hK hZ hA hW hS hl
  have hl : lv_has ls 1 [(0, .ref a)] := hl
  have iX2 : ∀ w ∈ wsX20, w ∈ wsX2_start := by decide +kernel
  have iX3 : ∀ w ∈ wsX30, w ∈ wsX2_start := by decide +kernel
  refine lv_aload_n S.1 S.2.1 dX2_start_0 rfl (lv_at hl 0 rfl) ?_
  rcases o1 : kR x 157 a with _ | p2
  · skip
    refine kx_gN S hK hW ha 7 157 rfl iX2 (by decide) rfl rfl (by decide) (by decide +kernel) dX2_start_1 o1 ?_
    refine lv_ifnullN (tgt := 14) S.1 S.2.1 dX2_start_4 (by decide) ?_
    refine lv_ldc (v := 2147483647) S.1 S.2.1 S.2.2.2.1 (S.2.2.2.2 _ (by decide +kernel)) dX2_start_14 ?_
    refine lv_goto (tgt := 33) S.1 S.2.1 dX2_start_16 (by decide) ?_
    refine kw_iret S hr hlk hW hS (by decide) (by decide) dX2_start_33 ?_
    refine ⟨?_, rfl, ?_⟩ <;> first | rfl | (simp [q_start, o1, kw_b]; done) | (simp [q_start, o1, kw_b, kI_sNew, kJ_sNew, kR_sNew, kN_sNew, kI_sI, kI_sJ, kI_sR, kI_sA, kI_sB, kI_sC, kJ_sI, kJ_sJ, kJ_sR, kJ_sA, kJ_sB, kJ_sC, kR_sI, kR_sJ, kR_sR, kR_sA, kR_sB, kR_sC, kA_sI, kA_sJ, kA_sR, kA_sA, kA_sB, kA_sC, kB_sI, kB_sJ, kB_sR, kB_sA, kB_sB, kB_sC, kC_sI, kC_sJ, kC_sR, kC_sA, kC_sB, kC_sC, kN_sI, kN_sJ, kN_sR, kN_sA, kN_sB, kN_sC]; done)
  · skip
    refine kx_gA S hK hW ha 7 157 rfl iX2 (by decide) rfl rfl (by decide) (by decide +kernel) dX2_start_1 (b := p2) o1 ?_
    refine lv_ifnull S.1 S.2.1 dX2_start_4 ?_
    refine lv_aload_n S.1 S.2.1 dX2_start_7 rfl (lv_at hl 0 rfl) ?_
    refine kx_gI S hK hW ha 2 152 rfl iX2 (by decide) rfl rfl (by decide) (by decide +kernel) dX2_start_8 (v := kI x 152 a) rfl ?_
    refine lv_if_gt (tgt := 19) S.1 S.2.1 dX2_start_11 (by decide) (fun c3 => ?_) (fun c3 => ?_)
    · skip
      refine lv_aload_n S.1 S.2.1 dX2_start_19 rfl (lv_at hl 0 rfl) ?_
      refine kx_gI S hK hW ha 15 165 rfl iX2 (by decide) rfl rfl (by decide) (by decide +kernel) dX2_start_20 (v := kI x 165 a) rfl ?_
      refine lv_aload_n S.1 S.2.1 dX2_start_23 rfl (lv_at hl 0 rfl) ?_
      refine kx_gA S hK hW ha 7 157 rfl iX2 (by decide) rfl rfl (by decide) (by decide +kernel) dX2_start_24 (b := p2) o1 ?_
      refine kx_gI S hK hW (hfi p2 o1) 3 203 rfl iX3 (by decide) rfl rfl (by decide) (by decide +kernel) dX2_start_27 (v := kI x 203 p2) rfl ?_
      refine kx_maxi S hl.1 (by decide +kernel) (by decide +kernel) (by decide +kernel) (by decide +kernel) (Nat.le_of_ble_eq_true rfl) (Nat.le_of_ble_eq_true rfl) (by first | exact Nat.le_of_ble_eq_true rfl | exact Nat.le_refl _ | exact Nat.le_of_eq (Nat.zero_add _)) (by first | exact Nat.le_of_ble_eq_true rfl | exact Nat.le_of_eq (Nat.zero_add _) | exact Nat.le_refl _) dX2_start_30 ?_
      refine kw_iret S hr hlk hW hS (by decide) (by decide) dX2_start_33 ?_
      refine ⟨?_, rfl, ?_⟩ <;> first | rfl | (simp [q_start, o1, c3, kw_b]; done) | (simp [q_start, o1, c3, kw_b, kI_sNew, kJ_sNew, kR_sNew, kN_sNew, kI_sI, kI_sJ, kI_sR, kI_sA, kI_sB, kI_sC, kJ_sI, kJ_sJ, kJ_sR, kJ_sA, kJ_sB, kJ_sC, kR_sI, kR_sJ, kR_sR, kR_sA, kR_sB, kR_sC, kA_sI, kA_sJ, kA_sR, kA_sA, kA_sB, kA_sC, kB_sI, kB_sJ, kB_sR, kB_sA, kB_sB, kB_sC, kC_sI, kC_sJ, kC_sR, kC_sA, kC_sB, kC_sC, kN_sI, kN_sJ, kN_sR, kN_sA, kN_sB, kN_sC]; done)
    · skip
      refine lv_ldc (v := 2147483647) S.1 S.2.1 S.2.2.2.1 (S.2.2.2.2 _ (by decide +kernel)) dX2_start_14 ?_
      refine lv_goto (tgt := 33) S.1 S.2.1 dX2_start_16 (by decide) ?_
      refine kw_iret S hr hlk hW hS (by decide) (by decide) dX2_start_33 ?_
      refine ⟨?_, rfl, ?_⟩ <;> first | rfl | (simp [q_start, o1, c3, kw_b]; done) | (simp [q_start, o1, c3, kw_b, kI_sNew, kJ_sNew, kR_sNew, kN_sNew, kI_sI, kI_sJ, kI_sR, kI_sA, kI_sB, kI_sC, kJ_sI, kJ_sJ, kJ_sR, kJ_sA, kJ_sB, kJ_sC, kR_sI, kR_sJ, kR_sR, kR_sA, kR_sB, kR_sC, kA_sI, kA_sJ, kA_sR, kA_sA, kA_sB, kA_sC, kB_sI, kB_sJ, kB_sR, kB_sA, kB_sB, kB_sC, kC_sI, kC_sJ, kC_sR, kC_sA, kC_sB, kC_sC, kN_sI, kN_sJ, kN_sR, kN_sA, kN_sB, kN_sC]; done)
set_option maxHeartbeats 1000000 in
set_option maxRecDepth 100000 in
/-- Leaf.deadline -/
theorem c_X2_deadline (l : Launch) (G : kw_G) (nu : Nat → Option Nat) (x : kw_St) (a : Nat) (ha : nu a = some 3) (hfi : ∀ k, kR x 157 a = some k → nu k = some 4) : kw_M l G yX2_deadline wsX2_deadline { frames := 2, cells := 0, slots := 0, locals := 43 } 0 0 [.ref a] nu x (kw_P nu (some (.int (q_dl x a))) (x)) := by
  refine kw_M.ofW (cc := cX2_deadline) (maxL := 1) (ret := (some .int)) (by decide) rfl (Nat.le_of_ble_eq_true rfl) ?_
  intro p e s m args below meth c A ls S hr hlk hnm hK hZ hA hW hS hl
  have hl : lv_has ls 1 [(0, .ref a)] := hl
  have iX2 : ∀ w ∈ wsX20, w ∈ wsX2_deadline := by decide +kernel
  have iX3 : ∀ w ∈ wsX30, w ∈ wsX2_deadline := by decide +kernel
  refine lv_aload_n S.1 S.2.1 dX2_deadline_0 rfl (lv_at hl 0 rfl) ?_
  rcases o1 : kR x 157 a with _ | p2
  · skip
    refine kx_gN S hK hW ha 7 157 rfl iX2 (by decide) rfl rfl (by decide) (by decide +kernel) dX2_deadline_1 o1 ?_
    refine lv_ifnullN (tgt := 14) S.1 S.2.1 dX2_deadline_4 (by decide) ?_
    refine lv_ldc (v := 2147483647) S.1 S.2.1 S.2.2.2.1 (S.2.2.2.2 _ (by decide +kernel)) dX2_deadline_14 ?_
    refine kw_iret S hr hlk hW hS (by decide) (by decide) dX2_deadline_16 ?_
    refine ⟨?_, rfl, ?_⟩ <;> first | rfl | (simp [q_dl, o1, kw_b]; done) | (simp [q_dl, o1, kw_b, kI_sNew, kJ_sNew, kR_sNew, kN_sNew, kI_sI, kI_sJ, kI_sR, kI_sA, kI_sB, kI_sC, kJ_sI, kJ_sJ, kJ_sR, kJ_sA, kJ_sB, kJ_sC, kR_sI, kR_sJ, kR_sR, kR_sA, kR_sB, kR_sC, kA_sI, kA_sJ, kA_sR, kA_sA, kA_sB, kA_sC, kB_sI, kB_sJ, kB_sR, kB_sA, kB_sB, kB_sC, kC_sI, kC_sJ, kC_sR, kC_sA, kC_sB, kC_sC, kN_sI, kN_sJ, kN_sR, kN_sA, kN_sB, kN_sC]; done)
  · skip
    refine kx_gA S hK hW ha 7 157 rfl iX2 (by decide) rfl rfl (by decide) (by decide +kernel) dX2_deadline_1 (b := p2) o1 ?_
    refine lv_ifnull S.1 S.2.1 dX2_deadline_4 ?_
    refine lv_aload_n S.1 S.2.1 dX2_deadline_7 rfl (lv_at hl 0 rfl) ?_
    refine kx_gI S hK hW ha 2 152 rfl iX2 (by decide) rfl rfl (by decide) (by decide +kernel) dX2_deadline_8 (v := kI x 152 a) rfl ?_
    refine lv_if_gt (tgt := 17) S.1 S.2.1 dX2_deadline_11 (by decide) (fun c3 => ?_) (fun c3 => ?_)
    · skip
      refine lv_aload_n S.1 S.2.1 dX2_deadline_17 rfl (lv_at hl 0 rfl) ?_
      refine kx_cV (As := []) (rest := []) (st1 := [.int (q_start x a)]) S hK hZ hA hW hS (c_X2_start l G nu x a ha hfi) (cwV 0 S.2.2.2.2 gX2_deadline_X2_start rfl rfl rfl (by decide +kernel) ⟨Nat.le_of_ble_eq_true rfl, Nat.le_of_ble_eq_true rfl⟩) ha (by decide) rfl rfl hl.1 rfl (Nat.le_of_ble_eq_true rfl) dX2_deadline_18 ⟨Nat.le_of_ble_eq_true rfl, Nat.le_of_ble_eq_true rfl⟩ rfl (fun H locs hW hS => ?_)
      refine lv_sipush (v := 1000) S.1 S.2.1 dX2_deadline_21 (by decide) ?_
      refine lv_aload_n S.1 S.2.1 dX2_deadline_24 rfl (lv_at hl 0 rfl) ?_
      refine kx_gA S hK hW ha 7 157 rfl iX2 (by decide) rfl rfl (by decide) (by decide +kernel) dX2_deadline_25 (b := p2) o1 ?_
      refine kx_gI S hK hW (hfi p2 o1) 2 202 rfl iX3 (by decide) rfl rfl (by decide) (by decide +kernel) dX2_deadline_28 (v := kI x 202 p2) rfl ?_
      refine lv_imul S.1 S.2.1 dX2_deadline_31 ?_
      refine lv_aload_n S.1 S.2.1 dX2_deadline_32 rfl (lv_at hl 0 rfl) ?_
      refine kx_gI S hK hW ha 2 152 rfl iX2 (by decide) rfl rfl (by decide) (by decide +kernel) dX2_deadline_33 (v := kI x 152 a) rfl ?_
      refine lv_iadd S.1 S.2.1 dX2_deadline_36 ?_
      refine lv_iconst (v := 1) S.1 S.2.1 dX2_deadline_37 (by decide) ?_
      refine lv_isub S.1 S.2.1 dX2_deadline_38 ?_
      refine lv_aload_n S.1 S.2.1 dX2_deadline_39 rfl (lv_at hl 0 rfl) ?_
      refine kx_gI S hK hW ha 2 152 rfl iX2 (by decide) rfl rfl (by decide) (by decide +kernel) dX2_deadline_40 (v := kI x 152 a) rfl ?_
      refine lv_idiv S.1 S.2.1 dX2_deadline_43 (kw_d1 (by assumption)) ?_
      refine lv_iadd S.1 S.2.1 dX2_deadline_44 ?_
      refine kw_iret S hr hlk hW hS (by decide) (by decide) dX2_deadline_45 ?_
      refine ⟨?_, rfl, ?_⟩ <;> first | rfl | (simp [q_dl, o1, c3, kw_b]; done) | (simp [q_dl, o1, c3, kw_b, kI_sNew, kJ_sNew, kR_sNew, kN_sNew, kI_sI, kI_sJ, kI_sR, kI_sA, kI_sB, kI_sC, kJ_sI, kJ_sJ, kJ_sR, kJ_sA, kJ_sB, kJ_sC, kR_sI, kR_sJ, kR_sR, kR_sA, kR_sB, kR_sC, kA_sI, kA_sJ, kA_sR, kA_sA, kA_sB, kA_sC, kB_sI, kB_sJ, kB_sR, kB_sA, kB_sB, kB_sC, kC_sI, kC_sJ, kC_sR, kC_sA, kC_sB, kC_sC, kN_sI, kN_sJ, kN_sR, kN_sA, kN_sB, kN_sC]; done)
    · skip
      refine lv_ldc (v := 2147483647) S.1 S.2.1 S.2.2.2.1 (S.2.2.2.2 _ (by decide +kernel)) dX2_deadline_14 ?_
      refine kw_iret S hr hlk hW hS (by decide) (by decide) dX2_deadline_16 ?_
      refine ⟨?_, rfl, ?_⟩ <;> first | rfl | (simp [q_dl, o1, c3, kw_b]; done) | (simp [q_dl, o1, c3, kw_b, kI_sNew, kJ_sNew, kR_sNew, kN_sNew, kI_sI, kI_sJ, kI_sR, kI_sA, kI_sB, kI_sC, kJ_sI, kJ_sJ, kJ_sR, kJ_sA, kJ_sB, kJ_sC, kR_sI, kR_sJ, kR_sR, kR_sA, kR_sB, kR_sC, kA_sI, kA_sJ, kA_sR, kA_sA, kA_sB, kA_sC, kB_sI, kB_sJ, kB_sR, kB_sA, kB_sB, kB_sC, kC_sI, kC_sJ, kC_sR, kC_sA, kC_sB, kC_sC, kN_sI, kN_sJ, kN_sR, kN_sA, kN_sB, kN_sC]; done)
set_option maxHeartbeats 1000000 in
set_option maxRecDepth 100000 in
/-- Leaf.isReady -/
theorem c_X2_isReady (l : Launch) (G : kw_G) (nu : Nat → Option Nat) (x : kw_St) (a : Nat) (g : Nat) (b : Nat) (gb : Nat) (ha : nu a = some 3) (hg : nu g = some 2) (hb : nu b = some 1) (hgb : nu gb = some 1) (hgr : kR x 150 a = some g) (hce : kR x 153 a = some b) (hgc : kR x 101 g = some gb) (hfi : ∀ k, kR x 157 a = some k → nu k = some 4) : kw_M l G yX2_isReady wsX2_isReady { frames := 1, cells := 0, slots := 0, locals := 21 } 0 0 [.ref a] nu x (kw_P nu (some (.int (kw_b (q_rdy x a b gb = true)))) (x)) := by
  refine kw_M.ofW (cc := cX2_isReady) (maxL := 1) (ret := (some .boolean)) (by decide) rfl (Nat.le_of_ble_eq_true rfl) ?_
  intro p e s m args below meth c A ls S hr hlk hnm hK hZ hA hW hS hl
  have hl : lv_has ls 1 [(0, .ref a)] := hl
  have iX1 : ∀ w ∈ wsX10, w ∈ wsX2_isReady := by decide +kernel
  have iX2 : ∀ w ∈ wsX20, w ∈ wsX2_isReady := by decide +kernel
  have iX3 : ∀ w ∈ wsX30, w ∈ wsX2_isReady := by decide +kernel
  refine lv_aload_n S.1 S.2.1 dX2_isReady_0 rfl (lv_at hl 0 rfl) ?_
  rcases o1 : kR x 157 a with _ | p2
  · skip
    refine kx_gN S hK hW ha 7 157 rfl iX2 (by decide) rfl rfl (by decide) (by decide +kernel) dX2_isReady_1 o1 ?_
    refine lv_ifnullN (tgt := 48) S.1 S.2.1 dX2_isReady_4 (by decide) ?_
    refine lv_iconst (v := 0) S.1 S.2.1 dX2_isReady_48 (by decide) ?_
    refine kw_zret S hr hlk hW hS (by decide) (by decide) dX2_isReady_49 kw_n0 ?_
    refine ⟨?_, rfl, ?_⟩ <;> first | rfl | (simp [q_rdy, o1, kw_b]; done) | (simp [q_rdy, o1, kw_b, kI_sNew, kJ_sNew, kR_sNew, kN_sNew, kI_sI, kI_sJ, kI_sR, kI_sA, kI_sB, kI_sC, kJ_sI, kJ_sJ, kJ_sR, kJ_sA, kJ_sB, kJ_sC, kR_sI, kR_sJ, kR_sR, kR_sA, kR_sB, kR_sC, kA_sI, kA_sJ, kA_sR, kA_sA, kA_sB, kA_sC, kB_sI, kB_sJ, kB_sR, kB_sA, kB_sB, kB_sC, kC_sI, kC_sJ, kC_sR, kC_sA, kC_sB, kC_sC, kN_sI, kN_sJ, kN_sR, kN_sA, kN_sB, kN_sC]; done)
  · skip
    refine kx_gA S hK hW ha 7 157 rfl iX2 (by decide) rfl rfl (by decide) (by decide +kernel) dX2_isReady_1 (b := p2) o1 ?_
    refine lv_ifnull S.1 S.2.1 dX2_isReady_4 ?_
    refine lv_aload_n S.1 S.2.1 dX2_isReady_7 rfl (lv_at hl 0 rfl) ?_
    refine kx_gA S hK hW ha 3 153 rfl iX2 (by decide) rfl rfl (by decide) (by decide +kernel) dX2_isReady_8 (b := b) hce ?_
    refine lv_aload_n S.1 S.2.1 dX2_isReady_11 rfl (lv_at hl 0 rfl) ?_
    refine kx_gA S hK hW ha 7 157 rfl iX2 (by decide) rfl rfl (by decide) (by decide +kernel) dX2_isReady_12 (b := p2) o1 ?_
    refine kx_gI S hK hW (hfi p2 o1) 2 202 rfl iX3 (by decide) rfl rfl (by decide) (by decide +kernel) dX2_isReady_15 (v := kI x 202 p2) rfl ?_
    refine kx_cV (As := [.int (kI x 202 p2)]) (rest := []) (st1 := [.int (kw_b (¬ kJ x 52 b < 1000 * ((kI x 202 p2)).toInt64))]) S hK hZ hA hW hS (c_X0_covers l G nu x b (kI x 202 p2) hb) (cwV 1 S.2.2.2.2 gX2_isReady_X0_covers rfl rfl rfl (by decide +kernel) ⟨Nat.le_of_ble_eq_true rfl, Nat.le_of_ble_eq_true rfl⟩) hb (by decide) rfl rfl hl.1 rfl (Nat.le_of_ble_eq_true rfl) dX2_isReady_18 ⟨Nat.le_of_ble_eq_true rfl, Nat.le_of_ble_eq_true rfl⟩ rfl (fun H locs hW hS => ?_)
    refine kx_ifz_eq (tgt := 48) S dX2_isReady_21 (by decide) (fun c3 => ?_) (fun c3 => ?_)
    · skip
      refine lv_iconst (v := 0) S.1 S.2.1 dX2_isReady_48 (by decide) ?_
      refine kw_zret S hr hlk hW hS (by decide) (by decide) dX2_isReady_49 kw_n0 ?_
      refine ⟨?_, rfl, ?_⟩ <;> first | rfl | (simp [q_rdy, o1, c3, kw_b]; done) | (simp [q_rdy, o1, c3, kw_b, kI_sNew, kJ_sNew, kR_sNew, kN_sNew, kI_sI, kI_sJ, kI_sR, kI_sA, kI_sB, kI_sC, kJ_sI, kJ_sJ, kJ_sR, kJ_sA, kJ_sB, kJ_sC, kR_sI, kR_sJ, kR_sR, kR_sA, kR_sB, kR_sC, kA_sI, kA_sJ, kA_sR, kA_sA, kA_sB, kA_sC, kB_sI, kB_sJ, kB_sR, kB_sA, kB_sB, kB_sC, kC_sI, kC_sJ, kC_sR, kC_sA, kC_sB, kC_sC, kN_sI, kN_sJ, kN_sR, kN_sA, kN_sB, kN_sC]; done)
    · skip
      refine lv_aload_n S.1 S.2.1 dX2_isReady_24 rfl (lv_at hl 0 rfl) ?_
      refine kx_gA S hK hW ha 0 150 rfl iX2 (by decide) rfl rfl (by decide) (by decide +kernel) dX2_isReady_25 (b := g) hgr ?_
      refine kx_gA S hK hW hg 1 101 rfl iX1 (by decide) rfl rfl (by decide) (by decide +kernel) dX2_isReady_28 (b := gb) hgc ?_
      refine lv_aload_n S.1 S.2.1 dX2_isReady_31 rfl (lv_at hl 0 rfl) ?_
      refine kx_gA S hK hW ha 7 157 rfl iX2 (by decide) rfl rfl (by decide) (by decide +kernel) dX2_isReady_32 (b := p2) o1 ?_
      refine kx_gI S hK hW (hfi p2 o1) 2 202 rfl iX3 (by decide) rfl rfl (by decide) (by decide +kernel) dX2_isReady_35 (v := kI x 202 p2) rfl ?_
      refine kx_cV (As := [.int (kI x 202 p2)]) (rest := []) (st1 := [.int (kw_b (¬ kJ x 52 gb < 1000 * ((kI x 202 p2)).toInt64))]) S hK hZ hA hW hS (c_X0_covers l G nu x gb (kI x 202 p2) hgb) (cwV 1 S.2.2.2.2 gX2_isReady_X0_covers rfl rfl rfl (by decide +kernel) ⟨Nat.le_of_ble_eq_true rfl, Nat.le_of_ble_eq_true rfl⟩) hgb (by decide) rfl rfl hl.1 rfl (Nat.le_of_ble_eq_true rfl) dX2_isReady_38 ⟨Nat.le_of_ble_eq_true rfl, Nat.le_of_ble_eq_true rfl⟩ rfl (fun H locs hW hS => ?_)
      refine kx_ifz_eq (tgt := 48) S dX2_isReady_41 (by decide) (fun c4 => ?_) (fun c4 => ?_)
      · skip
        refine lv_iconst (v := 0) S.1 S.2.1 dX2_isReady_48 (by decide) ?_
        refine kw_zret S hr hlk hW hS (by decide) (by decide) dX2_isReady_49 kw_n0 ?_
        refine ⟨?_, rfl, ?_⟩ <;> first | rfl | (simp [q_rdy, o1, c3, c4, kw_b]; done) | (simp [q_rdy, o1, c3, c4, kw_b, kI_sNew, kJ_sNew, kR_sNew, kN_sNew, kI_sI, kI_sJ, kI_sR, kI_sA, kI_sB, kI_sC, kJ_sI, kJ_sJ, kJ_sR, kJ_sA, kJ_sB, kJ_sC, kR_sI, kR_sJ, kR_sR, kR_sA, kR_sB, kR_sC, kA_sI, kA_sJ, kA_sR, kA_sA, kA_sB, kA_sC, kB_sI, kB_sJ, kB_sR, kB_sA, kB_sB, kB_sC, kC_sI, kC_sJ, kC_sR, kC_sA, kC_sB, kC_sC, kN_sI, kN_sJ, kN_sR, kN_sA, kN_sB, kN_sC]; done)
      · skip
        refine lv_iconst (v := 1) S.1 S.2.1 dX2_isReady_44 (by decide) ?_
        refine lv_goto (tgt := 49) S.1 S.2.1 dX2_isReady_45 (by decide) ?_
        refine kw_zret S hr hlk hW hS (by decide) (by decide) dX2_isReady_49 kw_n1 ?_
        refine ⟨?_, rfl, ?_⟩ <;> first | rfl | (simp [q_rdy, o1, c3, c4, kw_b]; done) | (simp [q_rdy, o1, c3, c4, kw_b, kI_sNew, kJ_sNew, kR_sNew, kN_sNew, kI_sI, kI_sJ, kI_sR, kI_sA, kI_sB, kI_sC, kJ_sI, kJ_sJ, kJ_sR, kJ_sA, kJ_sB, kJ_sC, kR_sI, kR_sJ, kR_sR, kR_sA, kR_sB, kR_sC, kA_sI, kA_sJ, kA_sR, kA_sA, kA_sB, kA_sC, kB_sI, kB_sJ, kB_sR, kB_sA, kB_sB, kB_sC, kC_sI, kC_sJ, kC_sR, kC_sA, kC_sB, kC_sC, kN_sI, kN_sJ, kN_sR, kN_sA, kN_sB, kN_sC]; done)
set_option maxHeartbeats 1000000 in
set_option maxRecDepth 100000 in
/-- Leaf.isHeld -/
theorem c_X2_isHeld (l : Launch) (G : kw_G) (nu : Nat → Option Nat) (x : kw_St) (a : Nat) (g : Nat) (b : Nat) (gb : Nat) (ha : nu a = some 3) (hg : nu g = some 2) (hb : nu b = some 1) (hgb : nu gb = some 1) (hgr : kR x 150 a = some g) (hce : kR x 153 a = some b) (hgc : kR x 101 g = some gb) (hfi : ∀ k, kR x 157 a = some k → nu k = some 4) : kw_M l G yX2_isHeld wsX2_isHeld { frames := 2, cells := 0, slots := 0, locals := 41 } 0 0 [.ref a] nu x (kw_P nu (some (.int (kw_b (q_held x a b gb = true)))) (x)) := by
  refine kw_M.ofW (cc := cX2_isHeld) (maxL := 1) (ret := (some .boolean)) (by decide) rfl (Nat.le_of_ble_eq_true rfl) ?_
  intro p e s m args below meth c A ls S hr hlk hnm hK hZ hA hW hS hl
  have hl : lv_has ls 1 [(0, .ref a)] := hl
  have iX2 : ∀ w ∈ wsX20, w ∈ wsX2_isHeld := by decide +kernel
  refine lv_aload_n S.1 S.2.1 dX2_isHeld_0 rfl (lv_at hl 0 rfl) ?_
  rcases o1 : kR x 157 a with _ | p2
  · skip
    refine kx_gN S hK hW ha 7 157 rfl iX2 (by decide) rfl rfl (by decide) (by decide +kernel) dX2_isHeld_1 o1 ?_
    refine lv_ifnullN (tgt := 18) S.1 S.2.1 dX2_isHeld_4 (by decide) ?_
    refine lv_iconst (v := 0) S.1 S.2.1 dX2_isHeld_18 (by decide) ?_
    refine kw_zret S hr hlk hW hS (by decide) (by decide) dX2_isHeld_19 kw_n0 ?_
    refine ⟨?_, rfl, ?_⟩ <;> first | rfl | (simp [q_held, o1, kw_b]; done) | (simp [q_held, o1, kw_b, kI_sNew, kJ_sNew, kR_sNew, kN_sNew, kI_sI, kI_sJ, kI_sR, kI_sA, kI_sB, kI_sC, kJ_sI, kJ_sJ, kJ_sR, kJ_sA, kJ_sB, kJ_sC, kR_sI, kR_sJ, kR_sR, kR_sA, kR_sB, kR_sC, kA_sI, kA_sJ, kA_sR, kA_sA, kA_sB, kA_sC, kB_sI, kB_sJ, kB_sR, kB_sA, kB_sB, kB_sC, kC_sI, kC_sJ, kC_sR, kC_sA, kC_sB, kC_sC, kN_sI, kN_sJ, kN_sR, kN_sA, kN_sB, kN_sC]; done)
  · skip
    refine kx_gA S hK hW ha 7 157 rfl iX2 (by decide) rfl rfl (by decide) (by decide +kernel) dX2_isHeld_1 (b := p2) o1 ?_
    refine lv_ifnull S.1 S.2.1 dX2_isHeld_4 ?_
    refine lv_aload_n S.1 S.2.1 dX2_isHeld_7 rfl (lv_at hl 0 rfl) ?_
    refine kx_cV (As := []) (rest := []) (st1 := [.int (kw_b (q_rdy x a b gb = true))]) S hK hZ hA hW hS (c_X2_isReady l G nu x a g b gb ha hg hb hgb hgr hce hgc hfi) (cwV 0 S.2.2.2.2 gX2_isHeld_X2_isReady rfl rfl rfl (by decide +kernel) ⟨Nat.le_of_ble_eq_true rfl, Nat.le_of_ble_eq_true rfl⟩) ha (by decide) rfl rfl hl.1 rfl (Nat.le_of_ble_eq_true rfl) dX2_isHeld_8 ⟨Nat.le_of_ble_eq_true rfl, Nat.le_of_ble_eq_true rfl⟩ rfl (fun H locs hW hS => ?_)
    refine kx_ifz_ne (tgt := 18) S dX2_isHeld_11 (by decide) (fun c3 => ?_) (fun c3 => ?_)
    · skip
      refine lv_iconst (v := 0) S.1 S.2.1 dX2_isHeld_18 (by decide) ?_
      refine kw_zret S hr hlk hW hS (by decide) (by decide) dX2_isHeld_19 kw_n0 ?_
      refine ⟨?_, rfl, ?_⟩ <;> first | rfl | (simp [q_held, o1, c3, kw_b]; done) | (simp [q_held, o1, c3, kw_b, kI_sNew, kJ_sNew, kR_sNew, kN_sNew, kI_sI, kI_sJ, kI_sR, kI_sA, kI_sB, kI_sC, kJ_sI, kJ_sJ, kJ_sR, kJ_sA, kJ_sB, kJ_sC, kR_sI, kR_sJ, kR_sR, kR_sA, kR_sB, kR_sC, kA_sI, kA_sJ, kA_sR, kA_sA, kA_sB, kA_sC, kB_sI, kB_sJ, kB_sR, kB_sA, kB_sB, kB_sC, kC_sI, kC_sJ, kC_sR, kC_sA, kC_sB, kC_sC, kN_sI, kN_sJ, kN_sR, kN_sA, kN_sB, kN_sC]; done)
    · skip
      refine lv_iconst (v := 1) S.1 S.2.1 dX2_isHeld_14 (by decide) ?_
      refine lv_goto (tgt := 19) S.1 S.2.1 dX2_isHeld_15 (by decide) ?_
      refine kw_zret S hr hlk hW hS (by decide) (by decide) dX2_isHeld_19 kw_n1 ?_
      refine ⟨?_, rfl, ?_⟩ <;> first | rfl | (simp [q_held, o1, c3, kw_b]; done) | (simp [q_held, o1, c3, kw_b, kI_sNew, kJ_sNew, kR_sNew, kN_sNew, kI_sI, kI_sJ, kI_sR, kI_sA, kI_sB, kI_sC, kJ_sI, kJ_sJ, kJ_sR, kJ_sA, kJ_sB, kJ_sC, kR_sI, kR_sJ, kR_sR, kR_sA, kR_sB, kR_sC, kA_sI, kA_sJ, kA_sR, kA_sA, kA_sB, kA_sC, kB_sI, kB_sJ, kB_sR, kB_sA, kB_sB, kB_sC, kC_sI, kC_sJ, kC_sR, kC_sA, kC_sB, kC_sC, kN_sI, kN_sJ, kN_sR, kN_sA, kN_sB, kN_sC]; done)
set_option maxHeartbeats 1000000 in
set_option maxRecDepth 100000 in
/-- Leaf.tagInLeaf -/
theorem c_X2_tagInLeaf (l : Launch) (G : kw_G) (nu : Nat → Option Nat) (x : kw_St) (a : Nat) (ha : nu a = some 3) (hfi : ∀ k, kR x 157 a = some k → nu k = some 4) : kw_M l G yX2_tagInLeaf wsX2_tagInLeaf { frames := 0, cells := 0, slots := 0, locals := 0 } 0 0 [.ref a] nu x (kw_P nu (some (.long (q_ltag x a))) (x)) := by
  refine kw_M.ofW (cc := cX2_tagInLeaf) (maxL := 1) (ret := (some .long)) (by decide) rfl (Nat.le_of_ble_eq_true rfl) ?_
  intro p e s m args below meth c A ls S hr hlk hnm hK hZ hA hW hS hl
  have hl : lv_has ls 1 [(0, .ref a)] := hl
  have iX2 : ∀ w ∈ wsX20, w ∈ wsX2_tagInLeaf := by decide +kernel
  have iX3 : ∀ w ∈ wsX30, w ∈ wsX2_tagInLeaf := by decide +kernel
  refine lv_aload_n S.1 S.2.1 dX2_tagInLeaf_0 rfl (lv_at hl 0 rfl) ?_
  rcases o1 : kR x 157 a with _ | p2
  · skip
    refine kx_gN S hK hW ha 7 157 rfl iX2 (by decide) rfl rfl (by decide) (by decide +kernel) dX2_tagInLeaf_1 o1 ?_
    refine lv_ifnullN (tgt := 14) S.1 S.2.1 dX2_tagInLeaf_4 (by decide) ?_
    refine lv_aload_n S.1 S.2.1 dX2_tagInLeaf_14 rfl (lv_at hl 0 rfl) ?_
    refine kx_gJ S hK hW ha 17 167 rfl iX2 (by decide) rfl rfl (by decide) (by decide +kernel) dX2_tagInLeaf_15 (v := kJ x 167 a) rfl ?_
    refine lv_goto (tgt := 44) S.1 S.2.1 dX2_tagInLeaf_18 (by decide) ?_
    refine kw_lret S hr hlk hW hS (by decide) (by decide) dX2_tagInLeaf_44 ?_
    refine ⟨?_, rfl, ?_⟩ <;> first | rfl | (simp [q_ltag, o1, kw_b]; done) | (simp [q_ltag, o1, kw_b, kI_sNew, kJ_sNew, kR_sNew, kN_sNew, kI_sI, kI_sJ, kI_sR, kI_sA, kI_sB, kI_sC, kJ_sI, kJ_sJ, kJ_sR, kJ_sA, kJ_sB, kJ_sC, kR_sI, kR_sJ, kR_sR, kR_sA, kR_sB, kR_sC, kA_sI, kA_sJ, kA_sR, kA_sA, kA_sB, kA_sC, kB_sI, kB_sJ, kB_sR, kB_sA, kB_sB, kB_sC, kC_sI, kC_sJ, kC_sR, kC_sA, kC_sB, kC_sC, kN_sI, kN_sJ, kN_sR, kN_sA, kN_sB, kN_sC]; done)
  · skip
    refine kx_gA S hK hW ha 7 157 rfl iX2 (by decide) rfl rfl (by decide) (by decide +kernel) dX2_tagInLeaf_1 (b := p2) o1 ?_
    refine lv_ifnull S.1 S.2.1 dX2_tagInLeaf_4 ?_
    refine lv_aload_n S.1 S.2.1 dX2_tagInLeaf_7 rfl (lv_at hl 0 rfl) ?_
    refine kx_gI S hK hW ha 1 151 rfl iX2 (by decide) rfl rfl (by decide) (by decide +kernel) dX2_tagInLeaf_8 (v := kI x 151 a) rfl ?_
    refine lv_if_gt (tgt := 21) S.1 S.2.1 dX2_tagInLeaf_11 (by decide) (fun c3 => ?_) (fun c3 => ?_)
    · skip
      refine lv_aload_n S.1 S.2.1 dX2_tagInLeaf_21 rfl (lv_at hl 0 rfl) ?_
      refine kx_gJ S hK hW ha 17 167 rfl iX2 (by decide) rfl rfl (by decide) (by decide +kernel) dX2_tagInLeaf_22 (v := kJ x 167 a) rfl ?_
      refine lv_ldc2 (v := 27720) S.1 S.2.1 S.2.2.2.1 (S.2.2.2.2 _ (by decide +kernel)) dX2_tagInLeaf_25 ?_
      refine lv_aload_n S.1 S.2.1 dX2_tagInLeaf_28 rfl (lv_at hl 0 rfl) ?_
      refine kx_gA S hK hW ha 7 157 rfl iX2 (by decide) rfl rfl (by decide) (by decide +kernel) dX2_tagInLeaf_29 (b := p2) o1 ?_
      refine kx_gI S hK hW (hfi p2 o1) 2 202 rfl iX3 (by decide) rfl rfl (by decide) (by decide +kernel) dX2_tagInLeaf_32 (v := kI x 202 p2) rfl ?_
      refine lv_i2l S.1 S.2.1 dX2_tagInLeaf_35 rfl ?_
      refine lv_lmul S.1 S.2.1 dX2_tagInLeaf_36 ?_
      refine lv_aload_n S.1 S.2.1 dX2_tagInLeaf_37 rfl (lv_at hl 0 rfl) ?_
      refine kx_gI S hK hW ha 1 151 rfl iX2 (by decide) rfl rfl (by decide) (by decide +kernel) dX2_tagInLeaf_38 (v := kI x 151 a) rfl ?_
      refine lv_i2l S.1 S.2.1 dX2_tagInLeaf_41 rfl ?_
      refine lv_ldiv S.1 S.2.1 dX2_tagInLeaf_42 (kw_d0 (by assumption)) ?_
      refine lv_ladd S.1 S.2.1 dX2_tagInLeaf_43 ?_
      refine kw_lret S hr hlk hW hS (by decide) (by decide) dX2_tagInLeaf_44 ?_
      refine ⟨?_, rfl, ?_⟩ <;> first | rfl | (simp [q_ltag, o1, c3, kw_b]; done) | (simp [q_ltag, o1, c3, kw_b, kI_sNew, kJ_sNew, kR_sNew, kN_sNew, kI_sI, kI_sJ, kI_sR, kI_sA, kI_sB, kI_sC, kJ_sI, kJ_sJ, kJ_sR, kJ_sA, kJ_sB, kJ_sC, kR_sI, kR_sJ, kR_sR, kR_sA, kR_sB, kR_sC, kA_sI, kA_sJ, kA_sR, kA_sA, kA_sB, kA_sC, kB_sI, kB_sJ, kB_sR, kB_sA, kB_sB, kB_sC, kC_sI, kC_sJ, kC_sR, kC_sA, kC_sB, kC_sC, kN_sI, kN_sJ, kN_sR, kN_sA, kN_sB, kN_sC]; done)
    · skip
      refine lv_aload_n S.1 S.2.1 dX2_tagInLeaf_14 rfl (lv_at hl 0 rfl) ?_
      refine kx_gJ S hK hW ha 17 167 rfl iX2 (by decide) rfl rfl (by decide) (by decide +kernel) dX2_tagInLeaf_15 (v := kJ x 167 a) rfl ?_
      refine lv_goto (tgt := 44) S.1 S.2.1 dX2_tagInLeaf_18 (by decide) ?_
      refine kw_lret S hr hlk hW hS (by decide) (by decide) dX2_tagInLeaf_44 ?_
      refine ⟨?_, rfl, ?_⟩ <;> first | rfl | (simp [q_ltag, o1, c3, kw_b]; done) | (simp [q_ltag, o1, c3, kw_b, kI_sNew, kJ_sNew, kR_sNew, kN_sNew, kI_sI, kI_sJ, kI_sR, kI_sA, kI_sB, kI_sC, kJ_sI, kJ_sJ, kJ_sR, kJ_sA, kJ_sB, kJ_sC, kR_sI, kR_sJ, kR_sR, kR_sA, kR_sB, kR_sC, kA_sI, kA_sJ, kA_sR, kA_sA, kA_sB, kA_sC, kB_sI, kB_sJ, kB_sR, kB_sA, kB_sB, kB_sC, kC_sI, kC_sJ, kC_sR, kC_sA, kC_sB, kC_sC, kN_sI, kN_sJ, kN_sR, kN_sA, kN_sB, kN_sC]; done)
set_option maxHeartbeats 1000000 in
set_option maxRecDepth 100000 in
/-- Leaf.tagInGroup -/
theorem c_X2_tagInGroup (l : Launch) (G : kw_G) (nu : Nat → Option Nat) (x : kw_St) (a : Nat) (g : Nat) (ha : nu a = some 3) (hg : nu g = some 2) (hgr : kR x 150 a = some g) (hfi : ∀ k, kR x 157 a = some k → nu k = some 4) : kw_M l G yX2_tagInGroup wsX2_tagInGroup { frames := 1, cells := 0, slots := 0, locals := 21 } 0 0 [.ref a] nu x (kw_P nu (some (.long (q_lgtag x a g))) (x)) := by
  refine kw_M.ofW (cc := cX2_tagInGroup) (maxL := 1) (ret := (some .long)) (by decide) rfl (Nat.le_of_ble_eq_true rfl) ?_
  intro p e s m args below meth c A ls S hr hlk hnm hK hZ hA hW hS hl
  have hl : lv_has ls 1 [(0, .ref a)] := hl
  have iX1 : ∀ w ∈ wsX10, w ∈ wsX2_tagInGroup := by decide +kernel
  have iX2 : ∀ w ∈ wsX20, w ∈ wsX2_tagInGroup := by decide +kernel
  have iX3 : ∀ w ∈ wsX30, w ∈ wsX2_tagInGroup := by decide +kernel
  refine lv_aload_n S.1 S.2.1 dX2_tagInGroup_0 rfl (lv_at hl 0 rfl) ?_
  rcases o1 : kR x 157 a with _ | p2
  · skip
    refine kx_gN S hK hW ha 7 157 rfl iX2 (by decide) rfl rfl (by decide) (by decide +kernel) dX2_tagInGroup_1 o1 ?_
    refine lv_ifnonnullN S.1 S.2.1 dX2_tagInGroup_4 ?_
    refine lv_aload_n S.1 S.2.1 dX2_tagInGroup_7 rfl (lv_at hl 0 rfl) ?_
    refine kx_gA S hK hW ha 0 150 rfl iX2 (by decide) rfl rfl (by decide) (by decide +kernel) dX2_tagInGroup_8 (b := g) hgr ?_
    refine kx_gJ S hK hW hg 4 104 rfl iX1 (by decide) rfl rfl (by decide) (by decide +kernel) dX2_tagInGroup_11 (v := kJ x 104 g) rfl ?_
    refine lv_goto (tgt := 31) S.1 S.2.1 dX2_tagInGroup_14 (by decide) ?_
    refine kw_lret S hr hlk hW hS (by decide) (by decide) dX2_tagInGroup_31 ?_
    refine ⟨?_, rfl, ?_⟩ <;> first | rfl | (simp [q_lgtag, o1, kw_b]; done) | (simp [q_lgtag, o1, kw_b, kI_sNew, kJ_sNew, kR_sNew, kN_sNew, kI_sI, kI_sJ, kI_sR, kI_sA, kI_sB, kI_sC, kJ_sI, kJ_sJ, kJ_sR, kJ_sA, kJ_sB, kJ_sC, kR_sI, kR_sJ, kR_sR, kR_sA, kR_sB, kR_sC, kA_sI, kA_sJ, kA_sR, kA_sA, kA_sB, kA_sC, kB_sI, kB_sJ, kB_sR, kB_sA, kB_sB, kB_sC, kC_sI, kC_sJ, kC_sR, kC_sA, kC_sB, kC_sC, kN_sI, kN_sJ, kN_sR, kN_sA, kN_sB, kN_sC]; done)
  · skip
    refine kx_gA S hK hW ha 7 157 rfl iX2 (by decide) rfl rfl (by decide) (by decide +kernel) dX2_tagInGroup_1 (b := p2) o1 ?_
    refine lv_ifnonnull (tgt := 17) S.1 S.2.1 dX2_tagInGroup_4 (by decide) ?_
    refine lv_aload_n S.1 S.2.1 dX2_tagInGroup_17 rfl (lv_at hl 0 rfl) ?_
    refine kx_gA S hK hW ha 0 150 rfl iX2 (by decide) rfl rfl (by decide) (by decide +kernel) dX2_tagInGroup_18 (b := g) hgr ?_
    refine lv_aload_n S.1 S.2.1 dX2_tagInGroup_21 rfl (lv_at hl 0 rfl) ?_
    refine kx_gA S hK hW ha 7 157 rfl iX2 (by decide) rfl rfl (by decide) (by decide +kernel) dX2_tagInGroup_22 (b := p2) o1 ?_
    refine kx_gI S hK hW (hfi p2 o1) 2 202 rfl iX3 (by decide) rfl rfl (by decide) (by decide +kernel) dX2_tagInGroup_25 (v := kI x 202 p2) rfl ?_
    refine kx_cV (As := [.int (kI x 202 p2)]) (rest := []) (st1 := [.long (q_gtag x g (kI x 202 p2))]) S hK hZ hA hW hS (c_X1_tagOf l G nu x g (kI x 202 p2) hg) (cwV 1 S.2.2.2.2 gX2_tagInGroup_X1_tagOf rfl rfl rfl (by decide +kernel) ⟨Nat.le_of_ble_eq_true rfl, Nat.le_of_ble_eq_true rfl⟩) hg (by decide) rfl rfl hl.1 rfl (Nat.le_of_ble_eq_true rfl) dX2_tagInGroup_28 ⟨Nat.le_of_ble_eq_true rfl, Nat.le_of_ble_eq_true rfl⟩ rfl (fun H locs hW hS => ?_)
    refine kw_lret S hr hlk hW hS (by decide) (by decide) dX2_tagInGroup_31 ?_
    refine ⟨?_, rfl, ?_⟩ <;> first | rfl | (simp [q_lgtag, o1, kw_b]; done) | (simp [q_lgtag, o1, kw_b, kI_sNew, kJ_sNew, kR_sNew, kN_sNew, kI_sI, kI_sJ, kI_sR, kI_sA, kI_sB, kI_sC, kJ_sI, kJ_sJ, kJ_sR, kJ_sA, kJ_sB, kJ_sC, kR_sI, kR_sJ, kR_sR, kR_sA, kR_sB, kR_sC, kA_sI, kA_sJ, kA_sR, kA_sA, kA_sB, kA_sC, kB_sI, kB_sJ, kB_sR, kB_sA, kB_sB, kB_sC, kC_sI, kC_sJ, kC_sR, kC_sA, kC_sB, kC_sC, kN_sI, kN_sJ, kN_sR, kN_sA, kN_sB, kN_sC]; done)
set_option maxHeartbeats 1000000 in
set_option maxRecDepth 100000 in
/-- Leaf.ticksUntilMayGo -/
theorem c_X2_ticksUntilMayGo (l : Launch) (G : kw_G) (nu : Nat → Option Nat) (x : kw_St) (a : Nat) (t : Int32) (g : Nat) (b : Nat) (gb : Nat) (ha : nu a = some 3) (hg : nu g = some 2) (hb : nu b = some 1) (hgb : nu gb = some 1) (hgr : kR x 150 a = some g) (hce : kR x 153 a = some b) (hgc : kR x 101 g = some gb) (hfi : ∀ k, kR x 157 a = some k → nu k = some 4) : kw_M l G yX2_ticksUntilMayGo wsX2_ticksUntilMayGo { frames := 2, cells := 0, slots := 0, locals := 43 } 0 0 [.ref a, .int (t)] nu x (kw_P nu (some (.long (q_tmg x a b gb t))) (x)) := by
  refine kw_M.ofW (cc := cX2_ticksUntilMayGo) (maxL := 4) (ret := (some .long)) (by decide) rfl (Nat.le_of_ble_eq_true rfl) ?_
  intro p e s m args below meth c A ls S hr hlk hnm hK hZ hA hW hS hl
  have hl : lv_has ls 4 [(0, .ref a), (1, .int (t))] := hl
  have iX1 : ∀ w ∈ wsX10, w ∈ wsX2_ticksUntilMayGo := by decide +kernel
  have iX2 : ∀ w ∈ wsX20, w ∈ wsX2_ticksUntilMayGo := by decide +kernel
  have iX3 : ∀ w ∈ wsX30, w ∈ wsX2_ticksUntilMayGo := by decide +kernel
  refine lv_aload_n S.1 S.2.1 dX2_ticksUntilMayGo_0 rfl (lv_at hl 0 rfl) ?_
  rcases o1 : kR x 157 a with _ | p2
  · skip
    refine kx_gN S hK hW ha 7 157 rfl iX2 (by decide) rfl rfl (by decide) (by decide +kernel) dX2_ticksUntilMayGo_1 o1 ?_
    refine lv_ifnonnullN S.1 S.2.1 dX2_ticksUntilMayGo_4 ?_
    refine lv_ldc2 (v := 2147483647) S.1 S.2.1 S.2.2.2.1 (S.2.2.2.2 _ (by decide +kernel)) dX2_ticksUntilMayGo_7 ?_
    refine kw_lret S hr hlk hW hS (by decide) (by decide) dX2_ticksUntilMayGo_10 ?_
    refine ⟨?_, rfl, ?_⟩ <;> first | rfl | (simp [q_tmg, o1, kw_b]; done) | (simp [q_tmg, o1, kw_b, kI_sNew, kJ_sNew, kR_sNew, kN_sNew, kI_sI, kI_sJ, kI_sR, kI_sA, kI_sB, kI_sC, kJ_sI, kJ_sJ, kJ_sR, kJ_sA, kJ_sB, kJ_sC, kR_sI, kR_sJ, kR_sR, kR_sA, kR_sB, kR_sC, kA_sI, kA_sJ, kA_sR, kA_sA, kA_sB, kA_sC, kB_sI, kB_sJ, kB_sR, kB_sA, kB_sB, kB_sC, kC_sI, kC_sJ, kC_sR, kC_sA, kC_sB, kC_sC, kN_sI, kN_sJ, kN_sR, kN_sA, kN_sB, kN_sC]; done)
  · skip
    refine kx_gA S hK hW ha 7 157 rfl iX2 (by decide) rfl rfl (by decide) (by decide +kernel) dX2_ticksUntilMayGo_1 (b := p2) o1 ?_
    refine lv_ifnonnull (tgt := 11) S.1 S.2.1 dX2_ticksUntilMayGo_4 (by decide) ?_
    refine lv_aload_n S.1 S.2.1 dX2_ticksUntilMayGo_11 rfl (lv_at hl 0 rfl) ?_
    refine kx_gA S hK hW ha 3 153 rfl iX2 (by decide) rfl rfl (by decide) (by decide +kernel) dX2_ticksUntilMayGo_12 (b := b) hce ?_
    refine lv_aload_n S.1 S.2.1 dX2_ticksUntilMayGo_15 rfl (lv_at hl 0 rfl) ?_
    refine kx_gA S hK hW ha 7 157 rfl iX2 (by decide) rfl rfl (by decide) (by decide +kernel) dX2_ticksUntilMayGo_16 (b := p2) o1 ?_
    refine kx_gI S hK hW (hfi p2 o1) 2 202 rfl iX3 (by decide) rfl rfl (by decide) (by decide +kernel) dX2_ticksUntilMayGo_19 (v := kI x 202 p2) rfl ?_
    refine kx_cV (As := [.int (kI x 202 p2)]) (rest := []) (st1 := [.long (q_tuc x b (kI x 202 p2))]) S hK hZ hA hW hS (c_X0_ticksUntilCovers l G nu x b (kI x 202 p2) hb) (cwV 1 S.2.2.2.2 gX2_ticksUntilMayGo_X0_ticksUntilCovers rfl rfl rfl (by decide +kernel) ⟨Nat.le_of_ble_eq_true rfl, Nat.le_of_ble_eq_true rfl⟩) hb (by decide) rfl rfl hl.1 rfl (Nat.le_of_ble_eq_true rfl) dX2_ticksUntilMayGo_22 ⟨Nat.le_of_ble_eq_true rfl, Nat.le_of_ble_eq_true rfl⟩ rfl (fun H locs hW hS => ?_)
    refine lv_aload_n S.1 S.2.1 dX2_ticksUntilMayGo_25 rfl (lv_at hl 0 rfl) ?_
    refine kx_gA S hK hW ha 0 150 rfl iX2 (by decide) rfl rfl (by decide) (by decide +kernel) dX2_ticksUntilMayGo_26 (b := g) hgr ?_
    refine kx_gA S hK hW hg 1 101 rfl iX1 (by decide) rfl rfl (by decide) (by decide +kernel) dX2_ticksUntilMayGo_29 (b := gb) hgc ?_
    refine lv_aload_n S.1 S.2.1 dX2_ticksUntilMayGo_32 rfl (lv_at hl 0 rfl) ?_
    refine kx_gA S hK hW ha 7 157 rfl iX2 (by decide) rfl rfl (by decide) (by decide +kernel) dX2_ticksUntilMayGo_33 (b := p2) o1 ?_
    refine kx_gI S hK hW (hfi p2 o1) 2 202 rfl iX3 (by decide) rfl rfl (by decide) (by decide +kernel) dX2_ticksUntilMayGo_36 (v := kI x 202 p2) rfl ?_
    refine kx_cV (As := [.int (kI x 202 p2)]) (rest := [.long (q_tuc x b (kI x 202 p2))]) (st1 := [.long (q_tuc x gb (kI x 202 p2)), .long (q_tuc x b (kI x 202 p2))]) S hK hZ hA hW hS (c_X0_ticksUntilCovers l G nu x gb (kI x 202 p2) hgb) (cwV 1 S.2.2.2.2 gX2_ticksUntilMayGo_X0_ticksUntilCovers rfl rfl rfl (by decide +kernel) ⟨Nat.le_of_ble_eq_true rfl, Nat.le_of_ble_eq_true rfl⟩) hgb (by decide) rfl rfl hl.1 rfl (Nat.le_of_ble_eq_true rfl) dX2_ticksUntilMayGo_39 ⟨Nat.le_of_ble_eq_true rfl, Nat.le_of_ble_eq_true rfl⟩ rfl (fun H locs hW hS => ?_)
    refine kx_maxl S hl.1 (by decide +kernel) (by decide +kernel) (by decide +kernel) (by decide +kernel) (Nat.le_of_ble_eq_true rfl) (Nat.le_of_ble_eq_true rfl) (by first | exact Nat.le_of_ble_eq_true rfl | exact Nat.le_refl _ | exact Nat.le_of_eq (Nat.zero_add _)) (by first | exact Nat.le_of_ble_eq_true rfl | exact Nat.le_of_eq (Nat.zero_add _) | exact Nat.le_refl _) dX2_ticksUntilMayGo_42 ?_
    refine lv_lstore_n (lv' := [(2, .long (if (q_tuc x gb (kI x 202 p2)) < (q_tuc x b (kI x 202 p2)) then (q_tuc x b (kI x 202 p2)) else (q_tuc x gb (kI x 202 p2)))), (0, .ref a), (1, .int (t))]) S.1 S.2.1 dX2_ticksUntilMayGo_45 rfl hl (by decide) rfl (fun ls hl => ?_)
    refine lv_aload_n S.1 S.2.1 dX2_ticksUntilMayGo_46 rfl (lv_at hl 1 rfl) ?_
    refine kx_cV (As := []) (rest := []) (st1 := [.int (q_start x a)]) S hK hZ hA hW hS (c_X2_start l G nu x a ha hfi) (cwV 0 S.2.2.2.2 gX2_ticksUntilMayGo_X2_start rfl rfl rfl (by decide +kernel) ⟨Nat.le_of_ble_eq_true rfl, Nat.le_of_ble_eq_true rfl⟩) ha (by decide) rfl rfl hl.1 rfl (Nat.le_of_ble_eq_true rfl) dX2_ticksUntilMayGo_47 ⟨Nat.le_of_ble_eq_true rfl, Nat.le_of_ble_eq_true rfl⟩ rfl (fun H locs hW hS => ?_)
    refine lv_iload_n S.1 S.2.1 dX2_ticksUntilMayGo_50 rfl (lv_at hl 2 rfl) ?_
    refine lv_isub S.1 S.2.1 dX2_ticksUntilMayGo_51 ?_
    refine lv_i2l S.1 S.2.1 dX2_ticksUntilMayGo_52 rfl ?_
    refine lv_lload_n S.1 S.2.1 dX2_ticksUntilMayGo_53 rfl (lv_at hl 0 rfl) ?_
    refine kx_minl S hl.1 (by decide +kernel) (by decide +kernel) (by decide +kernel) (by decide +kernel) (Nat.le_of_ble_eq_true rfl) (Nat.le_of_ble_eq_true rfl) (by first | exact Nat.le_of_ble_eq_true rfl | exact Nat.le_refl _ | exact Nat.le_of_eq (Nat.zero_add _)) (by first | exact Nat.le_of_ble_eq_true rfl | exact Nat.le_of_eq (Nat.zero_add _) | exact Nat.le_refl _) dX2_ticksUntilMayGo_54 ?_
    refine kw_lret S hr hlk hW hS (by decide) (by decide) dX2_ticksUntilMayGo_57 ?_
    refine ⟨?_, rfl, ?_⟩ <;> first | rfl | (simp [q_tmg, o1, kw_b]; done) | (simp [q_tmg, o1, kw_b, kI_sNew, kJ_sNew, kR_sNew, kN_sNew, kI_sI, kI_sJ, kI_sR, kI_sA, kI_sB, kI_sC, kJ_sI, kJ_sJ, kJ_sR, kJ_sA, kJ_sB, kJ_sC, kR_sI, kR_sJ, kR_sR, kR_sA, kR_sB, kR_sC, kA_sI, kA_sJ, kA_sR, kA_sA, kA_sB, kA_sC, kB_sI, kB_sJ, kB_sR, kB_sA, kB_sB, kB_sC, kC_sI, kC_sJ, kC_sR, kC_sA, kC_sB, kC_sC, kN_sI, kN_sJ, kN_sR, kN_sA, kN_sB, kN_sC]; done)
set_option maxHeartbeats 1000000 in
set_option maxRecDepth 100000 in
/-- Leaf.paysPolicer -/
theorem c_X2_paysPolicer (l : Launch) (G : kw_G) (nu : Nat → Option Nat) (x : kw_St) (a : Nat) (z : Int32) (ha : nu a = some 3) (hpo : ∀ k, kR x 155 a = some k → nu k = some 1) : kw_M l G yX2_paysPolicer wsX2_paysPolicer { frames := 1, cells := 0, slots := 0, locals := 21 } 0 0 [.ref a, .int (z)] nu x (kw_P nu (some (.int (kw_b (q_pays x a z = true)))) (q_payx x a z)) := by
  refine kw_M.ofW (cc := cX2_paysPolicer) (maxL := 2) (ret := (some .boolean)) (by decide) rfl (Nat.le_of_ble_eq_true rfl) ?_
  intro p e s m args below meth c A ls S hr hlk hnm hK hZ hA hW hS hl
  have hl : lv_has ls 2 [(0, .ref a), (1, .int (z))] := hl
  have iX2 : ∀ w ∈ wsX20, w ∈ wsX2_paysPolicer := by decide +kernel
  refine lv_aload_n S.1 S.2.1 dX2_paysPolicer_0 rfl (lv_at hl 0 rfl) ?_
  rcases o1 : kR x 155 a with _ | p2
  · skip
    refine kx_gN S hK hW ha 5 155 rfl iX2 (by decide) rfl rfl (by decide) (by decide +kernel) dX2_paysPolicer_1 o1 ?_
    refine lv_ifnonnullN S.1 S.2.1 dX2_paysPolicer_4 ?_
    refine lv_iconst (v := 1) S.1 S.2.1 dX2_paysPolicer_7 (by decide) ?_
    refine kw_zret S hr hlk hW hS (by decide) (by decide) dX2_paysPolicer_8 kw_n1 ?_
    refine ⟨?_, rfl, ?_⟩ <;> first | rfl | (simp [q_pays, q_payx, o1, kw_b]; done) | (simp [q_pays, q_payx, o1, kw_b, kI_sNew, kJ_sNew, kR_sNew, kN_sNew, kI_sI, kI_sJ, kI_sR, kI_sA, kI_sB, kI_sC, kJ_sI, kJ_sJ, kJ_sR, kJ_sA, kJ_sB, kJ_sC, kR_sI, kR_sJ, kR_sR, kR_sA, kR_sB, kR_sC, kA_sI, kA_sJ, kA_sR, kA_sA, kA_sB, kA_sC, kB_sI, kB_sJ, kB_sR, kB_sA, kB_sB, kB_sC, kC_sI, kC_sJ, kC_sR, kC_sA, kC_sB, kC_sC, kN_sI, kN_sJ, kN_sR, kN_sA, kN_sB, kN_sC]; done)
  · skip
    refine kx_gA S hK hW ha 5 155 rfl iX2 (by decide) rfl rfl (by decide) (by decide +kernel) dX2_paysPolicer_1 (b := p2) o1 ?_
    refine lv_ifnonnull (tgt := 9) S.1 S.2.1 dX2_paysPolicer_4 (by decide) ?_
    refine lv_aload_n S.1 S.2.1 dX2_paysPolicer_9 rfl (lv_at hl 0 rfl) ?_
    refine kx_gA S hK hW ha 5 155 rfl iX2 (by decide) rfl rfl (by decide) (by decide +kernel) dX2_paysPolicer_10 (b := p2) o1 ?_
    refine lv_iload_n S.1 S.2.1 dX2_paysPolicer_13 rfl (lv_at hl 1 rfl) ?_
    refine kx_cV (As := [.int (z)]) (rest := []) (st1 := [.int (kw_b (¬ kJ x 52 p2 < 1000 * (z).toInt64))]) S hK hZ hA hW hS (c_X0_covers l G nu x p2 z ((hpo p2 o1))) (cwV 1 S.2.2.2.2 gX2_paysPolicer_X0_covers rfl rfl rfl (by decide +kernel) ⟨Nat.le_of_ble_eq_true rfl, Nat.le_of_ble_eq_true rfl⟩) ((hpo p2 o1)) (by decide) rfl rfl hl.1 rfl (Nat.le_of_ble_eq_true rfl) dX2_paysPolicer_14 ⟨Nat.le_of_ble_eq_true rfl, Nat.le_of_ble_eq_true rfl⟩ rfl (fun H locs hW hS => ?_)
    refine kx_ifz_ne (tgt := 22) S dX2_paysPolicer_17 (by decide) (fun c3 => ?_) (fun c3 => ?_)
    · skip
      refine lv_aload_n S.1 S.2.1 dX2_paysPolicer_22 rfl (lv_at hl 0 rfl) ?_
      refine kx_gA S hK hW ha 5 155 rfl iX2 (by decide) rfl rfl (by decide) (by decide +kernel) dX2_paysPolicer_23 (b := p2) o1 ?_
      refine lv_iload_n S.1 S.2.1 dX2_paysPolicer_26 rfl (lv_at hl 1 rfl) ?_
      refine kx_cV (As := [.int (z)]) (rest := []) (st1 := []) S hK hZ hA hW hS (c_X0_take l G nu x p2 z ((hpo p2 o1))) (cwV 1 S.2.2.2.2 gX2_paysPolicer_X0_take rfl rfl rfl (by decide +kernel) ⟨Nat.le_of_ble_eq_true rfl, Nat.le_of_ble_eq_true rfl⟩) ((hpo p2 o1)) (by decide) rfl rfl hl.1 rfl (Nat.le_of_ble_eq_true rfl) dX2_paysPolicer_27 ⟨Nat.le_of_ble_eq_true rfl, Nat.le_of_ble_eq_true rfl⟩ rfl (fun H locs hW hS => ?_)
      refine lv_iconst (v := 1) S.1 S.2.1 dX2_paysPolicer_30 (by decide) ?_
      refine kw_zret S hr hlk hW hS (by decide) (by decide) dX2_paysPolicer_31 kw_n1 ?_
      refine ⟨?_, rfl, ?_⟩ <;> first | rfl | (simp [q_pays, q_payx, o1, c3, kw_b]; done) | (simp [q_pays, q_payx, o1, c3, kw_b, kI_sNew, kJ_sNew, kR_sNew, kN_sNew, kI_sI, kI_sJ, kI_sR, kI_sA, kI_sB, kI_sC, kJ_sI, kJ_sJ, kJ_sR, kJ_sA, kJ_sB, kJ_sC, kR_sI, kR_sJ, kR_sR, kR_sA, kR_sB, kR_sC, kA_sI, kA_sJ, kA_sR, kA_sA, kA_sB, kA_sC, kB_sI, kB_sJ, kB_sR, kB_sA, kB_sB, kB_sC, kC_sI, kC_sJ, kC_sR, kC_sA, kC_sB, kC_sC, kN_sI, kN_sJ, kN_sR, kN_sA, kN_sB, kN_sC]; done)
    · skip
      refine lv_iconst (v := 0) S.1 S.2.1 dX2_paysPolicer_20 (by decide) ?_
      refine kw_zret S hr hlk hW hS (by decide) (by decide) dX2_paysPolicer_21 kw_n0 ?_
      refine ⟨?_, rfl, ?_⟩ <;> first | rfl | (simp [q_pays, q_payx, o1, c3, kw_b]; done) | (simp [q_pays, q_payx, o1, c3, kw_b, kI_sNew, kJ_sNew, kR_sNew, kN_sNew, kI_sI, kI_sJ, kI_sR, kI_sA, kI_sB, kI_sC, kJ_sI, kJ_sJ, kJ_sR, kJ_sA, kJ_sB, kJ_sC, kR_sI, kR_sJ, kR_sR, kR_sA, kR_sB, kR_sC, kA_sI, kA_sJ, kA_sR, kA_sA, kA_sB, kA_sC, kB_sI, kB_sJ, kB_sR, kB_sA, kB_sB, kB_sC, kC_sI, kC_sJ, kC_sR, kC_sA, kC_sB, kC_sC, kN_sI, kN_sJ, kN_sR, kN_sA, kN_sB, kN_sC]; done)
set_option maxHeartbeats 1000000 in
set_option maxRecDepth 100000 in
/-- Leaf.catchUp -/
theorem c_X2_catchUp (l : Launch) (G : kw_G) (nu : Nat → Option Nat) (x : kw_St) (a : Nat) (lm : Int64) (g : Nat) (ha : nu a = some 3) (hg : nu g = some 2) (hgr : kR x 150 a = some g) (hfi : ∀ k, kR x 157 a = some k → nu k = some 4) : kw_M l G yX2_catchUp wsX2_catchUp { frames := 1, cells := 0, slots := 0, locals := 23 } 0 0 [.ref a, .long (lm)] nu x (kw_P nu (none) (q_catch x a g lm)) := by
  refine kw_M.ofW (cc := cX2_catchUp) (maxL := 3) (ret := none) (by decide) rfl (Nat.le_of_ble_eq_true rfl) ?_
  intro p e s m args below meth c A ls S hr hlk hnm hK hZ hA hW hS hl
  have hl : lv_has ls 3 [(0, .ref a), (1, .long (lm))] := hl
  have iX1 : ∀ w ∈ wsX10, w ∈ wsX2_catchUp := by decide +kernel
  have iX2 : ∀ w ∈ wsX20, w ∈ wsX2_catchUp := by decide +kernel
  refine lv_aload_n S.1 S.2.1 dX2_catchUp_0 rfl (lv_at hl 0 rfl) ?_
  rcases o1 : kR x 157 a with _ | p2
  · skip
    refine kx_gN S hK hW ha 7 157 rfl iX2 (by decide) rfl rfl (by decide) (by decide +kernel) dX2_catchUp_1 o1 ?_
    refine lv_ifnonnullN S.1 S.2.1 dX2_catchUp_4 ?_
    refine lv_aload_n S.1 S.2.1 dX2_catchUp_7 rfl (lv_at hl 0 rfl) ?_
    refine lv_aload_n S.1 S.2.1 dX2_catchUp_8 rfl (lv_at hl 0 rfl) ?_
    refine kx_gJ S hK hW ha 17 167 rfl iX2 (by decide) rfl rfl (by decide) (by decide +kernel) dX2_catchUp_9 (v := kJ x 167 a) rfl ?_
    refine lv_aload_n S.1 S.2.1 dX2_catchUp_12 rfl (lv_at hl 0 rfl) ?_
    refine kx_gA S hK hW ha 0 150 rfl iX2 (by decide) rfl rfl (by decide) (by decide +kernel) dX2_catchUp_13 (b := g) hgr ?_
    refine kx_gJ S hK hW hg 5 105 rfl iX1 (by decide) rfl rfl (by decide) (by decide +kernel) dX2_catchUp_16 (v := kJ x 105 g) rfl ?_
    refine kx_maxl S hl.1 (by decide +kernel) (by decide +kernel) (by decide +kernel) (by decide +kernel) (Nat.le_of_ble_eq_true rfl) (Nat.le_of_ble_eq_true rfl) (by first | exact Nat.le_of_ble_eq_true rfl | exact Nat.le_refl _ | exact Nat.le_of_eq (Nat.zero_add _)) (by first | exact Nat.le_of_ble_eq_true rfl | exact Nat.le_of_eq (Nat.zero_add _) | exact Nat.le_refl _) dX2_catchUp_19 ?_
    refine kx_pJ S hK hW hS ha 17 167  rfl iX2 tyX2_ok nmX2 (by decide) rfl rfl (by decide) (by decide +kernel) (Or.inl rfl) rfl dX2_catchUp_22 (fun H locs hW hS => ?_)
    refine lv_aload_n S.1 S.2.1 dX2_catchUp_25 rfl (lv_at hl 0 rfl) ?_
    refine kx_gA S hK hW ha 0 150 rfl iX2 (by decide) rfl rfl (by decide) (by decide +kernel) dX2_catchUp_26 (b := g) (by rw [show kR (sJ x 167 a (if (kJ x 105 g) < (kJ x 167 a) then (kJ x 167 a) else (kJ x 105 g))) 150 a = kR x 150 a from (by simp [kI_sNew, kJ_sNew, kR_sNew, kN_sNew, kI_sI, kI_sJ, kI_sR, kI_sA, kI_sB, kI_sC, kJ_sI, kJ_sJ, kJ_sR, kJ_sA, kJ_sB, kJ_sC, kR_sI, kR_sJ, kR_sR, kR_sA, kR_sB, kR_sC, kA_sI, kA_sJ, kA_sR, kA_sA, kA_sB, kA_sC, kB_sI, kB_sJ, kB_sR, kB_sA, kB_sB, kB_sC, kC_sI, kC_sJ, kC_sR, kC_sA, kC_sB, kC_sC, kN_sI, kN_sJ, kN_sR, kN_sA, kN_sB, kN_sC])]; exact hgr) ?_
    refine kx_gI S hK hW hg 3 103 rfl iX1 (by decide) rfl rfl (by decide) (by decide +kernel) dX2_catchUp_29 (v := kI x 103 g) (by simp [kI_sNew, kJ_sNew, kR_sNew, kN_sNew, kI_sI, kI_sJ, kI_sR, kI_sA, kI_sB, kI_sC, kJ_sI, kJ_sJ, kJ_sR, kJ_sA, kJ_sB, kJ_sC, kR_sI, kR_sJ, kR_sR, kR_sA, kR_sB, kR_sC, kA_sI, kA_sJ, kA_sR, kA_sA, kA_sB, kA_sC, kB_sI, kB_sJ, kB_sR, kB_sA, kB_sB, kB_sC, kC_sI, kC_sJ, kC_sR, kC_sA, kC_sB, kC_sC, kN_sI, kN_sJ, kN_sR, kN_sA, kN_sB, kN_sC]) ?_
    refine lv_if_ne (tgt := 53) S.1 S.2.1 dX2_catchUp_32 (by decide) (fun c3 => ?_) (fun c3 => ?_)
    · skip
      refine kw_vret S hr hlk hW hS (by decide) (by decide) dX2_catchUp_53 ?_
      refine ⟨?_, rfl, ?_⟩ <;> first | rfl | (simp [q_catch, o1, c3, kw_b]; done) | (simp [q_catch, o1, c3, kw_b, kI_sNew, kJ_sNew, kR_sNew, kN_sNew, kI_sI, kI_sJ, kI_sR, kI_sA, kI_sB, kI_sC, kJ_sI, kJ_sJ, kJ_sR, kJ_sA, kJ_sB, kJ_sC, kR_sI, kR_sJ, kR_sR, kR_sA, kR_sB, kR_sC, kA_sI, kA_sJ, kA_sR, kA_sA, kA_sB, kA_sC, kB_sI, kB_sJ, kB_sR, kB_sA, kB_sB, kB_sC, kC_sI, kC_sJ, kC_sR, kC_sA, kC_sB, kC_sC, kN_sI, kN_sJ, kN_sR, kN_sA, kN_sB, kN_sC]; done)
    · skip
      refine lv_aload_n S.1 S.2.1 dX2_catchUp_35 rfl (lv_at hl 0 rfl) ?_
      refine kx_gA S hK hW ha 0 150 rfl iX2 (by decide) rfl rfl (by decide) (by decide +kernel) dX2_catchUp_36 (b := g) (by rw [show kR (sJ x 167 a (if (kJ x 105 g) < (kJ x 167 a) then (kJ x 167 a) else (kJ x 105 g))) 150 a = kR x 150 a from (by simp [kI_sNew, kJ_sNew, kR_sNew, kN_sNew, kI_sI, kI_sJ, kI_sR, kI_sA, kI_sB, kI_sC, kJ_sI, kJ_sJ, kJ_sR, kJ_sA, kJ_sB, kJ_sC, kR_sI, kR_sJ, kR_sR, kR_sA, kR_sB, kR_sC, kA_sI, kA_sJ, kA_sR, kA_sA, kA_sB, kA_sC, kB_sI, kB_sJ, kB_sR, kB_sA, kB_sB, kB_sC, kC_sI, kC_sJ, kC_sR, kC_sA, kC_sB, kC_sC, kN_sI, kN_sJ, kN_sR, kN_sA, kN_sB, kN_sC])]; exact hgr) ?_
      refine lv_aload_n S.1 S.2.1 dX2_catchUp_39 rfl (lv_at hl 0 rfl) ?_
      refine kx_gA S hK hW ha 0 150 rfl iX2 (by decide) rfl rfl (by decide) (by decide +kernel) dX2_catchUp_40 (b := g) (by rw [show kR (sJ x 167 a (if (kJ x 105 g) < (kJ x 167 a) then (kJ x 167 a) else (kJ x 105 g))) 150 a = kR x 150 a from (by simp [kI_sNew, kJ_sNew, kR_sNew, kN_sNew, kI_sI, kI_sJ, kI_sR, kI_sA, kI_sB, kI_sC, kJ_sI, kJ_sJ, kJ_sR, kJ_sA, kJ_sB, kJ_sC, kR_sI, kR_sJ, kR_sR, kR_sA, kR_sB, kR_sC, kA_sI, kA_sJ, kA_sR, kA_sA, kA_sB, kA_sC, kB_sI, kB_sJ, kB_sR, kB_sA, kB_sB, kB_sC, kC_sI, kC_sJ, kC_sR, kC_sA, kC_sB, kC_sC, kN_sI, kN_sJ, kN_sR, kN_sA, kN_sB, kN_sC])]; exact hgr) ?_
      refine kx_gJ S hK hW hg 4 104 rfl iX1 (by decide) rfl rfl (by decide) (by decide +kernel) dX2_catchUp_43 (v := kJ x 104 g) (by simp [kI_sNew, kJ_sNew, kR_sNew, kN_sNew, kI_sI, kI_sJ, kI_sR, kI_sA, kI_sB, kI_sC, kJ_sI, kJ_sJ, kJ_sR, kJ_sA, kJ_sB, kJ_sC, kR_sI, kR_sJ, kR_sR, kR_sA, kR_sB, kR_sC, kA_sI, kA_sJ, kA_sR, kA_sA, kA_sB, kA_sC, kB_sI, kB_sJ, kB_sR, kB_sA, kB_sB, kB_sC, kC_sI, kC_sJ, kC_sR, kC_sA, kC_sB, kC_sC, kN_sI, kN_sJ, kN_sR, kN_sA, kN_sB, kN_sC]) ?_
      refine lv_lload_n S.1 S.2.1 dX2_catchUp_46 rfl (lv_at hl 1 rfl) ?_
      refine kx_maxl S hl.1 (by decide +kernel) (by decide +kernel) (by decide +kernel) (by decide +kernel) (Nat.le_of_ble_eq_true rfl) (Nat.le_of_ble_eq_true rfl) (by first | exact Nat.le_of_ble_eq_true rfl | exact Nat.le_refl _ | exact Nat.le_of_eq (Nat.zero_add _)) (by first | exact Nat.le_of_ble_eq_true rfl | exact Nat.le_of_eq (Nat.zero_add _) | exact Nat.le_refl _) dX2_catchUp_47 ?_
      refine kx_pJ S hK hW hS hg 4 104  rfl iX1 tyX1_ok nmX1 (by decide) rfl rfl (by decide) (by decide +kernel) (Or.inl rfl) rfl dX2_catchUp_50 (fun H locs hW hS => ?_)
      refine kw_vret S hr hlk hW hS (by decide) (by decide) dX2_catchUp_53 ?_
      refine ⟨?_, rfl, ?_⟩ <;> first | rfl | (simp [q_catch, o1, c3, kw_b]; done) | (simp [q_catch, o1, c3, kw_b, kI_sNew, kJ_sNew, kR_sNew, kN_sNew, kI_sI, kI_sJ, kI_sR, kI_sA, kI_sB, kI_sC, kJ_sI, kJ_sJ, kJ_sR, kJ_sA, kJ_sB, kJ_sC, kR_sI, kR_sJ, kR_sR, kR_sA, kR_sB, kR_sC, kA_sI, kA_sJ, kA_sR, kA_sA, kA_sB, kA_sC, kB_sI, kB_sJ, kB_sR, kB_sA, kB_sB, kB_sC, kC_sI, kC_sJ, kC_sR, kC_sA, kC_sB, kC_sC, kN_sI, kN_sJ, kN_sR, kN_sA, kN_sB, kN_sC]; done)
  · skip
    refine kx_gA S hK hW ha 7 157 rfl iX2 (by decide) rfl rfl (by decide) (by decide +kernel) dX2_catchUp_1 (b := p2) o1 ?_
    refine lv_ifnonnull (tgt := 25) S.1 S.2.1 dX2_catchUp_4 (by decide) ?_
    refine lv_aload_n S.1 S.2.1 dX2_catchUp_25 rfl (lv_at hl 0 rfl) ?_
    refine kx_gA S hK hW ha 0 150 rfl iX2 (by decide) rfl rfl (by decide) (by decide +kernel) dX2_catchUp_26 (b := g) hgr ?_
    refine kx_gI S hK hW hg 3 103 rfl iX1 (by decide) rfl rfl (by decide) (by decide +kernel) dX2_catchUp_29 (v := kI x 103 g) rfl ?_
    refine lv_if_ne (tgt := 53) S.1 S.2.1 dX2_catchUp_32 (by decide) (fun c4 => ?_) (fun c4 => ?_)
    · skip
      refine kw_vret S hr hlk hW hS (by decide) (by decide) dX2_catchUp_53 ?_
      refine ⟨?_, rfl, ?_⟩ <;> first | rfl | (simp [q_catch, o1, c4, kw_b]; done) | (simp [q_catch, o1, c4, kw_b, kI_sNew, kJ_sNew, kR_sNew, kN_sNew, kI_sI, kI_sJ, kI_sR, kI_sA, kI_sB, kI_sC, kJ_sI, kJ_sJ, kJ_sR, kJ_sA, kJ_sB, kJ_sC, kR_sI, kR_sJ, kR_sR, kR_sA, kR_sB, kR_sC, kA_sI, kA_sJ, kA_sR, kA_sA, kA_sB, kA_sC, kB_sI, kB_sJ, kB_sR, kB_sA, kB_sB, kB_sC, kC_sI, kC_sJ, kC_sR, kC_sA, kC_sB, kC_sC, kN_sI, kN_sJ, kN_sR, kN_sA, kN_sB, kN_sC]; done)
    · skip
      refine lv_aload_n S.1 S.2.1 dX2_catchUp_35 rfl (lv_at hl 0 rfl) ?_
      refine kx_gA S hK hW ha 0 150 rfl iX2 (by decide) rfl rfl (by decide) (by decide +kernel) dX2_catchUp_36 (b := g) hgr ?_
      refine lv_aload_n S.1 S.2.1 dX2_catchUp_39 rfl (lv_at hl 0 rfl) ?_
      refine kx_gA S hK hW ha 0 150 rfl iX2 (by decide) rfl rfl (by decide) (by decide +kernel) dX2_catchUp_40 (b := g) hgr ?_
      refine kx_gJ S hK hW hg 4 104 rfl iX1 (by decide) rfl rfl (by decide) (by decide +kernel) dX2_catchUp_43 (v := kJ x 104 g) rfl ?_
      refine lv_lload_n S.1 S.2.1 dX2_catchUp_46 rfl (lv_at hl 1 rfl) ?_
      refine kx_maxl S hl.1 (by decide +kernel) (by decide +kernel) (by decide +kernel) (by decide +kernel) (Nat.le_of_ble_eq_true rfl) (Nat.le_of_ble_eq_true rfl) (by first | exact Nat.le_of_ble_eq_true rfl | exact Nat.le_refl _ | exact Nat.le_of_eq (Nat.zero_add _)) (by first | exact Nat.le_of_ble_eq_true rfl | exact Nat.le_of_eq (Nat.zero_add _) | exact Nat.le_refl _) dX2_catchUp_47 ?_
      refine kx_pJ S hK hW hS hg 4 104  rfl iX1 tyX1_ok nmX1 (by decide) rfl rfl (by decide) (by decide +kernel) (Or.inl rfl) rfl dX2_catchUp_50 (fun H locs hW hS => ?_)
      refine kw_vret S hr hlk hW hS (by decide) (by decide) dX2_catchUp_53 ?_
      refine ⟨?_, rfl, ?_⟩ <;> first | rfl | (simp [q_catch, o1, c4, kw_b]; done) | (simp [q_catch, o1, c4, kw_b, kI_sNew, kJ_sNew, kR_sNew, kN_sNew, kI_sI, kI_sJ, kI_sR, kI_sA, kI_sB, kI_sC, kJ_sI, kJ_sJ, kJ_sR, kJ_sA, kJ_sB, kJ_sC, kR_sI, kR_sJ, kR_sR, kR_sA, kR_sB, kR_sC, kA_sI, kA_sJ, kA_sR, kA_sA, kA_sB, kA_sC, kB_sI, kB_sJ, kB_sR, kB_sA, kB_sB, kB_sC, kC_sI, kC_sJ, kC_sR, kC_sA, kC_sB, kC_sC, kN_sI, kN_sJ, kN_sR, kN_sA, kN_sB, kN_sC]; done)
set_option maxHeartbeats 1000000 in
set_option maxRecDepth 100000 in
/-- Leaf.append -/
theorem c_X2_append (l : Launch) (G : kw_G) (nu : Nat → Option Nat) (x : kw_St) (a : Nat) (k : Nat) (g : Nat) (ha : nu a = some 3) (hg : nu g = some 2) (hk : nu k = some 4) (hgr : kR x 150 a = some g) (hla : ∀ k, kR x 158 a = some k → nu k = some 4) : kw_M l G yX2_append wsX2_append { frames := 0, cells := 0, slots := 0, locals := 0 } 0 0 [.ref a, .ref k] nu x (kw_P nu (none) (q_app x a g k)) := by
  refine kw_M.ofW (cc := cX2_append) (maxL := 2) (ret := none) (by decide) rfl (Nat.le_of_ble_eq_true rfl) ?_
  intro p e s m args below meth c A ls S hr hlk hnm hK hZ hA hW hS hl
  have hl : lv_has ls 2 [(0, .ref a), (1, .ref k)] := hl
  have iX1 : ∀ w ∈ wsX10, w ∈ wsX2_append := by decide +kernel
  have iX2 : ∀ w ∈ wsX20, w ∈ wsX2_append := by decide +kernel
  have iX3 : ∀ w ∈ wsX30, w ∈ wsX2_append := by decide +kernel
  refine lv_aload_n S.1 S.2.1 dX2_append_0 rfl (lv_at hl 0 rfl) ?_
  rcases o1 : kR x 158 a with _ | p2
  · skip
    refine kx_gN S hK hW ha 8 158 rfl iX2 (by decide) rfl rfl (by decide) (by decide +kernel) dX2_append_1 o1 ?_
    refine lv_ifnonnullN S.1 S.2.1 dX2_append_4 ?_
    refine lv_aload_n S.1 S.2.1 dX2_append_7 rfl (lv_at hl 0 rfl) ?_
    refine lv_aload_n S.1 S.2.1 dX2_append_8 rfl (lv_at hl 1 rfl) ?_
    refine kx_pA S hK hW hS ha 7 157  rfl iX2 tyX2_ok nmX2 (by decide) rfl rfl (by decide) (by decide +kernel) (Or.inl rfl) rfl (Or.inl ⟨_, rfl⟩) dX2_append_9 (fun H locs hW hS => ?_)
    refine lv_goto (tgt := 23) S.1 S.2.1 dX2_append_12 (by decide) ?_
    refine lv_aload_n S.1 S.2.1 dX2_append_23 rfl (lv_at hl 0 rfl) ?_
    refine lv_aload_n S.1 S.2.1 dX2_append_24 rfl (lv_at hl 1 rfl) ?_
    refine kx_pA S hK hW hS ha 8 158  rfl iX2 tyX2_ok nmX2 (by decide) rfl rfl (by decide) (by decide +kernel) (Or.inl rfl) rfl (Or.inl ⟨_, rfl⟩) dX2_append_25 (fun H locs hW hS => ?_)
    refine lv_aload_n S.1 S.2.1 dX2_append_28 rfl (lv_at hl 0 rfl) ?_
    refine lv_dup S.1 S.2.1 dX2_append_29 rfl ?_
    refine kx_gI S hK hW ha 9 159 rfl iX2 (by decide) rfl rfl (by decide) (by decide +kernel) dX2_append_30 (v := kI x 159 a) (by simp [kI_sNew, kJ_sNew, kR_sNew, kN_sNew, kI_sI, kI_sJ, kI_sR, kI_sA, kI_sB, kI_sC, kJ_sI, kJ_sJ, kJ_sR, kJ_sA, kJ_sB, kJ_sC, kR_sI, kR_sJ, kR_sR, kR_sA, kR_sB, kR_sC, kA_sI, kA_sJ, kA_sR, kA_sA, kA_sB, kA_sC, kB_sI, kB_sJ, kB_sR, kB_sA, kB_sB, kB_sC, kC_sI, kC_sJ, kC_sR, kC_sA, kC_sB, kC_sC, kN_sI, kN_sJ, kN_sR, kN_sA, kN_sB, kN_sC]) ?_
    refine lv_iconst (v := 1) S.1 S.2.1 dX2_append_33 (by decide) ?_
    refine lv_iadd S.1 S.2.1 dX2_append_34 ?_
    refine kx_pI S hK hW hS ha 9 159  rfl iX2 tyX2_ok nmX2 (by decide) rfl rfl (by decide) (by decide +kernel) (Or.inl rfl) rfl dX2_append_35 (fun H locs hW hS => ?_)
    refine lv_aload_n S.1 S.2.1 dX2_append_38 rfl (lv_at hl 0 rfl) ?_
    refine lv_dup S.1 S.2.1 dX2_append_39 rfl ?_
    refine kx_gI S hK hW ha 10 160 rfl iX2 (by decide) rfl rfl (by decide) (by decide +kernel) dX2_append_40 (v := kI x 160 a) (by simp [kI_sNew, kJ_sNew, kR_sNew, kN_sNew, kI_sI, kI_sJ, kI_sR, kI_sA, kI_sB, kI_sC, kJ_sI, kJ_sJ, kJ_sR, kJ_sA, kJ_sB, kJ_sC, kR_sI, kR_sJ, kR_sR, kR_sA, kR_sB, kR_sC, kA_sI, kA_sJ, kA_sR, kA_sA, kA_sB, kA_sC, kB_sI, kB_sJ, kB_sR, kB_sA, kB_sB, kB_sC, kC_sI, kC_sJ, kC_sR, kC_sA, kC_sB, kC_sC, kN_sI, kN_sJ, kN_sR, kN_sA, kN_sB, kN_sC]) ?_
    refine lv_aload_n S.1 S.2.1 dX2_append_43 rfl (lv_at hl 1 rfl) ?_
    refine kx_gI S hK hW hk 2 202 rfl iX3 (by decide) rfl rfl (by decide) (by decide +kernel) dX2_append_44 (v := kI x 202 k) (by simp [kI_sNew, kJ_sNew, kR_sNew, kN_sNew, kI_sI, kI_sJ, kI_sR, kI_sA, kI_sB, kI_sC, kJ_sI, kJ_sJ, kJ_sR, kJ_sA, kJ_sB, kJ_sC, kR_sI, kR_sJ, kR_sR, kR_sA, kR_sB, kR_sC, kA_sI, kA_sJ, kA_sR, kA_sA, kA_sB, kA_sC, kB_sI, kB_sJ, kB_sR, kB_sA, kB_sB, kB_sC, kC_sI, kC_sJ, kC_sR, kC_sA, kC_sB, kC_sC, kN_sI, kN_sJ, kN_sR, kN_sA, kN_sB, kN_sC]) ?_
    refine lv_iadd S.1 S.2.1 dX2_append_47 ?_
    refine kx_pI S hK hW hS ha 10 160  rfl iX2 tyX2_ok nmX2 (by decide) rfl rfl (by decide) (by decide +kernel) (Or.inl rfl) rfl dX2_append_48 (fun H locs hW hS => ?_)
    refine lv_aload_n S.1 S.2.1 dX2_append_51 rfl (lv_at hl 0 rfl) ?_
    refine kx_gA S hK hW ha 0 150 rfl iX2 (by decide) rfl rfl (by decide) (by decide +kernel) dX2_append_52 (b := g) (by rw [show kR (sI (sI (sR (sR x 157 a (some k)) 158 a (some k)) 159 a ((kI x 159 a) + (1))) 160 a ((kI x 160 a) + (kI x 202 k))) 150 a = kR x 150 a from (by simp [kI_sNew, kJ_sNew, kR_sNew, kN_sNew, kI_sI, kI_sJ, kI_sR, kI_sA, kI_sB, kI_sC, kJ_sI, kJ_sJ, kJ_sR, kJ_sA, kJ_sB, kJ_sC, kR_sI, kR_sJ, kR_sR, kR_sA, kR_sB, kR_sC, kA_sI, kA_sJ, kA_sR, kA_sA, kA_sB, kA_sC, kB_sI, kB_sJ, kB_sR, kB_sA, kB_sB, kB_sC, kC_sI, kC_sJ, kC_sR, kC_sA, kC_sB, kC_sC, kN_sI, kN_sJ, kN_sR, kN_sA, kN_sB, kN_sC])]; exact hgr) ?_
    refine lv_dup S.1 S.2.1 dX2_append_55 rfl ?_
    refine kx_gI S hK hW hg 3 103 rfl iX1 (by decide) rfl rfl (by decide) (by decide +kernel) dX2_append_56 (v := kI x 103 g) (by simp [kI_sNew, kJ_sNew, kR_sNew, kN_sNew, kI_sI, kI_sJ, kI_sR, kI_sA, kI_sB, kI_sC, kJ_sI, kJ_sJ, kJ_sR, kJ_sA, kJ_sB, kJ_sC, kR_sI, kR_sJ, kR_sR, kR_sA, kR_sB, kR_sC, kA_sI, kA_sJ, kA_sR, kA_sA, kA_sB, kA_sC, kB_sI, kB_sJ, kB_sR, kB_sA, kB_sB, kB_sC, kC_sI, kC_sJ, kC_sR, kC_sA, kC_sB, kC_sC, kN_sI, kN_sJ, kN_sR, kN_sA, kN_sB, kN_sC]) ?_
    refine lv_iconst (v := 1) S.1 S.2.1 dX2_append_59 (by decide) ?_
    refine lv_iadd S.1 S.2.1 dX2_append_60 ?_
    refine kx_pI S hK hW hS hg 3 103  rfl iX1 tyX1_ok nmX1 (by decide) rfl rfl (by decide) (by decide +kernel) (Or.inl rfl) rfl dX2_append_61 (fun H locs hW hS => ?_)
    refine kw_vret S hr hlk hW hS (by decide) (by decide) dX2_append_64 ?_
    refine ⟨?_, rfl, ?_⟩ <;> first | rfl | (simp [q_app, o1, kw_b]; done) | (simp [q_app, o1, kw_b, kI_sNew, kJ_sNew, kR_sNew, kN_sNew, kI_sI, kI_sJ, kI_sR, kI_sA, kI_sB, kI_sC, kJ_sI, kJ_sJ, kJ_sR, kJ_sA, kJ_sB, kJ_sC, kR_sI, kR_sJ, kR_sR, kR_sA, kR_sB, kR_sC, kA_sI, kA_sJ, kA_sR, kA_sA, kA_sB, kA_sC, kB_sI, kB_sJ, kB_sR, kB_sA, kB_sB, kB_sC, kC_sI, kC_sJ, kC_sR, kC_sA, kC_sB, kC_sC, kN_sI, kN_sJ, kN_sR, kN_sA, kN_sB, kN_sC]; done)
  · skip
    refine kx_gA S hK hW ha 8 158 rfl iX2 (by decide) rfl rfl (by decide) (by decide +kernel) dX2_append_1 (b := p2) o1 ?_
    refine lv_ifnonnull (tgt := 15) S.1 S.2.1 dX2_append_4 (by decide) ?_
    refine lv_aload_n S.1 S.2.1 dX2_append_15 rfl (lv_at hl 0 rfl) ?_
    refine kx_gA S hK hW ha 8 158 rfl iX2 (by decide) rfl rfl (by decide) (by decide +kernel) dX2_append_16 (b := p2) o1 ?_
    refine lv_aload_n S.1 S.2.1 dX2_append_19 rfl (lv_at hl 1 rfl) ?_
    refine kx_pA S hK hW hS (hla p2 o1) 8 208  rfl iX3 tyX3_ok nmX3 (by decide) rfl rfl (by decide) (by decide +kernel) (Or.inl rfl) rfl (Or.inl ⟨_, rfl⟩) dX2_append_20 (fun H locs hW hS => ?_)
    refine lv_aload_n S.1 S.2.1 dX2_append_23 rfl (lv_at hl 0 rfl) ?_
    refine lv_aload_n S.1 S.2.1 dX2_append_24 rfl (lv_at hl 1 rfl) ?_
    refine kx_pA S hK hW hS ha 8 158  rfl iX2 tyX2_ok nmX2 (by decide) rfl rfl (by decide) (by decide +kernel) (Or.inl rfl) rfl (Or.inl ⟨_, rfl⟩) dX2_append_25 (fun H locs hW hS => ?_)
    refine lv_aload_n S.1 S.2.1 dX2_append_28 rfl (lv_at hl 0 rfl) ?_
    refine lv_dup S.1 S.2.1 dX2_append_29 rfl ?_
    refine kx_gI S hK hW ha 9 159 rfl iX2 (by decide) rfl rfl (by decide) (by decide +kernel) dX2_append_30 (v := kI x 159 a) (by simp [kI_sNew, kJ_sNew, kR_sNew, kN_sNew, kI_sI, kI_sJ, kI_sR, kI_sA, kI_sB, kI_sC, kJ_sI, kJ_sJ, kJ_sR, kJ_sA, kJ_sB, kJ_sC, kR_sI, kR_sJ, kR_sR, kR_sA, kR_sB, kR_sC, kA_sI, kA_sJ, kA_sR, kA_sA, kA_sB, kA_sC, kB_sI, kB_sJ, kB_sR, kB_sA, kB_sB, kB_sC, kC_sI, kC_sJ, kC_sR, kC_sA, kC_sB, kC_sC, kN_sI, kN_sJ, kN_sR, kN_sA, kN_sB, kN_sC]) ?_
    refine lv_iconst (v := 1) S.1 S.2.1 dX2_append_33 (by decide) ?_
    refine lv_iadd S.1 S.2.1 dX2_append_34 ?_
    refine kx_pI S hK hW hS ha 9 159  rfl iX2 tyX2_ok nmX2 (by decide) rfl rfl (by decide) (by decide +kernel) (Or.inl rfl) rfl dX2_append_35 (fun H locs hW hS => ?_)
    refine lv_aload_n S.1 S.2.1 dX2_append_38 rfl (lv_at hl 0 rfl) ?_
    refine lv_dup S.1 S.2.1 dX2_append_39 rfl ?_
    refine kx_gI S hK hW ha 10 160 rfl iX2 (by decide) rfl rfl (by decide) (by decide +kernel) dX2_append_40 (v := kI x 160 a) (by simp [kI_sNew, kJ_sNew, kR_sNew, kN_sNew, kI_sI, kI_sJ, kI_sR, kI_sA, kI_sB, kI_sC, kJ_sI, kJ_sJ, kJ_sR, kJ_sA, kJ_sB, kJ_sC, kR_sI, kR_sJ, kR_sR, kR_sA, kR_sB, kR_sC, kA_sI, kA_sJ, kA_sR, kA_sA, kA_sB, kA_sC, kB_sI, kB_sJ, kB_sR, kB_sA, kB_sB, kB_sC, kC_sI, kC_sJ, kC_sR, kC_sA, kC_sB, kC_sC, kN_sI, kN_sJ, kN_sR, kN_sA, kN_sB, kN_sC]) ?_
    refine lv_aload_n S.1 S.2.1 dX2_append_43 rfl (lv_at hl 1 rfl) ?_
    refine kx_gI S hK hW hk 2 202 rfl iX3 (by decide) rfl rfl (by decide) (by decide +kernel) dX2_append_44 (v := kI x 202 k) (by simp [kI_sNew, kJ_sNew, kR_sNew, kN_sNew, kI_sI, kI_sJ, kI_sR, kI_sA, kI_sB, kI_sC, kJ_sI, kJ_sJ, kJ_sR, kJ_sA, kJ_sB, kJ_sC, kR_sI, kR_sJ, kR_sR, kR_sA, kR_sB, kR_sC, kA_sI, kA_sJ, kA_sR, kA_sA, kA_sB, kA_sC, kB_sI, kB_sJ, kB_sR, kB_sA, kB_sB, kB_sC, kC_sI, kC_sJ, kC_sR, kC_sA, kC_sB, kC_sC, kN_sI, kN_sJ, kN_sR, kN_sA, kN_sB, kN_sC]) ?_
    refine lv_iadd S.1 S.2.1 dX2_append_47 ?_
    refine kx_pI S hK hW hS ha 10 160  rfl iX2 tyX2_ok nmX2 (by decide) rfl rfl (by decide) (by decide +kernel) (Or.inl rfl) rfl dX2_append_48 (fun H locs hW hS => ?_)
    refine lv_aload_n S.1 S.2.1 dX2_append_51 rfl (lv_at hl 0 rfl) ?_
    refine kx_gA S hK hW ha 0 150 rfl iX2 (by decide) rfl rfl (by decide) (by decide +kernel) dX2_append_52 (b := g) (by rw [show kR (sI (sI (sR (sR x 208 p2 (some k)) 158 a (some k)) 159 a ((kI x 159 a) + (1))) 160 a ((kI x 160 a) + (kI x 202 k))) 150 a = kR x 150 a from (by simp [kI_sNew, kJ_sNew, kR_sNew, kN_sNew, kI_sI, kI_sJ, kI_sR, kI_sA, kI_sB, kI_sC, kJ_sI, kJ_sJ, kJ_sR, kJ_sA, kJ_sB, kJ_sC, kR_sI, kR_sJ, kR_sR, kR_sA, kR_sB, kR_sC, kA_sI, kA_sJ, kA_sR, kA_sA, kA_sB, kA_sC, kB_sI, kB_sJ, kB_sR, kB_sA, kB_sB, kB_sC, kC_sI, kC_sJ, kC_sR, kC_sA, kC_sB, kC_sC, kN_sI, kN_sJ, kN_sR, kN_sA, kN_sB, kN_sC])]; exact hgr) ?_
    refine lv_dup S.1 S.2.1 dX2_append_55 rfl ?_
    refine kx_gI S hK hW hg 3 103 rfl iX1 (by decide) rfl rfl (by decide) (by decide +kernel) dX2_append_56 (v := kI x 103 g) (by simp [kI_sNew, kJ_sNew, kR_sNew, kN_sNew, kI_sI, kI_sJ, kI_sR, kI_sA, kI_sB, kI_sC, kJ_sI, kJ_sJ, kJ_sR, kJ_sA, kJ_sB, kJ_sC, kR_sI, kR_sJ, kR_sR, kR_sA, kR_sB, kR_sC, kA_sI, kA_sJ, kA_sR, kA_sA, kA_sB, kA_sC, kB_sI, kB_sJ, kB_sR, kB_sA, kB_sB, kB_sC, kC_sI, kC_sJ, kC_sR, kC_sA, kC_sB, kC_sC, kN_sI, kN_sJ, kN_sR, kN_sA, kN_sB, kN_sC]) ?_
    refine lv_iconst (v := 1) S.1 S.2.1 dX2_append_59 (by decide) ?_
    refine lv_iadd S.1 S.2.1 dX2_append_60 ?_
    refine kx_pI S hK hW hS hg 3 103  rfl iX1 tyX1_ok nmX1 (by decide) rfl rfl (by decide) (by decide +kernel) (Or.inl rfl) rfl dX2_append_61 (fun H locs hW hS => ?_)
    refine kw_vret S hr hlk hW hS (by decide) (by decide) dX2_append_64 ?_
    refine ⟨?_, rfl, ?_⟩ <;> first | rfl | (simp [q_app, o1, kw_b]; done) | (simp [q_app, o1, kw_b, kI_sNew, kJ_sNew, kR_sNew, kN_sNew, kI_sI, kI_sJ, kI_sR, kI_sA, kI_sB, kI_sC, kJ_sI, kJ_sJ, kJ_sR, kJ_sA, kJ_sB, kJ_sC, kR_sI, kR_sJ, kR_sR, kR_sA, kR_sB, kR_sC, kA_sI, kA_sJ, kA_sR, kA_sA, kA_sB, kA_sC, kB_sI, kB_sJ, kB_sR, kB_sA, kB_sB, kB_sC, kC_sI, kC_sJ, kC_sR, kC_sA, kC_sB, kC_sC, kN_sI, kN_sJ, kN_sR, kN_sA, kN_sB, kN_sC]; done)
set_option maxHeartbeats 1000000 in
set_option maxRecDepth 100000 in
/-- Leaf.removeFirst, of a class in which something waits -/
theorem c_X2_removeFirst (l : Launch) (G : kw_G) (nu : Nat → Option Nat) (x : kw_St) (a : Nat) (t : Int32) (g : Nat) (b : Nat) (gb : Nat) (k : Nat) (ha : nu a = some 3) (hg : nu g = some 2) (hb : nu b = some 1) (hgb : nu gb = some 1) (hk : nu k = some 4) (hgr : kR x 150 a = some g) (hce : kR x 153 a = some b) (hgc : kR x 101 g = some gb) (hk1 : kR x 157 a = some k) (hne : ¬ b = gb) : kw_M l G yX2_removeFirst wsX2_removeFirst { frames := 1, cells := 0, slots := 0, locals := 21 } 0 0 [.ref a, .int (t)] nu x (kw_P nu (some (.ref k)) (q_rem x a g b gb k t)) := by
  refine kw_M.ofW (cc := cX2_removeFirst) (maxL := 3) (ret := (some (.object "LinkShaper$Packet"))) (by decide) rfl (Nat.le_of_ble_eq_true rfl) ?_
  intro p e s m args below meth c A ls S hr hlk hnm hK hZ hA hW hS hl
  have hl : lv_has ls 3 [(0, .ref a), (1, .int (t))] := hl
  have iX1 : ∀ w ∈ wsX10, w ∈ wsX2_removeFirst := by decide +kernel
  have iX2 : ∀ w ∈ wsX20, w ∈ wsX2_removeFirst := by decide +kernel
  have iX3 : ∀ w ∈ wsX30, w ∈ wsX2_removeFirst := by decide +kernel
  refine lv_aload_n S.1 S.2.1 dX2_removeFirst_0 rfl (lv_at hl 0 rfl) ?_
  refine kx_gA S hK hW ha 7 157 rfl iX2 (by decide) rfl rfl (by decide) (by decide +kernel) dX2_removeFirst_1 (b := k) hk1 ?_
  refine lv_astore_n (lv' := [(2, .ref k), (0, .ref a), (1, .int (t))]) S.1 S.2.1 dX2_removeFirst_4 rfl hl (by decide) rfl (fun ls hl => ?_)
  refine lv_aload_n S.1 S.2.1 dX2_removeFirst_5 rfl (lv_at hl 0 rfl) ?_
  refine lv_ifnonnull (tgt := 11) S.1 S.2.1 dX2_removeFirst_6 (by decide) ?_
  refine lv_aload_n S.1 S.2.1 dX2_removeFirst_11 rfl (lv_at hl 1 rfl) ?_
  refine lv_aload_n S.1 S.2.1 dX2_removeFirst_12 rfl (lv_at hl 0 rfl) ?_
  refine kx_gO S hK hW hk 8 208 rfl iX3 (by decide) rfl rfl (by decide) (by decide +kernel) dX2_removeFirst_13 (v := kR x 208 k) rfl ?_
  refine kx_pO S hK hW hS ha 7 157  rfl iX2 tyX2_ok nmX2 (by decide) rfl rfl (by decide) (by decide +kernel) (Or.inl rfl) rfl (Or.inl ⟨_, rfl⟩) dX2_removeFirst_16 (fun H locs hW hS => ?_)
  refine lv_aload_n S.1 S.2.1 dX2_removeFirst_19 rfl (lv_at hl 1 rfl) ?_
  rcases o1 : kR x 208 k with _ | p2
  · skip
    refine kx_gN S hK hW ha 7 157 rfl iX2 (by decide) rfl rfl (by decide) (by decide +kernel) dX2_removeFirst_20 (by rw [show kR (sR x 157 a (kR x 208 k)) 157 a = kR x 208 k from (by simp [kI_sNew, kJ_sNew, kR_sNew, kN_sNew, kI_sI, kI_sJ, kI_sR, kI_sA, kI_sB, kI_sC, kJ_sI, kJ_sJ, kJ_sR, kJ_sA, kJ_sB, kJ_sC, kR_sI, kR_sJ, kR_sR, kR_sA, kR_sB, kR_sC, kA_sI, kA_sJ, kA_sR, kA_sA, kA_sB, kA_sC, kB_sI, kB_sJ, kB_sR, kB_sA, kB_sB, kB_sC, kC_sI, kC_sJ, kC_sR, kC_sA, kC_sB, kC_sC, kN_sI, kN_sJ, kN_sR, kN_sA, kN_sB, kN_sC, hne, Ne.symm hne])]; exact o1) ?_
    refine lv_ifnonnullN S.1 S.2.1 dX2_removeFirst_23 ?_
    refine lv_aload_n S.1 S.2.1 dX2_removeFirst_26 rfl (lv_at hl 1 rfl) ?_
    refine lv_null S.1 S.2.1 dX2_removeFirst_27 ?_
    refine kx_pN S hK hW hS ha 8 158  rfl iX2 tyX2_ok nmX2 (by decide) rfl rfl (by decide) (by decide +kernel) (Or.inl rfl) rfl (Or.inl ⟨_, rfl⟩) dX2_removeFirst_28 (fun H locs hW hS => ?_)
    refine lv_aload_n S.1 S.2.1 dX2_removeFirst_31 rfl (lv_at hl 0 rfl) ?_
    refine lv_null S.1 S.2.1 dX2_removeFirst_32 ?_
    refine kx_pN S hK hW hS hk 8 208  rfl iX3 tyX3_ok nmX3 (by decide) rfl rfl (by decide) (by decide +kernel) (Or.inl rfl) rfl (Or.inl ⟨_, rfl⟩) dX2_removeFirst_33 (fun H locs hW hS => ?_)
    refine lv_aload_n S.1 S.2.1 dX2_removeFirst_36 rfl (lv_at hl 0 rfl) ?_
    refine lv_iload_n S.1 S.2.1 dX2_removeFirst_37 rfl (lv_at hl 2 rfl) ?_
    refine kx_pI S hK hW hS hk 5 205  rfl iX3 tyX3_ok nmX3 (by decide) rfl rfl (by decide) (by decide +kernel) (Or.inl rfl) rfl dX2_removeFirst_38 (fun H locs hW hS => ?_)
    refine lv_aload_n S.1 S.2.1 dX2_removeFirst_41 rfl (lv_at hl 1 rfl) ?_
    refine lv_dup S.1 S.2.1 dX2_removeFirst_42 rfl ?_
    refine kx_gI S hK hW ha 9 159 rfl iX2 (by decide) rfl rfl (by decide) (by decide +kernel) dX2_removeFirst_43 (v := kI x 159 a) (by simp [kI_sNew, kJ_sNew, kR_sNew, kN_sNew, kI_sI, kI_sJ, kI_sR, kI_sA, kI_sB, kI_sC, kJ_sI, kJ_sJ, kJ_sR, kJ_sA, kJ_sB, kJ_sC, kR_sI, kR_sJ, kR_sR, kR_sA, kR_sB, kR_sC, kA_sI, kA_sJ, kA_sR, kA_sA, kA_sB, kA_sC, kB_sI, kB_sJ, kB_sR, kB_sA, kB_sB, kB_sC, kC_sI, kC_sJ, kC_sR, kC_sA, kC_sB, kC_sC, kN_sI, kN_sJ, kN_sR, kN_sA, kN_sB, kN_sC, hne, Ne.symm hne]) ?_
    refine lv_iconst (v := 1) S.1 S.2.1 dX2_removeFirst_46 (by decide) ?_
    refine lv_isub S.1 S.2.1 dX2_removeFirst_47 ?_
    refine kx_pI S hK hW hS ha 9 159  rfl iX2 tyX2_ok nmX2 (by decide) rfl rfl (by decide) (by decide +kernel) (Or.inl rfl) rfl dX2_removeFirst_48 (fun H locs hW hS => ?_)
    refine lv_aload_n S.1 S.2.1 dX2_removeFirst_51 rfl (lv_at hl 1 rfl) ?_
    refine lv_dup S.1 S.2.1 dX2_removeFirst_52 rfl ?_
    refine kx_gI S hK hW ha 10 160 rfl iX2 (by decide) rfl rfl (by decide) (by decide +kernel) dX2_removeFirst_53 (v := kI x 160 a) (by simp [kI_sNew, kJ_sNew, kR_sNew, kN_sNew, kI_sI, kI_sJ, kI_sR, kI_sA, kI_sB, kI_sC, kJ_sI, kJ_sJ, kJ_sR, kJ_sA, kJ_sB, kJ_sC, kR_sI, kR_sJ, kR_sR, kR_sA, kR_sB, kR_sC, kA_sI, kA_sJ, kA_sR, kA_sA, kA_sB, kA_sC, kB_sI, kB_sJ, kB_sR, kB_sA, kB_sB, kB_sC, kC_sI, kC_sJ, kC_sR, kC_sA, kC_sB, kC_sC, kN_sI, kN_sJ, kN_sR, kN_sA, kN_sB, kN_sC, hne, Ne.symm hne]) ?_
    refine lv_aload_n S.1 S.2.1 dX2_removeFirst_56 rfl (lv_at hl 0 rfl) ?_
    refine kx_gI S hK hW hk 2 202 rfl iX3 (by decide) rfl rfl (by decide) (by decide +kernel) dX2_removeFirst_57 (v := kI x 202 k) (by simp [kI_sNew, kJ_sNew, kR_sNew, kN_sNew, kI_sI, kI_sJ, kI_sR, kI_sA, kI_sB, kI_sC, kJ_sI, kJ_sJ, kJ_sR, kJ_sA, kJ_sB, kJ_sC, kR_sI, kR_sJ, kR_sR, kR_sA, kR_sB, kR_sC, kA_sI, kA_sJ, kA_sR, kA_sA, kA_sB, kA_sC, kB_sI, kB_sJ, kB_sR, kB_sA, kB_sB, kB_sC, kC_sI, kC_sJ, kC_sR, kC_sA, kC_sB, kC_sC, kN_sI, kN_sJ, kN_sR, kN_sA, kN_sB, kN_sC, hne, Ne.symm hne]) ?_
    refine lv_isub S.1 S.2.1 dX2_removeFirst_60 ?_
    refine kx_pI S hK hW hS ha 10 160  rfl iX2 tyX2_ok nmX2 (by decide) rfl rfl (by decide) (by decide +kernel) (Or.inl rfl) rfl dX2_removeFirst_61 (fun H locs hW hS => ?_)
    refine lv_aload_n S.1 S.2.1 dX2_removeFirst_64 rfl (lv_at hl 1 rfl) ?_
    refine kx_gA S hK hW ha 0 150 rfl iX2 (by decide) rfl rfl (by decide) (by decide +kernel) dX2_removeFirst_65 (b := g) (by rw [show kR (sI (sI (sI (sR (sR (sR x 157 a (kR x 208 k)) 158 a (none)) 208 k (none)) 205 k (t)) 159 a ((kI x 159 a) - (1))) 160 a ((kI x 160 a) - (kI x 202 k))) 150 a = kR x 150 a from (by simp [kI_sNew, kJ_sNew, kR_sNew, kN_sNew, kI_sI, kI_sJ, kI_sR, kI_sA, kI_sB, kI_sC, kJ_sI, kJ_sJ, kJ_sR, kJ_sA, kJ_sB, kJ_sC, kR_sI, kR_sJ, kR_sR, kR_sA, kR_sB, kR_sC, kA_sI, kA_sJ, kA_sR, kA_sA, kA_sB, kA_sC, kB_sI, kB_sJ, kB_sR, kB_sA, kB_sB, kB_sC, kC_sI, kC_sJ, kC_sR, kC_sA, kC_sB, kC_sC, kN_sI, kN_sJ, kN_sR, kN_sA, kN_sB, kN_sC, hne, Ne.symm hne])]; exact hgr) ?_
    refine lv_dup S.1 S.2.1 dX2_removeFirst_68 rfl ?_
    refine kx_gI S hK hW hg 3 103 rfl iX1 (by decide) rfl rfl (by decide) (by decide +kernel) dX2_removeFirst_69 (v := kI x 103 g) (by simp [kI_sNew, kJ_sNew, kR_sNew, kN_sNew, kI_sI, kI_sJ, kI_sR, kI_sA, kI_sB, kI_sC, kJ_sI, kJ_sJ, kJ_sR, kJ_sA, kJ_sB, kJ_sC, kR_sI, kR_sJ, kR_sR, kR_sA, kR_sB, kR_sC, kA_sI, kA_sJ, kA_sR, kA_sA, kA_sB, kA_sC, kB_sI, kB_sJ, kB_sR, kB_sA, kB_sB, kB_sC, kC_sI, kC_sJ, kC_sR, kC_sA, kC_sB, kC_sC, kN_sI, kN_sJ, kN_sR, kN_sA, kN_sB, kN_sC, hne, Ne.symm hne]) ?_
    refine lv_iconst (v := 1) S.1 S.2.1 dX2_removeFirst_72 (by decide) ?_
    refine lv_isub S.1 S.2.1 dX2_removeFirst_73 ?_
    refine kx_pI S hK hW hS hg 3 103  rfl iX1 tyX1_ok nmX1 (by decide) rfl rfl (by decide) (by decide +kernel) (Or.inl rfl) rfl dX2_removeFirst_74 (fun H locs hW hS => ?_)
    refine lv_aload_n S.1 S.2.1 dX2_removeFirst_77 rfl (lv_at hl 1 rfl) ?_
    refine kx_gA S hK hW ha 3 153 rfl iX2 (by decide) rfl rfl (by decide) (by decide +kernel) dX2_removeFirst_78 (b := b) (by rw [show kR (sI (sI (sI (sI (sR (sR (sR x 157 a (kR x 208 k)) 158 a (none)) 208 k (none)) 205 k (t)) 159 a ((kI x 159 a) - (1))) 160 a ((kI x 160 a) - (kI x 202 k))) 103 g ((kI x 103 g) - (1))) 153 a = kR x 153 a from (by simp [kI_sNew, kJ_sNew, kR_sNew, kN_sNew, kI_sI, kI_sJ, kI_sR, kI_sA, kI_sB, kI_sC, kJ_sI, kJ_sJ, kJ_sR, kJ_sA, kJ_sB, kJ_sC, kR_sI, kR_sJ, kR_sR, kR_sA, kR_sB, kR_sC, kA_sI, kA_sJ, kA_sR, kA_sA, kA_sB, kA_sC, kB_sI, kB_sJ, kB_sR, kB_sA, kB_sB, kB_sC, kC_sI, kC_sJ, kC_sR, kC_sA, kC_sB, kC_sC, kN_sI, kN_sJ, kN_sR, kN_sA, kN_sB, kN_sC, hne, Ne.symm hne])]; exact hce) ?_
    refine lv_aload_n S.1 S.2.1 dX2_removeFirst_81 rfl (lv_at hl 0 rfl) ?_
    refine kx_gI S hK hW hk 2 202 rfl iX3 (by decide) rfl rfl (by decide) (by decide +kernel) dX2_removeFirst_82 (v := kI x 202 k) (by simp [kI_sNew, kJ_sNew, kR_sNew, kN_sNew, kI_sI, kI_sJ, kI_sR, kI_sA, kI_sB, kI_sC, kJ_sI, kJ_sJ, kJ_sR, kJ_sA, kJ_sB, kJ_sC, kR_sI, kR_sJ, kR_sR, kR_sA, kR_sB, kR_sC, kA_sI, kA_sJ, kA_sR, kA_sA, kA_sB, kA_sC, kB_sI, kB_sJ, kB_sR, kB_sA, kB_sB, kB_sC, kC_sI, kC_sJ, kC_sR, kC_sA, kC_sB, kC_sC, kN_sI, kN_sJ, kN_sR, kN_sA, kN_sB, kN_sC, hne, Ne.symm hne]) ?_
    refine kx_cV (As := [.int (kI x 202 k)]) (rest := []) (st1 := []) S hK hZ hA hW hS (c_X0_take l G nu (sI (sI (sI (sI (sR (sR (sR x 157 a (kR x 208 k)) 158 a (none)) 208 k (none)) 205 k (t)) 159 a ((kI x 159 a) - (1))) 160 a ((kI x 160 a) - (kI x 202 k))) 103 g ((kI x 103 g) - (1))) b (kI x 202 k) hb) (cwV 1 S.2.2.2.2 gX2_removeFirst_X0_take rfl rfl rfl (by decide +kernel) ⟨Nat.le_of_ble_eq_true rfl, Nat.le_of_ble_eq_true rfl⟩) hb (by decide) rfl rfl hl.1 rfl (Nat.le_of_ble_eq_true rfl) dX2_removeFirst_85 ⟨Nat.le_of_ble_eq_true rfl, Nat.le_of_ble_eq_true rfl⟩ rfl (fun H locs hW hS => ?_)
    refine lv_aload_n S.1 S.2.1 dX2_removeFirst_88 rfl (lv_at hl 1 rfl) ?_
    refine kx_gA S hK hW ha 0 150 rfl iX2 (by decide) rfl rfl (by decide) (by decide +kernel) dX2_removeFirst_89 (b := g) (by rw [show kR (sJ (sI (sI (sI (sI (sR (sR (sR x 157 a (kR x 208 k)) 158 a (none)) 208 k (none)) 205 k (t)) 159 a ((kI x 159 a) - (1))) 160 a ((kI x 160 a) - (kI x 202 k))) 103 g ((kI x 103 g) - (1))) 52 b (kJ (sI (sI (sI (sI (sR (sR (sR x 157 a (kR x 208 k)) 158 a (none)) 208 k (none)) 205 k (t)) 159 a ((kI x 159 a) - (1))) 160 a ((kI x 160 a) - (kI x 202 k))) 103 g ((kI x 103 g) - (1))) 52 b - 1000 * ((kI x 202 k)).toInt64)) 150 a = kR x 150 a from (by simp [kI_sNew, kJ_sNew, kR_sNew, kN_sNew, kI_sI, kI_sJ, kI_sR, kI_sA, kI_sB, kI_sC, kJ_sI, kJ_sJ, kJ_sR, kJ_sA, kJ_sB, kJ_sC, kR_sI, kR_sJ, kR_sR, kR_sA, kR_sB, kR_sC, kA_sI, kA_sJ, kA_sR, kA_sA, kA_sB, kA_sC, kB_sI, kB_sJ, kB_sR, kB_sA, kB_sB, kB_sC, kC_sI, kC_sJ, kC_sR, kC_sA, kC_sB, kC_sC, kN_sI, kN_sJ, kN_sR, kN_sA, kN_sB, kN_sC, hne, Ne.symm hne])]; exact hgr) ?_
    refine kx_gA S hK hW hg 1 101 rfl iX1 (by decide) rfl rfl (by decide) (by decide +kernel) dX2_removeFirst_92 (b := gb) (by rw [show kR (sJ (sI (sI (sI (sI (sR (sR (sR x 157 a (kR x 208 k)) 158 a (none)) 208 k (none)) 205 k (t)) 159 a ((kI x 159 a) - (1))) 160 a ((kI x 160 a) - (kI x 202 k))) 103 g ((kI x 103 g) - (1))) 52 b (kJ (sI (sI (sI (sI (sR (sR (sR x 157 a (kR x 208 k)) 158 a (none)) 208 k (none)) 205 k (t)) 159 a ((kI x 159 a) - (1))) 160 a ((kI x 160 a) - (kI x 202 k))) 103 g ((kI x 103 g) - (1))) 52 b - 1000 * ((kI x 202 k)).toInt64)) 101 g = kR x 101 g from (by simp [kI_sNew, kJ_sNew, kR_sNew, kN_sNew, kI_sI, kI_sJ, kI_sR, kI_sA, kI_sB, kI_sC, kJ_sI, kJ_sJ, kJ_sR, kJ_sA, kJ_sB, kJ_sC, kR_sI, kR_sJ, kR_sR, kR_sA, kR_sB, kR_sC, kA_sI, kA_sJ, kA_sR, kA_sA, kA_sB, kA_sC, kB_sI, kB_sJ, kB_sR, kB_sA, kB_sB, kB_sC, kC_sI, kC_sJ, kC_sR, kC_sA, kC_sB, kC_sC, kN_sI, kN_sJ, kN_sR, kN_sA, kN_sB, kN_sC, hne, Ne.symm hne])]; exact hgc) ?_
    refine lv_aload_n S.1 S.2.1 dX2_removeFirst_95 rfl (lv_at hl 0 rfl) ?_
    refine kx_gI S hK hW hk 2 202 rfl iX3 (by decide) rfl rfl (by decide) (by decide +kernel) dX2_removeFirst_96 (v := kI x 202 k) (by simp [kI_sNew, kJ_sNew, kR_sNew, kN_sNew, kI_sI, kI_sJ, kI_sR, kI_sA, kI_sB, kI_sC, kJ_sI, kJ_sJ, kJ_sR, kJ_sA, kJ_sB, kJ_sC, kR_sI, kR_sJ, kR_sR, kR_sA, kR_sB, kR_sC, kA_sI, kA_sJ, kA_sR, kA_sA, kA_sB, kA_sC, kB_sI, kB_sJ, kB_sR, kB_sA, kB_sB, kB_sC, kC_sI, kC_sJ, kC_sR, kC_sA, kC_sB, kC_sC, kN_sI, kN_sJ, kN_sR, kN_sA, kN_sB, kN_sC, hne, Ne.symm hne]) ?_
    refine kx_cV (As := [.int (kI x 202 k)]) (rest := []) (st1 := []) S hK hZ hA hW hS (c_X0_take l G nu (sJ (sI (sI (sI (sI (sR (sR (sR x 157 a (kR x 208 k)) 158 a (none)) 208 k (none)) 205 k (t)) 159 a ((kI x 159 a) - (1))) 160 a ((kI x 160 a) - (kI x 202 k))) 103 g ((kI x 103 g) - (1))) 52 b (kJ (sI (sI (sI (sI (sR (sR (sR x 157 a (kR x 208 k)) 158 a (none)) 208 k (none)) 205 k (t)) 159 a ((kI x 159 a) - (1))) 160 a ((kI x 160 a) - (kI x 202 k))) 103 g ((kI x 103 g) - (1))) 52 b - 1000 * ((kI x 202 k)).toInt64)) gb (kI x 202 k) hgb) (cwV 1 S.2.2.2.2 gX2_removeFirst_X0_take rfl rfl rfl (by decide +kernel) ⟨Nat.le_of_ble_eq_true rfl, Nat.le_of_ble_eq_true rfl⟩) hgb (by decide) rfl rfl hl.1 rfl (Nat.le_of_ble_eq_true rfl) dX2_removeFirst_99 ⟨Nat.le_of_ble_eq_true rfl, Nat.le_of_ble_eq_true rfl⟩ rfl (fun H locs hW hS => ?_)
    refine lv_aload_n S.1 S.2.1 dX2_removeFirst_102 rfl (lv_at hl 0 rfl) ?_
    refine kw_aret S hr (Or.inl ⟨_, rfl⟩) hlk (v := some k) hW hS (by decide) (by decide) dX2_removeFirst_103 ?_
    refine ⟨?_, rfl, ?_⟩ <;> first | rfl | (simp [q_rem, o1, kw_b]; done) | (simp [q_rem, o1, kw_b, kI_sNew, kJ_sNew, kR_sNew, kN_sNew, kI_sI, kI_sJ, kI_sR, kI_sA, kI_sB, kI_sC, kJ_sI, kJ_sJ, kJ_sR, kJ_sA, kJ_sB, kJ_sC, kR_sI, kR_sJ, kR_sR, kR_sA, kR_sB, kR_sC, kA_sI, kA_sJ, kA_sR, kA_sA, kA_sB, kA_sC, kB_sI, kB_sJ, kB_sR, kB_sA, kB_sB, kB_sC, kC_sI, kC_sJ, kC_sR, kC_sA, kC_sB, kC_sC, kN_sI, kN_sJ, kN_sR, kN_sA, kN_sB, kN_sC, hne, Ne.symm hne]; done)
  · skip
    refine kx_gA S hK hW ha 7 157 rfl iX2 (by decide) rfl rfl (by decide) (by decide +kernel) dX2_removeFirst_20 (b := p2) (by rw [show kR (sR x 157 a (kR x 208 k)) 157 a = kR x 208 k from (by simp [kI_sNew, kJ_sNew, kR_sNew, kN_sNew, kI_sI, kI_sJ, kI_sR, kI_sA, kI_sB, kI_sC, kJ_sI, kJ_sJ, kJ_sR, kJ_sA, kJ_sB, kJ_sC, kR_sI, kR_sJ, kR_sR, kR_sA, kR_sB, kR_sC, kA_sI, kA_sJ, kA_sR, kA_sA, kA_sB, kA_sC, kB_sI, kB_sJ, kB_sR, kB_sA, kB_sB, kB_sC, kC_sI, kC_sJ, kC_sR, kC_sA, kC_sB, kC_sC, kN_sI, kN_sJ, kN_sR, kN_sA, kN_sB, kN_sC, hne, Ne.symm hne])]; exact o1) ?_
    refine lv_ifnonnull (tgt := 31) S.1 S.2.1 dX2_removeFirst_23 (by decide) ?_
    refine lv_aload_n S.1 S.2.1 dX2_removeFirst_31 rfl (lv_at hl 0 rfl) ?_
    refine lv_null S.1 S.2.1 dX2_removeFirst_32 ?_
    refine kx_pN S hK hW hS hk 8 208  rfl iX3 tyX3_ok nmX3 (by decide) rfl rfl (by decide) (by decide +kernel) (Or.inl rfl) rfl (Or.inl ⟨_, rfl⟩) dX2_removeFirst_33 (fun H locs hW hS => ?_)
    refine lv_aload_n S.1 S.2.1 dX2_removeFirst_36 rfl (lv_at hl 0 rfl) ?_
    refine lv_iload_n S.1 S.2.1 dX2_removeFirst_37 rfl (lv_at hl 2 rfl) ?_
    refine kx_pI S hK hW hS hk 5 205  rfl iX3 tyX3_ok nmX3 (by decide) rfl rfl (by decide) (by decide +kernel) (Or.inl rfl) rfl dX2_removeFirst_38 (fun H locs hW hS => ?_)
    refine lv_aload_n S.1 S.2.1 dX2_removeFirst_41 rfl (lv_at hl 1 rfl) ?_
    refine lv_dup S.1 S.2.1 dX2_removeFirst_42 rfl ?_
    refine kx_gI S hK hW ha 9 159 rfl iX2 (by decide) rfl rfl (by decide) (by decide +kernel) dX2_removeFirst_43 (v := kI x 159 a) (by simp [kI_sNew, kJ_sNew, kR_sNew, kN_sNew, kI_sI, kI_sJ, kI_sR, kI_sA, kI_sB, kI_sC, kJ_sI, kJ_sJ, kJ_sR, kJ_sA, kJ_sB, kJ_sC, kR_sI, kR_sJ, kR_sR, kR_sA, kR_sB, kR_sC, kA_sI, kA_sJ, kA_sR, kA_sA, kA_sB, kA_sC, kB_sI, kB_sJ, kB_sR, kB_sA, kB_sB, kB_sC, kC_sI, kC_sJ, kC_sR, kC_sA, kC_sB, kC_sC, kN_sI, kN_sJ, kN_sR, kN_sA, kN_sB, kN_sC, hne, Ne.symm hne]) ?_
    refine lv_iconst (v := 1) S.1 S.2.1 dX2_removeFirst_46 (by decide) ?_
    refine lv_isub S.1 S.2.1 dX2_removeFirst_47 ?_
    refine kx_pI S hK hW hS ha 9 159  rfl iX2 tyX2_ok nmX2 (by decide) rfl rfl (by decide) (by decide +kernel) (Or.inl rfl) rfl dX2_removeFirst_48 (fun H locs hW hS => ?_)
    refine lv_aload_n S.1 S.2.1 dX2_removeFirst_51 rfl (lv_at hl 1 rfl) ?_
    refine lv_dup S.1 S.2.1 dX2_removeFirst_52 rfl ?_
    refine kx_gI S hK hW ha 10 160 rfl iX2 (by decide) rfl rfl (by decide) (by decide +kernel) dX2_removeFirst_53 (v := kI x 160 a) (by simp [kI_sNew, kJ_sNew, kR_sNew, kN_sNew, kI_sI, kI_sJ, kI_sR, kI_sA, kI_sB, kI_sC, kJ_sI, kJ_sJ, kJ_sR, kJ_sA, kJ_sB, kJ_sC, kR_sI, kR_sJ, kR_sR, kR_sA, kR_sB, kR_sC, kA_sI, kA_sJ, kA_sR, kA_sA, kA_sB, kA_sC, kB_sI, kB_sJ, kB_sR, kB_sA, kB_sB, kB_sC, kC_sI, kC_sJ, kC_sR, kC_sA, kC_sB, kC_sC, kN_sI, kN_sJ, kN_sR, kN_sA, kN_sB, kN_sC, hne, Ne.symm hne]) ?_
    refine lv_aload_n S.1 S.2.1 dX2_removeFirst_56 rfl (lv_at hl 0 rfl) ?_
    refine kx_gI S hK hW hk 2 202 rfl iX3 (by decide) rfl rfl (by decide) (by decide +kernel) dX2_removeFirst_57 (v := kI x 202 k) (by simp [kI_sNew, kJ_sNew, kR_sNew, kN_sNew, kI_sI, kI_sJ, kI_sR, kI_sA, kI_sB, kI_sC, kJ_sI, kJ_sJ, kJ_sR, kJ_sA, kJ_sB, kJ_sC, kR_sI, kR_sJ, kR_sR, kR_sA, kR_sB, kR_sC, kA_sI, kA_sJ, kA_sR, kA_sA, kA_sB, kA_sC, kB_sI, kB_sJ, kB_sR, kB_sA, kB_sB, kB_sC, kC_sI, kC_sJ, kC_sR, kC_sA, kC_sB, kC_sC, kN_sI, kN_sJ, kN_sR, kN_sA, kN_sB, kN_sC, hne, Ne.symm hne]) ?_
    refine lv_isub S.1 S.2.1 dX2_removeFirst_60 ?_
    refine kx_pI S hK hW hS ha 10 160  rfl iX2 tyX2_ok nmX2 (by decide) rfl rfl (by decide) (by decide +kernel) (Or.inl rfl) rfl dX2_removeFirst_61 (fun H locs hW hS => ?_)
    refine lv_aload_n S.1 S.2.1 dX2_removeFirst_64 rfl (lv_at hl 1 rfl) ?_
    refine kx_gA S hK hW ha 0 150 rfl iX2 (by decide) rfl rfl (by decide) (by decide +kernel) dX2_removeFirst_65 (b := g) (by rw [show kR (sI (sI (sI (sR (sR x 157 a (kR x 208 k)) 208 k (none)) 205 k (t)) 159 a ((kI x 159 a) - (1))) 160 a ((kI x 160 a) - (kI x 202 k))) 150 a = kR x 150 a from (by simp [kI_sNew, kJ_sNew, kR_sNew, kN_sNew, kI_sI, kI_sJ, kI_sR, kI_sA, kI_sB, kI_sC, kJ_sI, kJ_sJ, kJ_sR, kJ_sA, kJ_sB, kJ_sC, kR_sI, kR_sJ, kR_sR, kR_sA, kR_sB, kR_sC, kA_sI, kA_sJ, kA_sR, kA_sA, kA_sB, kA_sC, kB_sI, kB_sJ, kB_sR, kB_sA, kB_sB, kB_sC, kC_sI, kC_sJ, kC_sR, kC_sA, kC_sB, kC_sC, kN_sI, kN_sJ, kN_sR, kN_sA, kN_sB, kN_sC, hne, Ne.symm hne])]; exact hgr) ?_
    refine lv_dup S.1 S.2.1 dX2_removeFirst_68 rfl ?_
    refine kx_gI S hK hW hg 3 103 rfl iX1 (by decide) rfl rfl (by decide) (by decide +kernel) dX2_removeFirst_69 (v := kI x 103 g) (by simp [kI_sNew, kJ_sNew, kR_sNew, kN_sNew, kI_sI, kI_sJ, kI_sR, kI_sA, kI_sB, kI_sC, kJ_sI, kJ_sJ, kJ_sR, kJ_sA, kJ_sB, kJ_sC, kR_sI, kR_sJ, kR_sR, kR_sA, kR_sB, kR_sC, kA_sI, kA_sJ, kA_sR, kA_sA, kA_sB, kA_sC, kB_sI, kB_sJ, kB_sR, kB_sA, kB_sB, kB_sC, kC_sI, kC_sJ, kC_sR, kC_sA, kC_sB, kC_sC, kN_sI, kN_sJ, kN_sR, kN_sA, kN_sB, kN_sC, hne, Ne.symm hne]) ?_
    refine lv_iconst (v := 1) S.1 S.2.1 dX2_removeFirst_72 (by decide) ?_
    refine lv_isub S.1 S.2.1 dX2_removeFirst_73 ?_
    refine kx_pI S hK hW hS hg 3 103  rfl iX1 tyX1_ok nmX1 (by decide) rfl rfl (by decide) (by decide +kernel) (Or.inl rfl) rfl dX2_removeFirst_74 (fun H locs hW hS => ?_)
    refine lv_aload_n S.1 S.2.1 dX2_removeFirst_77 rfl (lv_at hl 1 rfl) ?_
    refine kx_gA S hK hW ha 3 153 rfl iX2 (by decide) rfl rfl (by decide) (by decide +kernel) dX2_removeFirst_78 (b := b) (by rw [show kR (sI (sI (sI (sI (sR (sR x 157 a (kR x 208 k)) 208 k (none)) 205 k (t)) 159 a ((kI x 159 a) - (1))) 160 a ((kI x 160 a) - (kI x 202 k))) 103 g ((kI x 103 g) - (1))) 153 a = kR x 153 a from (by simp [kI_sNew, kJ_sNew, kR_sNew, kN_sNew, kI_sI, kI_sJ, kI_sR, kI_sA, kI_sB, kI_sC, kJ_sI, kJ_sJ, kJ_sR, kJ_sA, kJ_sB, kJ_sC, kR_sI, kR_sJ, kR_sR, kR_sA, kR_sB, kR_sC, kA_sI, kA_sJ, kA_sR, kA_sA, kA_sB, kA_sC, kB_sI, kB_sJ, kB_sR, kB_sA, kB_sB, kB_sC, kC_sI, kC_sJ, kC_sR, kC_sA, kC_sB, kC_sC, kN_sI, kN_sJ, kN_sR, kN_sA, kN_sB, kN_sC, hne, Ne.symm hne])]; exact hce) ?_
    refine lv_aload_n S.1 S.2.1 dX2_removeFirst_81 rfl (lv_at hl 0 rfl) ?_
    refine kx_gI S hK hW hk 2 202 rfl iX3 (by decide) rfl rfl (by decide) (by decide +kernel) dX2_removeFirst_82 (v := kI x 202 k) (by simp [kI_sNew, kJ_sNew, kR_sNew, kN_sNew, kI_sI, kI_sJ, kI_sR, kI_sA, kI_sB, kI_sC, kJ_sI, kJ_sJ, kJ_sR, kJ_sA, kJ_sB, kJ_sC, kR_sI, kR_sJ, kR_sR, kR_sA, kR_sB, kR_sC, kA_sI, kA_sJ, kA_sR, kA_sA, kA_sB, kA_sC, kB_sI, kB_sJ, kB_sR, kB_sA, kB_sB, kB_sC, kC_sI, kC_sJ, kC_sR, kC_sA, kC_sB, kC_sC, kN_sI, kN_sJ, kN_sR, kN_sA, kN_sB, kN_sC, hne, Ne.symm hne]) ?_
    refine kx_cV (As := [.int (kI x 202 k)]) (rest := []) (st1 := []) S hK hZ hA hW hS (c_X0_take l G nu (sI (sI (sI (sI (sR (sR x 157 a (kR x 208 k)) 208 k (none)) 205 k (t)) 159 a ((kI x 159 a) - (1))) 160 a ((kI x 160 a) - (kI x 202 k))) 103 g ((kI x 103 g) - (1))) b (kI x 202 k) hb) (cwV 1 S.2.2.2.2 gX2_removeFirst_X0_take rfl rfl rfl (by decide +kernel) ⟨Nat.le_of_ble_eq_true rfl, Nat.le_of_ble_eq_true rfl⟩) hb (by decide) rfl rfl hl.1 rfl (Nat.le_of_ble_eq_true rfl) dX2_removeFirst_85 ⟨Nat.le_of_ble_eq_true rfl, Nat.le_of_ble_eq_true rfl⟩ rfl (fun H locs hW hS => ?_)
    refine lv_aload_n S.1 S.2.1 dX2_removeFirst_88 rfl (lv_at hl 1 rfl) ?_
    refine kx_gA S hK hW ha 0 150 rfl iX2 (by decide) rfl rfl (by decide) (by decide +kernel) dX2_removeFirst_89 (b := g) (by rw [show kR (sJ (sI (sI (sI (sI (sR (sR x 157 a (kR x 208 k)) 208 k (none)) 205 k (t)) 159 a ((kI x 159 a) - (1))) 160 a ((kI x 160 a) - (kI x 202 k))) 103 g ((kI x 103 g) - (1))) 52 b (kJ (sI (sI (sI (sI (sR (sR x 157 a (kR x 208 k)) 208 k (none)) 205 k (t)) 159 a ((kI x 159 a) - (1))) 160 a ((kI x 160 a) - (kI x 202 k))) 103 g ((kI x 103 g) - (1))) 52 b - 1000 * ((kI x 202 k)).toInt64)) 150 a = kR x 150 a from (by simp [kI_sNew, kJ_sNew, kR_sNew, kN_sNew, kI_sI, kI_sJ, kI_sR, kI_sA, kI_sB, kI_sC, kJ_sI, kJ_sJ, kJ_sR, kJ_sA, kJ_sB, kJ_sC, kR_sI, kR_sJ, kR_sR, kR_sA, kR_sB, kR_sC, kA_sI, kA_sJ, kA_sR, kA_sA, kA_sB, kA_sC, kB_sI, kB_sJ, kB_sR, kB_sA, kB_sB, kB_sC, kC_sI, kC_sJ, kC_sR, kC_sA, kC_sB, kC_sC, kN_sI, kN_sJ, kN_sR, kN_sA, kN_sB, kN_sC, hne, Ne.symm hne])]; exact hgr) ?_
    refine kx_gA S hK hW hg 1 101 rfl iX1 (by decide) rfl rfl (by decide) (by decide +kernel) dX2_removeFirst_92 (b := gb) (by rw [show kR (sJ (sI (sI (sI (sI (sR (sR x 157 a (kR x 208 k)) 208 k (none)) 205 k (t)) 159 a ((kI x 159 a) - (1))) 160 a ((kI x 160 a) - (kI x 202 k))) 103 g ((kI x 103 g) - (1))) 52 b (kJ (sI (sI (sI (sI (sR (sR x 157 a (kR x 208 k)) 208 k (none)) 205 k (t)) 159 a ((kI x 159 a) - (1))) 160 a ((kI x 160 a) - (kI x 202 k))) 103 g ((kI x 103 g) - (1))) 52 b - 1000 * ((kI x 202 k)).toInt64)) 101 g = kR x 101 g from (by simp [kI_sNew, kJ_sNew, kR_sNew, kN_sNew, kI_sI, kI_sJ, kI_sR, kI_sA, kI_sB, kI_sC, kJ_sI, kJ_sJ, kJ_sR, kJ_sA, kJ_sB, kJ_sC, kR_sI, kR_sJ, kR_sR, kR_sA, kR_sB, kR_sC, kA_sI, kA_sJ, kA_sR, kA_sA, kA_sB, kA_sC, kB_sI, kB_sJ, kB_sR, kB_sA, kB_sB, kB_sC, kC_sI, kC_sJ, kC_sR, kC_sA, kC_sB, kC_sC, kN_sI, kN_sJ, kN_sR, kN_sA, kN_sB, kN_sC, hne, Ne.symm hne])]; exact hgc) ?_
    refine lv_aload_n S.1 S.2.1 dX2_removeFirst_95 rfl (lv_at hl 0 rfl) ?_
    refine kx_gI S hK hW hk 2 202 rfl iX3 (by decide) rfl rfl (by decide) (by decide +kernel) dX2_removeFirst_96 (v := kI x 202 k) (by simp [kI_sNew, kJ_sNew, kR_sNew, kN_sNew, kI_sI, kI_sJ, kI_sR, kI_sA, kI_sB, kI_sC, kJ_sI, kJ_sJ, kJ_sR, kJ_sA, kJ_sB, kJ_sC, kR_sI, kR_sJ, kR_sR, kR_sA, kR_sB, kR_sC, kA_sI, kA_sJ, kA_sR, kA_sA, kA_sB, kA_sC, kB_sI, kB_sJ, kB_sR, kB_sA, kB_sB, kB_sC, kC_sI, kC_sJ, kC_sR, kC_sA, kC_sB, kC_sC, kN_sI, kN_sJ, kN_sR, kN_sA, kN_sB, kN_sC, hne, Ne.symm hne]) ?_
    refine kx_cV (As := [.int (kI x 202 k)]) (rest := []) (st1 := []) S hK hZ hA hW hS (c_X0_take l G nu (sJ (sI (sI (sI (sI (sR (sR x 157 a (kR x 208 k)) 208 k (none)) 205 k (t)) 159 a ((kI x 159 a) - (1))) 160 a ((kI x 160 a) - (kI x 202 k))) 103 g ((kI x 103 g) - (1))) 52 b (kJ (sI (sI (sI (sI (sR (sR x 157 a (kR x 208 k)) 208 k (none)) 205 k (t)) 159 a ((kI x 159 a) - (1))) 160 a ((kI x 160 a) - (kI x 202 k))) 103 g ((kI x 103 g) - (1))) 52 b - 1000 * ((kI x 202 k)).toInt64)) gb (kI x 202 k) hgb) (cwV 1 S.2.2.2.2 gX2_removeFirst_X0_take rfl rfl rfl (by decide +kernel) ⟨Nat.le_of_ble_eq_true rfl, Nat.le_of_ble_eq_true rfl⟩) hgb (by decide) rfl rfl hl.1 rfl (Nat.le_of_ble_eq_true rfl) dX2_removeFirst_99 ⟨Nat.le_of_ble_eq_true rfl, Nat.le_of_ble_eq_true rfl⟩ rfl (fun H locs hW hS => ?_)
    refine lv_aload_n S.1 S.2.1 dX2_removeFirst_102 rfl (lv_at hl 0 rfl) ?_
    refine kw_aret S hr (Or.inl ⟨_, rfl⟩) hlk (v := some k) hW hS (by decide) (by decide) dX2_removeFirst_103 ?_
    refine ⟨?_, rfl, ?_⟩ <;> first | rfl | (simp [q_rem, o1, kw_b]; done) | (simp [q_rem, o1, kw_b, kI_sNew, kJ_sNew, kR_sNew, kN_sNew, kI_sI, kI_sJ, kI_sR, kI_sA, kI_sB, kI_sC, kJ_sI, kJ_sJ, kJ_sR, kJ_sA, kJ_sB, kJ_sC, kR_sI, kR_sJ, kR_sR, kR_sA, kR_sB, kR_sC, kA_sI, kA_sJ, kA_sR, kA_sA, kA_sB, kA_sC, kB_sI, kB_sJ, kB_sR, kB_sA, kB_sB, kB_sC, kC_sI, kC_sJ, kC_sR, kC_sA, kC_sB, kC_sC, kN_sI, kN_sJ, kN_sR, kN_sA, kN_sB, kN_sC, hne, Ne.symm hne]; done)
end
section
/-! rules for the list's own code: arrays of Objects, the list's empty array, arraycopy -/
theorem kw_any {G : kw_G} {s : State} {A : Nat → Prop} {nu : Nat → Option Nat} {x : kw_St} {H : Heap} {y q : Nat} (hK : kw_K G s) (hW : kw_W G A nu x H) (hy : nu y = some q) (hq : q = 2 ∨ q = 3 ∨ q = 4) : va_Any "java/lang/Object" s H y := by
  have key : ∀ (C : String) (T : u_T) (N : Nat), q < 7 → vwCl[q]? = some (C, T, N) → va_Nw (.castable C "java/lang/Object") s → va_Any "java/lang/Object" s H y := by
    intro C T N h7 hc hn
    have h1 := (hW y q hy).1
    rw [kw_ce_ob h7] at h1
    refine va_rAny hK.1 (kw_one h1) (q0 := 0) rfl hc (fun comp c0 f1 f2 => ?_)
    obtain ⟨c1, t1, g1, g2, g3⟩ := Cond.castable_spec (va_Nw.use (A := #[]) rfl hn)
    cases f2.symm.trans g1
    cases f1.symm.trans g2
    exact g3
  rcases hq with rfl | rfl | rfl
  · exact key RX1 TX1 6 (by decide) rfl hK.2.2.2.2.1
  · exact key RX2 TX2 18 (by decide) rfl hK.2.2.2.2.2.1
  · exact key RX3 TX3 9 (by decide) rfl hK.2.2.2.2.2.2
section KWJ
variable {p : Program} {l : Launch} {e : Env} {R : Room} {s : State} {m : MethodId} {args : Array Value} {below : List Frame} {meth : Method} {c : Code} {H : Heap} {locs : List Loc} {cells slots : Nat} {Q : State → Prop}
variable {cc : ByteArray} {pc nL : Nat} {ls : Array Slot} {rest : List Value} {G : kw_G} {A : Nat → Prop} {nu : Nat → Option Nat} {x : kw_St} {a q : Nat} {H0 : Heap} {Ts : List Cond} {own : String}
theorem kw_alen (S : CallFix p m c cc nL s args Ts own) (hK : kw_K G s) (hW : kw_W G A nu x H) (ha : nu a = some q) (hq : q = 10 ∨ q = 11) (hdg : decode cc pc = .ok (.arraylength, 1))
    (kk : W p l e R s m args below meth c H locs cells slots Q (F0 m (pc + 1) ls (.int (nI (kN x a)) :: rest))) : W p l e R s m args below meth c H locs cells slots Q (F0 m pc ls (.ref a :: rest)) := by
  rcases hq with rfl | rfl
  · exact va_alen S.1 S.2.1 hK.1 (kw_one (hW a 10 ha).1) 0 3 rfl rfl rfl hdg kk
  · exact va_alen S.1 S.2.1 hK.1 (kw_one (hW a 11 ha).1) 0 3 rfl rfl rfl hdg kk
theorem kw_anew (S : CallFix p m c cc nL s args Ts own) (hK : kw_K G s) (hW : kw_W G A nu x H) (hS : va_S A s.heap H locs) (hA : ∀ r, s.heap.size ≤ r → A r) {index : Nat} (hl : Cond.classLink own index "java/lang/Object" ∈ Ts) {n : Int32} {k : Nat} (hn : n = nI k) (hk : k ≤ 1000000) (hcells : cells + 1 ≤ R.cells) (hslots : slots + k ≤ R.slots) (hdg : decode cc pc = .ok (.anewarray index, 3))
    (kk : ∀ (b : Nat) (H1 : Heap), nu b = none → kw_W G A (va_up nu b (some 10)) (sNew x b k) H1 → va_S A s.heap H1 locs → W p l e R s m args below meth c H1 locs (cells + 1) (slots + k) Q (F0 m (pc + 3) ls (.ref b :: rest))) : W p l e R s m args below meth c H locs cells slots Q (F0 m pc ls (.int n :: rest)) := by
  subst hn
  have hc : (nI k).toNatClampNeg = k := nI_clamp (by omega)
  refine W.anew S.1 S.2.1 S.2.2.2.1 (S.2.2.2.2 _ hl) (va_AO.use hK.2.1) rfl hdg rfl (nI_pos (by omega)) (by rw [hc]; omega) hcells (by rw [hc]; exact hslots) fun cA kA comp f1 f2 f3 f4 => ?_
  rw [hc]
  have hcA : cA = G.2.1.2.2.2 := by
    obtain ⟨_, _, _, _, _, g4⟩ := (hK.1.2 3 _ rfl).2
    exact Option.some.inj (f1.symm.trans g4)
  subst hcA
  generalize hH1 : H.push ({ cls := G.2.1.2.2.2, slots := Array.replicate k .null, vm := .none } : Cell) = H1
  have z1 : H1.size = H.size + 1 := by rw [← hH1, Array.size_push]
  have e1 : H1[H.size]? = some (arrV G.2.1.2.2.2 k (fun _ => .null)) := by rw [← hH1, Array.getElem?_push_size, ← arrV_new]
  have o1 : ∀ r : Nat, r < H.size → H1[r]? = H[r]? := fun r hr => by rw [← hH1, Array.getElem?_push, if_neg (Nat.ne_of_lt hr)]
  have hfr : nu H.size = none := by
    cases h : nu H.size with
    | none => rfl
    | some r => exact absurd (hW _ r h).1.lt (Nat.lt_irrefl _)
  refine kk H.size H1 hfr (fun b r hb => ?_) ⟨Nat.le_trans hS.1 (by omega), fun r h1 h2 => (o1 r (Nat.lt_of_lt_of_le h1 hS.1)).trans (hS.2.1 r h1 h2), hS.2.2⟩
  by_cases e : b = H.size
  · subst e
    rw [va_up_self] at hb
    cases hb
    refine ⟨?_, Or.inr (hA _ hS.1)⟩
    show H1[H.size]? = some (vp_cell G.2.1.2.2.2 (kN (sNew x H.size k) H.size, .inr (.inr (.inr (.inr (kC (sNew x H.size k) H.size))))))
    rw [vp_cell_q, kN_sNew, kC_sNew, if_pos rfl, if_pos rfl]
    exact e1
  · rw [va_up_ne _ _ e] at hb
    rw [kw_ne_sNew r e]
    exact ⟨(hW b r hb).1.kept (o1 b (hW b r hb).1.lt), (hW b r hb).2⟩
theorem kw_aast (S : CallFix p m c cc nL s args Ts own) (hK : kw_K G s) (hW : kw_W G A nu x H) (hS : va_S A H0 H locs) (ha : nu a = some 10) {v r : Nat} (hv : nu v = some r) (hr : r = 2 ∨ r = 3 ∨ r = 4) {i : Int32} {k : Nat} (hi : kw_ix i k (kN x a)) (hdg : decode cc pc = .ok (.aastore, 1))
    (kk : ∀ (H1 : Heap) (locs1 : List Loc), kw_W G A nu (sC x a k (some v)) H1 → va_S A H0 H1 locs1 → W p l e R s m args below meth c H1 locs1 cells slots Q (F0 m (pc + 1) ls rest)) : W p l e R s m args below meth c H locs cells slots Q (F0 m pc ls (.ref v :: .int i :: .ref a :: rest)) := by
  obtain ⟨h1, h2⟩ := hi
  subst h2
  have hA : A a := (hW a 10 ha).2.resolve_left (by decide)
  have hlt : i.toNatClampNeg < kN x a := Nat.not_le.mp fun q => h1 (Or.inr q)
  have h0 : ¬ i < 0 := fun q => h1 (Or.inl q)
  have hcell : H[a]? = some (vp_cell G.2.1.2.2.2 (kN x a, .inr (.inr (.inr (.inr (kC x a)))))) := (hW a 10 ha).1
  obtain ⟨cellV, g1, g3, ⟨kCl, hkC⟩, hasg⟩ := kw_any hK hW hv hr
  obtain ⟨kA, comp, k1, k2, k3, -⟩ := (hK.1.2 3 _ rfl).2
  obtain ⟨kE, hkE, -⟩ := Vm.findClass_spec k3
  refine W.aast S.1 S.2.1 hcell (fun q h => by cases h) (fun h => by cases h) k1 k2 rfl hkE ⟨h0, by show _ < (arrV _ _ _).slots.size; rw [arrV_size]; exact hlt⟩ g1 (fun q h => by rw [h] at g3; cases g3) hkC (hasg _ k3) rfl rfl hdg fun H1 e z oq => ?_
  refine kk H1 _ (hW.up ha ?_ oq (fun b r h => kw_ne_sC r h)) (hS.put z oq hA)
  show H1[a]? = some (vp_cell G.2.1.2.2.2 (kN x a, .inr (.inr (.inr (.inr (kC (sC x a i.toNatClampNeg (some v)) a))))))
  rw [e, kC_sC, if_pos rfl, vp_cell_q, vp_cell_q, arrV_store]
  congr 2
  funext r
  by_cases hr : r = i.toNatClampNeg
  · subst hr; simp [updV, va_up, va_rf]
  · simp [updV, va_up, hr]
/-- arraycopy from the first place on, before anything that was there is written -/
theorem kw_copy (S : CallFix p m c cc nL s args Ts own) (hK : kw_K G s) (hW : kw_W G A nu x H) (hS : va_S A s.heap H []) {a0 : Nat} (ha0 : nu a0 = some 10) (ha : nu a = some 10) (hne : ¬ a0 = a) {index k : Nat} (h1 : Cond.methodLink own index arraycopyName ∈ Ts) (h2 : Cond.native arraycopyName ∈ Ts) (h3 : Cond.static arraycopyName ∈ Ts) (h4 : Cond.initialized "java/lang/System" ∈ Ts) (hz : ls.size = nL) {n : Int32} (hn : n = nI k) (hk : k < 2 ^ 31) (hk0 : k ≤ kN x a0) (hk1 : k ≤ kN x a) (hel : ∀ i y, i < k → kC x a0 i = some y → ∃ r, nu y = some r ∧ (r = 2 ∨ r = 3 ∨ r = 4)) (hf : 1 ≤ R.frames) (hlo : (rest.map fun v => v.category).sum + (nativeFrameWords "java/lang/System" "arraycopy" 5 + 11) ≤ R.locals) (hdg : decode cc pc = .ok (.invokestatic index, 3))
    (kk : ∀ (H1 : Heap) (locs1 : List Loc), kw_W G A nu (sCrow x a (va_cpy (kC x a0) (kC x a) 0 0 k)) H1 → va_S A s.heap H1 locs1 → W p l e R s m args below meth c H1 locs1 cells slots Q (F0 m (pc + 3) ls rest)) : W p l e R s m args below meth c H [] cells slots Q (F0 m pc ls (.int n :: .int 0 :: .ref a :: .int 0 :: .ref a0 :: rest)) := by
  subst hn
  have hc : (nI k).toNatClampNeg = k := nI_clamp hk
  have z0 : (0 : Int32).toNatClampNeg = 0 := by decide
  have hA : A a := (hW a 10 ha).2.resolve_left (by decide)
  let w : va_W := [(a0, kw_ce G x 10 a0), (a, kw_ce G x 10 a)]
  have hP : va_P G.1 vwCl [(a0, .inl (G.2.1.2.2.2, kN x a0, .inr (.inr (.inr (.inr (kC x a0)))))), (a, .inl (G.2.1.2.2.2, kN x a, .inr (.inr (.inr (.inr (kC x a))))))] H := by
    intro j r hj
    match j, hj with
    | 0, hj => cases hj; exact (hW a0 10 ha0).1
    | 1, hj => cases hj; exact (hW a 10 ha).1
    | j + 2, hj => simp at hj
  have hD : va_D (fun r => r = a0 ∨ r = a) [(a0, (.inl (G.2.1.2.2.2, kN x a0, .inr (.inr (.inr (.inr (kC x a0))))) : va_E)), (a, .inl (G.2.1.2.2.2, kN x a, .inr (.inr (.inr (.inr (kC x a))))))] := by
    refine ⟨fun i j r t hi hj hrt => ?_, fun j r hj => ?_⟩
    · match i, j, hi, hj with
      | 0, 0, _, _ => rfl
      | 0, 1, hi, hj => cases hi; cases hj; exact absurd hrt hne
      | 1, 0, hi, hj => cases hi; cases hj; exact absurd hrt.symm hne
      | 1, 1, _, _ => rfl
      | i + 2, _, hi, _ => simp at hi
      | _, j + 2, _, hj => simp at hj
    · match j, hj with
      | 0, hj => cases hj; exact Or.inl rfl
      | 1, hj => cases hj; exact Or.inr rfl
      | j + 2, hj => simp at hj
  refine va_copyM (H0 := H) S.1 S.2.1 (S.2.2.1.trans hz.symm) S.2.2.2.1 (S.2.2.2.2 _ h1) (S.2.2.2.2 _ h2) (S.2.2.2.2 _ h3) (S.2.2.2.2 _ h4) hK.1 hP hD va_S.rf 0 1 3 3 rfl rfl rfl rfl (by decide) (by decide) (nI_pos hk) (by rw [hc, z0]; omega) (by rw [hc, z0]; omega) (fun i hi y hy => ?_) hf hlo hdg (fun H1 locs1 hP1 _ hS1 => ?_)
  · rw [hc] at hi
    rw [z0, Nat.zero_add] at hy
    obtain ⟨r, h5, h6⟩ := hel i y hi hy
    exact kw_any hK hW h5 h6
  · rw [hc, z0] at hP1
    have p0 := hP1 0 _ rfl
    have p1 := hP1 1 _ rfl
    have oq : ∀ r : Nat, r < H.size → ¬ (r = a0 ∨ r = a) → H1[r]? = H[r]? := fun r hr hn => hS1.2.1 r hr hn
    have q0 : H1[a0]? = H[a0]? := by
      have e0 : H1[a0]? = some (vp_cell G.2.1.2.2.2 (kN x a0, .inr (.inr (.inr (.inr (kC x a0)))))) := p0
      have e1 : H[a0]? = some (vp_cell G.2.1.2.2.2 (kN x a0, .inr (.inr (.inr (.inr (kC x a0)))))) := (hW a0 10 ha0).1
      rw [e0, e1]
    have oq2 : ∀ r : Nat, r < H.size → r ≠ a → H1[r]? = H[r]? := fun r hr hn => by
      by_cases e : r = a0
      · rw [e]; exact q0
      · exact oq r hr (fun h => h.elim e hn)
    refine kk H1 locs1 (fun b r hb => ?_) ⟨Nat.le_trans hS.1 hS1.1, fun r g1 g2 => ?_, fun r hr => ?_⟩
    · by_cases e : b = a
      · subst e
        rw [ha] at hb
        cases hb
        refine ⟨?_, Or.inr hA⟩
        show H1[b]? = some (vp_cell G.2.1.2.2.2 (kN x b, .inr (.inr (.inr (.inr (kC (sCrow x b (va_cpy (kC x a0) (kC x b) 0 0 k)) b))))))
        rw [kC_sCrow, if_pos rfl]
        exact p1
      · rw [kw_ne_sCrow r e]
        exact ⟨(hW b r hb).1.kept (oq2 b (hW b r hb).1.lt e), (hW b r hb).2⟩
    · rw [oq2 r (Nat.lt_of_lt_of_le g1 hS.1) (fun e => g2 (e ▸ hA))]
      exact hS.2.1 r g1 g2
    · rcases hS1.2.2 r hr with e | e
      · rw [e]; exact (hW a0 10 ha0).2.resolve_left (by decide)
      · rw [e]; exact hA
theorem kw_getC (S : CallFix p m c cc nL s args Ts own) (hK : kw_K G s) (hW : kw_W G A nu x H) (hz : ls.size = nL) (ha : nu a = some 10) {index : Nat} (h1 : Cond.methodLink own index ⟨"java/lang/Object", "getClass", "()Ljava/lang/Class;"⟩ ∈ Ts) (h2 : Cond.selects "[Ljava/lang/Object;" ⟨"java/lang/Object", "getClass", "()Ljava/lang/Class;"⟩ ⟨"java/lang/Object", "getClass", "()Ljava/lang/Class;"⟩ ∈ Ts) (h3 : Cond.instanceMethod ⟨"java/lang/Object", "getClass", "()Ljava/lang/Class;"⟩ ∈ Ts) (h4 : Cond.native ⟨"java/lang/Object", "getClass", "()Ljava/lang/Class;"⟩ ∈ Ts) (hf : 1 ≤ R.frames) (hlo : (rest.map fun v => v.category).sum + 14 ≤ R.locals) (hdg : decode cc pc = .ok (.invokevirtual index, 3))
    (kk : W p l e R s m args below meth c H locs cells slots Q (F0 m (pc + 3) ls (.ref G.2.2.2 :: rest))) : W p l e R s m args below meth c H locs cells slots Q (F0 m pc ls (.ref a :: rest)) := by
  have hcell : H[a]? = some (vp_cell G.2.1.2.2.2 (kN x a, .inr (.inr (.inr (.inr (kC x a)))))) := (hW a 10 ha).1
  exact va_getC S.1 S.2.1 (S.2.2.1.trans hz.symm) S.2.2.2.1 (S.2.2.2.2 _ h1) (va_Dc.use hK.2.2.2.1) (S.2.2.2.2 _ h2) (S.2.2.2.2 _ h3) (S.2.2.2.2 _ h4) hK.2.2.1 ⟨_, hcell, rfl, va_nmO (hK.1.2 3 _ rfl).2 (by decide +kernel)⟩ hf hlo hdg kk
/-- a field under the name by which javac spells an inherited one -/
theorem kx_gIr (S : CallFix p m c cc nL s args Ts own) (hK : kw_K G s) (hW : kw_W G A nu x H) (ha : nu a = some q) (j id : Nat) {C : String} {T : u_T} {N index : Nat} (hc : vwCl[q]? = some (C, T, N)) (hin : ∀ w ∈ u_ws C T N, w ∈ Ts) (hq : q < 7) (hj : (kw_fl q)[j]? = some 0) (hid : 50 * q + j = id) (hjN : j < N) {ref : String} (hsm : Cond.sameField ref (T j).1 (T j).2.1 (T j).2.2.1 ∈ Ts) (hl : Cond.fieldLink own index ref (T j).2.1 (T j).2.2.1 ∈ Ts) (hdg : decode cc pc = .ok (.getfield index, 3)) {v : Int32} (hv : kI x id a = v)
    (kk : W p l e R s m args below meth c H locs cells slots Q (F0 m (pc + 3) ls (.int v :: rest))) : W p l e R s m args below meth c H locs cells slots Q (F0 m pc ls (.ref a :: rest)) := by
  subst hv
  exact kw_get S hK.1 hW ha j id 0 hc hin hq hj hid hjN hl (u_same (S.2.2.2.2 _ hsm)) hdg kk
theorem kx_pIr (S : CallFix p m c cc nL s args Ts own) (hK : kw_K G s) (hW : kw_W G A nu x H) (hS0 : va_S A H0 H locs) (ha : nu a = some q) (j id : Nat) {v : Int32} {C : String} {T : u_T} {N index : Nat} (hc : vwCl[q]? = some (C, T, N)) (hin : ∀ w ∈ u_ws C T N, w ∈ Ts) {ty0 : Nat → FieldType} (hty : ∀ k, k < N → parseFieldDescriptor (T k).2.2.1 = some (ty0 k)) (hnm : ∀ a, a < N → ∀ b, b < N → a ≠ b → (T a).2.1 ≠ (T b).2.1) (hq : q < 7) (hj : (kw_fl q)[j]? = some 0) (hid : 50 * q + j = id) (hjN : j < N) {ref : String} (hsm : Cond.sameField ref (T j).1 (T j).2.1 (T j).2.2.1 ∈ Ts) (hl : Cond.fieldLink own index ref (T j).2.1 (T j).2.2.1 ∈ Ts) (hfin : (T j).2.2.2 = false) (hd : parseFieldDescriptor (T j).2.2.1 = some .int) (hdg : decode cc pc = .ok (.putfield index, 3))
    (kk : ∀ (H1 : Heap) (locs1 : List Loc), kw_W G A nu (sI x id a v) H1 → va_S A H0 H1 locs1 → W p l e R s m args below meth c H1 locs1 cells slots Q (F0 m (pc + 3) ls rest)) : W p l e R s m args below meth c H locs cells slots Q (F0 m pc ls (.int v :: .ref a :: rest)) :=
  kw_put (x := x) (y := sI x id a v) S hK.1 hW hS0 ha j id 0 hc hin ty0 hty hnm hq hj hid hjN hl (u_same (S.2.2.2.2 _ hsm)) (Or.inl hfin) hd rfl rfl hdg (fun i h => by simp [kI_sI, h]) (fun _ _ => rfl) (fun _ _ => rfl) (by simp [kw_fv, kI_sI]) (fun b r h => kw_ne_sI r h) kk
/-- a call that makes one cell more: where it lies, the answer, what the tables hold -/
theorem kx_dV {post : Nat → Option Value × kw_St} {kq mc ms : Nat} (S : CallFix p m c cc nL s args Ts own) (hK : kw_K G s) (hZ : kw_Z G A s s.heap) (hA : ∀ r, s.heap.size ≤ r → A r) (hW : kw_W G A nu x H) (hS : va_S A s.heap H locs) {st1 : Nat → List Value} {b : Nat} {As st0 : List Value} {y : MethodName} {ws : List Cond} {rm : Room} {bytes : ByteArray} {maxL n index : Nat} {ret : Option FieldType} {C : String} {T : u_T} {N : Nat} (hM : kw_M l G y ws rm mc ms (.ref b :: As) nu x (fun v nu' y => ∃ d, nu d = none ∧ v = (post d).1 ∧ nu' = va_up nu d (some kq) ∧ y = (post d).2)) (cw : CallW R s args own C index y bytes maxL ret ws rm mc ms n) (hb : nu b = some q) (hq : q < 7) (hc : vwCl[q]? = some (C, T, N)) (hn : As.length = n) (hsize : ls.size = nL) (hst : st0 = As.reverse ++ .ref b :: rest) (hr : (rest.map fun v => v.category).sum ≤ 8) (hdg : decode cc pc = .ok (.invokevirtual index, 3)) (hf : cells + mc ≤ R.cells ∧ slots + ms ≤ R.slots) (hst1 : ∀ d, (post d).1.toList ++ rest = st1 d)
    (kk : ∀ (d : Nat) (H1 : Heap) (locs1 : List Loc), nu d = none → kw_W G A (va_up nu d (some kq)) (post d).2 H1 → va_S A s.heap H1 locs1 → W p l e R s m args below meth c H1 locs1 (cells + mc) (slots + ms) Q (F0 m (pc + 3) ls (st1 d))) : W p l e R s m args below meth c H locs cells slots Q (F0 m pc ls st0) :=
  kw_callV S hK hZ hA hW hS hM cw hb hq hc hn hsize hst hr hdg hf (fun v nu' y H1 locs1 hp hW hS => by obtain ⟨d, e0, e1, e2, e3⟩ := hp; subst e1; rw [e2, e3] at hW; rw [hst1]; exact kk d H1 locs1 e0 hW hS)
theorem kx_dS {post : Nat → Option Value × kw_St} {kq mc ms : Nat} (S : CallFix p m c cc nL s args Ts own) (hK : kw_K G s) (hZ : kw_Z G A s s.heap) (hA : ∀ r, s.heap.size ≤ r → A r) (hW : kw_W G A nu x H) (hS : va_S A s.heap H locs) {st1 : Nat → List Value} {As st0 : List Value} {y : MethodName} {ws : List Cond} {rm : Room} {bytes : ByteArray} {maxL n index : Nat} {ret : Option FieldType} (hM : kw_M l G y ws rm mc ms As nu x (fun v nu' y => ∃ d, nu d = none ∧ v = (post d).1 ∧ nu' = va_up nu d (some kq) ∧ y = (post d).2)) (cw : CallB R s args own index y bytes maxL ret ws rm mc ms n ∧ (Cond.static y).before args s = true) (hn : As.length = n) (hsize : ls.size = nL) (hst : st0 = As.reverse ++ rest) (hr : (rest.map fun v => v.category).sum ≤ 8) (hdg : decode cc pc = .ok (.invokestatic index, 3)) (hf : cells + mc ≤ R.cells ∧ slots + ms ≤ R.slots) (hst1 : ∀ d, (post d).1.toList ++ rest = st1 d)
    (kk : ∀ (d : Nat) (H1 : Heap) (locs1 : List Loc), nu d = none → kw_W G A (va_up nu d (some kq)) (post d).2 H1 → va_S A s.heap H1 locs1 → W p l e R s m args below meth c H1 locs1 (cells + mc) (slots + ms) Q (F0 m (pc + 3) ls (st1 d))) : W p l e R s m args below meth c H locs cells slots Q (F0 m pc ls st0) :=
  kw_callS S hK hZ hA hW hS hM cw hn hsize hst hr hdg hf (fun v nu' y H1 locs1 hp hW hS => by obtain ⟨d, e0, e1, e2, e3⟩ := hp; subst e1; rw [e2, e3] at hW; rw [hst1]; exact kk d H1 locs1 e0 hW hS)
end KWJ
end
section
/-! the list's own code -/
theorem kw_old {nu : Nat → Option Nat} {a b q : Nat} {v : Option Nat} (hb : nu b = none) (ha : nu a = some q) : va_up nu b v a = some q := by
  rw [va_up_ne nu v (fun e => by rw [e, hb] at ha; cases ha)]
  exact ha
theorem kw_nb {nu : Nat → Option Nat} {a b q : Nat} (hb : nu b = none) (ha : nu a = some q) : ¬ a = b := fun e => by rw [e, hb] at ha; cases ha
section KWT
variable {p : Program} {l : Launch} {e : Env} {R : Room} {s : State} {m : MethodId} {args : Array Value} {below : List Frame} {meth : Method} {c : Code} {H : Heap} {locs : List Loc} {cells slots : Nat} {Q : State → Prop}
variable {cc : ByteArray} {pc nL : Nat} {ls : Array Slot} {rest : List Value} {G : kw_G} {A : Nat → Prop} {nu : Nat → Option Nat} {x : kw_St} {a q : Nat} {Ts : List Cond} {own : String}
theorem kx_cast (S : CallFix p m c cc nL s args Ts own) (hK : kw_K G s) (hW : kw_W G A nu x H) (ha : nu a = some q) (hq : q < 7) {C : String} {T : u_T} {N index : Nat} (hc : vwCl[q]? = some (C, T, N)) (hl : Cond.classLink own index C ∈ Ts) (hdg : decode cc pc = .ok (.checkcast index, 3))
    (kk : W p l e R s m args below meth c H locs cells slots Q (F0 m (pc + 3) ls (.ref a :: rest))) : W p l e R s m args below meth c H locs cells slots Q (F0 m pc ls (.ref a :: rest)) := by
  have h1 := (hW a q ha).1
  rw [kw_ce_ob hq] at h1
  exact va_castS S.1 S.2.1 S.2.2.2.1 (S.2.2.2.2 _ hl) (hK.1.1 q _ hc).2 (va_recv hK.1 (kw_one h1) (ci := q) (q0 := 0) hc rfl) hdg kk
end KWT
set_option maxHeartbeats 1000000 in
set_option maxRecDepth 100000 in
theorem c_J3_checkIndex_8e157 (l : Launch) (G : kw_G) (nu : Nat → Option Nat) (x : kw_St) (i : Int32) (n : Int32)  (h0 : ¬ i < 0) (h1 : i < n) : kw_M l G yJ3_checkIndex_8e157 wsJ3_checkIndex_8e157 { frames := 0, cells := 0, slots := 0, locals := 0 } 0 0 [.int (i), .int (n), .null] nu x (kw_P nu (some (.int (i))) (x)) := by
  refine kw_M.ofW (cc := cJ3_checkIndex_8e157) (maxL := 3) (ret := (some .int)) (by decide) rfl (Nat.le_of_ble_eq_true rfl) ?_
  intro p e s m args below meth c A ls S hr hlk hnm hK hZ hA hW hS hl
  have hl : lv_has ls 3 [(0, .int (i)), (1, .int (n)), (2, .null)] := hl
  refine lv_iload_n S.1 S.2.1 dJ3_checkIndex_8e157_0 rfl (lv_at hl 0 rfl) ?_
  refine lv_if_lt (tgt := 9) S.1 S.2.1 dJ3_checkIndex_8e157_1 (by decide) (fun c1 => ?_) (fun c1 => ?_)
  · skip
    first | exact absurd (by assumption) h0 | exact absurd h1 (by assumption)
  · skip
    refine lv_iload_n S.1 S.2.1 dJ3_checkIndex_8e157_4 rfl (lv_at hl 0 rfl) ?_
    refine lv_iload_n S.1 S.2.1 dJ3_checkIndex_8e157_5 rfl (lv_at hl 1 rfl) ?_
    refine lv_icmp_lt (tgt := 16) S.1 S.2.1 dJ3_checkIndex_8e157_6 (by decide) (fun c2 => ?_) (fun c2 => ?_)
    · skip
      refine lv_iload_n S.1 S.2.1 dJ3_checkIndex_8e157_16 rfl (lv_at hl 0 rfl) ?_
      refine kw_iret S hr hlk hW hS (by decide) (by decide) dJ3_checkIndex_8e157_17 ?_
      refine ⟨?_, rfl, ?_⟩ <;> first | rfl | (simp [c1, c2, kw_b]; done) | (simp [c1, c2, kw_b, kI_sNew, kJ_sNew, kR_sNew, kN_sNew, kI_sI, kI_sJ, kI_sR, kI_sA, kI_sB, kI_sC, kJ_sI, kJ_sJ, kJ_sR, kJ_sA, kJ_sB, kJ_sC, kR_sI, kR_sJ, kR_sR, kR_sA, kR_sB, kR_sC, kA_sI, kA_sJ, kA_sR, kA_sA, kA_sB, kA_sC, kB_sI, kB_sJ, kB_sR, kB_sA, kB_sB, kB_sC, kC_sI, kC_sJ, kC_sR, kC_sA, kC_sB, kC_sC, kN_sI, kN_sJ, kN_sR, kN_sA, kN_sB, kN_sC]; done)
    · skip
      first | exact absurd (by assumption) h0 | exact absurd h1 (by assumption)
set_option maxHeartbeats 1000000 in
set_option maxRecDepth 100000 in
theorem c_J15_checkIndex_7cf53 (l : Launch) (G : kw_G) (nu : Nat → Option Nat) (x : kw_St) (i : Int32) (n : Int32)  (h0 : ¬ i < 0) (h1 : i < n) : kw_M l G yJ15_checkIndex_7cf53 wsJ15_checkIndex_7cf53 { frames := 1, cells := 0, slots := 0, locals := 22 } 0 0 [.int (i), .int (n)] nu x (kw_P nu (some (.int (i))) (x)) := by
  refine kw_M.ofW (cc := cJ15_checkIndex_7cf53) (maxL := 2) (ret := (some .int)) (by decide) rfl (Nat.le_of_ble_eq_true rfl) ?_
  intro p e s m args below meth c A ls S hr hlk hnm hK hZ hA hW hS hl
  have hl : lv_has ls 2 [(0, .int (i)), (1, .int (n))] := hl
  refine lv_iload_n S.1 S.2.1 dJ15_checkIndex_7cf53_0 rfl (lv_at hl 0 rfl) ?_
  refine lv_iload_n S.1 S.2.1 dJ15_checkIndex_7cf53_1 rfl (lv_at hl 1 rfl) ?_
  refine lv_null S.1 S.2.1 dJ15_checkIndex_7cf53_2 ?_
  refine kx_cS (As := [.int (i), .int (n), .null]) (rest := []) (st1 := [.int (i)]) S hK hZ hA hW hS (c_J3_checkIndex_8e157 l G nu x i n h0 h1) (va_cwS 3 S.2.2.2.2 gJ15_checkIndex_7cf53_J3_checkIndex_8e157 rfl rfl rfl (by decide +kernel) ⟨Nat.le_of_ble_eq_true rfl, Nat.le_of_ble_eq_true rfl⟩) rfl hl.1 rfl (Nat.le_of_ble_eq_true rfl) dJ15_checkIndex_7cf53_3 ⟨Nat.le_of_ble_eq_true rfl, Nat.le_of_ble_eq_true rfl⟩ rfl (fun H locs hW hS => ?_)
  refine kw_iret S hr hlk hW hS (by decide) (by decide) dJ15_checkIndex_7cf53_6 ?_
  refine ⟨?_, rfl, ?_⟩ <;> first | rfl | (simp [kw_b]; done) | (simp [kw_b, kI_sNew, kJ_sNew, kR_sNew, kN_sNew, kI_sI, kI_sJ, kI_sR, kI_sA, kI_sB, kI_sC, kJ_sI, kJ_sJ, kJ_sR, kJ_sA, kJ_sB, kJ_sC, kR_sI, kR_sJ, kR_sR, kR_sA, kR_sB, kR_sC, kA_sI, kA_sJ, kA_sR, kA_sA, kA_sB, kA_sC, kB_sI, kB_sJ, kB_sR, kB_sA, kB_sB, kB_sC, kC_sI, kC_sJ, kC_sR, kC_sA, kC_sB, kC_sC, kN_sI, kN_sJ, kN_sR, kN_sA, kN_sB, kN_sC]; done)
set_option maxHeartbeats 1000000 in
set_option maxRecDepth 100000 in
theorem c_Jx4a65c_size_8abf5 (l : Launch) (G : kw_G) (nu : Nat → Option Nat) (x : kw_St) (a : Nat) (ha : nu a = some 0)  : kw_M l G yJx4a65c_size_8abf5 wsJx4a65c_size_8abf5 { frames := 0, cells := 0, slots := 0, locals := 0 } 0 0 [.ref a] nu x (kw_P nu (some (.int (kI x 2 a))) (x)) := by
  refine kw_M.ofW (cc := cJx4a65c_size_8abf5) (maxL := 1) (ret := (some .int)) (by decide) rfl (Nat.le_of_ble_eq_true rfl) ?_
  intro p e s m args below meth c A ls S hr hlk hnm hK hZ hA hW hS hl
  have hl : lv_has ls 1 [(0, .ref a)] := hl
  have iJx4a65c : ∀ w ∈ wsJx4a65c0, w ∈ wsJx4a65c_size_8abf5 := by decide +kernel
  refine lv_aload_n S.1 S.2.1 dJx4a65c_size_8abf5_0 rfl (lv_at hl 0 rfl) ?_
  refine kx_gI S hK hW ha 2 2 rfl iJx4a65c (by decide) rfl rfl (by decide) (by decide +kernel) dJx4a65c_size_8abf5_1 (v := kI x 2 a) rfl ?_
  refine kw_iret S hr hlk hW hS (by decide) (by decide) dJx4a65c_size_8abf5_4 ?_
  refine ⟨?_, rfl, ?_⟩ <;> first | rfl | (simp [kw_b]; done) | (simp [kw_b, kI_sNew, kJ_sNew, kR_sNew, kN_sNew, kI_sI, kI_sJ, kI_sR, kI_sA, kI_sB, kI_sC, kJ_sI, kJ_sJ, kJ_sR, kJ_sA, kJ_sB, kJ_sC, kR_sI, kR_sJ, kR_sR, kR_sA, kR_sB, kR_sC, kA_sI, kA_sJ, kA_sR, kA_sA, kA_sB, kA_sC, kB_sI, kB_sJ, kB_sR, kB_sA, kB_sB, kB_sC, kC_sI, kC_sJ, kC_sR, kC_sA, kC_sB, kC_sC, kN_sI, kN_sJ, kN_sR, kN_sA, kN_sB, kN_sC]; done)
set_option maxHeartbeats 1000000 in
set_option maxRecDepth 100000 in
theorem c_Jx4a65c_elementData_915e3 (l : Launch) (G : kw_G) (nu : Nat → Option Nat) (x : kw_St) (a : Nat) (i : Int32) (d : Nat) (k : Nat) (el : Nat) (ha : nu a = some 0) (hd : nu d = some 10) (hd1 : kR x 1 a = some d) (hix : kw_ix i k (kN x d)) (hel : kC x d k = some el) : kw_M l G yJx4a65c_elementData_915e3 wsJx4a65c_elementData_915e3 { frames := 0, cells := 0, slots := 0, locals := 0 } 0 0 [.ref a, .int (i)] nu x (kw_P nu (some (.ref el)) (x)) := by
  refine kw_M.ofW (cc := cJx4a65c_elementData_915e3) (maxL := 2) (ret := (some (.object "java/lang/Object"))) (by decide) rfl (Nat.le_of_ble_eq_true rfl) ?_
  intro p e s m args below meth c A ls S hr hlk hnm hK hZ hA hW hS hl
  have hl : lv_has ls 2 [(0, .ref a), (1, .int (i))] := hl
  have iJx4a65c : ∀ w ∈ wsJx4a65c0, w ∈ wsJx4a65c_elementData_915e3 := by decide +kernel
  refine lv_aload_n S.1 S.2.1 dJx4a65c_elementData_915e3_0 rfl (lv_at hl 0 rfl) ?_
  refine kx_gA S hK hW ha 1 1 rfl iJx4a65c (by decide) rfl rfl (by decide) (by decide +kernel) dJx4a65c_elementData_915e3_1 (b := d) hd1 ?_
  refine lv_iload_n S.1 S.2.1 dJx4a65c_elementData_915e3_4 rfl (lv_at hl 1 rfl) ?_
  refine kw_aald S hK hW hd (k := k) hix dJx4a65c_elementData_915e3_5 (v := some el) hel ?_
  refine kw_aret S hr (Or.inl ⟨_, rfl⟩) hlk (v := some el) hW hS (by decide) (by decide) dJx4a65c_elementData_915e3_6 ?_
  refine ⟨?_, rfl, ?_⟩ <;> first | rfl | (simp [kw_b]; done) | (simp [kw_b, kI_sNew, kJ_sNew, kR_sNew, kN_sNew, kI_sI, kI_sJ, kI_sR, kI_sA, kI_sB, kI_sC, kJ_sI, kJ_sJ, kJ_sR, kJ_sA, kJ_sB, kJ_sC, kR_sI, kR_sJ, kR_sR, kR_sA, kR_sB, kR_sC, kA_sI, kA_sJ, kA_sR, kA_sA, kA_sB, kA_sC, kB_sI, kB_sJ, kB_sR, kB_sA, kB_sB, kB_sC, kC_sI, kC_sJ, kC_sR, kC_sA, kC_sB, kC_sC, kN_sI, kN_sJ, kN_sR, kN_sA, kN_sB, kN_sC]; done)
set_option maxHeartbeats 1000000 in
set_option maxRecDepth 100000 in
theorem c_Jx4a65c_get_915e3 (l : Launch) (G : kw_G) (nu : Nat → Option Nat) (x : kw_St) (a : Nat) (i : Int32) (d : Nat) (k : Nat) (el : Nat) (ha : nu a = some 0) (hd : nu d = some 10) (hd1 : kR x 1 a = some d) (hix : kw_ix i k (kN x d)) (hel : kC x d k = some el) (h0 : ¬ i < 0) (h1 : i < kI x 2 a) : kw_M l G yJx4a65c_get_915e3 wsJx4a65c_get_915e3 { frames := 2, cells := 0, slots := 0, locals := 43 } 0 0 [.ref a, .int (i)] nu x (kw_P nu (some (.ref el)) (x)) := by
  refine kw_M.ofW (cc := cJx4a65c_get_915e3) (maxL := 2) (ret := (some (.object "java/lang/Object"))) (by decide) rfl (Nat.le_of_ble_eq_true rfl) ?_
  intro p e s m args below meth c A ls S hr hlk hnm hK hZ hA hW hS hl
  have hl : lv_has ls 2 [(0, .ref a), (1, .int (i))] := hl
  have iJx4a65c : ∀ w ∈ wsJx4a65c0, w ∈ wsJx4a65c_get_915e3 := by decide +kernel
  refine lv_iload_n S.1 S.2.1 dJx4a65c_get_915e3_0 rfl (lv_at hl 1 rfl) ?_
  refine lv_aload_n S.1 S.2.1 dJx4a65c_get_915e3_1 rfl (lv_at hl 0 rfl) ?_
  refine kx_gI S hK hW ha 2 2 rfl iJx4a65c (by decide) rfl rfl (by decide) (by decide +kernel) dJx4a65c_get_915e3_2 (v := kI x 2 a) rfl ?_
  refine kx_cS (As := [.int (i), .int (kI x 2 a)]) (rest := []) (st1 := [.int (i)]) S hK hZ hA hW hS (c_J15_checkIndex_7cf53 l G nu x i (kI x 2 a) h0 h1) (va_cwS 2 S.2.2.2.2 gJx4a65c_get_915e3_J15_checkIndex_7cf53 rfl rfl rfl (by decide +kernel) ⟨Nat.le_of_ble_eq_true rfl, Nat.le_of_ble_eq_true rfl⟩) rfl hl.1 rfl (Nat.le_of_ble_eq_true rfl) dJx4a65c_get_915e3_5 ⟨Nat.le_of_ble_eq_true rfl, Nat.le_of_ble_eq_true rfl⟩ rfl (fun H locs hW hS => ?_)
  refine lv_pop S.1 S.2.1 dJx4a65c_get_915e3_8 rfl ?_
  refine lv_aload_n S.1 S.2.1 dJx4a65c_get_915e3_9 rfl (lv_at hl 0 rfl) ?_
  refine lv_iload_n S.1 S.2.1 dJx4a65c_get_915e3_10 rfl (lv_at hl 1 rfl) ?_
  refine kx_cV (As := [.int (i)]) (rest := []) (st1 := [.ref el]) S hK hZ hA hW hS (c_Jx4a65c_elementData_915e3 l G nu x a i d k el ha hd hd1 hix hel) (cwV 1 S.2.2.2.2 gJx4a65c_get_915e3_Jx4a65c_elementData_915e3 rfl rfl rfl (by decide +kernel) ⟨Nat.le_of_ble_eq_true rfl, Nat.le_of_ble_eq_true rfl⟩) ha (by decide) rfl rfl hl.1 rfl (Nat.le_of_ble_eq_true rfl) dJx4a65c_get_915e3_11 ⟨Nat.le_of_ble_eq_true rfl, Nat.le_of_ble_eq_true rfl⟩ rfl (fun H locs hW hS => ?_)
  refine kw_aret S hr (Or.inl ⟨_, rfl⟩) hlk (v := some el) hW hS (by decide) (by decide) dJx4a65c_get_915e3_14 ?_
  refine ⟨?_, rfl, ?_⟩ <;> first | rfl | (simp [kw_b]; done) | (simp [kw_b, kI_sNew, kJ_sNew, kR_sNew, kN_sNew, kI_sI, kI_sJ, kI_sR, kI_sA, kI_sB, kI_sC, kJ_sI, kJ_sJ, kJ_sR, kJ_sA, kJ_sB, kJ_sC, kR_sI, kR_sJ, kR_sR, kR_sA, kR_sB, kR_sC, kA_sI, kA_sJ, kA_sR, kA_sA, kA_sB, kA_sC, kB_sI, kB_sJ, kB_sR, kB_sA, kB_sB, kB_sC, kC_sI, kC_sJ, kC_sR, kC_sA, kC_sB, kC_sC, kN_sI, kN_sJ, kN_sR, kN_sA, kN_sB, kN_sC]; done)
set_option maxHeartbeats 1000000 in
set_option maxRecDepth 100000 in
theorem c_Jxa1e45_init_da8c8 (l : Launch) (G : kw_G) (nu : Nat → Option Nat) (x : kw_St) (a : Nat) (ha : nu a = some 0)  : kw_M l G yJxa1e45_init_da8c8 wsJxa1e45_init_da8c8 { frames := 1, cells := 0, slots := 0, locals := 20 } 0 0 [.ref a] nu x (kw_P nu (none) (x)) := by
  refine kw_M.ofW (cc := cJxa1e45_init_da8c8) (maxL := 1) (ret := none) (by decide) rfl (Nat.le_of_ble_eq_true rfl) ?_
  intro p e s m args below meth c A ls S hr hlk hnm hK hZ hA hW hS hl
  have hl : lv_has ls 1 [(0, .ref a)] := hl
  refine lv_aload_n S.1 S.2.1 dJxa1e45_init_da8c8_0 rfl (lv_at hl 0 rfl) ?_
  refine W.objInit S.1 S.2.1 S.2.2.2.1 (S.2.2.2.2 _ (by decide +kernel)) (S.2.2.2.2 _ (by decide +kernel)) (S.2.2.2.2 _ (by decide +kernel)) rfl (by rw [S.2.2.1]; exact hl.1) rfl dJxa1e45_init_da8c8_1 (Nat.le_of_ble_eq_true rfl) (Nat.le_of_ble_eq_true rfl) ?_
  refine W.eq (g2 := F0 m 4 ls []) rfl ?_
  refine kw_vret S hr hlk hW hS (by decide) (by decide) dJxa1e45_init_da8c8_4 ?_
  refine ⟨?_, rfl, ?_⟩ <;> first | rfl | (simp [kw_b]; done) | (simp [kw_b, kI_sNew, kJ_sNew, kR_sNew, kN_sNew, kI_sI, kI_sJ, kI_sR, kI_sA, kI_sB, kI_sC, kJ_sI, kJ_sJ, kJ_sR, kJ_sA, kJ_sB, kJ_sC, kR_sI, kR_sJ, kR_sR, kR_sA, kR_sB, kR_sC, kA_sI, kA_sJ, kA_sR, kA_sA, kA_sB, kA_sC, kB_sI, kB_sJ, kB_sR, kB_sA, kB_sB, kB_sC, kC_sI, kC_sJ, kC_sR, kC_sA, kC_sB, kC_sC, kN_sI, kN_sJ, kN_sR, kN_sA, kN_sB, kN_sC]; done)
set_option maxHeartbeats 1000000 in
set_option maxRecDepth 100000 in
theorem c_Jxc12de_init_da8c8 (l : Launch) (G : kw_G) (nu : Nat → Option Nat) (x : kw_St) (a : Nat) (ha : nu a = some 0)  : kw_M l G yJxc12de_init_da8c8 wsJxc12de_init_da8c8 { frames := 2, cells := 0, slots := 0, locals := 40 } 0 0 [.ref a] nu x (kw_P nu (none) (sI x 0 a 0)) := by
  refine kw_M.ofW (cc := cJxc12de_init_da8c8) (maxL := 1) (ret := none) (by decide) rfl (Nat.le_of_ble_eq_true rfl) ?_
  intro p e s m args below meth c A ls S hr hlk hnm hK hZ hA hW hS hl
  have hl : lv_has ls 1 [(0, .ref a)] := hl
  have iJx4a65c : ∀ w ∈ wsJx4a65c0, w ∈ wsJxc12de_init_da8c8 := by decide +kernel
  refine lv_aload_n S.1 S.2.1 dJxc12de_init_da8c8_0 rfl (lv_at hl 0 rfl) ?_
  refine kx_cI (As := []) (rest := []) (st1 := []) S hK hZ hA hW hS (c_Jxa1e45_init_da8c8 l G nu x a ha) (cwI 0 S.2.2.2.2 gJxc12de_init_da8c8_Jxa1e45_init_da8c8 rfl rfl rfl (S.2.2.2.2 _ (by decide +kernel)) (S.2.2.2.2 _ (by decide +kernel)) (S.2.2.2.2 _ (by decide +kernel)) rfl (by decide +kernel) ⟨Nat.le_of_ble_eq_true rfl, Nat.le_of_ble_eq_true rfl⟩) rfl hl.1 rfl (Nat.le_of_ble_eq_true rfl) dJxc12de_init_da8c8_1 ⟨Nat.le_of_ble_eq_true rfl, Nat.le_of_ble_eq_true rfl⟩ rfl (fun H locs hW hS => ?_)
  refine lv_aload_n S.1 S.2.1 dJxc12de_init_da8c8_4 rfl (lv_at hl 0 rfl) ?_
  refine lv_iconst (v := 0) S.1 S.2.1 dJxc12de_init_da8c8_5 (by decide) ?_
  refine kx_pI S hK hW hS ha 0 0  rfl iJx4a65c tyJx4a65c_ok nmJx4a65c (by decide) rfl rfl (by decide) (by decide +kernel) (Or.inl rfl) rfl dJxc12de_init_da8c8_6 (fun H locs hW hS => ?_)
  refine kw_vret S hr hlk hW hS (by decide) (by decide) dJxc12de_init_da8c8_9 ?_
  refine ⟨?_, rfl, ?_⟩ <;> first | rfl | (simp [kw_b]; done) | (simp [kw_b, kI_sNew, kJ_sNew, kR_sNew, kN_sNew, kI_sI, kI_sJ, kI_sR, kI_sA, kI_sB, kI_sC, kJ_sI, kJ_sJ, kJ_sR, kJ_sA, kJ_sB, kJ_sC, kR_sI, kR_sJ, kR_sR, kR_sA, kR_sB, kR_sC, kA_sI, kA_sJ, kA_sR, kA_sA, kA_sB, kA_sC, kB_sI, kB_sJ, kB_sR, kB_sA, kB_sB, kB_sC, kC_sI, kC_sJ, kC_sR, kC_sA, kC_sB, kC_sC, kN_sI, kN_sJ, kN_sR, kN_sA, kN_sB, kN_sC]; done)
set_option maxHeartbeats 1000000 in
set_option maxRecDepth 100000 in
theorem c_Jx4a65c_init_da8c8 (l : Launch) (G : kw_G) (nu : Nat → Option Nat) (x : kw_St) (a : Nat) (ha : nu a = some 0)  : kw_M l G yJx4a65c_init_da8c8 wsJx4a65c_init_da8c8 { frames := 3, cells := 0, slots := 0, locals := 60 } 0 0 [.ref a] nu x (kw_P nu (none) (sR (sI x 0 a 0) 1 a (some G.2.2.1))) := by
  refine kw_M.ofW (cc := cJx4a65c_init_da8c8) (maxL := 1) (ret := none) (by decide) rfl (Nat.le_of_ble_eq_true rfl) ?_
  intro p e s m args below meth c A ls S hr hlk hnm hK hZ hA hW hS hl
  have hl : lv_has ls 1 [(0, .ref a)] := hl
  have iJx4a65c : ∀ w ∈ wsJx4a65c0, w ∈ wsJx4a65c_init_da8c8 := by decide +kernel
  refine lv_aload_n S.1 S.2.1 dJx4a65c_init_da8c8_0 rfl (lv_at hl 0 rfl) ?_
  refine kx_cI (As := []) (rest := []) (st1 := []) S hK hZ hA hW hS (c_Jxc12de_init_da8c8 l G nu x a ha) (cwI 0 S.2.2.2.2 gJx4a65c_init_da8c8_Jxc12de_init_da8c8 rfl rfl rfl (S.2.2.2.2 _ (by decide +kernel)) (S.2.2.2.2 _ (by decide +kernel)) (S.2.2.2.2 _ (by decide +kernel)) rfl (by decide +kernel) ⟨Nat.le_of_ble_eq_true rfl, Nat.le_of_ble_eq_true rfl⟩) rfl hl.1 rfl (Nat.le_of_ble_eq_true rfl) dJx4a65c_init_da8c8_1 ⟨Nat.le_of_ble_eq_true rfl, Nat.le_of_ble_eq_true rfl⟩ rfl (fun H locs hW hS => ?_)
  refine lv_aload_n S.1 S.2.1 dJx4a65c_init_da8c8_4 rfl (lv_at hl 0 rfl) ?_
  refine va_gets S.1 S.2.1 hZ hS S.2.2.2.1 (S.2.2.2.2 _ (by decide +kernel)) (fun _ h => h) dJx4a65c_init_da8c8_5 ?_
  refine kx_pA S hK hW hS ha 1 1  rfl iJx4a65c tyJx4a65c_ok nmJx4a65c (by decide) rfl rfl (by decide) (by decide +kernel) (Or.inl rfl) rfl (Or.inr ⟨_, rfl⟩) dJx4a65c_init_da8c8_8 (fun H locs hW hS => ?_)
  refine kw_vret S hr hlk hW hS (by decide) (by decide) dJx4a65c_init_da8c8_11 ?_
  refine ⟨?_, rfl, ?_⟩ <;> first | rfl | (simp [kw_b]; done) | (simp [kw_b, kI_sNew, kJ_sNew, kR_sNew, kN_sNew, kI_sI, kI_sJ, kI_sR, kI_sA, kI_sB, kI_sC, kJ_sI, kJ_sJ, kJ_sR, kJ_sA, kJ_sB, kJ_sC, kR_sI, kR_sJ, kR_sR, kR_sA, kR_sB, kR_sC, kA_sI, kA_sJ, kA_sR, kA_sA, kA_sB, kA_sC, kB_sI, kB_sJ, kB_sR, kB_sA, kB_sB, kB_sC, kC_sI, kC_sJ, kC_sR, kC_sA, kC_sB, kC_sC, kN_sI, kN_sJ, kN_sR, kN_sA, kN_sB, kN_sC]; done)
end
section
/-! the list grows -/
theorem kw_nl {c : Nat} (h2 : 2 ≤ c) (h9 : c ≤ 1000000) : nI c + (if nI (c + 1) - nI c < nI c >>> ((1 : Int32) &&& 31) then nI c >>> ((1 : Int32) &&& 31) else nI (c + 1) - nI c) = nI (c + c / 2) := by
  have e1 : nI (c + 1) - nI c = nI 1 := by rw [pk_sub (by omega), show c + 1 - c = 1 by omega]
  have e2 : nI c >>> ((1 : Int32) &&& 31) = nI (c / 2) := pk_shrN (by omega) _ 1 (by decide)
  rw [e1, e2]
  by_cases h : 1 < c / 2
  · rw [if_pos (nI_lt h (by omega)), nI_add]
  · rw [if_neg (nI_nlt (by omega) (by omega)), nI_add, show c / 2 = 1 by omega]
/-- how many places a row has behind its growth -/
def kw_nc (c : Nat) : Nat := if c = 0 then 10 else c + c / 2
set_option maxHeartbeats 1000000 in
set_option maxRecDepth 100000 in
theorem c_J8_newLength_cabcc (l : Launch) (G : kw_G) (nu : Nat → Option Nat) (x : kw_St) (o : Int32) (mi : Int32) (pr : Int32)  (h0 : 0 < o + (if mi < pr then pr else mi)) (h1 : o + (if mi < pr then pr else mi) ≤ 2147483639) : kw_M l G yJ8_newLength_cabcc wsJ8_newLength_cabcc { frames := 1, cells := 0, slots := 0, locals := 23 } 0 0 [.int (o), .int (mi), .int (pr)] nu x (kw_P nu (some (.int (o + (if mi < pr then pr else mi)))) (x)) := by
  refine kw_M.ofW (cc := cJ8_newLength_cabcc) (maxL := 4) (ret := (some .int)) (by decide) rfl (Nat.le_of_ble_eq_true rfl) ?_
  intro p e s m args below meth c A ls S hr hlk hnm hK hZ hA hW hS hl
  have hl : lv_has ls 4 [(0, .int (o)), (1, .int (mi)), (2, .int (pr))] := hl
  refine lv_iload_n S.1 S.2.1 dJ8_newLength_cabcc_0 rfl (lv_at hl 0 rfl) ?_
  refine lv_iload_n S.1 S.2.1 dJ8_newLength_cabcc_1 rfl (lv_at hl 1 rfl) ?_
  refine lv_iload_n S.1 S.2.1 dJ8_newLength_cabcc_2 rfl (lv_at hl 2 rfl) ?_
  refine kx_maxi S hl.1 (by decide +kernel) (by decide +kernel) (by decide +kernel) (by decide +kernel) (Nat.le_of_ble_eq_true rfl) (Nat.le_of_ble_eq_true rfl) (by first | exact Nat.le_of_ble_eq_true rfl | exact Nat.le_refl _ | exact Nat.le_of_eq (Nat.zero_add _)) (by first | exact Nat.le_of_ble_eq_true rfl | exact Nat.le_of_eq (Nat.zero_add _) | exact Nat.le_refl _) dJ8_newLength_cabcc_3 ?_
  refine lv_iadd S.1 S.2.1 dJ8_newLength_cabcc_6 ?_
  refine lv_istore_n (lv' := [(3, .int ((o) + (if (mi) < (pr) then (pr) else (mi)))), (0, .int (o)), (1, .int (mi)), (2, .int (pr))]) S.1 S.2.1 dJ8_newLength_cabcc_7 rfl hl (by decide) rfl (fun ls hl => ?_)
  refine lv_iconst (v := 0) S.1 S.2.1 dJ8_newLength_cabcc_8 (by decide) ?_
  refine lv_iload_n S.1 S.2.1 dJ8_newLength_cabcc_9 rfl (lv_at hl 0 rfl) ?_
  refine lv_icmp_ge (tgt := 21) S.1 S.2.1 dJ8_newLength_cabcc_10 (by decide) (fun c1 => ?_) (fun c1 => ?_)
  · skip
    first | exact absurd h0 (Int32.not_lt.mpr (by assumption)) | exact absurd h1 (Int32.not_le.mpr (by assumption))
  · skip
    refine lv_iload_n S.1 S.2.1 dJ8_newLength_cabcc_13 rfl (lv_at hl 0 rfl) ?_
    refine lv_ldc (v := 2147483639) S.1 S.2.1 S.2.2.2.1 (S.2.2.2.2 _ (by decide +kernel)) dJ8_newLength_cabcc_14 ?_
    refine lv_icmp_gt (tgt := 21) S.1 S.2.1 dJ8_newLength_cabcc_16 (by decide) (fun c2 => ?_) (fun c2 => ?_)
    · skip
      first | exact absurd h0 (Int32.not_lt.mpr (by assumption)) | exact absurd h1 (Int32.not_le.mpr (by assumption))
    · skip
      refine lv_iload_n S.1 S.2.1 dJ8_newLength_cabcc_19 rfl (lv_at hl 0 rfl) ?_
      refine kw_iret S hr hlk hW hS (by decide) (by decide) dJ8_newLength_cabcc_20 ?_
      refine ⟨?_, rfl, ?_⟩ <;> first | rfl | (simp [c1, c2, kw_b]; done) | (simp [c1, c2, kw_b, kI_sNew, kJ_sNew, kR_sNew, kN_sNew, kI_sI, kI_sJ, kI_sR, kI_sA, kI_sB, kI_sC, kJ_sI, kJ_sJ, kJ_sR, kJ_sA, kJ_sB, kJ_sC, kR_sI, kR_sJ, kR_sR, kR_sA, kR_sB, kR_sC, kA_sI, kA_sJ, kA_sR, kA_sA, kA_sB, kA_sC, kB_sI, kB_sJ, kB_sR, kB_sA, kB_sB, kB_sC, kC_sI, kC_sJ, kC_sR, kC_sA, kC_sB, kC_sC, kN_sI, kN_sJ, kN_sR, kN_sA, kN_sB, kN_sC]; done)
set_option maxHeartbeats 1000000 in
set_option maxRecDepth 100000 in
theorem c_J7_copyOf_6403c (l : Launch) (G : kw_G) (nu : Nat → Option Nat) (x : kw_St) (a : Nat) (n : Int32) (ci : Nat) (k : Nat) (ha : nu a = some 10) (hci : ci = G.2.2.2) (hn : n = nI k) (hk : k ≤ 1000000) (hac : kN x a ≤ k) (hge : ¬ n < nI (kN x a)) (helem : ∀ i y, i < kN x a → kC x a i = some y → ∃ r, nu y = some r ∧ (r = 2 ∨ r = 3 ∨ r = 4)) : kw_M l G yJ7_copyOf_6403c wsJ7_copyOf_6403c { frames := 1, cells := 1, slots := k, locals := 40 } 1 (k) [.ref a, .int (n), .ref ci] nu x (fun v nu' y => ∃ q, nu q = none ∧ v = some (.ref q) ∧ nu' = va_up nu q (some 10) ∧ y = sCrow (sNew x q k) q (va_cpy (kC x a) (fun _ => none) 0 0 (kN x a))) := by
  refine kw_M.ofW (cc := cJ7_copyOf_6403c) (maxL := 4) (ret := (some (.array (.object "java/lang/Object")))) (by decide) rfl (Nat.le_of_ble_eq_true rfl) ?_
  intro p e s m args below meth c A ls S hr hlk hnm hK hZ hA hW hS hl
  have hl : lv_has ls 4 [(0, .ref a), (1, .int (n)), (2, .ref ci)] := hl
  refine lv_aload_n S.1 S.2.1 dJ7_copyOf_6403c_0 rfl (lv_at hl 2 rfl) ?_
  refine va_ldcM S.1 S.2.1 S.2.2.2.1 (S.2.2.2.2 _ (by decide +kernel)) hK.2.2.1 dJ7_copyOf_6403c_1 ?_
  refine lv_acmp_ne (rx := (some ci)) (ry := (some G.2.2.2)) (tgt := 13) S.1 S.2.1 dJ7_copyOf_6403c_3 (by decide) (fun c1 => ?_) (fun c1 => ?_)
  · skip
    exact absurd (congrArg some hci) (by assumption)
  · skip
    refine lv_iload_n S.1 S.2.1 dJ7_copyOf_6403c_6 rfl (lv_at hl 1 rfl) ?_
    refine kw_anew S hK hW hS hA (by decide +kernel) (k := k) hn hk (Nat.le_refl _) (Nat.le_of_eq (Nat.zero_add _)) dJ7_copyOf_6403c_7 (fun d2 H hd3 hW hS => ?_)
    have n4 : ¬ a = d2 := kw_nb hd3 ha
    refine lv_goto (tgt := 24) S.1 S.2.1 dJ7_copyOf_6403c_10 (by decide) ?_
    refine lv_astore_n (lv' := [(3, .ref d2), (0, .ref a), (1, .int (n)), (2, .ref ci)]) S.1 S.2.1 dJ7_copyOf_6403c_24 rfl hl (by decide) rfl (fun ls hl => ?_)
    refine lv_aload_n S.1 S.2.1 dJ7_copyOf_6403c_25 rfl (lv_at hl 1 rfl) ?_
    refine lv_iconst (v := 0) S.1 S.2.1 dJ7_copyOf_6403c_26 (by decide) ?_
    refine lv_aload_n S.1 S.2.1 dJ7_copyOf_6403c_27 rfl (lv_at hl 0 rfl) ?_
    refine lv_iconst (v := 0) S.1 S.2.1 dJ7_copyOf_6403c_28 (by decide) ?_
    refine lv_aload_n S.1 S.2.1 dJ7_copyOf_6403c_29 rfl (lv_at hl 1 rfl) ?_
    refine kw_alen S hK hW (kw_old hd3 ha) (Or.inl rfl) dJ7_copyOf_6403c_30 ?_
    refine lv_iload_n S.1 S.2.1 dJ7_copyOf_6403c_31 rfl (lv_at hl 2 rfl) ?_
    refine kx_mini S hl.1 (by decide +kernel) (by decide +kernel) (by decide +kernel) (by decide +kernel) (Nat.le_of_ble_eq_true rfl) (Nat.le_of_ble_eq_true rfl) (by first | exact Nat.le_of_ble_eq_true rfl | exact Nat.le_refl _ | exact Nat.le_of_eq (Nat.zero_add _)) (by first | exact Nat.le_of_ble_eq_true rfl | exact Nat.le_of_eq (Nat.zero_add _) | exact Nat.le_refl _) dJ7_copyOf_6403c_32 ?_
    refine kw_copy (rest := []) (k := kN x a) S hK hW hS (kw_old hd3 ha) (va_up_self _ _ _) (kw_nb hd3 ha) (by decide +kernel) (by decide +kernel) (by decide +kernel) (by decide +kernel) hl.1 (by rw [kN_sNew, if_neg (kw_nb hd3 ha)]; exact if_neg hge) (by omega) (by rw [kN_sNew, if_neg (kw_nb hd3 ha)]; exact Nat.le_refl _) (by rw [kN_sNew, if_pos rfl]; omega) (fun i y h1 h2 => by rw [kC_sNew, if_neg (kw_nb hd3 ha)] at h2; obtain ⟨r, e1, e2⟩ := helem i y h1 h2; exact ⟨r, kw_old hd3 e1, e2⟩) (Nat.le_of_ble_eq_true rfl) (Nat.le_of_ble_eq_true rfl) dJ7_copyOf_6403c_35 (fun H locs hW hS => ?_)
    refine lv_aload_n S.1 S.2.1 dJ7_copyOf_6403c_38 rfl (lv_at hl 0 rfl) ?_
    refine kw_aret S hr (Or.inr ⟨_, rfl⟩) hlk (v := some d2) hW hS (Nat.le_refl _) (Nat.le_of_eq (Nat.zero_add _)) dJ7_copyOf_6403c_39 ?_
    exact ⟨d2, hd3, rfl, rfl, by rw [kC_sNew, kC_sNew, if_pos rfl, if_neg (kw_nb hd3 ha)]⟩
set_option maxHeartbeats 1000000 in
set_option maxRecDepth 100000 in
theorem c_J7_copyOf_1904c (l : Launch) (G : kw_G) (nu : Nat → Option Nat) (x : kw_St) (a : Nat) (n : Int32) (k : Nat) (ha : nu a = some 10) (hn : n = nI k) (hk : k ≤ 1000000) (hac : kN x a ≤ k) (hge : ¬ n < nI (kN x a)) (helem : ∀ i y, i < kN x a → kC x a i = some y → ∃ r, nu y = some r ∧ (r = 2 ∨ r = 3 ∨ r = 4)) : kw_M l G yJ7_copyOf_1904c wsJ7_copyOf_1904c { frames := 2, cells := 1, slots := k, locals := 63 } 1 (k) [.ref a, .int (n)] nu x (fun v nu' y => ∃ q, nu q = none ∧ v = some (.ref q) ∧ nu' = va_up nu q (some 10) ∧ y = sCrow (sNew x q k) q (va_cpy (kC x a) (fun _ => none) 0 0 (kN x a))) := by
  refine kw_M.ofW (cc := cJ7_copyOf_1904c) (maxL := 2) (ret := (some (.array (.object "java/lang/Object")))) (by decide) rfl (Nat.le_of_ble_eq_true rfl) ?_
  intro p e s m args below meth c A ls S hr hlk hnm hK hZ hA hW hS hl
  have hl : lv_has ls 2 [(0, .ref a), (1, .int (n))] := hl
  refine lv_aload_n S.1 S.2.1 dJ7_copyOf_1904c_0 rfl (lv_at hl 0 rfl) ?_
  refine lv_iload_n S.1 S.2.1 dJ7_copyOf_1904c_1 rfl (lv_at hl 1 rfl) ?_
  refine lv_aload_n S.1 S.2.1 dJ7_copyOf_1904c_2 rfl (lv_at hl 0 rfl) ?_
  refine kw_getC S hK hW hl.1 ha (by decide +kernel) (by decide +kernel) (by decide +kernel) (by decide +kernel) (Nat.le_of_ble_eq_true rfl) (Nat.le_of_ble_eq_true rfl) dJ7_copyOf_1904c_3 ?_
  refine kx_dS (post := fun q => (some (.ref q), sCrow (sNew x q k) q (va_cpy (kC x a) (fun _ => none) 0 0 (kN x a)))) (kq := 10) (As := [.ref a, .int (n), .ref G.2.2.2]) (rest := []) (st1 := fun q => [.ref q]) S hK hZ hA hW hS (c_J7_copyOf_6403c l G nu x a n (G.2.2.2) k ha rfl hn hk hac hge helem) (va_cwS 3 S.2.2.2.2 gJ7_copyOf_1904c_J7_copyOf_6403c rfl rfl rfl (by decide +kernel) ⟨Nat.le_of_ble_eq_true rfl, Nat.le_of_ble_eq_true rfl⟩) rfl hl.1 rfl (Nat.le_of_ble_eq_true rfl) dJ7_copyOf_1904c_6 ⟨Nat.le_of_eq (Nat.zero_add _), Nat.le_of_eq (Nat.zero_add _)⟩ (fun _ => rfl) (fun d1 H locs hd2 hW hS => ?_)
  have n3 : ¬ a = d1 := kw_nb hd2 ha
  refine kw_aret S hr (Or.inr ⟨_, rfl⟩) hlk (v := some d1) hW hS (Nat.le_of_eq (Nat.zero_add _)) (Nat.le_of_eq (Nat.zero_add _)) dJ7_copyOf_1904c_9 ?_
  refine ⟨d1, hd2, ?_, rfl, ?_⟩ <;> first | rfl | (simp [kw_b, kI_sNew, kJ_sNew, kR_sNew, kN_sNew, kI_sI, kI_sJ, kI_sR, kI_sA, kI_sB, kI_sC, kJ_sI, kJ_sJ, kJ_sR, kJ_sA, kJ_sB, kJ_sC, kR_sI, kR_sJ, kR_sR, kR_sA, kR_sB, kR_sC, kA_sI, kA_sJ, kA_sR, kA_sA, kA_sB, kA_sC, kB_sI, kB_sJ, kB_sR, kB_sA, kB_sB, kB_sC, kC_sI, kC_sJ, kC_sR, kC_sA, kC_sB, kC_sC, kN_sI, kN_sJ, kN_sR, kN_sA, kN_sB, kN_sC, n3, Ne.symm n3]; done)
theorem kw_e0 {n : Nat} (h : n = 0) : ¬ 0 < nI n := by rw [h]; decide
set_option maxHeartbeats 1000000 in
set_option maxRecDepth 100000 in
theorem c_Jx4a65c_grow_92f84_e (l : Launch) (G : kw_G) (nu : Nat → Option Nat) (x : kw_St) (a : Nat) (mi : Int32) (ha : nu a = some 0) (hd1 : kR x 1 a = some G.2.2.1) (h11 : nu G.2.2.1 = some 11) (hn0 : kN x G.2.2.1 = 0) (hmi : mi = 1) : kw_M l G yJx4a65c_grow_92f84 wsJx4a65c_grow_92f84 { frames := 3, cells := 1, slots := 10, locals := 84 } 1 10 [.ref a, .int (mi)] nu x (fun v nu' y => ∃ q, nu q = none ∧ v = some (.ref q) ∧ nu' = va_up nu q (some 10) ∧ y = sR (sNew x q 10) 1 a (some q)) := by
  refine kw_M.ofW (cc := cJx4a65c_grow_92f84) (maxL := 4) (ret := (some (.array (.object "java/lang/Object")))) (by decide) rfl (Nat.le_of_ble_eq_true rfl) ?_
  intro p e s m args below meth c A ls S hr hlk hnm hK hZ hA hW hS hl
  have hl : lv_has ls 4 [(0, .ref a), (1, .int (mi))] := hl
  have iJx4a65c : ∀ w ∈ wsJx4a65c0, w ∈ wsJx4a65c_grow_92f84 := by decide +kernel
  refine lv_aload_n S.1 S.2.1 dJx4a65c_grow_92f84_0 rfl (lv_at hl 0 rfl) ?_
  refine kx_gA S hK hW ha 1 1 rfl iJx4a65c (by decide) rfl rfl (by decide) (by decide +kernel) dJx4a65c_grow_92f84_1 (b := G.2.2.1) hd1 ?_
  refine kw_alen S hK hW h11 (Or.inr rfl) dJx4a65c_grow_92f84_4 ?_
  refine lv_istore_n (lv' := [(2, .int (nI (kN x G.2.2.1))), (0, .ref a), (1, .int (mi))]) S.1 S.2.1 dJx4a65c_grow_92f84_5 rfl hl (by decide) rfl (fun ls hl => ?_)
  refine lv_iload_n S.1 S.2.1 dJx4a65c_grow_92f84_6 rfl (lv_at hl 0 rfl) ?_
  refine lv_if_gt (tgt := 20) S.1 S.2.1 dJx4a65c_grow_92f84_7 (by decide) (fun c1 => ?_) (fun c1 => ?_)
  · skip
    first | exact absurd (by assumption) (kw_e0 hn0) | exact absurd rfl (by assumption)
  · skip
    refine lv_aload_n S.1 S.2.1 dJx4a65c_grow_92f84_10 rfl (lv_at hl 1 rfl) ?_
    refine kx_gA S hK hW ha 1 1 rfl iJx4a65c (by decide) rfl rfl (by decide) (by decide +kernel) dJx4a65c_grow_92f84_11 (b := G.2.2.1) hd1 ?_
    refine va_gets S.1 S.2.1 hZ hS S.2.2.2.1 (S.2.2.2.2 _ (by decide +kernel)) (fun _ h => h) dJx4a65c_grow_92f84_14 ?_
    refine lv_acmp_eq (rx := (some G.2.2.1)) (ry := (some G.2.2.1)) (tgt := 45) S.1 S.2.1 dJx4a65c_grow_92f84_17 (by decide) (fun c2 => ?_) (fun c2 => ?_)
    · skip
      refine lv_aload_n S.1 S.2.1 dJx4a65c_grow_92f84_45 rfl (lv_at hl 1 rfl) ?_
      refine lv_bipush (v := 10) S.1 S.2.1 dJx4a65c_grow_92f84_46 (by decide) ?_
      refine lv_iload_n S.1 S.2.1 dJx4a65c_grow_92f84_48 rfl (lv_at hl 2 rfl) ?_
      refine kx_maxi S hl.1 (by decide +kernel) (by decide +kernel) (by decide +kernel) (by decide +kernel) (Nat.le_of_ble_eq_true rfl) (Nat.le_of_ble_eq_true rfl) (by first | exact Nat.le_of_ble_eq_true rfl | exact Nat.le_refl _ | exact Nat.le_of_eq (Nat.zero_add _)) (by first | exact Nat.le_of_ble_eq_true rfl | exact Nat.le_of_eq (Nat.zero_add _) | exact Nat.le_refl _) dJx4a65c_grow_92f84_49 ?_
      refine kw_anew S hK hW hS hA (by decide +kernel) (k := 10) (by rw [hmi]; decide) (by decide) (Nat.le_refl _) (Nat.le_of_eq (Nat.zero_add _)) dJx4a65c_grow_92f84_52 (fun d3 H hd4 hW hS => ?_)
      have n5 : ¬ a = d3 := kw_nb hd4 ha
      have n6 : ¬ G.2.2.1 = d3 := kw_nb hd4 h11
      refine lv_dup_x1 S.1 S.2.1 dJx4a65c_grow_92f84_55 rfl rfl ?_
      refine kx_pA S hK hW hS (kw_old hd4 ha) 1 1  rfl iJx4a65c tyJx4a65c_ok nmJx4a65c (by decide) rfl rfl (by decide) (by decide +kernel) (Or.inl rfl) rfl (Or.inr ⟨_, rfl⟩) dJx4a65c_grow_92f84_56 (fun H locs hW hS => ?_)
      refine kw_aret S hr (Or.inr ⟨_, rfl⟩) hlk (v := some d3) hW hS (by decide) (by decide) dJx4a65c_grow_92f84_59 ?_
      refine ⟨d3, hd4, ?_, rfl, ?_⟩ <;> first | rfl | (simp [c1, c2, kw_b, kI_sNew, kJ_sNew, kR_sNew, kN_sNew, kI_sI, kI_sJ, kI_sR, kI_sA, kI_sB, kI_sC, kJ_sI, kJ_sJ, kJ_sR, kJ_sA, kJ_sB, kJ_sC, kR_sI, kR_sJ, kR_sR, kR_sA, kR_sB, kR_sC, kA_sI, kA_sJ, kA_sR, kA_sA, kA_sB, kA_sC, kB_sI, kB_sJ, kB_sR, kB_sA, kB_sB, kB_sC, kC_sI, kC_sJ, kC_sR, kC_sA, kC_sB, kC_sC, kN_sI, kN_sJ, kN_sR, kN_sA, kN_sB, kN_sC, n5, Ne.symm n5, n6, Ne.symm n6]; done)
    · skip
      first | exact absurd (by assumption) (kw_e0 hn0) | exact absurd rfl (by assumption)
set_option maxHeartbeats 1000000 in
set_option maxRecDepth 100000 in
theorem c_Jx4a65c_grow_92f84_g (l : Launch) (G : kw_G) (nu : Nat → Option Nat) (x : kw_St) (a : Nat) (mi : Int32) (d : Nat) (ha : nu a = some 0) (hd : nu d = some 10) (hd1 : kR x 1 a = some d) (hc2 : 2 ≤ kN x d) (hc9 : kN x d ≤ 100000) (hmi : mi = nI (kN x d + 1)) (helem : ∀ i y, i < kN x d → kC x d i = some y → ∃ r, nu y = some r ∧ (r = 2 ∨ r = 3 ∨ r = 4)) : kw_M l G yJx4a65c_grow_92f84 wsJx4a65c_grow_92f84 { frames := 3, cells := 1, slots := kN x d + kN x d / 2, locals := 84 } 1 (kN x d + kN x d / 2) [.ref a, .int (mi)] nu x (fun v nu' y => ∃ q, nu q = none ∧ v = some (.ref q) ∧ nu' = va_up nu q (some 10) ∧ y = sR (sCrow (sNew x q (kN x d + kN x d / 2)) q (va_cpy (kC x d) (fun _ => none) 0 0 (kN x d))) 1 a (some q)) := by
  refine kw_M.ofW (cc := cJx4a65c_grow_92f84) (maxL := 4) (ret := (some (.array (.object "java/lang/Object")))) (by decide) rfl (Nat.le_of_ble_eq_true rfl) ?_
  intro p e s m args below meth c A ls S hr hlk hnm hK hZ hA hW hS hl
  have hl : lv_has ls 4 [(0, .ref a), (1, .int (mi))] := hl
  have iJx4a65c : ∀ w ∈ wsJx4a65c0, w ∈ wsJx4a65c_grow_92f84 := by decide +kernel
  refine lv_aload_n S.1 S.2.1 dJx4a65c_grow_92f84_0 rfl (lv_at hl 0 rfl) ?_
  refine kx_gA S hK hW ha 1 1 rfl iJx4a65c (by decide) rfl rfl (by decide) (by decide +kernel) dJx4a65c_grow_92f84_1 (b := d) hd1 ?_
  refine kw_alen S hK hW hd (Or.inl rfl) dJx4a65c_grow_92f84_4 ?_
  refine lv_istore_n (lv' := [(2, .int (nI (kN x d))), (0, .ref a), (1, .int (mi))]) S.1 S.2.1 dJx4a65c_grow_92f84_5 rfl hl (by decide) rfl (fun ls hl => ?_)
  refine lv_iload_n S.1 S.2.1 dJx4a65c_grow_92f84_6 rfl (lv_at hl 0 rfl) ?_
  refine lv_if_gt (tgt := 20) S.1 S.2.1 dJx4a65c_grow_92f84_7 (by decide) (fun c1 => ?_) (fun c1 => ?_)
  · skip
    refine lv_iload_n S.1 S.2.1 dJx4a65c_grow_92f84_20 rfl (lv_at hl 0 rfl) ?_
    refine lv_iload_n S.1 S.2.1 dJx4a65c_grow_92f84_21 rfl (lv_at hl 2 rfl) ?_
    refine lv_iload_n S.1 S.2.1 dJx4a65c_grow_92f84_22 rfl (lv_at hl 0 rfl) ?_
    refine lv_isub S.1 S.2.1 dJx4a65c_grow_92f84_23 ?_
    refine lv_iload_n S.1 S.2.1 dJx4a65c_grow_92f84_24 rfl (lv_at hl 0 rfl) ?_
    refine lv_iconst (v := 1) S.1 S.2.1 dJx4a65c_grow_92f84_25 (by decide) ?_
    refine lv_ishr S.1 S.2.1 dJx4a65c_grow_92f84_26 ?_
    refine kx_cS (As := [.int (nI (kN x d)), .int ((mi) - (nI (kN x d))), .int ((nI (kN x d)) >>> ((1) &&& 31))]) (rest := []) (st1 := [.int ((nI (kN x d)) + (if ((mi) - (nI (kN x d))) < ((nI (kN x d)) >>> ((1) &&& 31)) then ((nI (kN x d)) >>> ((1) &&& 31)) else ((mi) - (nI (kN x d)))))]) S hK hZ hA hW hS (c_J8_newLength_cabcc l G nu x (nI (kN x d)) ((mi) - (nI (kN x d))) ((nI (kN x d)) >>> ((1) &&& 31)) (by rw [hmi, kw_nl hc2 (by omega)]; exact nI_lt (a := 0) (by omega) (by omega)) (by rw [hmi, kw_nl hc2 (by omega)]; exact nI_le (b := 2147483639) (by omega) (by omega))) (va_cwS 3 S.2.2.2.2 gJx4a65c_grow_92f84_J8_newLength_cabcc rfl rfl rfl (by decide +kernel) ⟨Nat.le_of_ble_eq_true rfl, Nat.le_of_ble_eq_true rfl⟩) rfl hl.1 rfl (Nat.le_of_ble_eq_true rfl) dJx4a65c_grow_92f84_27 ⟨Nat.le_of_ble_eq_true rfl, Nat.le_of_ble_eq_true rfl⟩ rfl (fun H locs hW hS => ?_)
    refine lv_istore_n (lv' := [(3, .int ((nI (kN x d)) + (if ((mi) - (nI (kN x d))) < ((nI (kN x d)) >>> ((1) &&& 31)) then ((nI (kN x d)) >>> ((1) &&& 31)) else ((mi) - (nI (kN x d)))))), (2, .int (nI (kN x d))), (0, .ref a), (1, .int (mi))]) S.1 S.2.1 dJx4a65c_grow_92f84_30 rfl hl (by decide) rfl (fun ls hl => ?_)
    refine lv_aload_n S.1 S.2.1 dJx4a65c_grow_92f84_31 rfl (lv_at hl 2 rfl) ?_
    refine lv_aload_n S.1 S.2.1 dJx4a65c_grow_92f84_32 rfl (lv_at hl 2 rfl) ?_
    refine kx_gA S hK hW ha 1 1 rfl iJx4a65c (by decide) rfl rfl (by decide) (by decide +kernel) dJx4a65c_grow_92f84_33 (b := d) hd1 ?_
    refine lv_iload_n S.1 S.2.1 dJx4a65c_grow_92f84_36 rfl (lv_at hl 0 rfl) ?_
    refine kx_dS (post := fun q => (some (.ref q), sCrow (sNew x q (kN x d + kN x d / 2)) q (va_cpy (kC x d) (fun _ => none) 0 0 (kN x d)))) (kq := 10) (As := [.ref d, .int ((nI (kN x d)) + (if ((mi) - (nI (kN x d))) < ((nI (kN x d)) >>> ((1) &&& 31)) then ((nI (kN x d)) >>> ((1) &&& 31)) else ((mi) - (nI (kN x d)))))]) (rest := [.ref a]) (st1 := fun q => [.ref q, .ref a]) S hK hZ hA hW hS (c_J7_copyOf_1904c l G nu x d ((nI (kN x d)) + (if ((mi) - (nI (kN x d))) < ((nI (kN x d)) >>> ((1) &&& 31)) then ((nI (kN x d)) >>> ((1) &&& 31)) else ((mi) - (nI (kN x d))))) (kN x d + kN x d / 2) hd (by rw [hmi, kw_nl hc2 (by omega)]) (by omega) (by omega) (by rw [hmi, kw_nl hc2 (by omega)]; exact nI_nlt (by omega) (by omega)) helem) (va_cwS 2 S.2.2.2.2 gJx4a65c_grow_92f84_J7_copyOf_1904c rfl rfl rfl (by decide +kernel) ⟨Nat.le_of_ble_eq_true rfl, Nat.le_of_ble_eq_true rfl⟩) rfl hl.1 rfl (Nat.le_of_ble_eq_true rfl) dJx4a65c_grow_92f84_37 ⟨Nat.le_of_eq (Nat.zero_add _), Nat.le_of_eq (Nat.zero_add _)⟩ (fun _ => rfl) (fun d2 H locs hd3 hW hS => ?_)
    have n4 : ¬ a = d2 := kw_nb hd3 ha
    have n5 : ¬ d = d2 := kw_nb hd3 hd
    refine lv_dup_x1 S.1 S.2.1 dJx4a65c_grow_92f84_40 rfl rfl ?_
    refine kx_pA S hK hW hS (kw_old hd3 ha) 1 1  rfl iJx4a65c tyJx4a65c_ok nmJx4a65c (by decide) rfl rfl (by decide) (by decide +kernel) (Or.inl rfl) rfl (Or.inr ⟨_, rfl⟩) dJx4a65c_grow_92f84_41 (fun H locs hW hS => ?_)
    refine kw_aret S hr (Or.inr ⟨_, rfl⟩) hlk (v := some d2) hW hS (Nat.le_of_eq (Nat.zero_add _)) (Nat.le_of_eq (Nat.zero_add _)) dJx4a65c_grow_92f84_44 ?_
    refine ⟨d2, hd3, ?_, rfl, ?_⟩ <;> first | rfl | (simp [c1, kw_b, kI_sNew, kJ_sNew, kR_sNew, kN_sNew, kI_sI, kI_sJ, kI_sR, kI_sA, kI_sB, kI_sC, kJ_sI, kJ_sJ, kJ_sR, kJ_sA, kJ_sB, kJ_sC, kR_sI, kR_sJ, kR_sR, kR_sA, kR_sB, kR_sC, kA_sI, kA_sJ, kA_sR, kA_sA, kA_sB, kA_sC, kB_sI, kB_sJ, kB_sR, kB_sA, kB_sB, kB_sC, kC_sI, kC_sJ, kC_sR, kC_sA, kC_sB, kC_sC, kN_sI, kN_sJ, kN_sR, kN_sA, kN_sB, kN_sC, n4, Ne.symm n4, n5, Ne.symm n5]; done)
  · skip
    exact absurd (show (0 : Int32) < nI (kN x d) from nI_lt (a := 0) (b := kN x d) (by omega) (by omega)) (by assumption)
set_option maxHeartbeats 1000000 in
set_option maxRecDepth 100000 in
theorem c_Jx4a65c_grow_d5877_e (l : Launch) (G : kw_G) (nu : Nat → Option Nat) (x : kw_St) (a : Nat) (ha : nu a = some 0) (hd1 : kR x 1 a = some G.2.2.1) (h11 : nu G.2.2.1 = some 11) (hn0 : kN x G.2.2.1 = 0) (hs0 : kI x 2 a = 0) : kw_M l G yJx4a65c_grow_d5877 wsJx4a65c_grow_d5877 { frames := 4, cells := 1, slots := 10, locals := 107 } 1 10 [.ref a] nu x (fun v nu' y => ∃ q, nu q = none ∧ v = some (.ref q) ∧ nu' = va_up nu q (some 10) ∧ y = sR (sNew x q 10) 1 a (some q)) := by
  refine kw_M.ofW (cc := cJx4a65c_grow_d5877) (maxL := 1) (ret := (some (.array (.object "java/lang/Object")))) (by decide) rfl (Nat.le_of_ble_eq_true rfl) ?_
  intro p e s m args below meth c A ls S hr hlk hnm hK hZ hA hW hS hl
  have hl : lv_has ls 1 [(0, .ref a)] := hl
  have iJx4a65c : ∀ w ∈ wsJx4a65c0, w ∈ wsJx4a65c_grow_d5877 := by decide +kernel
  refine lv_aload_n S.1 S.2.1 dJx4a65c_grow_d5877_0 rfl (lv_at hl 0 rfl) ?_
  refine lv_aload_n S.1 S.2.1 dJx4a65c_grow_d5877_1 rfl (lv_at hl 0 rfl) ?_
  refine kx_gI S hK hW ha 2 2 rfl iJx4a65c (by decide) rfl rfl (by decide) (by decide +kernel) dJx4a65c_grow_d5877_2 (v := kI x 2 a) rfl ?_
  refine lv_iconst (v := 1) S.1 S.2.1 dJx4a65c_grow_d5877_5 (by decide) ?_
  refine lv_iadd S.1 S.2.1 dJx4a65c_grow_d5877_6 ?_
  refine kx_dV (post := fun q => (some (.ref q), sR (sNew x q 10) 1 a (some q))) (kq := 10) (As := [.int ((kI x 2 a) + (1))]) (rest := []) (st1 := fun q => [.ref q]) S hK hZ hA hW hS (c_Jx4a65c_grow_92f84_e l G nu x a ((kI x 2 a) + (1)) ha hd1 h11 hn0 (by rw [hs0]; decide)) (cwV 1 S.2.2.2.2 gJx4a65c_grow_d5877_Jx4a65c_grow_92f84 rfl rfl rfl (by decide +kernel) ⟨Nat.le_of_ble_eq_true rfl, Nat.le_of_ble_eq_true rfl⟩) ha (by decide) rfl rfl hl.1 rfl (Nat.le_of_ble_eq_true rfl) dJx4a65c_grow_d5877_7 ⟨by decide, by decide⟩ (fun _ => rfl) (fun d1 H locs hd2 hW hS => ?_)
  have n3 : ¬ a = d1 := kw_nb hd2 ha
  have n4 : ¬ G.2.2.1 = d1 := kw_nb hd2 h11
  refine kw_aret S hr (Or.inr ⟨_, rfl⟩) hlk (v := some d1) hW hS (by decide) (by decide) dJx4a65c_grow_d5877_10 ?_
  refine ⟨d1, hd2, ?_, rfl, ?_⟩ <;> first | rfl | (simp [kw_b, kI_sNew, kJ_sNew, kR_sNew, kN_sNew, kI_sI, kI_sJ, kI_sR, kI_sA, kI_sB, kI_sC, kJ_sI, kJ_sJ, kJ_sR, kJ_sA, kJ_sB, kJ_sC, kR_sI, kR_sJ, kR_sR, kR_sA, kR_sB, kR_sC, kA_sI, kA_sJ, kA_sR, kA_sA, kA_sB, kA_sC, kB_sI, kB_sJ, kB_sR, kB_sA, kB_sB, kB_sC, kC_sI, kC_sJ, kC_sR, kC_sA, kC_sB, kC_sC, kN_sI, kN_sJ, kN_sR, kN_sA, kN_sB, kN_sC, n3, Ne.symm n3, n4, Ne.symm n4]; done)
set_option maxHeartbeats 1000000 in
set_option maxRecDepth 100000 in
theorem c_Jx4a65c_grow_d5877_g (l : Launch) (G : kw_G) (nu : Nat → Option Nat) (x : kw_St) (a : Nat) (d : Nat) (ha : nu a = some 0) (hd : nu d = some 10) (hd1 : kR x 1 a = some d) (hc2 : 2 ≤ kN x d) (hc9 : kN x d ≤ 100000) (helem : ∀ i y, i < kN x d → kC x d i = some y → ∃ r, nu y = some r ∧ (r = 2 ∨ r = 3 ∨ r = 4)) (hs0 : kI x 2 a = nI (kN x d)) : kw_M l G yJx4a65c_grow_d5877 wsJx4a65c_grow_d5877 { frames := 4, cells := 1, slots := kN x d + kN x d / 2, locals := 107 } 1 (kN x d + kN x d / 2) [.ref a] nu x (fun v nu' y => ∃ q, nu q = none ∧ v = some (.ref q) ∧ nu' = va_up nu q (some 10) ∧ y = sR (sCrow (sNew x q (kN x d + kN x d / 2)) q (va_cpy (kC x d) (fun _ => none) 0 0 (kN x d))) 1 a (some q)) := by
  refine kw_M.ofW (cc := cJx4a65c_grow_d5877) (maxL := 1) (ret := (some (.array (.object "java/lang/Object")))) (by decide) rfl (Nat.le_of_ble_eq_true rfl) ?_
  intro p e s m args below meth c A ls S hr hlk hnm hK hZ hA hW hS hl
  have hl : lv_has ls 1 [(0, .ref a)] := hl
  have iJx4a65c : ∀ w ∈ wsJx4a65c0, w ∈ wsJx4a65c_grow_d5877 := by decide +kernel
  refine lv_aload_n S.1 S.2.1 dJx4a65c_grow_d5877_0 rfl (lv_at hl 0 rfl) ?_
  refine lv_aload_n S.1 S.2.1 dJx4a65c_grow_d5877_1 rfl (lv_at hl 0 rfl) ?_
  refine kx_gI S hK hW ha 2 2 rfl iJx4a65c (by decide) rfl rfl (by decide) (by decide +kernel) dJx4a65c_grow_d5877_2 (v := kI x 2 a) rfl ?_
  refine lv_iconst (v := 1) S.1 S.2.1 dJx4a65c_grow_d5877_5 (by decide) ?_
  refine lv_iadd S.1 S.2.1 dJx4a65c_grow_d5877_6 ?_
  refine kx_dV (post := fun q => (some (.ref q), sR (sCrow (sNew x q (kN x d + kN x d / 2)) q (va_cpy (kC x d) (fun _ => none) 0 0 (kN x d))) 1 a (some q))) (kq := 10) (As := [.int ((kI x 2 a) + (1))]) (rest := []) (st1 := fun q => [.ref q]) S hK hZ hA hW hS (c_Jx4a65c_grow_92f84_g l G nu x a ((kI x 2 a) + (1)) d ha hd hd1 hc2 hc9 (by rw [hs0, nI_1]) helem) (cwV 1 S.2.2.2.2 gJx4a65c_grow_d5877_Jx4a65c_grow_92f84 rfl rfl rfl (by decide +kernel) ⟨Nat.le_of_ble_eq_true rfl, Nat.le_of_ble_eq_true rfl⟩) ha (by decide) rfl rfl hl.1 rfl (Nat.le_of_ble_eq_true rfl) dJx4a65c_grow_d5877_7 ⟨Nat.le_of_eq (Nat.zero_add _), Nat.le_of_eq (Nat.zero_add _)⟩ (fun _ => rfl) (fun d1 H locs hd2 hW hS => ?_)
  have n3 : ¬ a = d1 := kw_nb hd2 ha
  have n4 : ¬ d = d1 := kw_nb hd2 hd
  refine kw_aret S hr (Or.inr ⟨_, rfl⟩) hlk (v := some d1) hW hS (Nat.le_of_eq (Nat.zero_add _)) (Nat.le_of_eq (Nat.zero_add _)) dJx4a65c_grow_d5877_10 ?_
  refine ⟨d1, hd2, ?_, rfl, ?_⟩ <;> first | rfl | (simp [kw_b, kI_sNew, kJ_sNew, kR_sNew, kN_sNew, kI_sI, kI_sJ, kI_sR, kI_sA, kI_sB, kI_sC, kJ_sI, kJ_sJ, kJ_sR, kJ_sA, kJ_sB, kJ_sC, kR_sI, kR_sJ, kR_sR, kR_sA, kR_sB, kR_sC, kA_sI, kA_sJ, kA_sR, kA_sA, kA_sB, kA_sC, kB_sI, kB_sJ, kB_sR, kB_sA, kB_sB, kB_sC, kC_sI, kC_sJ, kC_sR, kC_sA, kC_sB, kC_sC, kN_sI, kN_sJ, kN_sR, kN_sA, kN_sB, kN_sC, n3, Ne.symm n3, n4, Ne.symm n4]; done)
set_option maxHeartbeats 1000000 in
set_option maxRecDepth 100000 in
theorem c_Jx4a65c_add_72be8_n (l : Launch) (G : kw_G) (nu : Nat → Option Nat) (x : kw_St) (a : Nat) (el : Nat) (d : Nat) (n : Int32) (r : Nat) (k : Nat) (ha : nu a = some 0) (hel : nu el = some r) (hd : nu d = some 10) (hr4 : r = 2 ∨ r = 3 ∨ r = 4) (hix : kw_ix n k (kN x d)) (hnn : ¬ n = nI (kN x d)) : kw_M l G yJx4a65c_add_72be8 wsJx4a65c_add_72be8 { frames := 5, cells := 0, slots := 0, locals := 127 } 0 0 [.ref a, .ref el, .ref d, .int (n)] nu x (kw_P nu (none) (sI (sC x d k (some el)) 2 a (n + 1))) := by
  refine kw_M.ofW (cc := cJx4a65c_add_72be8) (maxL := 4) (ret := none) (by decide) rfl (Nat.le_of_ble_eq_true rfl) ?_
  intro p e s m args below meth c A ls S hr hlk hnm hK hZ hA hW hS hl
  have hl : lv_has ls 4 [(0, .ref a), (1, .ref el), (2, .ref d), (3, .int (n))] := hl
  have iJx4a65c : ∀ w ∈ wsJx4a65c0, w ∈ wsJx4a65c_add_72be8 := by decide +kernel
  refine lv_iload_n S.1 S.2.1 dJx4a65c_add_72be8_0 rfl (lv_at hl 3 rfl) ?_
  refine lv_aload_n S.1 S.2.1 dJx4a65c_add_72be8_1 rfl (lv_at hl 2 rfl) ?_
  refine kw_alen S hK hW hd (Or.inl rfl) dJx4a65c_add_72be8_2 ?_
  refine lv_icmp_ne (tgt := 11) S.1 S.2.1 dJx4a65c_add_72be8_3 (by decide) (fun c1 => ?_) (fun c1 => ?_)
  · skip
    refine lv_aload_n S.1 S.2.1 dJx4a65c_add_72be8_11 rfl (lv_at hl 2 rfl) ?_
    refine lv_iload_n S.1 S.2.1 dJx4a65c_add_72be8_12 rfl (lv_at hl 3 rfl) ?_
    refine lv_aload_n S.1 S.2.1 dJx4a65c_add_72be8_13 rfl (lv_at hl 1 rfl) ?_
    refine kw_aast S hK hW hS hd hel hr4 (k := k) hix dJx4a65c_add_72be8_14 (fun H locs hW hS => ?_)
    refine lv_aload_n S.1 S.2.1 dJx4a65c_add_72be8_15 rfl (lv_at hl 0 rfl) ?_
    refine lv_iload_n S.1 S.2.1 dJx4a65c_add_72be8_16 rfl (lv_at hl 3 rfl) ?_
    refine lv_iconst (v := 1) S.1 S.2.1 dJx4a65c_add_72be8_17 (by decide) ?_
    refine lv_iadd S.1 S.2.1 dJx4a65c_add_72be8_18 ?_
    refine kx_pI S hK hW hS ha 2 2  rfl iJx4a65c tyJx4a65c_ok nmJx4a65c (by decide) rfl rfl (by decide) (by decide +kernel) (Or.inl rfl) rfl dJx4a65c_add_72be8_19 (fun H locs hW hS => ?_)
    refine kw_vret S hr hlk hW hS (by decide) (by decide) dJx4a65c_add_72be8_22 ?_
    refine ⟨?_, rfl, ?_⟩ <;> first | rfl | (simp [c1, kw_b]; done) | (simp [c1, kw_b, kI_sNew, kJ_sNew, kR_sNew, kN_sNew, kI_sI, kI_sJ, kI_sR, kI_sA, kI_sB, kI_sC, kJ_sI, kJ_sJ, kJ_sR, kJ_sA, kJ_sB, kJ_sC, kR_sI, kR_sJ, kR_sR, kR_sA, kR_sB, kR_sC, kA_sI, kA_sJ, kA_sR, kA_sA, kA_sB, kA_sC, kB_sI, kB_sJ, kB_sR, kB_sA, kB_sB, kB_sC, kC_sI, kC_sJ, kC_sR, kC_sA, kC_sB, kC_sC, kN_sI, kN_sJ, kN_sR, kN_sA, kN_sB, kN_sC]; done)
  · skip
    exact absurd (by first | assumption | exact Classical.not_not.mp (by assumption)) hnn
set_option maxHeartbeats 1000000 in
set_option maxRecDepth 100000 in
theorem c_Jx4a65c_add_72be8_e (l : Launch) (G : kw_G) (nu : Nat → Option Nat) (x : kw_St) (a : Nat) (el : Nat) (d : Nat) (n : Int32) (r : Nat) (ha : nu a = some 0) (hel : nu el = some r) (hr4 : r = 2 ∨ r = 3 ∨ r = 4) (hd0 : d = G.2.2.1) (hd1 : kR x 1 a = some G.2.2.1) (h11 : nu G.2.2.1 = some 11) (hn0 : kN x G.2.2.1 = 0) (hs0 : kI x 2 a = 0) (hnn : n = 0) : kw_M l G yJx4a65c_add_72be8 wsJx4a65c_add_72be8 { frames := 5, cells := 1, slots := 10, locals := 127 } 1 10 [.ref a, .ref el, .ref d, .int (n)] nu x (fun v nu' y => ∃ q, nu q = none ∧ v = none ∧ nu' = va_up nu q (some 10) ∧ y = sI (sC (sR (sNew x q 10) 1 a (some q)) q 0 (some el)) 2 a 1) := by
  refine kw_M.ofW (cc := cJx4a65c_add_72be8) (maxL := 4) (ret := none) (by decide) rfl (Nat.le_of_ble_eq_true rfl) ?_
  intro p e s m args below meth c A ls S hr hlk hnm hK hZ hA hW hS hl
  have hl : lv_has ls 4 [(0, .ref a), (1, .ref el), (2, .ref d), (3, .int (n))] := hl
  have iJx4a65c : ∀ w ∈ wsJx4a65c0, w ∈ wsJx4a65c_add_72be8 := by decide +kernel
  refine lv_iload_n S.1 S.2.1 dJx4a65c_add_72be8_0 rfl (lv_at hl 3 rfl) ?_
  refine lv_aload_n S.1 S.2.1 dJx4a65c_add_72be8_1 rfl (lv_at hl 2 rfl) ?_
  refine kw_alen S hK hW (hd0 ▸ h11) (Or.inr rfl) dJx4a65c_add_72be8_2 ?_
  refine lv_icmp_ne (tgt := 11) S.1 S.2.1 dJx4a65c_add_72be8_3 (by decide) (fun c1 => ?_) (fun c1 => ?_)
  · skip
    exact absurd (by rw [hnn, hd0, hn0]; rfl) c1
  · skip
    refine lv_aload_n S.1 S.2.1 dJx4a65c_add_72be8_6 rfl (lv_at hl 0 rfl) ?_
    refine kx_dV (post := fun q => (some (.ref q), sR (sNew x q 10) 1 a (some q))) (kq := 10) (As := []) (rest := []) (st1 := fun q => [.ref q]) S hK hZ hA hW hS (c_Jx4a65c_grow_d5877_e l G nu x a ha hd1 h11 hn0 hs0) (cwV 0 S.2.2.2.2 gJx4a65c_add_72be8_Jx4a65c_grow_d5877 rfl rfl rfl (by decide +kernel) ⟨Nat.le_of_ble_eq_true rfl, Nat.le_of_ble_eq_true rfl⟩) ha (by decide) rfl rfl hl.1 rfl (Nat.le_of_ble_eq_true rfl) dJx4a65c_add_72be8_7 ⟨by decide, by decide⟩ (fun _ => rfl) (fun d2 H locs hd3 hW hS => ?_)
    have n4 : ¬ a = d2 := kw_nb hd3 ha
    have n5 : ¬ el = d2 := kw_nb hd3 hel
    have n6 : ¬ d = d2 := kw_nb hd3 ((hd0 ▸ h11))
    have n7 : ¬ G.2.2.1 = d2 := kw_nb hd3 h11
    refine lv_astore_n (lv' := [(2, .ref d2), (0, .ref a), (1, .ref el), (3, .int (n))]) S.1 S.2.1 dJx4a65c_add_72be8_10 rfl hl (by decide) rfl (fun ls hl => ?_)
    refine lv_aload_n S.1 S.2.1 dJx4a65c_add_72be8_11 rfl (lv_at hl 0 rfl) ?_
    refine lv_iload_n S.1 S.2.1 dJx4a65c_add_72be8_12 rfl (lv_at hl 3 rfl) ?_
    refine lv_aload_n S.1 S.2.1 dJx4a65c_add_72be8_13 rfl (lv_at hl 2 rfl) ?_
    refine kw_aast S hK hW hS (va_up_self _ _ _) (kw_old hd3 hel) hr4 (k := 0) (by rw [hnn]; simp [kI_sNew, kJ_sNew, kR_sNew, kN_sNew, kI_sI, kI_sJ, kI_sR, kI_sA, kI_sB, kI_sC, kJ_sI, kJ_sJ, kJ_sR, kJ_sA, kJ_sB, kJ_sC, kR_sI, kR_sJ, kR_sR, kR_sA, kR_sB, kR_sC, kA_sI, kA_sJ, kA_sR, kA_sA, kA_sB, kA_sC, kB_sI, kB_sJ, kB_sR, kB_sA, kB_sB, kB_sC, kC_sI, kC_sJ, kC_sR, kC_sA, kC_sB, kC_sC, kN_sI, kN_sJ, kN_sR, kN_sA, kN_sB, kN_sC]; exact kw_ix.nI (k := 0) (n := 10) (by decide) (by decide)) dJx4a65c_add_72be8_14 (fun H locs hW hS => ?_)
    refine lv_aload_n S.1 S.2.1 dJx4a65c_add_72be8_15 rfl (lv_at hl 1 rfl) ?_
    refine lv_iload_n S.1 S.2.1 dJx4a65c_add_72be8_16 rfl (lv_at hl 3 rfl) ?_
    refine lv_iconst (v := 1) S.1 S.2.1 dJx4a65c_add_72be8_17 (by decide) ?_
    refine lv_iadd S.1 S.2.1 dJx4a65c_add_72be8_18 ?_
    refine kx_pI S hK hW hS (kw_old hd3 ha) 2 2  rfl iJx4a65c tyJx4a65c_ok nmJx4a65c (by decide) rfl rfl (by decide) (by decide +kernel) (Or.inl rfl) rfl dJx4a65c_add_72be8_19 (fun H locs hW hS => ?_)
    refine kw_vret S hr hlk hW hS (by decide) (by decide) dJx4a65c_add_72be8_22 ?_
    refine ⟨d2, hd3, ?_, rfl, ?_⟩ <;> first | rfl | (simp [hnn, kw_b, kI_sNew, kJ_sNew, kR_sNew, kN_sNew, kI_sI, kI_sJ, kI_sR, kI_sA, kI_sB, kI_sC, kJ_sI, kJ_sJ, kJ_sR, kJ_sA, kJ_sB, kJ_sC, kR_sI, kR_sJ, kR_sR, kR_sA, kR_sB, kR_sC, kA_sI, kA_sJ, kA_sR, kA_sA, kA_sB, kA_sC, kB_sI, kB_sJ, kB_sR, kB_sA, kB_sB, kB_sC, kC_sI, kC_sJ, kC_sR, kC_sA, kC_sB, kC_sC, kN_sI, kN_sJ, kN_sR, kN_sA, kN_sB, kN_sC, n4, Ne.symm n4, n5, Ne.symm n5, n6, Ne.symm n6, n7, Ne.symm n7]; done)
set_option maxHeartbeats 1000000 in
set_option maxRecDepth 100000 in
theorem c_Jx4a65c_add_72be8_g (l : Launch) (G : kw_G) (nu : Nat → Option Nat) (x : kw_St) (a : Nat) (el : Nat) (d : Nat) (n : Int32) (r : Nat) (ha : nu a = some 0) (hel : nu el = some r) (hd : nu d = some 10) (hr4 : r = 2 ∨ r = 3 ∨ r = 4) (hd1 : kR x 1 a = some d) (hc2 : 2 ≤ kN x d) (hc9 : kN x d ≤ 100000) (helem : ∀ i y, i < kN x d → kC x d i = some y → ∃ r, nu y = some r ∧ (r = 2 ∨ r = 3 ∨ r = 4)) (hs0 : kI x 2 a = nI (kN x d)) (hnn : n = nI (kN x d)) : kw_M l G yJx4a65c_add_72be8 wsJx4a65c_add_72be8 { frames := 5, cells := 1, slots := kN x d + kN x d / 2, locals := 127 } 1 (kN x d + kN x d / 2) [.ref a, .ref el, .ref d, .int (n)] nu x (fun v nu' y => ∃ q, nu q = none ∧ v = none ∧ nu' = va_up nu q (some 10) ∧ y = sI (sC (sR (sCrow (sNew x q (kN x d + kN x d / 2)) q (va_cpy (kC x d) (fun _ => none) 0 0 (kN x d))) 1 a (some q)) q (kN x d) (some el)) 2 a (n + 1)) := by
  refine kw_M.ofW (cc := cJx4a65c_add_72be8) (maxL := 4) (ret := none) (by decide) rfl (Nat.le_of_ble_eq_true rfl) ?_
  intro p e s m args below meth c A ls S hr hlk hnm hK hZ hA hW hS hl
  have hl : lv_has ls 4 [(0, .ref a), (1, .ref el), (2, .ref d), (3, .int (n))] := hl
  have iJx4a65c : ∀ w ∈ wsJx4a65c0, w ∈ wsJx4a65c_add_72be8 := by decide +kernel
  refine lv_iload_n S.1 S.2.1 dJx4a65c_add_72be8_0 rfl (lv_at hl 3 rfl) ?_
  refine lv_aload_n S.1 S.2.1 dJx4a65c_add_72be8_1 rfl (lv_at hl 2 rfl) ?_
  refine kw_alen S hK hW hd (Or.inl rfl) dJx4a65c_add_72be8_2 ?_
  refine lv_icmp_ne (tgt := 11) S.1 S.2.1 dJx4a65c_add_72be8_3 (by decide) (fun c1 => ?_) (fun c1 => ?_)
  · skip
    exact absurd hnn c1
  · skip
    refine lv_aload_n S.1 S.2.1 dJx4a65c_add_72be8_6 rfl (lv_at hl 0 rfl) ?_
    refine kx_dV (post := fun q => (some (.ref q), sR (sCrow (sNew x q (kN x d + kN x d / 2)) q (va_cpy (kC x d) (fun _ => none) 0 0 (kN x d))) 1 a (some q))) (kq := 10) (As := []) (rest := []) (st1 := fun q => [.ref q]) S hK hZ hA hW hS (c_Jx4a65c_grow_d5877_g l G nu x a d ha hd hd1 hc2 hc9 helem hs0) (cwV 0 S.2.2.2.2 gJx4a65c_add_72be8_Jx4a65c_grow_d5877 rfl rfl rfl (by decide +kernel) ⟨Nat.le_of_ble_eq_true rfl, Nat.le_of_ble_eq_true rfl⟩) ha (by decide) rfl rfl hl.1 rfl (Nat.le_of_ble_eq_true rfl) dJx4a65c_add_72be8_7 ⟨Nat.le_of_eq (Nat.zero_add _), Nat.le_of_eq (Nat.zero_add _)⟩ (fun _ => rfl) (fun d2 H locs hd3 hW hS => ?_)
    have n4 : ¬ a = d2 := kw_nb hd3 ha
    have n5 : ¬ el = d2 := kw_nb hd3 hel
    have n6 : ¬ d = d2 := kw_nb hd3 hd
    refine lv_astore_n (lv' := [(2, .ref d2), (0, .ref a), (1, .ref el), (3, .int (n))]) S.1 S.2.1 dJx4a65c_add_72be8_10 rfl hl (by decide) rfl (fun ls hl => ?_)
    refine lv_aload_n S.1 S.2.1 dJx4a65c_add_72be8_11 rfl (lv_at hl 0 rfl) ?_
    refine lv_iload_n S.1 S.2.1 dJx4a65c_add_72be8_12 rfl (lv_at hl 3 rfl) ?_
    refine lv_aload_n S.1 S.2.1 dJx4a65c_add_72be8_13 rfl (lv_at hl 2 rfl) ?_
    refine kw_aast S hK hW hS (va_up_self _ _ _) (kw_old hd3 hel) hr4 (k := (kN x d)) (by rw [hnn]; simp [kI_sNew, kJ_sNew, kR_sNew, kN_sNew, kI_sI, kI_sJ, kI_sR, kI_sA, kI_sB, kI_sC, kJ_sI, kJ_sJ, kJ_sR, kJ_sA, kJ_sB, kJ_sC, kR_sI, kR_sJ, kR_sR, kR_sA, kR_sB, kR_sC, kA_sI, kA_sJ, kA_sR, kA_sA, kA_sB, kA_sC, kB_sI, kB_sJ, kB_sR, kB_sA, kB_sB, kB_sC, kC_sI, kC_sJ, kC_sR, kC_sA, kC_sB, kC_sC, kN_sI, kN_sJ, kN_sR, kN_sA, kN_sB, kN_sC, kN_sCrow, kI_sCrow, kR_sCrow, kC_sCrow]; exact kw_ix.nI (by omega) (by omega)) dJx4a65c_add_72be8_14 (fun H locs hW hS => ?_)
    refine lv_aload_n S.1 S.2.1 dJx4a65c_add_72be8_15 rfl (lv_at hl 1 rfl) ?_
    refine lv_iload_n S.1 S.2.1 dJx4a65c_add_72be8_16 rfl (lv_at hl 3 rfl) ?_
    refine lv_iconst (v := 1) S.1 S.2.1 dJx4a65c_add_72be8_17 (by decide) ?_
    refine lv_iadd S.1 S.2.1 dJx4a65c_add_72be8_18 ?_
    refine kx_pI S hK hW hS (kw_old hd3 ha) 2 2  rfl iJx4a65c tyJx4a65c_ok nmJx4a65c (by decide) rfl rfl (by decide) (by decide +kernel) (Or.inl rfl) rfl dJx4a65c_add_72be8_19 (fun H locs hW hS => ?_)
    refine kw_vret S hr hlk hW hS (Nat.le_of_eq (Nat.zero_add _)) (Nat.le_of_eq (Nat.zero_add _)) dJx4a65c_add_72be8_22 ?_
    refine ⟨d2, hd3, ?_, rfl, ?_⟩ <;> first | rfl | (simp [c1, kw_b, kI_sNew, kJ_sNew, kR_sNew, kN_sNew, kI_sI, kI_sJ, kI_sR, kI_sA, kI_sB, kI_sC, kJ_sI, kJ_sJ, kJ_sR, kJ_sA, kJ_sB, kJ_sC, kR_sI, kR_sJ, kR_sR, kR_sA, kR_sB, kR_sC, kA_sI, kA_sJ, kA_sR, kA_sA, kA_sB, kA_sC, kB_sI, kB_sJ, kB_sR, kB_sA, kB_sB, kB_sC, kC_sI, kC_sJ, kC_sR, kC_sA, kC_sB, kC_sC, kN_sI, kN_sJ, kN_sR, kN_sA, kN_sB, kN_sC, n4, Ne.symm n4, n5, Ne.symm n5, n6, Ne.symm n6]; done)
set_option maxHeartbeats 1000000 in
set_option maxRecDepth 100000 in
theorem c_Jx4a65c_add_9ea2d_n (l : Launch) (G : kw_G) (nu : Nat → Option Nat) (x : kw_St) (a : Nat) (el : Nat) (r : Nat) (d : Nat) (k : Nat) (ha : nu a = some 0) (hel : nu el = some r) (hd : nu d = some 10) (hr4 : r = 2 ∨ r = 3 ∨ r = 4) (hd1 : kR x 1 a = some d) (hix : kw_ix (kI x 2 a) k (kN x d)) (hnn : ¬ kI x 2 a = nI (kN x d)) : kw_M l G yJx4a65c_add_9ea2d wsJx4a65c_add_9ea2d { frames := 6, cells := 0, slots := 0, locals := 150 } 0 0 [.ref a, .ref el] nu x (kw_P nu (some (.int (1))) (sI (sC (sI x 0 a (kI x 0 a + 1)) d k (some el)) 2 a (kI x 2 a + 1))) := by
  refine kw_M.ofW (cc := cJx4a65c_add_9ea2d) (maxL := 2) (ret := (some .boolean)) (by decide) rfl (Nat.le_of_ble_eq_true rfl) ?_
  intro p e s m args below meth c A ls S hr hlk hnm hK hZ hA hW hS hl
  have hl : lv_has ls 2 [(0, .ref a), (1, .ref el)] := hl
  have iJx4a65c : ∀ w ∈ wsJx4a65c0, w ∈ wsJx4a65c_add_9ea2d := by decide +kernel
  refine lv_aload_n S.1 S.2.1 dJx4a65c_add_9ea2d_0 rfl (lv_at hl 0 rfl) ?_
  refine lv_dup S.1 S.2.1 dJx4a65c_add_9ea2d_1 rfl ?_
  refine kx_gIr (ref := "java/util/ArrayList") S hK hW ha 0 0 rfl iJx4a65c (by decide) rfl rfl (by decide) (by decide +kernel) (by decide +kernel) dJx4a65c_add_9ea2d_2 (v := kI x 0 a) rfl ?_
  refine lv_iconst (v := 1) S.1 S.2.1 dJx4a65c_add_9ea2d_5 (by decide) ?_
  refine lv_iadd S.1 S.2.1 dJx4a65c_add_9ea2d_6 ?_
  refine kx_pIr (ref := "java/util/ArrayList") S hK hW hS ha 0 0 rfl iJx4a65c tyJx4a65c_ok nmJx4a65c (by decide) rfl rfl (by decide) (by decide +kernel) (by decide +kernel) rfl rfl dJx4a65c_add_9ea2d_7 (fun H locs hW hS => ?_)
  refine lv_aload_n S.1 S.2.1 dJx4a65c_add_9ea2d_10 rfl (lv_at hl 0 rfl) ?_
  refine lv_aload_n S.1 S.2.1 dJx4a65c_add_9ea2d_11 rfl (lv_at hl 1 rfl) ?_
  refine lv_aload_n S.1 S.2.1 dJx4a65c_add_9ea2d_12 rfl (lv_at hl 0 rfl) ?_
  refine kx_gA S hK hW ha 1 1 rfl iJx4a65c (by decide) rfl rfl (by decide) (by decide +kernel) dJx4a65c_add_9ea2d_13 (b := d) (by rw [show kR (sI x 0 a ((kI x 0 a) + (1))) 1 a = kR x 1 a from (by simp [kI_sNew, kJ_sNew, kR_sNew, kN_sNew, kI_sI, kI_sJ, kI_sR, kI_sA, kI_sB, kI_sC, kJ_sI, kJ_sJ, kJ_sR, kJ_sA, kJ_sB, kJ_sC, kR_sI, kR_sJ, kR_sR, kR_sA, kR_sB, kR_sC, kA_sI, kA_sJ, kA_sR, kA_sA, kA_sB, kA_sC, kB_sI, kB_sJ, kB_sR, kB_sA, kB_sB, kB_sC, kC_sI, kC_sJ, kC_sR, kC_sA, kC_sB, kC_sC, kN_sI, kN_sJ, kN_sR, kN_sA, kN_sB, kN_sC])]; exact hd1) ?_
  refine lv_aload_n S.1 S.2.1 dJx4a65c_add_9ea2d_16 rfl (lv_at hl 0 rfl) ?_
  refine kx_gI S hK hW ha 2 2 rfl iJx4a65c (by decide) rfl rfl (by decide) (by decide +kernel) dJx4a65c_add_9ea2d_17 (v := kI x 2 a) (by simp [kI_sNew, kJ_sNew, kR_sNew, kN_sNew, kI_sI, kI_sJ, kI_sR, kI_sA, kI_sB, kI_sC, kJ_sI, kJ_sJ, kJ_sR, kJ_sA, kJ_sB, kJ_sC, kR_sI, kR_sJ, kR_sR, kR_sA, kR_sB, kR_sC, kA_sI, kA_sJ, kA_sR, kA_sA, kA_sB, kA_sC, kB_sI, kB_sJ, kB_sR, kB_sA, kB_sB, kB_sC, kC_sI, kC_sJ, kC_sR, kC_sA, kC_sB, kC_sC, kN_sI, kN_sJ, kN_sR, kN_sA, kN_sB, kN_sC]) ?_
  refine kx_cV (As := [.ref el, .ref d, .int (kI x 2 a)]) (rest := []) (st1 := []) S hK hZ hA hW hS (c_Jx4a65c_add_72be8_n l G nu (sI x 0 a ((kI x 0 a) + (1))) a el d (kI x 2 a) r k ha hel hd (by simpa [kI_sNew, kJ_sNew, kR_sNew, kN_sNew, kI_sI, kI_sJ, kI_sR, kI_sA, kI_sB, kI_sC, kJ_sI, kJ_sJ, kJ_sR, kJ_sA, kJ_sB, kJ_sC, kR_sI, kR_sJ, kR_sR, kR_sA, kR_sB, kR_sC, kA_sI, kA_sJ, kA_sR, kA_sA, kA_sB, kA_sC, kB_sI, kB_sJ, kB_sR, kB_sA, kB_sB, kB_sC, kC_sI, kC_sJ, kC_sR, kC_sA, kC_sB, kC_sC, kN_sI, kN_sJ, kN_sR, kN_sA, kN_sB, kN_sC] using hr4) (by simpa [kI_sNew, kJ_sNew, kR_sNew, kN_sNew, kI_sI, kI_sJ, kI_sR, kI_sA, kI_sB, kI_sC, kJ_sI, kJ_sJ, kJ_sR, kJ_sA, kJ_sB, kJ_sC, kR_sI, kR_sJ, kR_sR, kR_sA, kR_sB, kR_sC, kA_sI, kA_sJ, kA_sR, kA_sA, kA_sB, kA_sC, kB_sI, kB_sJ, kB_sR, kB_sA, kB_sB, kB_sC, kC_sI, kC_sJ, kC_sR, kC_sA, kC_sB, kC_sC, kN_sI, kN_sJ, kN_sR, kN_sA, kN_sB, kN_sC] using hix) (by simpa [kI_sNew, kJ_sNew, kR_sNew, kN_sNew, kI_sI, kI_sJ, kI_sR, kI_sA, kI_sB, kI_sC, kJ_sI, kJ_sJ, kJ_sR, kJ_sA, kJ_sB, kJ_sC, kR_sI, kR_sJ, kR_sR, kR_sA, kR_sB, kR_sC, kA_sI, kA_sJ, kA_sR, kA_sA, kA_sB, kA_sC, kB_sI, kB_sJ, kB_sR, kB_sA, kB_sB, kB_sC, kC_sI, kC_sJ, kC_sR, kC_sA, kC_sB, kC_sC, kN_sI, kN_sJ, kN_sR, kN_sA, kN_sB, kN_sC] using hnn)) (cwV 3 S.2.2.2.2 gJx4a65c_add_9ea2d_Jx4a65c_add_72be8 rfl rfl rfl (by decide +kernel) ⟨Nat.le_of_ble_eq_true rfl, Nat.le_of_ble_eq_true rfl⟩) ha (by decide) rfl rfl hl.1 rfl (Nat.le_of_ble_eq_true rfl) dJx4a65c_add_9ea2d_20 ⟨Nat.le_of_ble_eq_true rfl, Nat.le_of_ble_eq_true rfl⟩ rfl (fun H locs hW hS => ?_)
  refine lv_iconst (v := 1) S.1 S.2.1 dJx4a65c_add_9ea2d_23 (by decide) ?_
  refine kw_zret S hr hlk hW hS (by decide) (by decide) dJx4a65c_add_9ea2d_24 kw_n1 ?_
  refine ⟨?_, rfl, ?_⟩ <;> first | rfl | (simp [kw_b]; done) | (simp [kw_b, kI_sNew, kJ_sNew, kR_sNew, kN_sNew, kI_sI, kI_sJ, kI_sR, kI_sA, kI_sB, kI_sC, kJ_sI, kJ_sJ, kJ_sR, kJ_sA, kJ_sB, kJ_sC, kR_sI, kR_sJ, kR_sR, kR_sA, kR_sB, kR_sC, kA_sI, kA_sJ, kA_sR, kA_sA, kA_sB, kA_sC, kB_sI, kB_sJ, kB_sR, kB_sA, kB_sB, kB_sC, kC_sI, kC_sJ, kC_sR, kC_sA, kC_sB, kC_sC, kN_sI, kN_sJ, kN_sR, kN_sA, kN_sB, kN_sC]; done)
set_option maxHeartbeats 1000000 in
set_option maxRecDepth 100000 in
theorem c_Jx4a65c_add_9ea2d_e (l : Launch) (G : kw_G) (nu : Nat → Option Nat) (x : kw_St) (a : Nat) (el : Nat) (r : Nat) (ha : nu a = some 0) (hel : nu el = some r) (hr4 : r = 2 ∨ r = 3 ∨ r = 4) (hd1 : kR x 1 a = some G.2.2.1) (h11 : nu G.2.2.1 = some 11) (hn0 : kN x G.2.2.1 = 0) (hs0 : kI x 2 a = 0) : kw_M l G yJx4a65c_add_9ea2d wsJx4a65c_add_9ea2d { frames := 6, cells := 1, slots := 10, locals := 150 } 1 10 [.ref a, .ref el] nu x (fun v nu' y => ∃ q, nu q = none ∧ v = some (.int (1)) ∧ nu' = va_up nu q (some 10) ∧ y = sI (sC (sR (sNew (sI x 0 a (kI x 0 a + 1)) q 10) 1 a (some q)) q 0 (some el)) 2 a 1) := by
  refine kw_M.ofW (cc := cJx4a65c_add_9ea2d) (maxL := 2) (ret := (some .boolean)) (by decide) rfl (Nat.le_of_ble_eq_true rfl) ?_
  intro p e s m args below meth c A ls S hr hlk hnm hK hZ hA hW hS hl
  have hl : lv_has ls 2 [(0, .ref a), (1, .ref el)] := hl
  have iJx4a65c : ∀ w ∈ wsJx4a65c0, w ∈ wsJx4a65c_add_9ea2d := by decide +kernel
  refine lv_aload_n S.1 S.2.1 dJx4a65c_add_9ea2d_0 rfl (lv_at hl 0 rfl) ?_
  refine lv_dup S.1 S.2.1 dJx4a65c_add_9ea2d_1 rfl ?_
  refine kx_gIr (ref := "java/util/ArrayList") S hK hW ha 0 0 rfl iJx4a65c (by decide) rfl rfl (by decide) (by decide +kernel) (by decide +kernel) dJx4a65c_add_9ea2d_2 (v := kI x 0 a) rfl ?_
  refine lv_iconst (v := 1) S.1 S.2.1 dJx4a65c_add_9ea2d_5 (by decide) ?_
  refine lv_iadd S.1 S.2.1 dJx4a65c_add_9ea2d_6 ?_
  refine kx_pIr (ref := "java/util/ArrayList") S hK hW hS ha 0 0 rfl iJx4a65c tyJx4a65c_ok nmJx4a65c (by decide) rfl rfl (by decide) (by decide +kernel) (by decide +kernel) rfl rfl dJx4a65c_add_9ea2d_7 (fun H locs hW hS => ?_)
  refine lv_aload_n S.1 S.2.1 dJx4a65c_add_9ea2d_10 rfl (lv_at hl 0 rfl) ?_
  refine lv_aload_n S.1 S.2.1 dJx4a65c_add_9ea2d_11 rfl (lv_at hl 1 rfl) ?_
  refine lv_aload_n S.1 S.2.1 dJx4a65c_add_9ea2d_12 rfl (lv_at hl 0 rfl) ?_
  refine kx_gA S hK hW ha 1 1 rfl iJx4a65c (by decide) rfl rfl (by decide) (by decide +kernel) dJx4a65c_add_9ea2d_13 (b := G.2.2.1) (by rw [show kR (sI x 0 a ((kI x 0 a) + (1))) 1 a = kR x 1 a from (by simp [kI_sNew, kJ_sNew, kR_sNew, kN_sNew, kI_sI, kI_sJ, kI_sR, kI_sA, kI_sB, kI_sC, kJ_sI, kJ_sJ, kJ_sR, kJ_sA, kJ_sB, kJ_sC, kR_sI, kR_sJ, kR_sR, kR_sA, kR_sB, kR_sC, kA_sI, kA_sJ, kA_sR, kA_sA, kA_sB, kA_sC, kB_sI, kB_sJ, kB_sR, kB_sA, kB_sB, kB_sC, kC_sI, kC_sJ, kC_sR, kC_sA, kC_sB, kC_sC, kN_sI, kN_sJ, kN_sR, kN_sA, kN_sB, kN_sC])]; exact hd1) ?_
  refine lv_aload_n S.1 S.2.1 dJx4a65c_add_9ea2d_16 rfl (lv_at hl 0 rfl) ?_
  refine kx_gI S hK hW ha 2 2 rfl iJx4a65c (by decide) rfl rfl (by decide) (by decide +kernel) dJx4a65c_add_9ea2d_17 (v := kI x 2 a) (by simp [kI_sNew, kJ_sNew, kR_sNew, kN_sNew, kI_sI, kI_sJ, kI_sR, kI_sA, kI_sB, kI_sC, kJ_sI, kJ_sJ, kJ_sR, kJ_sA, kJ_sB, kJ_sC, kR_sI, kR_sJ, kR_sR, kR_sA, kR_sB, kR_sC, kA_sI, kA_sJ, kA_sR, kA_sA, kA_sB, kA_sC, kB_sI, kB_sJ, kB_sR, kB_sA, kB_sB, kB_sC, kC_sI, kC_sJ, kC_sR, kC_sA, kC_sB, kC_sC, kN_sI, kN_sJ, kN_sR, kN_sA, kN_sB, kN_sC]) ?_
  refine kx_dV (post := fun q => (none, sI (sC (sR (sNew (sI x 0 a ((kI x 0 a) + (1))) q 10) 1 a (some q)) q 0 (some el)) 2 a 1)) (kq := 10) (As := [.ref el, .ref G.2.2.1, .int (kI x 2 a)]) (rest := []) (st1 := fun q => []) S hK hZ hA hW hS (c_Jx4a65c_add_72be8_e l G nu (sI x 0 a ((kI x 0 a) + (1))) a el (G.2.2.1) (kI x 2 a) r ha hel (by simpa [kI_sNew, kJ_sNew, kR_sNew, kN_sNew, kI_sI, kI_sJ, kI_sR, kI_sA, kI_sB, kI_sC, kJ_sI, kJ_sJ, kJ_sR, kJ_sA, kJ_sB, kJ_sC, kR_sI, kR_sJ, kR_sR, kR_sA, kR_sB, kR_sC, kA_sI, kA_sJ, kA_sR, kA_sA, kA_sB, kA_sC, kB_sI, kB_sJ, kB_sR, kB_sA, kB_sB, kB_sC, kC_sI, kC_sJ, kC_sR, kC_sA, kC_sB, kC_sC, kN_sI, kN_sJ, kN_sR, kN_sA, kN_sB, kN_sC] using hr4) rfl (by simpa [kI_sNew, kJ_sNew, kR_sNew, kN_sNew, kI_sI, kI_sJ, kI_sR, kI_sA, kI_sB, kI_sC, kJ_sI, kJ_sJ, kJ_sR, kJ_sA, kJ_sB, kJ_sC, kR_sI, kR_sJ, kR_sR, kR_sA, kR_sB, kR_sC, kA_sI, kA_sJ, kA_sR, kA_sA, kA_sB, kA_sC, kB_sI, kB_sJ, kB_sR, kB_sA, kB_sB, kB_sC, kC_sI, kC_sJ, kC_sR, kC_sA, kC_sB, kC_sC, kN_sI, kN_sJ, kN_sR, kN_sA, kN_sB, kN_sC] using hd1) (by simpa [kI_sNew, kJ_sNew, kR_sNew, kN_sNew, kI_sI, kI_sJ, kI_sR, kI_sA, kI_sB, kI_sC, kJ_sI, kJ_sJ, kJ_sR, kJ_sA, kJ_sB, kJ_sC, kR_sI, kR_sJ, kR_sR, kR_sA, kR_sB, kR_sC, kA_sI, kA_sJ, kA_sR, kA_sA, kA_sB, kA_sC, kB_sI, kB_sJ, kB_sR, kB_sA, kB_sB, kB_sC, kC_sI, kC_sJ, kC_sR, kC_sA, kC_sB, kC_sC, kN_sI, kN_sJ, kN_sR, kN_sA, kN_sB, kN_sC] using h11) (by simpa [kI_sNew, kJ_sNew, kR_sNew, kN_sNew, kI_sI, kI_sJ, kI_sR, kI_sA, kI_sB, kI_sC, kJ_sI, kJ_sJ, kJ_sR, kJ_sA, kJ_sB, kJ_sC, kR_sI, kR_sJ, kR_sR, kR_sA, kR_sB, kR_sC, kA_sI, kA_sJ, kA_sR, kA_sA, kA_sB, kA_sC, kB_sI, kB_sJ, kB_sR, kB_sA, kB_sB, kB_sC, kC_sI, kC_sJ, kC_sR, kC_sA, kC_sB, kC_sC, kN_sI, kN_sJ, kN_sR, kN_sA, kN_sB, kN_sC] using hn0) (by simpa [kI_sNew, kJ_sNew, kR_sNew, kN_sNew, kI_sI, kI_sJ, kI_sR, kI_sA, kI_sB, kI_sC, kJ_sI, kJ_sJ, kJ_sR, kJ_sA, kJ_sB, kJ_sC, kR_sI, kR_sJ, kR_sR, kR_sA, kR_sB, kR_sC, kA_sI, kA_sJ, kA_sR, kA_sA, kA_sB, kA_sC, kB_sI, kB_sJ, kB_sR, kB_sA, kB_sB, kB_sC, kC_sI, kC_sJ, kC_sR, kC_sA, kC_sB, kC_sC, kN_sI, kN_sJ, kN_sR, kN_sA, kN_sB, kN_sC] using hs0) hs0) (cwV 3 S.2.2.2.2 gJx4a65c_add_9ea2d_Jx4a65c_add_72be8 rfl rfl rfl (by decide +kernel) ⟨Nat.le_of_ble_eq_true rfl, Nat.le_of_ble_eq_true rfl⟩) ha (by decide) rfl rfl hl.1 rfl (Nat.le_of_ble_eq_true rfl) dJx4a65c_add_9ea2d_20 ⟨by decide, by decide⟩ (fun _ => rfl) (fun d1 H locs hd2 hW hS => ?_)
  have n3 : ¬ a = d1 := kw_nb hd2 ha
  have n4 : ¬ el = d1 := kw_nb hd2 hel
  have n5 : ¬ G.2.2.1 = d1 := kw_nb hd2 h11
  refine lv_iconst (v := 1) S.1 S.2.1 dJx4a65c_add_9ea2d_23 (by decide) ?_
  refine kw_zret S hr hlk hW hS (by decide) (by decide) dJx4a65c_add_9ea2d_24 kw_n1 ?_
  refine ⟨d1, hd2, ?_, rfl, ?_⟩ <;> first | rfl | (simp [kw_b, kI_sNew, kJ_sNew, kR_sNew, kN_sNew, kI_sI, kI_sJ, kI_sR, kI_sA, kI_sB, kI_sC, kJ_sI, kJ_sJ, kJ_sR, kJ_sA, kJ_sB, kJ_sC, kR_sI, kR_sJ, kR_sR, kR_sA, kR_sB, kR_sC, kA_sI, kA_sJ, kA_sR, kA_sA, kA_sB, kA_sC, kB_sI, kB_sJ, kB_sR, kB_sA, kB_sB, kB_sC, kC_sI, kC_sJ, kC_sR, kC_sA, kC_sB, kC_sC, kN_sI, kN_sJ, kN_sR, kN_sA, kN_sB, kN_sC, n3, Ne.symm n3, n4, Ne.symm n4, n5, Ne.symm n5]; done)
set_option maxHeartbeats 1000000 in
set_option maxRecDepth 100000 in
theorem c_Jx4a65c_add_9ea2d_g (l : Launch) (G : kw_G) (nu : Nat → Option Nat) (x : kw_St) (a : Nat) (el : Nat) (r : Nat) (d : Nat) (ha : nu a = some 0) (hel : nu el = some r) (hd : nu d = some 10) (hr4 : r = 2 ∨ r = 3 ∨ r = 4) (hd1 : kR x 1 a = some d) (hc2 : 2 ≤ kN x d) (hc9 : kN x d ≤ 100000) (helem : ∀ i y, i < kN x d → kC x d i = some y → ∃ r, nu y = some r ∧ (r = 2 ∨ r = 3 ∨ r = 4)) (hs0 : kI x 2 a = nI (kN x d)) : kw_M l G yJx4a65c_add_9ea2d wsJx4a65c_add_9ea2d { frames := 6, cells := 1, slots := kN x d + kN x d / 2, locals := 150 } 1 (kN x d + kN x d / 2) [.ref a, .ref el] nu x (fun v nu' y => ∃ q, nu q = none ∧ v = some (.int (1)) ∧ nu' = va_up nu q (some 10) ∧ y = sI (sC (sR (sCrow (sNew (sI x 0 a (kI x 0 a + 1)) q (kN x d + kN x d / 2)) q (va_cpy (kC x d) (fun _ => none) 0 0 (kN x d))) 1 a (some q)) q (kN x d) (some el)) 2 a (kI x 2 a + 1)) := by
  refine kw_M.ofW (cc := cJx4a65c_add_9ea2d) (maxL := 2) (ret := (some .boolean)) (by decide) rfl (Nat.le_of_ble_eq_true rfl) ?_
  intro p e s m args below meth c A ls S hr hlk hnm hK hZ hA hW hS hl
  have hl : lv_has ls 2 [(0, .ref a), (1, .ref el)] := hl
  have iJx4a65c : ∀ w ∈ wsJx4a65c0, w ∈ wsJx4a65c_add_9ea2d := by decide +kernel
  refine lv_aload_n S.1 S.2.1 dJx4a65c_add_9ea2d_0 rfl (lv_at hl 0 rfl) ?_
  refine lv_dup S.1 S.2.1 dJx4a65c_add_9ea2d_1 rfl ?_
  refine kx_gIr (ref := "java/util/ArrayList") S hK hW ha 0 0 rfl iJx4a65c (by decide) rfl rfl (by decide) (by decide +kernel) (by decide +kernel) dJx4a65c_add_9ea2d_2 (v := kI x 0 a) rfl ?_
  refine lv_iconst (v := 1) S.1 S.2.1 dJx4a65c_add_9ea2d_5 (by decide) ?_
  refine lv_iadd S.1 S.2.1 dJx4a65c_add_9ea2d_6 ?_
  refine kx_pIr (ref := "java/util/ArrayList") S hK hW hS ha 0 0 rfl iJx4a65c tyJx4a65c_ok nmJx4a65c (by decide) rfl rfl (by decide) (by decide +kernel) (by decide +kernel) rfl rfl dJx4a65c_add_9ea2d_7 (fun H locs hW hS => ?_)
  refine lv_aload_n S.1 S.2.1 dJx4a65c_add_9ea2d_10 rfl (lv_at hl 0 rfl) ?_
  refine lv_aload_n S.1 S.2.1 dJx4a65c_add_9ea2d_11 rfl (lv_at hl 1 rfl) ?_
  refine lv_aload_n S.1 S.2.1 dJx4a65c_add_9ea2d_12 rfl (lv_at hl 0 rfl) ?_
  refine kx_gA S hK hW ha 1 1 rfl iJx4a65c (by decide) rfl rfl (by decide) (by decide +kernel) dJx4a65c_add_9ea2d_13 (b := d) (by rw [show kR (sI x 0 a ((kI x 0 a) + (1))) 1 a = kR x 1 a from (by simp [kI_sNew, kJ_sNew, kR_sNew, kN_sNew, kI_sI, kI_sJ, kI_sR, kI_sA, kI_sB, kI_sC, kJ_sI, kJ_sJ, kJ_sR, kJ_sA, kJ_sB, kJ_sC, kR_sI, kR_sJ, kR_sR, kR_sA, kR_sB, kR_sC, kA_sI, kA_sJ, kA_sR, kA_sA, kA_sB, kA_sC, kB_sI, kB_sJ, kB_sR, kB_sA, kB_sB, kB_sC, kC_sI, kC_sJ, kC_sR, kC_sA, kC_sB, kC_sC, kN_sI, kN_sJ, kN_sR, kN_sA, kN_sB, kN_sC])]; exact hd1) ?_
  refine lv_aload_n S.1 S.2.1 dJx4a65c_add_9ea2d_16 rfl (lv_at hl 0 rfl) ?_
  refine kx_gI S hK hW ha 2 2 rfl iJx4a65c (by decide) rfl rfl (by decide) (by decide +kernel) dJx4a65c_add_9ea2d_17 (v := kI x 2 a) (by simp [kI_sNew, kJ_sNew, kR_sNew, kN_sNew, kI_sI, kI_sJ, kI_sR, kI_sA, kI_sB, kI_sC, kJ_sI, kJ_sJ, kJ_sR, kJ_sA, kJ_sB, kJ_sC, kR_sI, kR_sJ, kR_sR, kR_sA, kR_sB, kR_sC, kA_sI, kA_sJ, kA_sR, kA_sA, kA_sB, kA_sC, kB_sI, kB_sJ, kB_sR, kB_sA, kB_sB, kB_sC, kC_sI, kC_sJ, kC_sR, kC_sA, kC_sB, kC_sC, kN_sI, kN_sJ, kN_sR, kN_sA, kN_sB, kN_sC]) ?_
  refine kx_dV (post := fun q => (none, sI (sC (sR (sCrow (sNew (sI x 0 a ((kI x 0 a) + (1))) q (kN (sI x 0 a ((kI x 0 a) + (1))) d + kN (sI x 0 a ((kI x 0 a) + (1))) d / 2)) q (va_cpy (kC (sI x 0 a ((kI x 0 a) + (1))) d) (fun _ => none) 0 0 (kN (sI x 0 a ((kI x 0 a) + (1))) d))) 1 a (some q)) q (kN (sI x 0 a ((kI x 0 a) + (1))) d) (some el)) 2 a ((kI x 2 a) + 1))) (kq := 10) (As := [.ref el, .ref d, .int (kI x 2 a)]) (rest := []) (st1 := fun q => []) S hK hZ hA hW hS (c_Jx4a65c_add_72be8_g l G nu (sI x 0 a ((kI x 0 a) + (1))) a el d (kI x 2 a) r ha hel hd (by simpa [kI_sNew, kJ_sNew, kR_sNew, kN_sNew, kI_sI, kI_sJ, kI_sR, kI_sA, kI_sB, kI_sC, kJ_sI, kJ_sJ, kJ_sR, kJ_sA, kJ_sB, kJ_sC, kR_sI, kR_sJ, kR_sR, kR_sA, kR_sB, kR_sC, kA_sI, kA_sJ, kA_sR, kA_sA, kA_sB, kA_sC, kB_sI, kB_sJ, kB_sR, kB_sA, kB_sB, kB_sC, kC_sI, kC_sJ, kC_sR, kC_sA, kC_sB, kC_sC, kN_sI, kN_sJ, kN_sR, kN_sA, kN_sB, kN_sC] using hr4) (by simpa [kI_sNew, kJ_sNew, kR_sNew, kN_sNew, kI_sI, kI_sJ, kI_sR, kI_sA, kI_sB, kI_sC, kJ_sI, kJ_sJ, kJ_sR, kJ_sA, kJ_sB, kJ_sC, kR_sI, kR_sJ, kR_sR, kR_sA, kR_sB, kR_sC, kA_sI, kA_sJ, kA_sR, kA_sA, kA_sB, kA_sC, kB_sI, kB_sJ, kB_sR, kB_sA, kB_sB, kB_sC, kC_sI, kC_sJ, kC_sR, kC_sA, kC_sB, kC_sC, kN_sI, kN_sJ, kN_sR, kN_sA, kN_sB, kN_sC] using hd1) (by simpa [kI_sNew, kJ_sNew, kR_sNew, kN_sNew, kI_sI, kI_sJ, kI_sR, kI_sA, kI_sB, kI_sC, kJ_sI, kJ_sJ, kJ_sR, kJ_sA, kJ_sB, kJ_sC, kR_sI, kR_sJ, kR_sR, kR_sA, kR_sB, kR_sC, kA_sI, kA_sJ, kA_sR, kA_sA, kA_sB, kA_sC, kB_sI, kB_sJ, kB_sR, kB_sA, kB_sB, kB_sC, kC_sI, kC_sJ, kC_sR, kC_sA, kC_sB, kC_sC, kN_sI, kN_sJ, kN_sR, kN_sA, kN_sB, kN_sC] using hc2) (by simpa [kI_sNew, kJ_sNew, kR_sNew, kN_sNew, kI_sI, kI_sJ, kI_sR, kI_sA, kI_sB, kI_sC, kJ_sI, kJ_sJ, kJ_sR, kJ_sA, kJ_sB, kJ_sC, kR_sI, kR_sJ, kR_sR, kR_sA, kR_sB, kR_sC, kA_sI, kA_sJ, kA_sR, kA_sA, kA_sB, kA_sC, kB_sI, kB_sJ, kB_sR, kB_sA, kB_sB, kB_sC, kC_sI, kC_sJ, kC_sR, kC_sA, kC_sB, kC_sC, kN_sI, kN_sJ, kN_sR, kN_sA, kN_sB, kN_sC] using hc9) (by simpa [kI_sNew, kJ_sNew, kR_sNew, kN_sNew, kI_sI, kI_sJ, kI_sR, kI_sA, kI_sB, kI_sC, kJ_sI, kJ_sJ, kJ_sR, kJ_sA, kJ_sB, kJ_sC, kR_sI, kR_sJ, kR_sR, kR_sA, kR_sB, kR_sC, kA_sI, kA_sJ, kA_sR, kA_sA, kA_sB, kA_sC, kB_sI, kB_sJ, kB_sR, kB_sA, kB_sB, kB_sC, kC_sI, kC_sJ, kC_sR, kC_sA, kC_sB, kC_sC, kN_sI, kN_sJ, kN_sR, kN_sA, kN_sB, kN_sC] using helem) (by simpa [kI_sNew, kJ_sNew, kR_sNew, kN_sNew, kI_sI, kI_sJ, kI_sR, kI_sA, kI_sB, kI_sC, kJ_sI, kJ_sJ, kJ_sR, kJ_sA, kJ_sB, kJ_sC, kR_sI, kR_sJ, kR_sR, kR_sA, kR_sB, kR_sC, kA_sI, kA_sJ, kA_sR, kA_sA, kA_sB, kA_sC, kB_sI, kB_sJ, kB_sR, kB_sA, kB_sB, kB_sC, kC_sI, kC_sJ, kC_sR, kC_sA, kC_sB, kC_sC, kN_sI, kN_sJ, kN_sR, kN_sA, kN_sB, kN_sC] using hs0) hs0) (cwV 3 S.2.2.2.2 gJx4a65c_add_9ea2d_Jx4a65c_add_72be8 rfl rfl rfl (by decide +kernel) ⟨Nat.le_of_ble_eq_true rfl, Nat.le_of_ble_eq_true rfl⟩) ha (by decide) rfl rfl hl.1 rfl (Nat.le_of_ble_eq_true rfl) dJx4a65c_add_9ea2d_20 ⟨Nat.le_of_eq (Nat.zero_add _), Nat.le_of_eq (Nat.zero_add _)⟩ (fun _ => rfl) (fun d1 H locs hd2 hW hS => ?_)
  have n3 : ¬ a = d1 := kw_nb hd2 ha
  have n4 : ¬ el = d1 := kw_nb hd2 hel
  have n5 : ¬ d = d1 := kw_nb hd2 hd
  refine lv_iconst (v := 1) S.1 S.2.1 dJx4a65c_add_9ea2d_23 (by decide) ?_
  refine kw_zret S hr hlk hW hS (Nat.le_of_eq (Nat.zero_add _)) (Nat.le_of_eq (Nat.zero_add _)) dJx4a65c_add_9ea2d_24 kw_n1 ?_
  refine ⟨d1, hd2, ?_, rfl, ?_⟩ <;> first | rfl | (simp [kw_b, kI_sNew, kJ_sNew, kR_sNew, kN_sNew, kI_sI, kI_sJ, kI_sR, kI_sA, kI_sB, kI_sC, kJ_sI, kJ_sJ, kJ_sR, kJ_sA, kJ_sB, kJ_sC, kR_sI, kR_sJ, kR_sR, kR_sA, kR_sB, kR_sC, kA_sI, kA_sJ, kA_sR, kA_sA, kA_sB, kA_sC, kB_sI, kB_sJ, kB_sR, kB_sA, kB_sB, kB_sC, kC_sI, kC_sJ, kC_sR, kC_sA, kC_sB, kC_sC, kN_sI, kN_sJ, kN_sR, kN_sA, kN_sB, kN_sC, n3, Ne.symm n3, n4, Ne.symm n4, n5, Ne.symm n5]; done)
end
section
/-! sending, and the small questions of LinkShaper -/
theorem q_rem_I {x : kw_St} {a g b gb k i : Nat} {t : Int32} (c : Nat) (h : i ≠ 205 ∧ i ≠ 159 ∧ i ≠ 160 ∧ i ≠ 103) : kI (q_rem x a g b gb k t) i c = kI x i c := by
  unfold q_rem
  split <;> simp [kI_sI, kI_sJ, kI_sR, h]
theorem q_rem_J {x : kw_St} {a g b gb k i : Nat} {t : Int32} (c : Nat) (h : i ≠ 52) : kJ (q_rem x a g b gb k t) i c = kJ x i c := by
  unfold q_rem
  split <;> simp [kJ_sI, kJ_sJ, kJ_sR, h]
theorem q_rem_R {x : kw_St} {a g b gb k i : Nat} {t : Int32} (c : Nat) (h : i ≠ 157 ∧ i ≠ 158 ∧ i ≠ 208) : kR (q_rem x a g b gb k t) i c = kR x i c := by
  unfold q_rem
  split <;> simp [kR_sI, kR_sJ, kR_sR, h]
def q_sdue (x : kw_St) (a g b gb k : Nat) (t : Int32) : kw_St := sI (sI (sI (sI (q_rem x a g b gb k t) 206 k 1) 207 k (q_dl x a)) 165 a (q_dl x a)) 161 a (kI x 161 a + kI x 202 k)
def q_sexc (x : kw_St) (a g b gb k : Nat) (t : Int32) : kw_St := sI (sJ (sJ (sJ (sI (q_rem x a g b gb k t) 206 k 2) 167 a (q_ltag x a)) 105 g (if q_ltag x a < kJ x 105 g then kJ x 105 g else q_ltag x a)) 104 g (q_lgtag x a g)) 162 a (kI x 162 a + kI x 202 k)
set_option maxHeartbeats 1000000 in
set_option maxRecDepth 100000 in
/-- Leaf.sendDue -/
theorem c_X2_sendDue (l : Launch) (G : kw_G) (nu : Nat → Option Nat) (x : kw_St) (a : Nat) (t : Int32) (g : Nat) (b : Nat) (gb : Nat) (k : Nat) (ha : nu a = some 3) (hg : nu g = some 2) (hb : nu b = some 1) (hgb : nu gb = some 1) (hk : nu k = some 4) (hgr : kR x 150 a = some g) (hce : kR x 153 a = some b) (hgc : kR x 101 g = some gb) (hk1 : kR x 157 a = some k) (hne : ¬ b = gb) : kw_M l G yX2_sendDue wsX2_sendDue { frames := 3, cells := 0, slots := 0, locals := 63 } 0 0 [.ref a, .int (t)] nu x (kw_P nu (some (.ref k)) (q_sdue x a g b gb k t)) := by
  refine kw_M.ofW (cc := cX2_sendDue) (maxL := 4) (ret := (some (.object "LinkShaper$Packet"))) (by decide) rfl (Nat.le_of_ble_eq_true rfl) ?_
  intro p e s m args below meth c A ls S hr hlk hnm hK hZ hA hW hS hl
  have hl : lv_has ls 4 [(0, .ref a), (1, .int (t))] := hl
  have iX2 : ∀ w ∈ wsX20, w ∈ wsX2_sendDue := by decide +kernel
  have iX3 : ∀ w ∈ wsX30, w ∈ wsX2_sendDue := by decide +kernel
  refine lv_aload_n S.1 S.2.1 dX2_sendDue_0 rfl (lv_at hl 0 rfl) ?_
  refine kx_cV (As := []) (rest := []) (st1 := [.int (q_dl x a)]) S hK hZ hA hW hS (c_X2_deadline l G nu x a ha (fun z hz => by rw [hk1] at hz; cases hz; exact hk)) (cwV 0 S.2.2.2.2 gX2_sendDue_X2_deadline rfl rfl rfl (by decide +kernel) ⟨Nat.le_of_ble_eq_true rfl, Nat.le_of_ble_eq_true rfl⟩) ha (by decide) rfl rfl hl.1 rfl (Nat.le_of_ble_eq_true rfl) dX2_sendDue_1 ⟨Nat.le_of_ble_eq_true rfl, Nat.le_of_ble_eq_true rfl⟩ rfl (fun H locs hW hS => ?_)
  refine lv_istore_n (lv' := [(2, .int (q_dl x a)), (0, .ref a), (1, .int (t))]) S.1 S.2.1 dX2_sendDue_4 rfl hl (by decide) rfl (fun ls hl => ?_)
  refine lv_aload_n S.1 S.2.1 dX2_sendDue_5 rfl (lv_at hl 1 rfl) ?_
  refine lv_iload_n S.1 S.2.1 dX2_sendDue_6 rfl (lv_at hl 2 rfl) ?_
  refine kx_cV (As := [.int (t)]) (rest := []) (st1 := [.ref k]) S hK hZ hA hW hS (c_X2_removeFirst l G nu x a t g b gb k ha hg hb hgb hk hgr hce hgc hk1 hne) (cwV 1 S.2.2.2.2 gX2_sendDue_X2_removeFirst rfl rfl rfl (by decide +kernel) ⟨Nat.le_of_ble_eq_true rfl, Nat.le_of_ble_eq_true rfl⟩) ha (by decide) rfl rfl hl.1 rfl (Nat.le_of_ble_eq_true rfl) dX2_sendDue_7 ⟨Nat.le_of_ble_eq_true rfl, Nat.le_of_ble_eq_true rfl⟩ rfl (fun H locs hW hS => ?_)
  refine lv_astore_n (lv' := [(3, .ref k), (2, .int (q_dl x a)), (0, .ref a), (1, .int (t))]) S.1 S.2.1 dX2_sendDue_10 rfl hl (by decide) rfl (fun ls hl => ?_)
  refine lv_aload_n S.1 S.2.1 dX2_sendDue_11 rfl (lv_at hl 0 rfl) ?_
  refine lv_ifnull S.1 S.2.1 dX2_sendDue_12 ?_
  refine lv_aload_n S.1 S.2.1 dX2_sendDue_15 rfl (lv_at hl 0 rfl) ?_
  refine lv_iconst (v := 1) S.1 S.2.1 dX2_sendDue_16 (by decide) ?_
  refine kx_pI S hK hW hS hk 6 206  rfl iX3 tyX3_ok nmX3 (by decide) rfl rfl (by decide) (by decide +kernel) (Or.inl rfl) rfl dX2_sendDue_17 (fun H locs hW hS => ?_)
  refine lv_aload_n S.1 S.2.1 dX2_sendDue_20 rfl (lv_at hl 0 rfl) ?_
  refine lv_iload_n S.1 S.2.1 dX2_sendDue_21 rfl (lv_at hl 1 rfl) ?_
  refine kx_pI S hK hW hS hk 7 207  rfl iX3 tyX3_ok nmX3 (by decide) rfl rfl (by decide) (by decide +kernel) (Or.inl rfl) rfl dX2_sendDue_22 (fun H locs hW hS => ?_)
  refine lv_aload_n S.1 S.2.1 dX2_sendDue_25 rfl (lv_at hl 2 rfl) ?_
  refine lv_iload_n S.1 S.2.1 dX2_sendDue_26 rfl (lv_at hl 1 rfl) ?_
  refine kx_pI S hK hW hS ha 15 165  rfl iX2 tyX2_ok nmX2 (by decide) rfl rfl (by decide) (by decide +kernel) (Or.inl rfl) rfl dX2_sendDue_27 (fun H locs hW hS => ?_)
  refine lv_aload_n S.1 S.2.1 dX2_sendDue_30 rfl (lv_at hl 2 rfl) ?_
  refine lv_dup S.1 S.2.1 dX2_sendDue_31 rfl ?_
  refine kx_gI S hK hW ha 11 161 rfl iX2 (by decide) rfl rfl (by decide) (by decide +kernel) dX2_sendDue_32 (v := kI x 161 a) (by simp [kI_sNew, kJ_sNew, kR_sNew, kN_sNew, kI_sI, kI_sJ, kI_sR, kI_sA, kI_sB, kI_sC, kJ_sI, kJ_sJ, kJ_sR, kJ_sA, kJ_sB, kJ_sC, kR_sI, kR_sJ, kR_sR, kR_sA, kR_sB, kR_sC, kA_sI, kA_sJ, kA_sR, kA_sA, kA_sB, kA_sC, kB_sI, kB_sJ, kB_sR, kB_sA, kB_sB, kB_sC, kC_sI, kC_sJ, kC_sR, kC_sA, kC_sB, kC_sC, kN_sI, kN_sJ, kN_sR, kN_sA, kN_sB, kN_sC, q_rem_I, q_rem_J, q_rem_R]) ?_
  refine lv_aload_n S.1 S.2.1 dX2_sendDue_35 rfl (lv_at hl 0 rfl) ?_
  refine kx_gI S hK hW hk 2 202 rfl iX3 (by decide) rfl rfl (by decide) (by decide +kernel) dX2_sendDue_36 (v := kI x 202 k) (by simp [kI_sNew, kJ_sNew, kR_sNew, kN_sNew, kI_sI, kI_sJ, kI_sR, kI_sA, kI_sB, kI_sC, kJ_sI, kJ_sJ, kJ_sR, kJ_sA, kJ_sB, kJ_sC, kR_sI, kR_sJ, kR_sR, kR_sA, kR_sB, kR_sC, kA_sI, kA_sJ, kA_sR, kA_sA, kA_sB, kA_sC, kB_sI, kB_sJ, kB_sR, kB_sA, kB_sB, kB_sC, kC_sI, kC_sJ, kC_sR, kC_sA, kC_sB, kC_sC, kN_sI, kN_sJ, kN_sR, kN_sA, kN_sB, kN_sC, q_rem_I, q_rem_J, q_rem_R]) ?_
  refine lv_iadd S.1 S.2.1 dX2_sendDue_39 ?_
  refine kx_pI S hK hW hS ha 11 161  rfl iX2 tyX2_ok nmX2 (by decide) rfl rfl (by decide) (by decide +kernel) (Or.inl rfl) rfl dX2_sendDue_40 (fun H locs hW hS => ?_)
  refine lv_aload_n S.1 S.2.1 dX2_sendDue_43 rfl (lv_at hl 0 rfl) ?_
  refine kw_aret S hr (Or.inl ⟨_, rfl⟩) hlk (v := some k) hW hS (by decide) (by decide) dX2_sendDue_44 ?_
  refine ⟨?_, rfl, ?_⟩ <;> first | rfl | (simp [q_sdue, kw_b]; done) | (simp [q_sdue, kw_b, kI_sNew, kJ_sNew, kR_sNew, kN_sNew, kI_sI, kI_sJ, kI_sR, kI_sA, kI_sB, kI_sC, kJ_sI, kJ_sJ, kJ_sR, kJ_sA, kJ_sB, kJ_sC, kR_sI, kR_sJ, kR_sR, kR_sA, kR_sB, kR_sC, kA_sI, kA_sJ, kA_sR, kA_sA, kA_sB, kA_sC, kB_sI, kB_sJ, kB_sR, kB_sA, kB_sB, kB_sC, kC_sI, kC_sJ, kC_sR, kC_sA, kC_sB, kC_sC, kN_sI, kN_sJ, kN_sR, kN_sA, kN_sB, kN_sC, q_rem_I, q_rem_J, q_rem_R]; done)
set_option maxHeartbeats 1000000 in
set_option maxRecDepth 100000 in
/-- Leaf.sendExcess -/
theorem c_X2_sendExcess (l : Launch) (G : kw_G) (nu : Nat → Option Nat) (x : kw_St) (a : Nat) (t : Int32) (g : Nat) (b : Nat) (gb : Nat) (k : Nat) (ha : nu a = some 3) (hg : nu g = some 2) (hb : nu b = some 1) (hgb : nu gb = some 1) (hk : nu k = some 4) (hgr : kR x 150 a = some g) (hce : kR x 153 a = some b) (hgc : kR x 101 g = some gb) (hk1 : kR x 157 a = some k) (hne : ¬ b = gb) : kw_M l G yX2_sendExcess wsX2_sendExcess { frames := 2, cells := 0, slots := 0, locals := 43 } 0 0 [.ref a, .int (t)] nu x (kw_P nu (some (.ref k)) (q_sexc x a g b gb k t)) := by
  refine kw_M.ofW (cc := cX2_sendExcess) (maxL := 7) (ret := (some (.object "LinkShaper$Packet"))) (by decide) rfl (Nat.le_of_ble_eq_true rfl) ?_
  intro p e s m args below meth c A ls S hr hlk hnm hK hZ hA hW hS hl
  have hl : lv_has ls 7 [(0, .ref a), (1, .int (t))] := hl
  have iX1 : ∀ w ∈ wsX10, w ∈ wsX2_sendExcess := by decide +kernel
  have iX2 : ∀ w ∈ wsX20, w ∈ wsX2_sendExcess := by decide +kernel
  have iX3 : ∀ w ∈ wsX30, w ∈ wsX2_sendExcess := by decide +kernel
  refine lv_aload_n S.1 S.2.1 dX2_sendExcess_0 rfl (lv_at hl 0 rfl) ?_
  refine kx_cV (As := []) (rest := []) (st1 := [.long (q_ltag x a)]) S hK hZ hA hW hS (c_X2_tagInLeaf l G nu x a ha (fun z hz => by rw [hk1] at hz; cases hz; exact hk)) (cwV 0 S.2.2.2.2 gX2_sendExcess_X2_tagInLeaf rfl rfl rfl (by decide +kernel) ⟨Nat.le_of_ble_eq_true rfl, Nat.le_of_ble_eq_true rfl⟩) ha (by decide) rfl rfl hl.1 rfl (Nat.le_of_ble_eq_true rfl) dX2_sendExcess_1 ⟨Nat.le_of_ble_eq_true rfl, Nat.le_of_ble_eq_true rfl⟩ rfl (fun H locs hW hS => ?_)
  refine lv_lstore_n (lv' := [(2, .long (q_ltag x a)), (0, .ref a), (1, .int (t))]) S.1 S.2.1 dX2_sendExcess_4 rfl hl (by decide) rfl (fun ls hl => ?_)
  refine lv_aload_n S.1 S.2.1 dX2_sendExcess_5 rfl (lv_at hl 1 rfl) ?_
  refine kx_cV (As := []) (rest := []) (st1 := [.long (q_lgtag x a g)]) S hK hZ hA hW hS (c_X2_tagInGroup l G nu x a g ha hg hgr (fun z hz => by rw [hk1] at hz; cases hz; exact hk)) (cwV 0 S.2.2.2.2 gX2_sendExcess_X2_tagInGroup rfl rfl rfl (by decide +kernel) ⟨Nat.le_of_ble_eq_true rfl, Nat.le_of_ble_eq_true rfl⟩) ha (by decide) rfl rfl hl.1 rfl (Nat.le_of_ble_eq_true rfl) dX2_sendExcess_6 ⟨Nat.le_of_ble_eq_true rfl, Nat.le_of_ble_eq_true rfl⟩ rfl (fun H locs hW hS => ?_)
  refine lv_lstore (lv' := [(4, .long (q_lgtag x a g)), (2, .long (q_ltag x a)), (0, .ref a), (1, .int (t))]) S.1 S.2.1 dX2_sendExcess_9 hl (by decide) rfl (fun ls hl => ?_)
  refine lv_aload_n S.1 S.2.1 dX2_sendExcess_11 rfl (lv_at hl 2 rfl) ?_
  refine lv_iload_n S.1 S.2.1 dX2_sendExcess_12 rfl (lv_at hl 3 rfl) ?_
  refine kx_cV (As := [.int (t)]) (rest := []) (st1 := [.ref k]) S hK hZ hA hW hS (c_X2_removeFirst l G nu x a t g b gb k ha hg hb hgb hk hgr hce hgc hk1 hne) (cwV 1 S.2.2.2.2 gX2_sendExcess_X2_removeFirst rfl rfl rfl (by decide +kernel) ⟨Nat.le_of_ble_eq_true rfl, Nat.le_of_ble_eq_true rfl⟩) ha (by decide) rfl rfl hl.1 rfl (Nat.le_of_ble_eq_true rfl) dX2_sendExcess_13 ⟨Nat.le_of_ble_eq_true rfl, Nat.le_of_ble_eq_true rfl⟩ rfl (fun H locs hW hS => ?_)
  refine lv_astore (lv' := [(6, .ref k), (4, .long (q_lgtag x a g)), (2, .long (q_ltag x a)), (0, .ref a), (1, .int (t))]) S.1 S.2.1 dX2_sendExcess_16 hl (by decide) rfl (fun ls hl => ?_)
  refine lv_aload S.1 S.2.1 dX2_sendExcess_18 (lv_at hl 0 rfl) ?_
  refine lv_ifnull S.1 S.2.1 dX2_sendExcess_20 ?_
  refine lv_aload S.1 S.2.1 dX2_sendExcess_23 (lv_at hl 0 rfl) ?_
  refine lv_iconst (v := 2) S.1 S.2.1 dX2_sendExcess_25 (by decide) ?_
  refine kx_pI S hK hW hS hk 6 206  rfl iX3 tyX3_ok nmX3 (by decide) rfl rfl (by decide) (by decide +kernel) (Or.inl rfl) rfl dX2_sendExcess_26 (fun H locs hW hS => ?_)
  refine lv_aload_n S.1 S.2.1 dX2_sendExcess_29 rfl (lv_at hl 3 rfl) ?_
  refine lv_lload_n S.1 S.2.1 dX2_sendExcess_30 rfl (lv_at hl 2 rfl) ?_
  refine kx_pJ S hK hW hS ha 17 167  rfl iX2 tyX2_ok nmX2 (by decide) rfl rfl (by decide) (by decide +kernel) (Or.inl rfl) rfl dX2_sendExcess_31 (fun H locs hW hS => ?_)
  refine lv_aload_n S.1 S.2.1 dX2_sendExcess_34 rfl (lv_at hl 3 rfl) ?_
  refine kx_gA S hK hW ha 0 150 rfl iX2 (by decide) rfl rfl (by decide) (by decide +kernel) dX2_sendExcess_35 (b := g) (by rw [show kR (sJ (sI (q_rem x a g b gb k t) 206 k (2)) 167 a (q_ltag x a)) 150 a = kR x 150 a from (by simp [kI_sNew, kJ_sNew, kR_sNew, kN_sNew, kI_sI, kI_sJ, kI_sR, kI_sA, kI_sB, kI_sC, kJ_sI, kJ_sJ, kJ_sR, kJ_sA, kJ_sB, kJ_sC, kR_sI, kR_sJ, kR_sR, kR_sA, kR_sB, kR_sC, kA_sI, kA_sJ, kA_sR, kA_sA, kA_sB, kA_sC, kB_sI, kB_sJ, kB_sR, kB_sA, kB_sB, kB_sC, kC_sI, kC_sJ, kC_sR, kC_sA, kC_sB, kC_sC, kN_sI, kN_sJ, kN_sR, kN_sA, kN_sB, kN_sC, q_rem_I, q_rem_J, q_rem_R])]; exact hgr) ?_
  refine lv_aload_n S.1 S.2.1 dX2_sendExcess_38 rfl (lv_at hl 3 rfl) ?_
  refine kx_gA S hK hW ha 0 150 rfl iX2 (by decide) rfl rfl (by decide) (by decide +kernel) dX2_sendExcess_39 (b := g) (by rw [show kR (sJ (sI (q_rem x a g b gb k t) 206 k (2)) 167 a (q_ltag x a)) 150 a = kR x 150 a from (by simp [kI_sNew, kJ_sNew, kR_sNew, kN_sNew, kI_sI, kI_sJ, kI_sR, kI_sA, kI_sB, kI_sC, kJ_sI, kJ_sJ, kJ_sR, kJ_sA, kJ_sB, kJ_sC, kR_sI, kR_sJ, kR_sR, kR_sA, kR_sB, kR_sC, kA_sI, kA_sJ, kA_sR, kA_sA, kA_sB, kA_sC, kB_sI, kB_sJ, kB_sR, kB_sA, kB_sB, kB_sC, kC_sI, kC_sJ, kC_sR, kC_sA, kC_sB, kC_sC, kN_sI, kN_sJ, kN_sR, kN_sA, kN_sB, kN_sC, q_rem_I, q_rem_J, q_rem_R])]; exact hgr) ?_
  refine kx_gJ S hK hW hg 5 105 rfl iX1 (by decide) rfl rfl (by decide) (by decide +kernel) dX2_sendExcess_42 (v := kJ x 105 g) (by simp [kI_sNew, kJ_sNew, kR_sNew, kN_sNew, kI_sI, kI_sJ, kI_sR, kI_sA, kI_sB, kI_sC, kJ_sI, kJ_sJ, kJ_sR, kJ_sA, kJ_sB, kJ_sC, kR_sI, kR_sJ, kR_sR, kR_sA, kR_sB, kR_sC, kA_sI, kA_sJ, kA_sR, kA_sA, kA_sB, kA_sC, kB_sI, kB_sJ, kB_sR, kB_sA, kB_sB, kB_sC, kC_sI, kC_sJ, kC_sR, kC_sA, kC_sB, kC_sC, kN_sI, kN_sJ, kN_sR, kN_sA, kN_sB, kN_sC, q_rem_I, q_rem_J, q_rem_R]) ?_
  refine lv_lload_n S.1 S.2.1 dX2_sendExcess_45 rfl (lv_at hl 2 rfl) ?_
  refine kx_maxl S hl.1 (by decide +kernel) (by decide +kernel) (by decide +kernel) (by decide +kernel) (Nat.le_of_ble_eq_true rfl) (Nat.le_of_ble_eq_true rfl) (by first | exact Nat.le_of_ble_eq_true rfl | exact Nat.le_refl _ | exact Nat.le_of_eq (Nat.zero_add _)) (by first | exact Nat.le_of_ble_eq_true rfl | exact Nat.le_of_eq (Nat.zero_add _) | exact Nat.le_refl _) dX2_sendExcess_46 ?_
  refine kx_pJ S hK hW hS hg 5 105  rfl iX1 tyX1_ok nmX1 (by decide) rfl rfl (by decide) (by decide +kernel) (Or.inl rfl) rfl dX2_sendExcess_49 (fun H locs hW hS => ?_)
  refine lv_aload_n S.1 S.2.1 dX2_sendExcess_52 rfl (lv_at hl 3 rfl) ?_
  refine kx_gA S hK hW ha 0 150 rfl iX2 (by decide) rfl rfl (by decide) (by decide +kernel) dX2_sendExcess_53 (b := g) (by rw [show kR (sJ (sJ (sI (q_rem x a g b gb k t) 206 k (2)) 167 a (q_ltag x a)) 105 g (if (q_ltag x a) < (kJ x 105 g) then (kJ x 105 g) else (q_ltag x a))) 150 a = kR x 150 a from (by simp [kI_sNew, kJ_sNew, kR_sNew, kN_sNew, kI_sI, kI_sJ, kI_sR, kI_sA, kI_sB, kI_sC, kJ_sI, kJ_sJ, kJ_sR, kJ_sA, kJ_sB, kJ_sC, kR_sI, kR_sJ, kR_sR, kR_sA, kR_sB, kR_sC, kA_sI, kA_sJ, kA_sR, kA_sA, kA_sB, kA_sC, kB_sI, kB_sJ, kB_sR, kB_sA, kB_sB, kB_sC, kC_sI, kC_sJ, kC_sR, kC_sA, kC_sB, kC_sC, kN_sI, kN_sJ, kN_sR, kN_sA, kN_sB, kN_sC, q_rem_I, q_rem_J, q_rem_R])]; exact hgr) ?_
  refine lv_lload S.1 S.2.1 dX2_sendExcess_56 (lv_at hl 1 rfl) ?_
  refine kx_pJ S hK hW hS hg 4 104  rfl iX1 tyX1_ok nmX1 (by decide) rfl rfl (by decide) (by decide +kernel) (Or.inl rfl) rfl dX2_sendExcess_58 (fun H locs hW hS => ?_)
  refine lv_aload_n S.1 S.2.1 dX2_sendExcess_61 rfl (lv_at hl 3 rfl) ?_
  refine lv_dup S.1 S.2.1 dX2_sendExcess_62 rfl ?_
  refine kx_gI S hK hW ha 12 162 rfl iX2 (by decide) rfl rfl (by decide) (by decide +kernel) dX2_sendExcess_63 (v := kI x 162 a) (by simp [kI_sNew, kJ_sNew, kR_sNew, kN_sNew, kI_sI, kI_sJ, kI_sR, kI_sA, kI_sB, kI_sC, kJ_sI, kJ_sJ, kJ_sR, kJ_sA, kJ_sB, kJ_sC, kR_sI, kR_sJ, kR_sR, kR_sA, kR_sB, kR_sC, kA_sI, kA_sJ, kA_sR, kA_sA, kA_sB, kA_sC, kB_sI, kB_sJ, kB_sR, kB_sA, kB_sB, kB_sC, kC_sI, kC_sJ, kC_sR, kC_sA, kC_sB, kC_sC, kN_sI, kN_sJ, kN_sR, kN_sA, kN_sB, kN_sC, q_rem_I, q_rem_J, q_rem_R]) ?_
  refine lv_aload S.1 S.2.1 dX2_sendExcess_66 (lv_at hl 0 rfl) ?_
  refine kx_gI S hK hW hk 2 202 rfl iX3 (by decide) rfl rfl (by decide) (by decide +kernel) dX2_sendExcess_68 (v := kI x 202 k) (by simp [kI_sNew, kJ_sNew, kR_sNew, kN_sNew, kI_sI, kI_sJ, kI_sR, kI_sA, kI_sB, kI_sC, kJ_sI, kJ_sJ, kJ_sR, kJ_sA, kJ_sB, kJ_sC, kR_sI, kR_sJ, kR_sR, kR_sA, kR_sB, kR_sC, kA_sI, kA_sJ, kA_sR, kA_sA, kA_sB, kA_sC, kB_sI, kB_sJ, kB_sR, kB_sA, kB_sB, kB_sC, kC_sI, kC_sJ, kC_sR, kC_sA, kC_sB, kC_sC, kN_sI, kN_sJ, kN_sR, kN_sA, kN_sB, kN_sC, q_rem_I, q_rem_J, q_rem_R]) ?_
  refine lv_iadd S.1 S.2.1 dX2_sendExcess_71 ?_
  refine kx_pI S hK hW hS ha 12 162  rfl iX2 tyX2_ok nmX2 (by decide) rfl rfl (by decide) (by decide +kernel) (Or.inl rfl) rfl dX2_sendExcess_72 (fun H locs hW hS => ?_)
  refine lv_aload S.1 S.2.1 dX2_sendExcess_75 (lv_at hl 0 rfl) ?_
  refine kw_aret S hr (Or.inl ⟨_, rfl⟩) hlk (v := some k) hW hS (by decide) (by decide) dX2_sendExcess_77 ?_
  refine ⟨?_, rfl, ?_⟩ <;> first | rfl | (simp [q_sexc, kw_b]; done) | (simp [q_sexc, kw_b, kI_sNew, kJ_sNew, kR_sNew, kN_sNew, kI_sI, kI_sJ, kI_sR, kI_sA, kI_sB, kI_sC, kJ_sI, kJ_sJ, kJ_sR, kJ_sA, kJ_sB, kJ_sC, kR_sI, kR_sJ, kR_sR, kR_sA, kR_sB, kR_sC, kA_sI, kA_sJ, kA_sR, kA_sA, kA_sB, kA_sC, kB_sI, kB_sJ, kB_sR, kB_sA, kB_sB, kB_sC, kC_sI, kC_sJ, kC_sR, kC_sA, kC_sB, kC_sC, kN_sI, kN_sJ, kN_sR, kN_sA, kN_sB, kN_sC, q_rem_I, q_rem_J, q_rem_R]; done)
set_option maxHeartbeats 1000000 in
set_option maxRecDepth 100000 in
/-- Leaf.figure -/
theorem c_X2_figure (l : Launch) (G : kw_G) (nu : Nat → Option Nat) (x : kw_St) (a : Nat) (w : Int32) (ha : nu a = some 3)  : kw_M l G yX2_figure wsX2_figure { frames := 0, cells := 0, slots := 0, locals := 0 } 0 0 [.ref a, .int (w)] nu x (kw_P nu (some (.int (q_lfig x a w))) (x)) := by
  refine kw_M.ofW (cc := cX2_figure) (maxL := 2) (ret := (some .int)) (by decide) rfl (Nat.le_of_ble_eq_true rfl) ?_
  intro p e s m args below meth c A ls S hr hlk hnm hK hZ hA hW hS hl
  have hl : lv_has ls 2 [(0, .ref a), (1, .int (w))] := hl
  have iX2 : ∀ w ∈ wsX20, w ∈ wsX2_figure := by decide +kernel
  refine lv_iload_n S.1 S.2.1 dX2_figure_0 rfl (lv_at hl 1 rfl) ?_
  by_cases w1 : w = 0
  · skip
    subst w1
    refine lv_tableIn (tgt := 48) S.1 S.2.1 dX2_figure_1 (by decide) (by decide) rfl (by decide) ?_
    refine lv_aload_n S.1 S.2.1 dX2_figure_48 rfl (lv_at hl 0 rfl) ?_
    refine kx_gI S hK hW ha 9 159 rfl iX2 (by decide) rfl rfl (by decide) (by decide +kernel) dX2_figure_49 (v := kI x 159 a) rfl ?_
    refine kw_iret S hr hlk hW hS (by decide) (by decide) dX2_figure_52 ?_
    refine ⟨?_, rfl, ?_⟩ <;> first | rfl | (simp [q_lfig, kw_b]; done) | (simp [q_lfig, kw_b, kI_sNew, kJ_sNew, kR_sNew, kN_sNew, kI_sI, kI_sJ, kI_sR, kI_sA, kI_sB, kI_sC, kJ_sI, kJ_sJ, kJ_sR, kJ_sA, kJ_sB, kJ_sC, kR_sI, kR_sJ, kR_sR, kR_sA, kR_sB, kR_sC, kA_sI, kA_sJ, kA_sR, kA_sA, kA_sB, kA_sC, kB_sI, kB_sJ, kB_sR, kB_sA, kB_sB, kB_sC, kC_sI, kC_sJ, kC_sR, kC_sA, kC_sB, kC_sC, kN_sI, kN_sJ, kN_sR, kN_sA, kN_sB, kN_sC]; done)
  by_cases w2 : w = 1
  · skip
    subst w2
    refine lv_tableIn (tgt := 53) S.1 S.2.1 dX2_figure_1 (by decide) (by decide) rfl (by decide) ?_
    refine lv_aload_n S.1 S.2.1 dX2_figure_53 rfl (lv_at hl 0 rfl) ?_
    refine kx_gI S hK hW ha 10 160 rfl iX2 (by decide) rfl rfl (by decide) (by decide +kernel) dX2_figure_54 (v := kI x 160 a) rfl ?_
    refine kw_iret S hr hlk hW hS (by decide) (by decide) dX2_figure_57 ?_
    refine ⟨?_, rfl, ?_⟩ <;> first | rfl | (simp [q_lfig, w1, kw_b]; done) | (simp [q_lfig, w1, kw_b, kI_sNew, kJ_sNew, kR_sNew, kN_sNew, kI_sI, kI_sJ, kI_sR, kI_sA, kI_sB, kI_sC, kJ_sI, kJ_sJ, kJ_sR, kJ_sA, kJ_sB, kJ_sC, kR_sI, kR_sJ, kR_sR, kR_sA, kR_sB, kR_sC, kA_sI, kA_sJ, kA_sR, kA_sA, kA_sB, kA_sC, kB_sI, kB_sJ, kB_sR, kB_sA, kB_sB, kB_sC, kC_sI, kC_sJ, kC_sR, kC_sA, kC_sB, kC_sC, kN_sI, kN_sJ, kN_sR, kN_sA, kN_sB, kN_sC]; done)
  by_cases w3 : w = 2
  · skip
    subst w3
    refine lv_tableIn (tgt := 58) S.1 S.2.1 dX2_figure_1 (by decide) (by decide) rfl (by decide) ?_
    refine lv_aload_n S.1 S.2.1 dX2_figure_58 rfl (lv_at hl 0 rfl) ?_
    refine kx_gI S hK hW ha 11 161 rfl iX2 (by decide) rfl rfl (by decide) (by decide +kernel) dX2_figure_59 (v := kI x 161 a) rfl ?_
    refine kw_iret S hr hlk hW hS (by decide) (by decide) dX2_figure_62 ?_
    refine ⟨?_, rfl, ?_⟩ <;> first | rfl | (simp [q_lfig, w1, w2, kw_b]; done) | (simp [q_lfig, w1, w2, kw_b, kI_sNew, kJ_sNew, kR_sNew, kN_sNew, kI_sI, kI_sJ, kI_sR, kI_sA, kI_sB, kI_sC, kJ_sI, kJ_sJ, kJ_sR, kJ_sA, kJ_sB, kJ_sC, kR_sI, kR_sJ, kR_sR, kR_sA, kR_sB, kR_sC, kA_sI, kA_sJ, kA_sR, kA_sA, kA_sB, kA_sC, kB_sI, kB_sJ, kB_sR, kB_sA, kB_sB, kB_sC, kC_sI, kC_sJ, kC_sR, kC_sA, kC_sB, kC_sC, kN_sI, kN_sJ, kN_sR, kN_sA, kN_sB, kN_sC]; done)
  by_cases w4 : w = 3
  · skip
    subst w4
    refine lv_tableIn (tgt := 63) S.1 S.2.1 dX2_figure_1 (by decide) (by decide) rfl (by decide) ?_
    refine lv_aload_n S.1 S.2.1 dX2_figure_63 rfl (lv_at hl 0 rfl) ?_
    refine kx_gI S hK hW ha 12 162 rfl iX2 (by decide) rfl rfl (by decide) (by decide +kernel) dX2_figure_64 (v := kI x 162 a) rfl ?_
    refine kw_iret S hr hlk hW hS (by decide) (by decide) dX2_figure_67 ?_
    refine ⟨?_, rfl, ?_⟩ <;> first | rfl | (simp [q_lfig, w1, w2, w3, kw_b]; done) | (simp [q_lfig, w1, w2, w3, kw_b, kI_sNew, kJ_sNew, kR_sNew, kN_sNew, kI_sI, kI_sJ, kI_sR, kI_sA, kI_sB, kI_sC, kJ_sI, kJ_sJ, kJ_sR, kJ_sA, kJ_sB, kJ_sC, kR_sI, kR_sJ, kR_sR, kR_sA, kR_sB, kR_sC, kA_sI, kA_sJ, kA_sR, kA_sA, kA_sB, kA_sC, kB_sI, kB_sJ, kB_sR, kB_sA, kB_sB, kB_sC, kC_sI, kC_sJ, kC_sR, kC_sA, kC_sB, kC_sC, kN_sI, kN_sJ, kN_sR, kN_sA, kN_sB, kN_sC]; done)
  by_cases w5 : w = 4
  · skip
    subst w5
    refine lv_tableIn (tgt := 68) S.1 S.2.1 dX2_figure_1 (by decide) (by decide) rfl (by decide) ?_
    refine lv_aload_n S.1 S.2.1 dX2_figure_68 rfl (lv_at hl 0 rfl) ?_
    refine kx_gI S hK hW ha 13 163 rfl iX2 (by decide) rfl rfl (by decide) (by decide +kernel) dX2_figure_69 (v := kI x 163 a) rfl ?_
    refine kw_iret S hr hlk hW hS (by decide) (by decide) dX2_figure_72 ?_
    refine ⟨?_, rfl, ?_⟩ <;> first | rfl | (simp [q_lfig, w1, w2, w3, w4, kw_b]; done) | (simp [q_lfig, w1, w2, w3, w4, kw_b, kI_sNew, kJ_sNew, kR_sNew, kN_sNew, kI_sI, kI_sJ, kI_sR, kI_sA, kI_sB, kI_sC, kJ_sI, kJ_sJ, kJ_sR, kJ_sA, kJ_sB, kJ_sC, kR_sI, kR_sJ, kR_sR, kR_sA, kR_sB, kR_sC, kA_sI, kA_sJ, kA_sR, kA_sA, kA_sB, kA_sC, kB_sI, kB_sJ, kB_sR, kB_sA, kB_sB, kB_sC, kC_sI, kC_sJ, kC_sR, kC_sA, kC_sB, kC_sC, kN_sI, kN_sJ, kN_sR, kN_sA, kN_sB, kN_sC]; done)
  by_cases w6 : w = 5
  · skip
    subst w6
    refine lv_tableIn (tgt := 73) S.1 S.2.1 dX2_figure_1 (by decide) (by decide) rfl (by decide) ?_
    refine lv_aload_n S.1 S.2.1 dX2_figure_73 rfl (lv_at hl 0 rfl) ?_
    refine kx_gI S hK hW ha 14 164 rfl iX2 (by decide) rfl rfl (by decide) (by decide +kernel) dX2_figure_74 (v := kI x 164 a) rfl ?_
    refine kw_iret S hr hlk hW hS (by decide) (by decide) dX2_figure_77 ?_
    refine ⟨?_, rfl, ?_⟩ <;> first | rfl | (simp [q_lfig, w1, w2, w3, w4, w5, kw_b]; done) | (simp [q_lfig, w1, w2, w3, w4, w5, kw_b, kI_sNew, kJ_sNew, kR_sNew, kN_sNew, kI_sI, kI_sJ, kI_sR, kI_sA, kI_sB, kI_sC, kJ_sI, kJ_sJ, kJ_sR, kJ_sA, kJ_sB, kJ_sC, kR_sI, kR_sJ, kR_sR, kR_sA, kR_sB, kR_sC, kA_sI, kA_sJ, kA_sR, kA_sA, kA_sB, kA_sC, kB_sI, kB_sJ, kB_sR, kB_sA, kB_sB, kB_sC, kC_sI, kC_sJ, kC_sR, kC_sA, kC_sB, kC_sC, kN_sI, kN_sJ, kN_sR, kN_sA, kN_sB, kN_sC]; done)
  by_cases w7 : w = 6
  · skip
    subst w7
    refine lv_tableIn (tgt := 78) S.1 S.2.1 dX2_figure_1 (by decide) (by decide) rfl (by decide) ?_
    refine lv_aload_n S.1 S.2.1 dX2_figure_78 rfl (lv_at hl 0 rfl) ?_
    refine kx_gI S hK hW ha 15 165 rfl iX2 (by decide) rfl rfl (by decide) (by decide +kernel) dX2_figure_79 (v := kI x 165 a) rfl ?_
    refine kw_iret S hr hlk hW hS (by decide) (by decide) dX2_figure_82 ?_
    refine ⟨?_, rfl, ?_⟩ <;> first | rfl | (simp [q_lfig, w1, w2, w3, w4, w5, w6, kw_b]; done) | (simp [q_lfig, w1, w2, w3, w4, w5, w6, kw_b, kI_sNew, kJ_sNew, kR_sNew, kN_sNew, kI_sI, kI_sJ, kI_sR, kI_sA, kI_sB, kI_sC, kJ_sI, kJ_sJ, kJ_sR, kJ_sA, kJ_sB, kJ_sC, kR_sI, kR_sJ, kR_sR, kR_sA, kR_sB, kR_sC, kA_sI, kA_sJ, kA_sR, kA_sA, kA_sB, kA_sC, kB_sI, kB_sJ, kB_sR, kB_sA, kB_sB, kB_sC, kC_sI, kC_sJ, kC_sR, kC_sA, kC_sB, kC_sC, kN_sI, kN_sJ, kN_sR, kN_sA, kN_sB, kN_sC]; done)
  by_cases w8 : w = 7
  · skip
    subst w8
    refine lv_tableIn (tgt := 83) S.1 S.2.1 dX2_figure_1 (by decide) (by decide) rfl (by decide) ?_
    refine lv_aload_n S.1 S.2.1 dX2_figure_83 rfl (lv_at hl 0 rfl) ?_
    refine kx_gI S hK hW ha 16 166 rfl iX2 (by decide) rfl rfl (by decide) (by decide +kernel) dX2_figure_84 (v := kI x 166 a) rfl ?_
    refine kw_iret S hr hlk hW hS (by decide) (by decide) dX2_figure_87 ?_
    refine ⟨?_, rfl, ?_⟩ <;> first | rfl | (simp [q_lfig, w1, w2, w3, w4, w5, w6, w7, kw_b]; done) | (simp [q_lfig, w1, w2, w3, w4, w5, w6, w7, kw_b, kI_sNew, kJ_sNew, kR_sNew, kN_sNew, kI_sI, kI_sJ, kI_sR, kI_sA, kI_sB, kI_sC, kJ_sI, kJ_sJ, kJ_sR, kJ_sA, kJ_sB, kJ_sC, kR_sI, kR_sJ, kR_sR, kR_sA, kR_sB, kR_sC, kA_sI, kA_sJ, kA_sR, kA_sA, kA_sB, kA_sC, kB_sI, kB_sJ, kB_sR, kB_sA, kB_sB, kB_sC, kC_sI, kC_sJ, kC_sR, kC_sA, kC_sB, kC_sC, kN_sI, kN_sJ, kN_sR, kN_sA, kN_sB, kN_sC]; done)
  refine lv_tableOut (tgt := 88) S.1 S.2.1 dX2_figure_1 (kw_out8 w1 w2 w3 w4 w5 w6 w7 w8) (by decide) ?_
  refine lv_iconst (v := (-1)) S.1 S.2.1 dX2_figure_88 (by decide) ?_
  refine kw_iret S hr hlk hW hS (by decide) (by decide) dX2_figure_89 ?_
  refine ⟨?_, rfl, ?_⟩ <;> first | rfl | (simp [q_lfig, w1, w2, w3, w4, w5, w6, w7, w8, kw_b]; done) | (simp [q_lfig, w1, w2, w3, w4, w5, w6, w7, w8, kw_b, kI_sNew, kJ_sNew, kR_sNew, kN_sNew, kI_sI, kI_sJ, kI_sR, kI_sA, kI_sB, kI_sC, kJ_sI, kJ_sJ, kJ_sR, kJ_sA, kJ_sB, kJ_sC, kR_sI, kR_sJ, kR_sR, kR_sA, kR_sB, kR_sC, kA_sI, kA_sJ, kA_sR, kA_sA, kA_sB, kA_sC, kB_sI, kB_sJ, kB_sR, kB_sA, kB_sB, kB_sC, kC_sI, kC_sJ, kC_sR, kC_sA, kC_sB, kC_sC, kN_sI, kN_sJ, kN_sR, kN_sA, kN_sB, kN_sC]; done)
def kw_wi (v lo hi : Int32) : Bool := decide (¬ v < lo ∧ ¬ hi < v)
theorem kw_wi_iff {v lo hi : Int32} : kw_wi v lo hi = true ↔ lo ≤ v ∧ v ≤ hi := by simp [kw_wi]
set_option maxHeartbeats 1000000 in
set_option maxRecDepth 100000 in
/-- isWithin -/
theorem c_X4_isWithin (l : Launch) (G : kw_G) (nu : Nat → Option Nat) (x : kw_St) (v : Int32) (lo : Int32) (hi : Int32)   : kw_M l G yX4_isWithin wsX4_isWithin { frames := 0, cells := 0, slots := 0, locals := 0 } 0 0 [.int (v), .int (lo), .int (hi)] nu x (kw_P nu (some (.int (kw_b (kw_wi v lo hi = true)))) (x)) := by
  refine kw_M.ofW (cc := cX4_isWithin) (maxL := 3) (ret := (some .boolean)) (by decide) rfl (Nat.le_of_ble_eq_true rfl) ?_
  intro p e s m args below meth c A ls S hr hlk hnm hK hZ hA hW hS hl
  have hl : lv_has ls 3 [(0, .int (v)), (1, .int (lo)), (2, .int (hi))] := hl
  refine lv_iload_n S.1 S.2.1 dX4_isWithin_0 rfl (lv_at hl 0 rfl) ?_
  refine lv_iload_n S.1 S.2.1 dX4_isWithin_1 rfl (lv_at hl 1 rfl) ?_
  refine lv_icmp_lt (tgt := 14) S.1 S.2.1 dX4_isWithin_2 (by decide) (fun c1 => ?_) (fun c1 => ?_)
  · skip
    refine lv_iconst (v := 0) S.1 S.2.1 dX4_isWithin_14 (by decide) ?_
    refine kw_zret S hr hlk hW hS (by decide) (by decide) dX4_isWithin_15 kw_n0 ?_
    refine ⟨?_, rfl, ?_⟩ <;> first | rfl | (simp [kw_wi, c1, kw_b]; done) | (simp [kw_wi, c1, kw_b, kI_sNew, kJ_sNew, kR_sNew, kN_sNew, kI_sI, kI_sJ, kI_sR, kI_sA, kI_sB, kI_sC, kJ_sI, kJ_sJ, kJ_sR, kJ_sA, kJ_sB, kJ_sC, kR_sI, kR_sJ, kR_sR, kR_sA, kR_sB, kR_sC, kA_sI, kA_sJ, kA_sR, kA_sA, kA_sB, kA_sC, kB_sI, kB_sJ, kB_sR, kB_sA, kB_sB, kB_sC, kC_sI, kC_sJ, kC_sR, kC_sA, kC_sB, kC_sC, kN_sI, kN_sJ, kN_sR, kN_sA, kN_sB, kN_sC]; done)
  · skip
    refine lv_iload_n S.1 S.2.1 dX4_isWithin_5 rfl (lv_at hl 0 rfl) ?_
    refine lv_iload_n S.1 S.2.1 dX4_isWithin_6 rfl (lv_at hl 2 rfl) ?_
    refine lv_icmp_gt (tgt := 14) S.1 S.2.1 dX4_isWithin_7 (by decide) (fun c2 => ?_) (fun c2 => ?_)
    · skip
      refine lv_iconst (v := 0) S.1 S.2.1 dX4_isWithin_14 (by decide) ?_
      refine kw_zret S hr hlk hW hS (by decide) (by decide) dX4_isWithin_15 kw_n0 ?_
      refine ⟨?_, rfl, ?_⟩ <;> first | rfl | (simp [kw_wi, c1, c2, kw_b]; done) | (simp [kw_wi, c1, c2, kw_b, kI_sNew, kJ_sNew, kR_sNew, kN_sNew, kI_sI, kI_sJ, kI_sR, kI_sA, kI_sB, kI_sC, kJ_sI, kJ_sJ, kJ_sR, kJ_sA, kJ_sB, kJ_sC, kR_sI, kR_sJ, kR_sR, kR_sA, kR_sB, kR_sC, kA_sI, kA_sJ, kA_sR, kA_sA, kA_sB, kA_sC, kB_sI, kB_sJ, kB_sR, kB_sA, kB_sB, kB_sC, kC_sI, kC_sJ, kC_sR, kC_sA, kC_sB, kC_sC, kN_sI, kN_sJ, kN_sR, kN_sA, kN_sB, kN_sC]; done)
    · skip
      refine lv_iconst (v := 1) S.1 S.2.1 dX4_isWithin_10 (by decide) ?_
      refine lv_goto (tgt := 15) S.1 S.2.1 dX4_isWithin_11 (by decide) ?_
      refine kw_zret S hr hlk hW hS (by decide) (by decide) dX4_isWithin_15 kw_n1 ?_
      refine ⟨?_, rfl, ?_⟩ <;> first | rfl | (simp [kw_wi, c1, c2, kw_b]; done) | (simp [kw_wi, c1, c2, kw_b, kI_sNew, kJ_sNew, kR_sNew, kN_sNew, kI_sI, kI_sJ, kI_sR, kI_sA, kI_sB, kI_sC, kJ_sI, kJ_sJ, kJ_sR, kJ_sA, kJ_sB, kJ_sC, kR_sI, kR_sJ, kR_sR, kR_sA, kR_sB, kR_sC, kA_sI, kA_sJ, kA_sR, kA_sA, kA_sB, kA_sC, kB_sI, kB_sJ, kB_sR, kB_sA, kB_sB, kB_sC, kC_sI, kC_sJ, kC_sR, kC_sA, kC_sB, kC_sC, kN_sI, kN_sJ, kN_sR, kN_sA, kN_sB, kN_sC]; done)
set_option maxHeartbeats 1000000 in
set_option maxRecDepth 100000 in
/-- isWeight -/
theorem c_X4_isWeight (l : Launch) (G : kw_G) (nu : Nat → Option Nat) (x : kw_St) (v : Int32)   : kw_M l G yX4_isWeight wsX4_isWeight { frames := 1, cells := 0, slots := 0, locals := 22 } 0 0 [.int (v)] nu x (kw_P nu (some (.int (kw_b (kw_wi v 1 12 = true)))) (x)) := by
  refine kw_M.ofW (cc := cX4_isWeight) (maxL := 1) (ret := (some .boolean)) (by decide) rfl (Nat.le_of_ble_eq_true rfl) ?_
  intro p e s m args below meth c A ls S hr hlk hnm hK hZ hA hW hS hl
  have hl : lv_has ls 1 [(0, .int (v))] := hl
  refine lv_iload_n S.1 S.2.1 dX4_isWeight_0 rfl (lv_at hl 0 rfl) ?_
  refine lv_iconst (v := 1) S.1 S.2.1 dX4_isWeight_1 (by decide) ?_
  refine lv_bipush (v := 12) S.1 S.2.1 dX4_isWeight_2 (by decide) ?_
  refine kx_cS (As := [.int (v), .int (1), .int (12)]) (rest := []) (st1 := [.int (kw_b (kw_wi v 1 12 = true))]) S hK hZ hA hW hS (c_X4_isWithin l G nu x v 1 12 ) (va_cwS 3 S.2.2.2.2 gX4_isWeight_X4_isWithin rfl rfl rfl (by decide +kernel) ⟨Nat.le_of_ble_eq_true rfl, Nat.le_of_ble_eq_true rfl⟩) rfl hl.1 rfl (Nat.le_of_ble_eq_true rfl) dX4_isWeight_4 ⟨Nat.le_of_ble_eq_true rfl, Nat.le_of_ble_eq_true rfl⟩ rfl (fun H locs hW hS => ?_)
  refine kw_zret S hr hlk hW hS (by decide) (by decide) dX4_isWeight_7 kw_b_n ?_
  refine ⟨?_, rfl, ?_⟩ <;> first | rfl | (simp [kw_b]; done) | (simp [kw_b, kI_sNew, kJ_sNew, kR_sNew, kN_sNew, kI_sI, kI_sJ, kI_sR, kI_sA, kI_sB, kI_sC, kJ_sI, kJ_sJ, kJ_sR, kJ_sA, kJ_sB, kJ_sC, kR_sI, kR_sJ, kR_sR, kR_sA, kR_sB, kR_sC, kA_sI, kA_sJ, kA_sR, kA_sA, kA_sB, kA_sC, kB_sI, kB_sJ, kB_sR, kB_sA, kB_sB, kB_sC, kC_sI, kC_sJ, kC_sR, kC_sA, kC_sB, kC_sC, kN_sI, kN_sJ, kN_sR, kN_sA, kN_sB, kN_sC]; done)
set_option maxHeartbeats 1000000 in
set_option maxRecDepth 100000 in
/-- isCeiling -/
theorem c_X4_isCeiling (l : Launch) (G : kw_G) (nu : Nat → Option Nat) (x : kw_St) (v : Int32) (bu : Int32)   : kw_M l G yX4_isCeiling wsX4_isCeiling { frames := 1, cells := 0, slots := 0, locals := 22 } 0 0 [.int (v), .int (bu)] nu x (kw_P nu (some (.int (kw_b (kw_wi v 0 1000 = true ∧ kw_wi bu 1500 20000 = true)))) (x)) := by
  refine kw_M.ofW (cc := cX4_isCeiling) (maxL := 2) (ret := (some .boolean)) (by decide) rfl (Nat.le_of_ble_eq_true rfl) ?_
  intro p e s m args below meth c A ls S hr hlk hnm hK hZ hA hW hS hl
  have hl : lv_has ls 2 [(0, .int (v)), (1, .int (bu))] := hl
  refine lv_iload_n S.1 S.2.1 dX4_isCeiling_0 rfl (lv_at hl 0 rfl) ?_
  refine lv_iconst (v := 0) S.1 S.2.1 dX4_isCeiling_1 (by decide) ?_
  refine lv_sipush (v := 1000) S.1 S.2.1 dX4_isCeiling_2 (by decide) ?_
  refine kx_cS (As := [.int (v), .int (0), .int (1000)]) (rest := []) (st1 := [.int (kw_b (kw_wi v 0 1000 = true))]) S hK hZ hA hW hS (c_X4_isWithin l G nu x v 0 1000 ) (va_cwS 3 S.2.2.2.2 gX4_isCeiling_X4_isWithin rfl rfl rfl (by decide +kernel) ⟨Nat.le_of_ble_eq_true rfl, Nat.le_of_ble_eq_true rfl⟩) rfl hl.1 rfl (Nat.le_of_ble_eq_true rfl) dX4_isCeiling_5 ⟨Nat.le_of_ble_eq_true rfl, Nat.le_of_ble_eq_true rfl⟩ rfl (fun H locs hW hS => ?_)
  refine kx_ifz_eq (tgt := 28) S dX4_isCeiling_8 (by decide) (fun c1 => ?_) (fun c1 => ?_)
  · skip
    refine lv_iconst (v := 0) S.1 S.2.1 dX4_isCeiling_28 (by decide) ?_
    refine kw_zret S hr hlk hW hS (by decide) (by decide) dX4_isCeiling_29 kw_n0 ?_
    refine ⟨?_, rfl, ?_⟩ <;> first | rfl | (simp [c1, kw_b]; done) | (simp [c1, kw_b, kI_sNew, kJ_sNew, kR_sNew, kN_sNew, kI_sI, kI_sJ, kI_sR, kI_sA, kI_sB, kI_sC, kJ_sI, kJ_sJ, kJ_sR, kJ_sA, kJ_sB, kJ_sC, kR_sI, kR_sJ, kR_sR, kR_sA, kR_sB, kR_sC, kA_sI, kA_sJ, kA_sR, kA_sA, kA_sB, kA_sC, kB_sI, kB_sJ, kB_sR, kB_sA, kB_sB, kB_sC, kC_sI, kC_sJ, kC_sR, kC_sA, kC_sB, kC_sC, kN_sI, kN_sJ, kN_sR, kN_sA, kN_sB, kN_sC]; done)
  · skip
    refine lv_iload_n S.1 S.2.1 dX4_isCeiling_11 rfl (lv_at hl 1 rfl) ?_
    refine lv_sipush (v := 1500) S.1 S.2.1 dX4_isCeiling_12 (by decide) ?_
    refine lv_sipush (v := 20000) S.1 S.2.1 dX4_isCeiling_15 (by decide) ?_
    refine kx_cS (As := [.int (bu), .int (1500), .int (20000)]) (rest := []) (st1 := [.int (kw_b (kw_wi bu 1500 20000 = true))]) S hK hZ hA hW hS (c_X4_isWithin l G nu x bu 1500 20000 ) (va_cwS 3 S.2.2.2.2 gX4_isCeiling_X4_isWithin rfl rfl rfl (by decide +kernel) ⟨Nat.le_of_ble_eq_true rfl, Nat.le_of_ble_eq_true rfl⟩) rfl hl.1 rfl (Nat.le_of_ble_eq_true rfl) dX4_isCeiling_18 ⟨Nat.le_of_ble_eq_true rfl, Nat.le_of_ble_eq_true rfl⟩ rfl (fun H locs hW hS => ?_)
    refine kx_ifz_eq (tgt := 28) S dX4_isCeiling_21 (by decide) (fun c2 => ?_) (fun c2 => ?_)
    · skip
      refine lv_iconst (v := 0) S.1 S.2.1 dX4_isCeiling_28 (by decide) ?_
      refine kw_zret S hr hlk hW hS (by decide) (by decide) dX4_isCeiling_29 kw_n0 ?_
      refine ⟨?_, rfl, ?_⟩ <;> first | rfl | (simp [c1, c2, kw_b]; done) | (simp [c1, c2, kw_b, kI_sNew, kJ_sNew, kR_sNew, kN_sNew, kI_sI, kI_sJ, kI_sR, kI_sA, kI_sB, kI_sC, kJ_sI, kJ_sJ, kJ_sR, kJ_sA, kJ_sB, kJ_sC, kR_sI, kR_sJ, kR_sR, kR_sA, kR_sB, kR_sC, kA_sI, kA_sJ, kA_sR, kA_sA, kA_sB, kA_sC, kB_sI, kB_sJ, kB_sR, kB_sA, kB_sB, kB_sC, kC_sI, kC_sJ, kC_sR, kC_sA, kC_sB, kC_sC, kN_sI, kN_sJ, kN_sR, kN_sA, kN_sB, kN_sC]; done)
    · skip
      refine lv_iconst (v := 1) S.1 S.2.1 dX4_isCeiling_24 (by decide) ?_
      refine lv_goto (tgt := 29) S.1 S.2.1 dX4_isCeiling_25 (by decide) ?_
      refine kw_zret S hr hlk hW hS (by decide) (by decide) dX4_isCeiling_29 kw_n1 ?_
      refine ⟨?_, rfl, ?_⟩ <;> first | rfl | (simp [c1, c2, kw_b]; done) | (simp [c1, c2, kw_b, kI_sNew, kJ_sNew, kR_sNew, kN_sNew, kI_sI, kI_sJ, kI_sR, kI_sA, kI_sB, kI_sC, kJ_sI, kJ_sJ, kJ_sR, kJ_sA, kJ_sB, kJ_sC, kR_sI, kR_sJ, kR_sR, kR_sA, kR_sB, kR_sC, kA_sI, kA_sJ, kA_sR, kA_sA, kA_sB, kA_sC, kB_sI, kB_sJ, kB_sR, kB_sA, kB_sB, kB_sC, kC_sI, kC_sJ, kC_sR, kC_sA, kC_sB, kC_sC, kN_sI, kN_sJ, kN_sR, kN_sA, kN_sB, kN_sC]; done)
set_option maxHeartbeats 1000000 in
set_option maxRecDepth 100000 in
/-- isGuarantee -/
theorem c_X4_isGuarantee (l : Launch) (G : kw_G) (nu : Nat → Option Nat) (x : kw_St) (v : Int32)   : kw_M l G yX4_isGuarantee wsX4_isGuarantee { frames := 1, cells := 0, slots := 0, locals := 22 } 0 0 [.int (v)] nu x (kw_P nu (some (.int (kw_b (v = 0 ∨ kw_wi v 10 1000 = true)))) (x)) := by
  refine kw_M.ofW (cc := cX4_isGuarantee) (maxL := 1) (ret := (some .boolean)) (by decide) rfl (Nat.le_of_ble_eq_true rfl) ?_
  intro p e s m args below meth c A ls S hr hlk hnm hK hZ hA hW hS hl
  have hl : lv_has ls 1 [(0, .int (v))] := hl
  refine lv_iload_n S.1 S.2.1 dX4_isGuarantee_0 rfl (lv_at hl 0 rfl) ?_
  refine lv_if_eq (tgt := 16) S.1 S.2.1 dX4_isGuarantee_1 (by decide) (fun c1 => ?_) (fun c1 => ?_)
  · skip
    refine lv_iconst (v := 1) S.1 S.2.1 dX4_isGuarantee_16 (by decide) ?_
    refine lv_goto (tgt := 21) S.1 S.2.1 dX4_isGuarantee_17 (by decide) ?_
    refine kw_zret S hr hlk hW hS (by decide) (by decide) dX4_isGuarantee_21 kw_n1 ?_
    refine ⟨?_, rfl, ?_⟩ <;> first | rfl | (simp [c1, kw_b]; done) | (simp [c1, kw_b, kI_sNew, kJ_sNew, kR_sNew, kN_sNew, kI_sI, kI_sJ, kI_sR, kI_sA, kI_sB, kI_sC, kJ_sI, kJ_sJ, kJ_sR, kJ_sA, kJ_sB, kJ_sC, kR_sI, kR_sJ, kR_sR, kR_sA, kR_sB, kR_sC, kA_sI, kA_sJ, kA_sR, kA_sA, kA_sB, kA_sC, kB_sI, kB_sJ, kB_sR, kB_sA, kB_sB, kB_sC, kC_sI, kC_sJ, kC_sR, kC_sA, kC_sB, kC_sC, kN_sI, kN_sJ, kN_sR, kN_sA, kN_sB, kN_sC]; done)
  · skip
    refine lv_iload_n S.1 S.2.1 dX4_isGuarantee_4 rfl (lv_at hl 0 rfl) ?_
    refine lv_bipush (v := 10) S.1 S.2.1 dX4_isGuarantee_5 (by decide) ?_
    refine lv_sipush (v := 1000) S.1 S.2.1 dX4_isGuarantee_7 (by decide) ?_
    refine kx_cS (As := [.int (v), .int (10), .int (1000)]) (rest := []) (st1 := [.int (kw_b (kw_wi v 10 1000 = true))]) S hK hZ hA hW hS (c_X4_isWithin l G nu x v 10 1000 ) (va_cwS 3 S.2.2.2.2 gX4_isGuarantee_X4_isWithin rfl rfl rfl (by decide +kernel) ⟨Nat.le_of_ble_eq_true rfl, Nat.le_of_ble_eq_true rfl⟩) rfl hl.1 rfl (Nat.le_of_ble_eq_true rfl) dX4_isGuarantee_10 ⟨Nat.le_of_ble_eq_true rfl, Nat.le_of_ble_eq_true rfl⟩ rfl (fun H locs hW hS => ?_)
    refine kx_ifz_eq (tgt := 20) S dX4_isGuarantee_13 (by decide) (fun c2 => ?_) (fun c2 => ?_)
    · skip
      refine lv_iconst (v := 0) S.1 S.2.1 dX4_isGuarantee_20 (by decide) ?_
      refine kw_zret S hr hlk hW hS (by decide) (by decide) dX4_isGuarantee_21 kw_n0 ?_
      refine ⟨?_, rfl, ?_⟩ <;> first | rfl | (simp [c1, c2, kw_b]; done) | (simp [c1, c2, kw_b, kI_sNew, kJ_sNew, kR_sNew, kN_sNew, kI_sI, kI_sJ, kI_sR, kI_sA, kI_sB, kI_sC, kJ_sI, kJ_sJ, kJ_sR, kJ_sA, kJ_sB, kJ_sC, kR_sI, kR_sJ, kR_sR, kR_sA, kR_sB, kR_sC, kA_sI, kA_sJ, kA_sR, kA_sA, kA_sB, kA_sC, kB_sI, kB_sJ, kB_sR, kB_sA, kB_sB, kB_sC, kC_sI, kC_sJ, kC_sR, kC_sA, kC_sB, kC_sC, kN_sI, kN_sJ, kN_sR, kN_sA, kN_sB, kN_sC]; done)
    · skip
      refine lv_iconst (v := 1) S.1 S.2.1 dX4_isGuarantee_16 (by decide) ?_
      refine lv_goto (tgt := 21) S.1 S.2.1 dX4_isGuarantee_17 (by decide) ?_
      refine kw_zret S hr hlk hW hS (by decide) (by decide) dX4_isGuarantee_21 kw_n1 ?_
      refine ⟨?_, rfl, ?_⟩ <;> first | rfl | (simp [c1, c2, kw_b]; done) | (simp [c1, c2, kw_b, kI_sNew, kJ_sNew, kR_sNew, kN_sNew, kI_sI, kI_sJ, kI_sR, kI_sA, kI_sB, kI_sC, kJ_sI, kJ_sJ, kJ_sR, kJ_sA, kJ_sB, kJ_sC, kR_sI, kR_sJ, kR_sR, kR_sA, kR_sB, kR_sC, kA_sI, kA_sJ, kA_sR, kA_sA, kA_sB, kA_sC, kB_sI, kB_sJ, kB_sR, kB_sA, kB_sB, kB_sC, kC_sI, kC_sJ, kC_sR, kC_sA, kC_sB, kC_sC, kN_sI, kN_sJ, kN_sR, kN_sA, kN_sB, kN_sC]; done)
set_option maxHeartbeats 1000000 in
set_option maxRecDepth 100000 in
/-- hasRoomFor -/
theorem c_X4_hasRoomFor (l : Launch) (G : kw_G) (nu : Nat → Option Nat) (x : kw_St) (o : Nat) (gu : Int32) (g : Nat) (gb : Nat) (ho : nu o = some 5) (hg : nu g = some 2) (hgb : nu gb = some 1) (hgc : kR x 101 g = some gb) : kw_M l G yX4_hasRoomFor wsX4_hasRoomFor { frames := 0, cells := 0, slots := 0, locals := 0 } 0 0 [.ref o, .int (gu), .ref g] nu x (kw_P nu (some (.int (kw_b (¬ 1000 - kI x 257 o < gu ∧ ¬ kI x 50 gb - kI x 102 g < gu)))) (x)) := by
  refine kw_M.ofW (cc := cX4_hasRoomFor) (maxL := 3) (ret := (some .boolean)) (by decide) rfl (Nat.le_of_ble_eq_true rfl) ?_
  intro p e s m args below meth c A ls S hr hlk hnm hK hZ hA hW hS hl
  have hl : lv_has ls 3 [(0, .ref o), (1, .int (gu)), (2, .ref g)] := hl
  have iX0 : ∀ w ∈ wsX00, w ∈ wsX4_hasRoomFor := by decide +kernel
  have iX1 : ∀ w ∈ wsX10, w ∈ wsX4_hasRoomFor := by decide +kernel
  have iX4 : ∀ w ∈ wsX40, w ∈ wsX4_hasRoomFor := by decide +kernel
  refine lv_iload_n S.1 S.2.1 dX4_hasRoomFor_0 rfl (lv_at hl 1 rfl) ?_
  refine lv_sipush (v := 1000) S.1 S.2.1 dX4_hasRoomFor_1 (by decide) ?_
  refine lv_aload_n S.1 S.2.1 dX4_hasRoomFor_4 rfl (lv_at hl 0 rfl) ?_
  refine kx_gI S hK hW ho 7 257 rfl iX4 (by decide) rfl rfl (by decide) (by decide +kernel) dX4_hasRoomFor_5 (v := kI x 257 o) rfl ?_
  refine lv_isub S.1 S.2.1 dX4_hasRoomFor_8 ?_
  refine lv_icmp_gt (tgt := 32) S.1 S.2.1 dX4_hasRoomFor_9 (by decide) (fun c1 => ?_) (fun c1 => ?_)
  · skip
    refine lv_iconst (v := 0) S.1 S.2.1 dX4_hasRoomFor_32 (by decide) ?_
    refine kw_zret S hr hlk hW hS (by decide) (by decide) dX4_hasRoomFor_33 kw_n0 ?_
    refine ⟨?_, rfl, ?_⟩ <;> first | rfl | (simp [c1, kw_b]; done) | (simp [c1, kw_b, kI_sNew, kJ_sNew, kR_sNew, kN_sNew, kI_sI, kI_sJ, kI_sR, kI_sA, kI_sB, kI_sC, kJ_sI, kJ_sJ, kJ_sR, kJ_sA, kJ_sB, kJ_sC, kR_sI, kR_sJ, kR_sR, kR_sA, kR_sB, kR_sC, kA_sI, kA_sJ, kA_sR, kA_sA, kA_sB, kA_sC, kB_sI, kB_sJ, kB_sR, kB_sA, kB_sB, kB_sC, kC_sI, kC_sJ, kC_sR, kC_sA, kC_sB, kC_sC, kN_sI, kN_sJ, kN_sR, kN_sA, kN_sB, kN_sC]; done)
  · skip
    refine lv_iload_n S.1 S.2.1 dX4_hasRoomFor_12 rfl (lv_at hl 1 rfl) ?_
    refine lv_aload_n S.1 S.2.1 dX4_hasRoomFor_13 rfl (lv_at hl 2 rfl) ?_
    refine kx_gA S hK hW hg 1 101 rfl iX1 (by decide) rfl rfl (by decide) (by decide +kernel) dX4_hasRoomFor_14 (b := gb) hgc ?_
    refine kx_gI S hK hW hgb 0 50 rfl iX0 (by decide) rfl rfl (by decide) (by decide +kernel) dX4_hasRoomFor_17 (v := kI x 50 gb) rfl ?_
    refine lv_aload_n S.1 S.2.1 dX4_hasRoomFor_20 rfl (lv_at hl 2 rfl) ?_
    refine kx_gI S hK hW hg 2 102 rfl iX1 (by decide) rfl rfl (by decide) (by decide +kernel) dX4_hasRoomFor_21 (v := kI x 102 g) rfl ?_
    refine lv_isub S.1 S.2.1 dX4_hasRoomFor_24 ?_
    refine lv_icmp_gt (tgt := 32) S.1 S.2.1 dX4_hasRoomFor_25 (by decide) (fun c2 => ?_) (fun c2 => ?_)
    · skip
      refine lv_iconst (v := 0) S.1 S.2.1 dX4_hasRoomFor_32 (by decide) ?_
      refine kw_zret S hr hlk hW hS (by decide) (by decide) dX4_hasRoomFor_33 kw_n0 ?_
      refine ⟨?_, rfl, ?_⟩ <;> first | rfl | (simp [c1, c2, kw_b]; done) | (simp [c1, c2, kw_b, kI_sNew, kJ_sNew, kR_sNew, kN_sNew, kI_sI, kI_sJ, kI_sR, kI_sA, kI_sB, kI_sC, kJ_sI, kJ_sJ, kJ_sR, kJ_sA, kJ_sB, kJ_sC, kR_sI, kR_sJ, kR_sR, kR_sA, kR_sB, kR_sC, kA_sI, kA_sJ, kA_sR, kA_sA, kA_sB, kA_sC, kB_sI, kB_sJ, kB_sR, kB_sA, kB_sB, kB_sC, kC_sI, kC_sJ, kC_sR, kC_sA, kC_sB, kC_sC, kN_sI, kN_sJ, kN_sR, kN_sA, kN_sB, kN_sC]; done)
    · skip
      refine lv_iconst (v := 1) S.1 S.2.1 dX4_hasRoomFor_28 (by decide) ?_
      refine lv_goto (tgt := 33) S.1 S.2.1 dX4_hasRoomFor_29 (by decide) ?_
      refine kw_zret S hr hlk hW hS (by decide) (by decide) dX4_hasRoomFor_33 kw_n1 ?_
      refine ⟨?_, rfl, ?_⟩ <;> first | rfl | (simp [c1, c2, kw_b]; done) | (simp [c1, c2, kw_b, kI_sNew, kJ_sNew, kR_sNew, kN_sNew, kI_sI, kI_sJ, kI_sR, kI_sA, kI_sB, kI_sC, kJ_sI, kJ_sJ, kJ_sR, kJ_sA, kJ_sB, kJ_sC, kR_sI, kR_sJ, kR_sR, kR_sA, kR_sB, kR_sC, kA_sI, kA_sJ, kA_sR, kA_sA, kA_sB, kA_sC, kB_sI, kB_sJ, kB_sR, kB_sA, kB_sB, kB_sC, kC_sI, kC_sJ, kC_sR, kC_sA, kC_sB, kC_sC, kN_sI, kN_sJ, kN_sR, kN_sA, kN_sB, kN_sC]; done)
set_option maxHeartbeats 1000000 in
set_option maxRecDepth 100000 in
/-- now -/
theorem c_X4_now (l : Launch) (G : kw_G) (nu : Nat → Option Nat) (x : kw_St) (o : Nat) (ho : nu o = some 5)  : kw_M l G yX4_now wsX4_now { frames := 0, cells := 0, slots := 0, locals := 0 } 0 0 [.ref o] nu x (kw_P nu (some (.int (kI x 254 o))) (x)) := by
  refine kw_M.ofW (cc := cX4_now) (maxL := 1) (ret := (some .int)) (by decide) rfl (Nat.le_of_ble_eq_true rfl) ?_
  intro p e s m args below meth c A ls S hr hlk hnm hK hZ hA hW hS hl
  have hl : lv_has ls 1 [(0, .ref o)] := hl
  have iX4 : ∀ w ∈ wsX40, w ∈ wsX4_now := by decide +kernel
  refine lv_aload_n S.1 S.2.1 dX4_now_0 rfl (lv_at hl 0 rfl) ?_
  refine kx_gI S hK hW ho 4 254 rfl iX4 (by decide) rfl rfl (by decide) (by decide +kernel) dX4_now_1 (v := kI x 254 o) rfl ?_
  refine kw_iret S hr hlk hW hS (by decide) (by decide) dX4_now_4 ?_
  refine ⟨?_, rfl, ?_⟩ <;> first | rfl | (simp [kw_b]; done) | (simp [kw_b, kI_sNew, kJ_sNew, kR_sNew, kN_sNew, kI_sI, kI_sJ, kI_sR, kI_sA, kI_sB, kI_sC, kJ_sI, kJ_sJ, kJ_sR, kJ_sA, kJ_sB, kJ_sC, kR_sI, kR_sJ, kR_sR, kR_sA, kR_sB, kR_sC, kA_sI, kA_sJ, kA_sR, kA_sA, kA_sB, kA_sC, kB_sI, kB_sJ, kB_sR, kB_sA, kB_sB, kB_sC, kC_sI, kC_sJ, kC_sR, kC_sA, kC_sB, kC_sC, kN_sI, kN_sJ, kN_sR, kN_sA, kN_sB, kN_sC]; done)
end
section
/-! THE REFERENCE: its object at mo, its rows at 'ma j', j the field's number; what they hold, as one value t: (int fields, linkMark, rows of ints and truth values, rows of longs) -/
abbrev mo_T : Type := (Nat → Int32) × Int64 × (Nat → Nat → Int32) × (Nat → Nat → Int64)
abbrev tF (t : mo_T) (j : Nat) : Int32 := t.1 j
abbrev tL (t : mo_T) : Int64 := t.2.1
abbrev tA (t : mo_T) (j k : Nat) : Int32 := t.2.2.1 j k
abbrev tB (t : mo_T) (j k : Nat) : Int64 := t.2.2.2 j k
def uF (t : mo_T) (j : Nat) (v : Int32) : mo_T := (fun i => if i = j then v else t.1 i, t.2)
def uL (t : mo_T) (v : Int64) : mo_T := (t.1, v, t.2.2)
def uA (t : mo_T) (j k : Nat) (v : Int32) : mo_T := (t.1, t.2.1, fun i => if i = j then upd (t.2.2.1 i) k v else t.2.2.1 i, t.2.2.2)
def uB (t : mo_T) (j k : Nat) (v : Int64) : mo_T := (t.1, t.2.1, t.2.2.1, fun i => if i = j then vp_updL (t.2.2.2 i) k v else t.2.2.2 i)
theorem tF_uF (t : mo_T) (j : Nat) (v : Int32) (i : Nat) : tF (uF t j v) i = if i = j then v else tF t i := rfl
theorem tF_uL (t : mo_T) (v : Int64) (i : Nat) : tF (uL t v) i = tF t i := rfl
theorem tF_uA (t : mo_T) (j k : Nat) (v : Int32) (i : Nat) : tF (uA t j k v) i = tF t i := rfl
theorem tF_uB (t : mo_T) (j k : Nat) (v : Int64) (i : Nat) : tF (uB t j k v) i = tF t i := rfl
theorem tL_uF (t : mo_T) (j : Nat) (v : Int32) : tL (uF t j v) = tL t := rfl
theorem tL_uL (t : mo_T) (v : Int64) : tL (uL t v) = v := rfl
theorem tL_uA (t : mo_T) (j k : Nat) (v : Int32) : tL (uA t j k v) = tL t := rfl
theorem tL_uB (t : mo_T) (j k : Nat) (v : Int64) : tL (uB t j k v) = tL t := rfl
theorem tA_uF (t : mo_T) (j : Nat) (v : Int32) (i r : Nat) : tA (uF t j v) i r = tA t i r := rfl
theorem tA_uL (t : mo_T) (v : Int64) (i r : Nat) : tA (uL t v) i r = tA t i r := rfl
theorem tA_uA (t : mo_T) (j k : Nat) (v : Int32) (i r : Nat) : tA (uA t j k v) i r = if i = j then (if r = k then v else tA t i r) else tA t i r := by
  by_cases h : i = j
  · simp [uA, tA, upd, h]
  · simp [uA, tA, h]
theorem tA_uB (t : mo_T) (j k : Nat) (v : Int64) (i r : Nat) : tA (uB t j k v) i r = tA t i r := rfl
theorem tB_uF (t : mo_T) (j : Nat) (v : Int32) (i r : Nat) : tB (uF t j v) i r = tB t i r := rfl
theorem tB_uL (t : mo_T) (v : Int64) (i r : Nat) : tB (uL t v) i r = tB t i r := rfl
theorem tB_uA (t : mo_T) (j k : Nat) (v : Int32) (i r : Nat) : tB (uA t j k v) i r = tB t i r := rfl
theorem tB_uB (t : mo_T) (j k : Nat) (v : Int64) (i r : Nat) : tB (uB t j k v) i r = if i = j then (if r = k then v else tB t i r) else tB t i r := by
  by_cases h : i = j
  · simp [uB, tB, vp_updL, h]
  · simp [uB, tB, h]
/-- kind and length of a row -/
def mk (j : Nat) : Nat := if j = 10 ∨ j = 11 ∨ j = 27 ∨ j = 32 then 8 else if j = 28 ∨ j = 29 ∨ j = 41 then 9 else 7
def ml (j : Nat) : Nat := if j ≤ 11 then 4 else if j ≤ 29 then 8 else if j ≤ 32 then 20 else 1000
def mS (nu : Nat → Option Nat) (x : kw_St) (mo : Nat) (ma : Nat → Nat) : Prop := nu mo = some 6 ∧ (∀ j, 9 ≤ j → j < 42 → j ≠ 12 → kR x (300 + j) mo = some (ma j) ∧ nu (ma j) = some (mk j) ∧ kN x (ma j) = ml j) ∧ (∀ i j, ma i = ma j ↔ i = j) ∧ (∀ j, ma j ≠ mo)
def mV (x : kw_St) (mo : Nat) (ma : Nat → Nat) : mo_T := (fun j => kI x (300 + j) mo, kJ x 312 mo, fun j => kA x (ma j), fun j => kB x (ma j))
/-- the tables of two states say the same of the cell at b -/
def kw_ag (b : Nat) (x y : kw_St) : Prop := (∀ i, kI y i b = kI x i b) ∧ (∀ i, kJ y i b = kJ x i b) ∧ (∀ i, kR y i b = kR x i b) ∧ kA y b = kA x b ∧ kB y b = kB x b ∧ kC y b = kC x b ∧ kN y b = kN x b
def mw (nu : Nat → Option Nat) (z : kw_St) (mo : Nat) (ma : Nat → Nat) (t : mo_T) (x : kw_St) : Prop := mS nu x mo ma ∧ mV x mo ma = t ∧ ∀ b, b ≠ mo → (∀ j, b ≠ ma j) → kw_ag b z x
theorem mw.to {nu : Nat → Option Nat} {z x : kw_St} {mo : Nat} {ma : Nat → Nat} {t t2 : mo_T} (h : mw nu z mo ma t x) (e : t = t2) : mw nu z mo ma t2 x := e ▸ h
theorem kw_ag.sI {b id a : Nat} {z x : kw_St} {v : Int32} (h : kw_ag b z x) (hb : b ≠ a) : kw_ag b z (sI x id a v) := ⟨fun i => by rw [kI_sI, if_neg (fun q => hb q.2)]; exact h.1 i, h.2.1, h.2.2.1, h.2.2.2.1, h.2.2.2.2.1, h.2.2.2.2.2.1, h.2.2.2.2.2.2⟩
theorem kw_ag.sJ {b id a : Nat} {z x : kw_St} {v : Int64} (h : kw_ag b z x) (hb : b ≠ a) : kw_ag b z (sJ x id a v) := ⟨h.1, fun i => by rw [kJ_sJ, if_neg (fun q => hb q.2)]; exact h.2.1 i, h.2.2.1, h.2.2.2.1, h.2.2.2.2.1, h.2.2.2.2.2.1, h.2.2.2.2.2.2⟩
theorem kw_ag.sA {b k a : Nat} {z x : kw_St} {v : Int32} (h : kw_ag b z x) (hb : b ≠ a) : kw_ag b z (sA x a k v) := ⟨h.1, h.2.1, h.2.2.1, by rw [kA_sA, if_neg hb]; exact h.2.2.2.1, h.2.2.2.2.1, h.2.2.2.2.2.1, h.2.2.2.2.2.2⟩
theorem kw_ag.sB {b k a : Nat} {z x : kw_St} {v : Int64} (h : kw_ag b z x) (hb : b ≠ a) : kw_ag b z (sB x a k v) := ⟨h.1, h.2.1, h.2.2.1, h.2.2.2.1, by rw [kB_sB, if_neg hb]; exact h.2.2.2.2.1, h.2.2.2.2.2.1, h.2.2.2.2.2.2⟩
theorem mw.pF {nu : Nat → Option Nat} {z x : kw_St} {mo : Nat} {ma : Nat → Nat} {t : mo_T} (h : mw nu z mo ma t x) (j : Nat) (v : Int32) : mw nu z mo ma (uF t j v) (sI x (300 + j) mo v) := by
  obtain ⟨⟨h1, h2, h3, h4⟩, h5, h6⟩ := h
  refine ⟨⟨h1, h2, h3, h4⟩, ?_, fun b hb hj => (h6 b hb hj).sI hb⟩
  subst h5
  refine Prod.ext (funext fun i => ?_) rfl
  show kI (sI x (300 + j) mo v) (300 + i) mo = if i = j then v else kI x (300 + i) mo
  rw [kI_sI]
  by_cases e : i = j
  · simp [e]
  · rw [if_neg (fun q => e (by omega)), if_neg e]
theorem mw.pL {nu : Nat → Option Nat} {z x : kw_St} {mo : Nat} {ma : Nat → Nat} {t : mo_T} (h : mw nu z mo ma t x) (v : Int64) : mw nu z mo ma (uL t v) (sJ x 312 mo v) := by
  obtain ⟨⟨h1, h2, h3, h4⟩, h5, h6⟩ := h
  refine ⟨⟨h1, h2, h3, h4⟩, ?_, fun b hb hj => (h6 b hb hj).sJ hb⟩
  subst h5
  refine Prod.ext rfl (Prod.ext ?_ rfl)
  show kJ (sJ x 312 mo v) 312 mo = v
  simp [kJ_sJ]
theorem mw.pA {nu : Nat → Option Nat} {z x : kw_St} {mo : Nat} {ma : Nat → Nat} {t : mo_T} (h : mw nu z mo ma t x) (j k : Nat) (v : Int32) : mw nu z mo ma (uA t j k v) (sA x (ma j) k v) := by
  obtain ⟨⟨h1, h2, h3, h4⟩, h5, h6⟩ := h
  refine ⟨⟨h1, h2, h3, h4⟩, ?_, fun b hb hj => (h6 b hb hj).sA (hj j)⟩
  subst h5
  refine Prod.ext rfl (Prod.ext rfl (Prod.ext (funext fun i => ?_) rfl))
  show kA (sA x (ma j) k v) (ma i) = if i = j then upd (kA x (ma i)) k v else kA x (ma i)
  rw [kA_sA]
  by_cases e : i = j
  · simp [e]
  · rw [if_neg (fun q => e ((h3 i j).mp q)), if_neg e]
theorem mw.pB {nu : Nat → Option Nat} {z x : kw_St} {mo : Nat} {ma : Nat → Nat} {t : mo_T} (h : mw nu z mo ma t x) (j k : Nat) (v : Int64) : mw nu z mo ma (uB t j k v) (sB x (ma j) k v) := by
  obtain ⟨⟨h1, h2, h3, h4⟩, h5, h6⟩ := h
  refine ⟨⟨h1, h2, h3, h4⟩, ?_, fun b hb hj => (h6 b hb hj).sB (hj j)⟩
  subst h5
  refine Prod.ext rfl (Prod.ext rfl (Prod.ext rfl (funext fun i => ?_)))
  show kB (sB x (ma j) k v) (ma i) = if i = j then vp_updL (kB x (ma i)) k v else kB x (ma i)
  rw [kB_sB]
  by_cases e : i = j
  · simp [e]
  · rw [if_neg (fun q => e ((h3 i j).mp q)), if_neg e]
theorem kw_ixof {i : Int32} {k n : Nat} (e : i = nI k) (h : k < n) (hn : n < 2 ^ 31) : kw_ix i k n := e ▸ kw_ix.nI h hn
theorem ml_lt (j : Nat) : ml j < 2 ^ 31 := by unfold ml; repeat' split <;> try omega
section MWR
variable {p : Program} {l : Launch} {e : Env} {R : Room} {s : State} {m : MethodId} {args : Array Value} {below : List Frame} {meth : Method} {c : Code} {H : Heap} {locs : List Loc} {cells slots : Nat} {Q : State → Prop}
variable {cc : ByteArray} {pc nL : Nat} {ls : Array Slot} {rest : List Value} {G : kw_G} {A : Nat → Prop} {nu : Nat → Option Nat} {x z : kw_St} {mo : Nat} {ma : Nat → Nat} {t : mo_T} {H0 : Heap} {Ts : List Cond} {own : String}
theorem mx_gI (S : CallFix p m c cc nL s args Ts own) (hK : kw_K G s) (hm : mw nu z mo ma t x) (hW : kw_W G A nu x H) (j : Nat) {index : Nat} (hin : ∀ w ∈ u_ws RX5 TX5 42, w ∈ Ts) (hj : (kw_fl 6)[j]? = some 0) (hjN : j < 42) (hl : Cond.fieldLink own index (TX5 j).1 (TX5 j).2.1 (TX5 j).2.2.1 ∈ Ts) (hdg : decode cc pc = .ok (.getfield index, 3)) {v : Int32} (hv : tF t j = v)
    (kk : W p l e R s m args below meth c H locs cells slots Q (F0 m (pc + 3) ls (.int v :: rest))) : W p l e R s m args below meth c H locs cells slots Q (F0 m pc ls (.ref mo :: rest)) :=
  kx_gI S hK hW hm.1.1 j (300 + j) rfl hin (by decide) hj rfl hjN hl hdg (by rw [← hv, ← hm.2.1]; rfl) kk
theorem mx_gJ (S : CallFix p m c cc nL s args Ts own) (hK : kw_K G s) (hm : mw nu z mo ma t x) (hW : kw_W G A nu x H) {index : Nat} (hin : ∀ w ∈ u_ws RX5 TX5 42, w ∈ Ts) (hl : Cond.fieldLink own index (TX5 12).1 (TX5 12).2.1 (TX5 12).2.2.1 ∈ Ts) (hdg : decode cc pc = .ok (.getfield index, 3)) {v : Int64} (hv : tL t = v)
    (kk : W p l e R s m args below meth c H locs cells slots Q (F0 m (pc + 3) ls (.long v :: rest))) : W p l e R s m args below meth c H locs cells slots Q (F0 m pc ls (.ref mo :: rest)) :=
  kx_gJ S hK hW hm.1.1 12 312 rfl hin (by decide) rfl rfl (by decide) hl hdg (by rw [← hv, ← hm.2.1]; rfl) kk
theorem mx_gA (S : CallFix p m c cc nL s args Ts own) (hK : kw_K G s) (hm : mw nu z mo ma t x) (hW : kw_W G A nu x H) (j : Nat) {index : Nat} (hin : ∀ w ∈ u_ws RX5 TX5 42, w ∈ Ts) (hj : (kw_fl 6)[j]? = some 2) (hjN : j < 42) (h9 : 9 ≤ j ∧ j ≠ 12) (hl : Cond.fieldLink own index (TX5 j).1 (TX5 j).2.1 (TX5 j).2.2.1 ∈ Ts) (hdg : decode cc pc = .ok (.getfield index, 3))
    (kk : W p l e R s m args below meth c H locs cells slots Q (F0 m (pc + 3) ls (.ref (ma j) :: rest))) : W p l e R s m args below meth c H locs cells slots Q (F0 m pc ls (.ref mo :: rest)) :=
  kx_gA S hK hW hm.1.1 j (300 + j) rfl hin (by decide) hj rfl hjN hl hdg (hm.1.2.1 j h9.1 hjN h9.2).1 kk
theorem mx_pI (S : CallFix p m c cc nL s args Ts own) (hK : kw_K G s) (hm : mw nu z mo ma t x) (hW : kw_W G A nu x H) (hS : va_S A H0 H locs) (j : Nat) {v : Int32} {index : Nat} (hin : ∀ w ∈ u_ws RX5 TX5 42, w ∈ Ts) (hj : (kw_fl 6)[j]? = some 0) (hjN : j < 42) (hl : Cond.fieldLink own index (TX5 j).1 (TX5 j).2.1 (TX5 j).2.2.1 ∈ Ts) (hfin : (TX5 j).2.2.2 = false) (hd : parseFieldDescriptor (TX5 j).2.2.1 = some .int) (hdg : decode cc pc = .ok (.putfield index, 3))
    (kk : ∀ (x1 : kw_St) (H1 : Heap) (locs1 : List Loc), mw nu z mo ma (uF t j v) x1 → kw_W G A nu x1 H1 → va_S A H0 H1 locs1 → W p l e R s m args below meth c H1 locs1 cells slots Q (F0 m (pc + 3) ls rest)) : W p l e R s m args below meth c H locs cells slots Q (F0 m pc ls (.int v :: .ref mo :: rest)) :=
  kx_pI S hK hW hS hm.1.1 j (300 + j) rfl hin tyX5_ok nmX5 (by decide) hj rfl hjN hl (Or.inl hfin) hd hdg (fun H1 locs1 hW1 hS1 => kk _ H1 locs1 (hm.pF j v) hW1 hS1)
theorem mx_pJ (S : CallFix p m c cc nL s args Ts own) (hK : kw_K G s) (hm : mw nu z mo ma t x) (hW : kw_W G A nu x H) (hS : va_S A H0 H locs) {v : Int64} {index : Nat} (hin : ∀ w ∈ u_ws RX5 TX5 42, w ∈ Ts) (hl : Cond.fieldLink own index (TX5 12).1 (TX5 12).2.1 (TX5 12).2.2.1 ∈ Ts) (hdg : decode cc pc = .ok (.putfield index, 3))
    (kk : ∀ (x1 : kw_St) (H1 : Heap) (locs1 : List Loc), mw nu z mo ma (uL t v) x1 → kw_W G A nu x1 H1 → va_S A H0 H1 locs1 → W p l e R s m args below meth c H1 locs1 cells slots Q (F0 m (pc + 3) ls rest)) : W p l e R s m args below meth c H locs cells slots Q (F0 m pc ls (.long v :: .ref mo :: rest)) :=
  kx_pJ S hK hW hS hm.1.1 12 312 rfl hin tyX5_ok nmX5 (by decide) rfl rfl (by decide) hl (Or.inl rfl) rfl hdg (fun H1 locs1 hW1 hS1 => kk _ H1 locs1 (hm.pL v) hW1 hS1)
theorem mx_ild (S : CallFix p m c cc nL s args Ts own) (hK : kw_K G s) (hm : mw nu z mo ma t x) (hW : kw_W G A nu x H) (j : Nat) (hj : 9 ≤ j ∧ j < 42 ∧ j ≠ 12 ∧ mk j = 7) {i : Int32} {k : Nat} (hi : kw_ix i k (ml j)) (hdg : decode cc pc = .ok (.iaload, 1)) {v : Int32} (hv : tA t j k = v)
    (kk : W p l e R s m args below meth c H locs cells slots Q (F0 m (pc + 1) ls (.int v :: rest))) : W p l e R s m args below meth c H locs cells slots Q (F0 m pc ls (.int i :: .ref (ma j) :: rest)) := by
  obtain ⟨h1, h2, h3⟩ := hm.1.2.1 j hj.1 hj.2.1 hj.2.2.1
  rw [hj.2.2.2] at h2
  exact kw_iald S hK hW h2 (h3 ▸ hi) hdg (by rw [← hv, ← hm.2.1]; rfl) kk
theorem mx_zld (S : CallFix p m c cc nL s args Ts own) (hK : kw_K G s) (hm : mw nu z mo ma t x) (hW : kw_W G A nu x H) (j : Nat) (hj : 9 ≤ j ∧ j < 42 ∧ j ≠ 12 ∧ mk j = 9) {i : Int32} {k : Nat} (hi : kw_ix i k (ml j)) (hdg : decode cc pc = .ok (.baload, 1)) {v : Int32} (hv : tA t j k = v)
    (kk : W p l e R s m args below meth c H locs cells slots Q (F0 m (pc + 1) ls (.int v :: rest))) : W p l e R s m args below meth c H locs cells slots Q (F0 m pc ls (.int i :: .ref (ma j) :: rest)) := by
  obtain ⟨h1, h2, h3⟩ := hm.1.2.1 j hj.1 hj.2.1 hj.2.2.1
  rw [hj.2.2.2] at h2
  exact kw_zald S hK hW h2 (h3 ▸ hi) hdg (by rw [← hv, ← hm.2.1]; rfl) kk
theorem mx_lld (S : CallFix p m c cc nL s args Ts own) (hK : kw_K G s) (hm : mw nu z mo ma t x) (hW : kw_W G A nu x H) (j : Nat) (hj : 9 ≤ j ∧ j < 42 ∧ j ≠ 12 ∧ mk j = 8) {i : Int32} {k : Nat} (hi : kw_ix i k (ml j)) (hdg : decode cc pc = .ok (.laload, 1)) {v : Int64} (hv : tB t j k = v)
    (kk : W p l e R s m args below meth c H locs cells slots Q (F0 m (pc + 1) ls (.long v :: rest))) : W p l e R s m args below meth c H locs cells slots Q (F0 m pc ls (.int i :: .ref (ma j) :: rest)) := by
  obtain ⟨h1, h2, h3⟩ := hm.1.2.1 j hj.1 hj.2.1 hj.2.2.1
  rw [hj.2.2.2] at h2
  exact kw_lald S hK hW h2 (h3 ▸ hi) hdg (by rw [← hv, ← hm.2.1]; rfl) kk
theorem mx_ist (S : CallFix p m c cc nL s args Ts own) (hK : kw_K G s) (hm : mw nu z mo ma t x) (hW : kw_W G A nu x H) (hS : va_S A H0 H locs) (j : Nat) (hj : 9 ≤ j ∧ j < 42 ∧ j ≠ 12 ∧ mk j = 7) {i : Int32} {k : Nat} (hi : kw_ix i k (ml j)) (hdg : decode cc pc = .ok (.iastore, 1)) {v : Int32}
    (kk : ∀ (x1 : kw_St) (H1 : Heap) (locs1 : List Loc), mw nu z mo ma (uA t j k v) x1 → kw_W G A nu x1 H1 → va_S A H0 H1 locs1 → W p l e R s m args below meth c H1 locs1 cells slots Q (F0 m (pc + 1) ls rest)) : W p l e R s m args below meth c H locs cells slots Q (F0 m pc ls (.int v :: .int i :: .ref (ma j) :: rest)) := by
  obtain ⟨h1, h2, h3⟩ := hm.1.2.1 j hj.1 hj.2.1 hj.2.2.1
  rw [hj.2.2.2] at h2
  exact kw_iast S hK hW hS h2 (h3 ▸ hi) hdg (fun H1 locs1 hW1 hS1 => kk _ H1 locs1 (hm.pA j k v) hW1 hS1)
theorem mx_zst (S : CallFix p m c cc nL s args Ts own) (hK : kw_K G s) (hm : mw nu z mo ma t x) (hW : kw_W G A nu x H) (hS : va_S A H0 H locs) (j : Nat) (hj : 9 ≤ j ∧ j < 42 ∧ j ≠ 12 ∧ mk j = 9) {i : Int32} {k : Nat} (hi : kw_ix i k (ml j)) (hdg : decode cc pc = .ok (.bastore, 1)) {v : Int32} (hv : v = 0 ∨ v = 1)
    (kk : ∀ (x1 : kw_St) (H1 : Heap) (locs1 : List Loc), mw nu z mo ma (uA t j k v) x1 → kw_W G A nu x1 H1 → va_S A H0 H1 locs1 → W p l e R s m args below meth c H1 locs1 cells slots Q (F0 m (pc + 1) ls rest)) : W p l e R s m args below meth c H locs cells slots Q (F0 m pc ls (.int v :: .int i :: .ref (ma j) :: rest)) := by
  obtain ⟨h1, h2, h3⟩ := hm.1.2.1 j hj.1 hj.2.1 hj.2.2.1
  rw [hj.2.2.2] at h2
  exact kw_zast S hK hW hS h2 (h3 ▸ hi) hdg (by rcases hv with rfl | rfl <;> rfl) (fun H1 locs1 hW1 hS1 => kk _ H1 locs1 (hm.pA j k v) hW1 hS1)
theorem mx_lst (S : CallFix p m c cc nL s args Ts own) (hK : kw_K G s) (hm : mw nu z mo ma t x) (hW : kw_W G A nu x H) (hS : va_S A H0 H locs) (j : Nat) (hj : 9 ≤ j ∧ j < 42 ∧ j ≠ 12 ∧ mk j = 8) {i : Int32} {k : Nat} (hi : kw_ix i k (ml j)) (hdg : decode cc pc = .ok (.lastore, 1)) {v : Int64}
    (kk : ∀ (x1 : kw_St) (H1 : Heap) (locs1 : List Loc), mw nu z mo ma (uB t j k v) x1 → kw_W G A nu x1 H1 → va_S A H0 H1 locs1 → W p l e R s m args below meth c H1 locs1 cells slots Q (F0 m (pc + 1) ls rest)) : W p l e R s m args below meth c H locs cells slots Q (F0 m pc ls (.long v :: .int i :: .ref (ma j) :: rest)) := by
  obtain ⟨h1, h2, h3⟩ := hm.1.2.1 j hj.1 hj.2.1 hj.2.2.1
  rw [hj.2.2.2] at h2
  exact kw_last S hK hW hS h2 (h3 ▸ hi) hdg (fun H1 locs1 hW1 hS1 => kk _ H1 locs1 (hm.pB j k v) hW1 hS1)
/-- a call of the reference's own method -/
theorem mx_cV {mc ms : Nat} (S : CallFix p m c cc nL s args Ts own) (hK : kw_K G s) (hZ : kw_Z G A s s.heap) (hA : ∀ r, s.heap.size ≤ r → A r) (hm : mw nu z mo ma t x) (hW : kw_W G A nu x H) (hS : va_S A s.heap H locs) {v0 : Option Value} {t0 : mo_T} {st1 : List Value} {As st0 : List Value} {y : MethodName} {ws : List Cond} {rm : Room} {bytes : ByteArray} {maxL n index : Nat} {ret : Option FieldType} (hM : kw_M l G y ws rm mc ms (.ref mo :: As) nu x (fun v nu' y => v = v0 ∧ nu' = nu ∧ mw nu z mo ma t0 y)) (cw : CallW R s args own RX5 index y bytes maxL ret ws rm mc ms n) (hn : As.length = n) (hsize : ls.size = nL) (hst : st0 = As.reverse ++ .ref mo :: rest) (hr : (rest.map fun v => v.category).sum ≤ 8) (hdg : decode cc pc = .ok (.invokevirtual index, 3)) (hf : cells + mc ≤ R.cells ∧ slots + ms ≤ R.slots) (hst1 : v0.toList ++ rest = st1)
    (kk : ∀ (x1 : kw_St) (H1 : Heap) (locs1 : List Loc), mw nu z mo ma t0 x1 → kw_W G A nu x1 H1 → va_S A s.heap H1 locs1 → W p l e R s m args below meth c H1 locs1 (cells + mc) (slots + ms) Q (F0 m (pc + 3) ls st1)) : W p l e R s m args below meth c H locs cells slots Q (F0 m pc ls st0) :=
  kw_callV S hK hZ hA hW hS hM cw hm.1.1 (by decide) rfl hn hsize hst hr hdg hf (fun v nu' y H1 locs1 hp hW hS => by obtain ⟨e1, e2, e3⟩ := hp; subst e1; rw [e2] at hW; rw [hst1]; exact kk y H1 locs1 e3 hW hS)
end MWR
end
section
/-! the reference: its small methods -/
set_option maxHeartbeats 1000000 in
set_option maxRecDepth 100000 in
/-- in -/
theorem c_X5_in (l : Launch) (G : kw_G) (nu : Nat → Option Nat) (x : kw_St) (v : Int32) (lo : Int32) (hi : Int32)   : kw_M l G yX5_in wsX5_in { frames := 0, cells := 0, slots := 0, locals := 0 } 0 0 [.int (v), .int (lo), .int (hi)] nu x (kw_P nu (some (.int (kw_b (kw_wi v lo hi = true)))) (x)) := by
  refine kw_M.ofW (cc := cX5_in) (maxL := 3) (ret := (some .boolean)) (by decide) rfl (Nat.le_of_ble_eq_true rfl) ?_
  intro p e s m args below meth c A ls S hr hlk hnm hK hZ hA hW hS hl
  have hl : lv_has ls 3 [(0, .int (v)), (1, .int (lo)), (2, .int (hi))] := hl
  refine lv_iload_n S.1 S.2.1 dX5_in_0 rfl (lv_at hl 0 rfl) ?_
  refine lv_iload_n S.1 S.2.1 dX5_in_1 rfl (lv_at hl 1 rfl) ?_
  refine lv_icmp_lt (tgt := 14) S.1 S.2.1 dX5_in_2 (by decide) (fun c1 => ?_) (fun c1 => ?_)
  · skip
    refine lv_iconst (v := 0) S.1 S.2.1 dX5_in_14 (by decide) ?_
    refine kw_zret S hr hlk hW hS (by decide) (by decide) dX5_in_15 kw_n0 ?_
    refine ⟨?_, rfl, ?_⟩ <;> first | rfl | (simp [kw_wi, c1, kw_b]; done) | (simp [kw_wi, c1, kw_b, kI_sNew, kJ_sNew, kR_sNew, kN_sNew, kI_sI, kI_sJ, kI_sR, kI_sA, kI_sB, kI_sC, kJ_sI, kJ_sJ, kJ_sR, kJ_sA, kJ_sB, kJ_sC, kR_sI, kR_sJ, kR_sR, kR_sA, kR_sB, kR_sC, kA_sI, kA_sJ, kA_sR, kA_sA, kA_sB, kA_sC, kB_sI, kB_sJ, kB_sR, kB_sA, kB_sB, kB_sC, kC_sI, kC_sJ, kC_sR, kC_sA, kC_sB, kC_sC, kN_sI, kN_sJ, kN_sR, kN_sA, kN_sB, kN_sC]; done)
  · skip
    refine lv_iload_n S.1 S.2.1 dX5_in_5 rfl (lv_at hl 0 rfl) ?_
    refine lv_iload_n S.1 S.2.1 dX5_in_6 rfl (lv_at hl 2 rfl) ?_
    refine lv_icmp_gt (tgt := 14) S.1 S.2.1 dX5_in_7 (by decide) (fun c2 => ?_) (fun c2 => ?_)
    · skip
      refine lv_iconst (v := 0) S.1 S.2.1 dX5_in_14 (by decide) ?_
      refine kw_zret S hr hlk hW hS (by decide) (by decide) dX5_in_15 kw_n0 ?_
      refine ⟨?_, rfl, ?_⟩ <;> first | rfl | (simp [kw_wi, c1, c2, kw_b]; done) | (simp [kw_wi, c1, c2, kw_b, kI_sNew, kJ_sNew, kR_sNew, kN_sNew, kI_sI, kI_sJ, kI_sR, kI_sA, kI_sB, kI_sC, kJ_sI, kJ_sJ, kJ_sR, kJ_sA, kJ_sB, kJ_sC, kR_sI, kR_sJ, kR_sR, kR_sA, kR_sB, kR_sC, kA_sI, kA_sJ, kA_sR, kA_sA, kA_sB, kA_sC, kB_sI, kB_sJ, kB_sR, kB_sA, kB_sB, kB_sC, kC_sI, kC_sJ, kC_sR, kC_sA, kC_sB, kC_sC, kN_sI, kN_sJ, kN_sR, kN_sA, kN_sB, kN_sC]; done)
    · skip
      refine lv_iconst (v := 1) S.1 S.2.1 dX5_in_10 (by decide) ?_
      refine lv_goto (tgt := 15) S.1 S.2.1 dX5_in_11 (by decide) ?_
      refine kw_zret S hr hlk hW hS (by decide) (by decide) dX5_in_15 kw_n1 ?_
      refine ⟨?_, rfl, ?_⟩ <;> first | rfl | (simp [kw_wi, c1, c2, kw_b]; done) | (simp [kw_wi, c1, c2, kw_b, kI_sNew, kJ_sNew, kR_sNew, kN_sNew, kI_sI, kI_sJ, kI_sR, kI_sA, kI_sB, kI_sC, kJ_sI, kJ_sJ, kJ_sR, kJ_sA, kJ_sB, kJ_sC, kR_sI, kR_sJ, kR_sR, kR_sA, kR_sB, kR_sC, kA_sI, kA_sJ, kA_sR, kA_sA, kA_sB, kA_sC, kB_sI, kB_sJ, kB_sR, kB_sA, kB_sB, kB_sC, kC_sI, kC_sJ, kC_sR, kC_sA, kC_sB, kC_sC, kN_sI, kN_sJ, kN_sR, kN_sA, kN_sB, kN_sC]; done)
def m_fill (t : mo_T) (k : Nat) (r b : Int32) : mo_T := uB (uA (uA t 30 k r) 31 k b) 32 k (1000 * b.toInt64)
set_option maxHeartbeats 1000000 in
set_option maxRecDepth 100000 in
/-- fill -/
theorem c_X5_fill (l : Launch) (G : kw_G) (nu : Nat → Option Nat) (x z : kw_St) (mo : Nat) (ma : Nat → Nat) (t : mo_T) (k : Nat) (r : Int32) (b : Int32) (hm : mw nu z mo ma t x) (hk : k < 20) : kw_M l G yX5_fill wsX5_fill { frames := 0, cells := 0, slots := 0, locals := 0 } 0 0 [.ref mo, .int (nI k), .int (r), .int (b)] nu x (fun v nu' y => v = none ∧ nu' = nu ∧ mw nu z mo ma (m_fill t k r b) y) := by
  refine kw_M.ofW (cc := cX5_fill) (maxL := 4) (ret := none) (by decide) rfl (Nat.le_of_ble_eq_true rfl) ?_
  intro p e s m args below meth c A ls S hr hlk hnm hK hZ hA hW hS hl
  have hl : lv_has ls 4 [(0, .ref mo), (1, .int (nI k)), (2, .int (r)), (3, .int (b))] := hl
  have iX5 : ∀ w ∈ wsX50, w ∈ wsX5_fill := by decide +kernel
  refine lv_aload_n S.1 S.2.1 dX5_fill_0 rfl (lv_at hl 0 rfl) ?_
  refine mx_gA S hK hm hW 30 iX5 rfl (by decide) (by decide) (by decide +kernel) dX5_fill_1 ?_
  refine lv_iload_n S.1 S.2.1 dX5_fill_4 rfl (lv_at hl 1 rfl) ?_
  refine lv_iload_n S.1 S.2.1 dX5_fill_5 rfl (lv_at hl 2 rfl) ?_
  refine mx_ist S hK hm hW hS 30 (by decide) (k := k) (kw_ixof (k := k) (n := 20) rfl (by omega) (by decide)) dX5_fill_6 (fun x H locs hm hW hS => ?_)
  refine lv_aload_n S.1 S.2.1 dX5_fill_7 rfl (lv_at hl 0 rfl) ?_
  refine mx_gA S hK hm hW 31 iX5 rfl (by decide) (by decide) (by decide +kernel) dX5_fill_8 ?_
  refine lv_iload_n S.1 S.2.1 dX5_fill_11 rfl (lv_at hl 1 rfl) ?_
  refine lv_iload_n S.1 S.2.1 dX5_fill_12 rfl (lv_at hl 3 rfl) ?_
  refine mx_ist S hK hm hW hS 31 (by decide) (k := k) (kw_ixof (k := k) (n := 20) rfl (by omega) (by decide)) dX5_fill_13 (fun x H locs hm hW hS => ?_)
  refine lv_aload_n S.1 S.2.1 dX5_fill_14 rfl (lv_at hl 0 rfl) ?_
  refine mx_gA S hK hm hW 32 iX5 rfl (by decide) (by decide) (by decide +kernel) dX5_fill_15 ?_
  refine lv_iload_n S.1 S.2.1 dX5_fill_18 rfl (lv_at hl 1 rfl) ?_
  refine lv_ldc2 (v := 1000) S.1 S.2.1 S.2.2.2.1 (S.2.2.2.2 _ (by decide +kernel)) dX5_fill_19 ?_
  refine lv_iload_n S.1 S.2.1 dX5_fill_22 rfl (lv_at hl 3 rfl) ?_
  refine lv_i2l S.1 S.2.1 dX5_fill_23 rfl ?_
  refine lv_lmul S.1 S.2.1 dX5_fill_24 ?_
  refine mx_lst S hK hm hW hS 32 (by decide) (k := k) (kw_ixof (k := k) (n := 20) rfl (by omega) (by decide)) dX5_fill_25 (fun x H locs hm hW hS => ?_)
  refine kw_vret S hr hlk hW hS (by decide) (by decide) dX5_fill_26 ?_
  refine ⟨?_, rfl, hm.to ?_⟩ <;> first | rfl | (simp [m_fill, kw_b]; done) | (simp [m_fill, kw_b, tF_uF, tF_uL, tF_uA, tF_uB, tL_uF, tL_uL, tL_uA, tL_uB, tA_uF, tA_uL, tA_uA, tA_uB, tB_uF, tB_uL, tB_uA, tB_uB]; done)
theorem m_fill_F (t : mo_T) (k : Nat) (r b : Int32) (i : Nat) : tF (m_fill t k r b) i = tF t i := rfl
def m_gok (t : mo_T) (w c b : Int32) : Bool := !(decide (tF t 2 = 4)) && (kw_wi w 1 12 && (kw_wi c 0 1000 && kw_wi b 1500 20000))
def m_group (t : mo_T) (g : Nat) (w c b : Int32) : mo_T := if m_gok t w c b = true then uF (m_fill (uA t 9 g w) (8 + g) c b) 2 (nI (g + 1)) else t
set_option maxHeartbeats 1000000 in
set_option maxRecDepth 100000 in
/-- group -/
theorem c_X5_group (l : Launch) (G : kw_G) (nu : Nat → Option Nat) (x z : kw_St) (mo : Nat) (ma : Nat → Nat) (t : mo_T) (w : Int32) (ce : Int32) (b : Int32) (g : Nat) (hm : mw nu z mo ma t x) (hg : tF t 2 = nI g) (hg4 : g ≤ 4) : kw_M l G yX5_group wsX5_group { frames := 1, cells := 0, slots := 0, locals := 23 } 0 0 [.ref mo, .int (w), .int (ce), .int (b)] nu x (fun v nu' y => v = some (.int (if m_gok t w ce b = true then nI g else -1)) ∧ nu' = nu ∧ mw nu z mo ma (m_group t g w ce b) y) := by
  refine kw_M.ofW (cc := cX5_group) (maxL := 4) (ret := (some .int)) (by decide) rfl (Nat.le_of_ble_eq_true rfl) ?_
  intro p e s m args below meth c A ls S hr hlk hnm hK hZ hA hW hS hl
  have hl : lv_has ls 4 [(0, .ref mo), (1, .int (w)), (2, .int (ce)), (3, .int (b))] := hl
  have iX5 : ∀ w ∈ wsX50, w ∈ wsX5_group := by decide +kernel
  refine lv_aload_n S.1 S.2.1 dX5_group_0 rfl (lv_at hl 0 rfl) ?_
  refine mx_gI S hK hm hW 2 iX5 rfl (by decide) (by decide +kernel) dX5_group_1 (v := nI g) hg ?_
  refine lv_iconst (v := 4) S.1 S.2.1 dX5_group_4 (by decide) ?_
  refine lv_icmp_eq (tgt := 42) S.1 S.2.1 dX5_group_5 (by decide) (fun c1 => ?_) (fun c1 => ?_)
  · skip
    refine lv_iconst (v := (-1)) S.1 S.2.1 dX5_group_42 (by decide) ?_
    refine kw_iret S hr hlk hW hS (by decide) (by decide) dX5_group_43 ?_
    refine ⟨?_, rfl, hm.to ?_⟩ <;> first | rfl | (simp [m_gok, m_group, hg, nI_pred, c1, kw_b]; done) | (simp [m_gok, m_group, hg, nI_pred, c1, kw_b, tF_uF, tF_uL, tF_uA, tF_uB, tL_uF, tL_uL, tL_uA, tL_uB, tA_uF, tA_uL, tA_uA, tA_uB, tB_uF, tB_uL, tB_uA, tB_uB, m_fill_F]; done)
  · skip
    refine lv_iload_n S.1 S.2.1 dX5_group_8 rfl (lv_at hl 1 rfl) ?_
    refine lv_iconst (v := 1) S.1 S.2.1 dX5_group_9 (by decide) ?_
    refine lv_bipush (v := 12) S.1 S.2.1 dX5_group_10 (by decide) ?_
    refine kx_cS (As := [.int (w), .int (1), .int (12)]) (rest := []) (st1 := [.int (kw_b (kw_wi w 1 12 = true))]) S hK hZ hA hW hS (c_X5_in l G nu x w 1 12 ) (va_cwS 3 S.2.2.2.2 gX5_group_X5_in rfl rfl rfl (by decide +kernel) ⟨Nat.le_of_ble_eq_true rfl, Nat.le_of_ble_eq_true rfl⟩) rfl hl.1 rfl (Nat.le_of_ble_eq_true rfl) dX5_group_12 ⟨Nat.le_of_ble_eq_true rfl, Nat.le_of_ble_eq_true rfl⟩ rfl (fun H locs hW hS => ?_)
    refine kx_ifz_eq (tgt := 42) S dX5_group_15 (by decide) (fun c2 => ?_) (fun c2 => ?_)
    · skip
      refine lv_iconst (v := (-1)) S.1 S.2.1 dX5_group_42 (by decide) ?_
      refine kw_iret S hr hlk hW hS (by decide) (by decide) dX5_group_43 ?_
      refine ⟨?_, rfl, hm.to ?_⟩ <;> first | rfl | (simp [m_gok, m_group, hg, nI_pred, c1, c2, kw_b]; done) | (simp [m_gok, m_group, hg, nI_pred, c1, c2, kw_b, tF_uF, tF_uL, tF_uA, tF_uB, tL_uF, tL_uL, tL_uA, tL_uB, tA_uF, tA_uL, tA_uA, tA_uB, tB_uF, tB_uL, tB_uA, tB_uB, m_fill_F]; done)
    · skip
      refine lv_iload_n S.1 S.2.1 dX5_group_18 rfl (lv_at hl 2 rfl) ?_
      refine lv_iconst (v := 0) S.1 S.2.1 dX5_group_19 (by decide) ?_
      refine lv_sipush (v := 1000) S.1 S.2.1 dX5_group_20 (by decide) ?_
      refine kx_cS (As := [.int (ce), .int (0), .int (1000)]) (rest := []) (st1 := [.int (kw_b (kw_wi ce 0 1000 = true))]) S hK hZ hA hW hS (c_X5_in l G nu x ce 0 1000 ) (va_cwS 3 S.2.2.2.2 gX5_group_X5_in rfl rfl rfl (by decide +kernel) ⟨Nat.le_of_ble_eq_true rfl, Nat.le_of_ble_eq_true rfl⟩) rfl hl.1 rfl (Nat.le_of_ble_eq_true rfl) dX5_group_23 ⟨Nat.le_of_ble_eq_true rfl, Nat.le_of_ble_eq_true rfl⟩ rfl (fun H locs hW hS => ?_)
      refine kx_ifz_eq (tgt := 42) S dX5_group_26 (by decide) (fun c3 => ?_) (fun c3 => ?_)
      · skip
        refine lv_iconst (v := (-1)) S.1 S.2.1 dX5_group_42 (by decide) ?_
        refine kw_iret S hr hlk hW hS (by decide) (by decide) dX5_group_43 ?_
        refine ⟨?_, rfl, hm.to ?_⟩ <;> first | rfl | (simp [m_gok, m_group, hg, nI_pred, c1, c2, c3, kw_b]; done) | (simp [m_gok, m_group, hg, nI_pred, c1, c2, c3, kw_b, tF_uF, tF_uL, tF_uA, tF_uB, tL_uF, tL_uL, tL_uA, tL_uB, tA_uF, tA_uL, tA_uA, tA_uB, tB_uF, tB_uL, tB_uA, tB_uB, m_fill_F]; done)
      · skip
        refine lv_iload_n S.1 S.2.1 dX5_group_29 rfl (lv_at hl 3 rfl) ?_
        refine lv_sipush (v := 1500) S.1 S.2.1 dX5_group_30 (by decide) ?_
        refine lv_sipush (v := 20000) S.1 S.2.1 dX5_group_33 (by decide) ?_
        refine kx_cS (As := [.int (b), .int (1500), .int (20000)]) (rest := []) (st1 := [.int (kw_b (kw_wi b 1500 20000 = true))]) S hK hZ hA hW hS (c_X5_in l G nu x b 1500 20000 ) (va_cwS 3 S.2.2.2.2 gX5_group_X5_in rfl rfl rfl (by decide +kernel) ⟨Nat.le_of_ble_eq_true rfl, Nat.le_of_ble_eq_true rfl⟩) rfl hl.1 rfl (Nat.le_of_ble_eq_true rfl) dX5_group_36 ⟨Nat.le_of_ble_eq_true rfl, Nat.le_of_ble_eq_true rfl⟩ rfl (fun H locs hW hS => ?_)
        refine kx_ifz_ne (tgt := 44) S dX5_group_39 (by decide) (fun c4 => ?_) (fun c4 => ?_)
        · skip
          have hg5 : g < 4 := by
            rcases Nat.lt_or_ge g 4 with h | h
            · exact h
            · exact absurd (show nI g = 4 by rw [show g = 4 by omega]; rfl) (by assumption)
          refine lv_aload_n S.1 S.2.1 dX5_group_44 rfl (lv_at hl 0 rfl) ?_
          refine mx_gA S hK hm hW 9 iX5 rfl (by decide) (by decide) (by decide +kernel) dX5_group_45 ?_
          refine lv_aload_n S.1 S.2.1 dX5_group_48 rfl (lv_at hl 0 rfl) ?_
          refine mx_gI S hK hm hW 2 iX5 rfl (by decide) (by decide +kernel) dX5_group_49 (v := nI g) hg ?_
          refine lv_iload_n S.1 S.2.1 dX5_group_52 rfl (lv_at hl 1 rfl) ?_
          refine mx_ist S hK hm hW hS 9 (by decide) (k := g) (kw_ixof (k := g) (n := 4) rfl (by omega) (by decide)) dX5_group_53 (fun x H locs hm hW hS => ?_)
          refine lv_aload_n S.1 S.2.1 dX5_group_54 rfl (lv_at hl 0 rfl) ?_
          refine lv_bipush (v := 8) S.1 S.2.1 dX5_group_55 (by decide) ?_
          refine lv_aload_n S.1 S.2.1 dX5_group_57 rfl (lv_at hl 0 rfl) ?_
          refine mx_gI S hK hm hW 2 iX5 rfl (by decide) (by decide +kernel) dX5_group_58 (v := nI g) (Eq.trans (b := tF t 2) (by simp [tF_uF, tF_uL, tF_uA, tF_uB, tL_uF, tL_uL, tL_uA, tL_uB, tA_uF, tA_uL, tA_uA, tA_uB, tB_uF, tB_uL, tB_uA, tB_uB, m_fill_F]) hg) ?_
          refine lv_iadd S.1 S.2.1 dX5_group_61 ?_
          rw [show (8 : Int32) + nI g = nI (8 + g) from nI_add (8) (g)]
          refine lv_iload_n S.1 S.2.1 dX5_group_62 rfl (lv_at hl 2 rfl) ?_
          refine lv_iload_n S.1 S.2.1 dX5_group_63 rfl (lv_at hl 3 rfl) ?_
          refine mx_cV (As := [.int (nI (8 + g)), .int (ce), .int (b)]) (rest := []) (st1 := []) S hK hZ hA hm hW hS (c_X5_fill l G nu x z mo ma (uA t 9 (g) (w)) (8 + g) ce b hm (by omega)) (cwV 3 S.2.2.2.2 gX5_group_X5_fill rfl rfl rfl (by decide +kernel) ⟨Nat.le_of_ble_eq_true rfl, Nat.le_of_ble_eq_true rfl⟩) rfl hl.1 rfl (Nat.le_of_ble_eq_true rfl) dX5_group_64 ⟨Nat.le_of_ble_eq_true rfl, Nat.le_of_ble_eq_true rfl⟩ rfl (fun x H locs hm hW hS => ?_)
          refine lv_aload_n S.1 S.2.1 dX5_group_67 rfl (lv_at hl 0 rfl) ?_
          refine lv_dup S.1 S.2.1 dX5_group_68 rfl ?_
          refine mx_gI S hK hm hW 2 iX5 rfl (by decide) (by decide +kernel) dX5_group_69 (v := nI g) (Eq.trans (b := tF t 2) (by simp [tF_uF, tF_uL, tF_uA, tF_uB, tL_uF, tL_uL, tL_uA, tL_uB, tA_uF, tA_uL, tA_uA, tA_uB, tB_uF, tB_uL, tB_uA, tB_uB, m_fill_F]) hg) ?_
          refine lv_iconst (v := 1) S.1 S.2.1 dX5_group_72 (by decide) ?_
          refine lv_iadd S.1 S.2.1 dX5_group_73 ?_
          rw [show (nI g : Int32) + 1 = nI (g + 1) from nI_add (g) (1)]
          refine mx_pI S hK hm hW hS 2 iX5 rfl (by decide) (by decide +kernel) rfl rfl dX5_group_74 (fun x H locs hm hW hS => ?_)
          refine lv_aload_n S.1 S.2.1 dX5_group_77 rfl (lv_at hl 0 rfl) ?_
          refine mx_gI S hK hm hW 2 iX5 rfl (by decide) (by decide +kernel) dX5_group_78 (v := nI (g + 1)) (by simp [tF_uF, tF_uL, tF_uA, tF_uB, tL_uF, tL_uL, tL_uA, tL_uB, tA_uF, tA_uL, tA_uA, tA_uB, tB_uF, tB_uL, tB_uA, tB_uB, m_fill_F]) ?_
          refine lv_iconst (v := 1) S.1 S.2.1 dX5_group_81 (by decide) ?_
          refine lv_isub S.1 S.2.1 dX5_group_82 ?_
          refine kw_iret S hr hlk hW hS (by decide) (by decide) dX5_group_83 ?_
          refine ⟨?_, rfl, hm.to ?_⟩ <;> first | rfl | (simp [m_gok, m_group, hg, nI_pred, c1, c2, c3, c4, kw_b]; done) | (simp [m_gok, m_group, hg, nI_pred, c1, c2, c3, c4, kw_b, tF_uF, tF_uL, tF_uA, tF_uB, tL_uF, tL_uL, tL_uA, tL_uB, tA_uF, tA_uL, tA_uA, tA_uB, tB_uF, tB_uL, tB_uA, tB_uB, m_fill_F]; done)
        · skip
          refine lv_iconst (v := (-1)) S.1 S.2.1 dX5_group_42 (by decide) ?_
          refine kw_iret S hr hlk hW hS (by decide) (by decide) dX5_group_43 ?_
          refine ⟨?_, rfl, hm.to ?_⟩ <;> first | rfl | (simp [m_gok, m_group, hg, nI_pred, c1, c2, c3, c4, kw_b]; done) | (simp [m_gok, m_group, hg, nI_pred, c1, c2, c3, c4, kw_b, tF_uF, tF_uL, tF_uA, tF_uB, tL_uF, tL_uL, tL_uA, tL_uB, tA_uF, tA_uL, tA_uA, tA_uB, tB_uF, tB_uL, tB_uA, tB_uB, m_fill_F]; done)
set_option maxHeartbeats 1000000 in
set_option maxRecDepth 100000 in
/-- startOf -/
theorem c_X5_startOf (l : Launch) (G : kw_G) (nu : Nat → Option Nat) (x z : kw_St) (mo : Nat) (ma : Nat → Nat) (t : mo_T) (k : Nat) (pk : Nat) (hm : mw nu z mo ma t x) (hk : k < 8) (hp : tA t 17 k = nI pk) (hpk : pk < 1000) : kw_M l G yX5_startOf wsX5_startOf { frames := 0, cells := 0, slots := 0, locals := 0 } 0 0 [.ref mo, .int (nI k)] nu x (fun v nu' y => v = some (.int (if tA t 25 k ≤ tA t 35 pk then tA t 35 pk else tA t 25 k)) ∧ nu' = nu ∧ mw nu z mo ma (t) y) := by
  refine kw_M.ofW (cc := cX5_startOf) (maxL := 3) (ret := (some .int)) (by decide) rfl (Nat.le_of_ble_eq_true rfl) ?_
  intro p e s m args below meth c A ls S hr hlk hnm hK hZ hA hW hS hl
  have hl : lv_has ls 3 [(0, .ref mo), (1, .int (nI k))] := hl
  have iX5 : ∀ w ∈ wsX50, w ∈ wsX5_startOf := by decide +kernel
  refine lv_aload_n S.1 S.2.1 dX5_startOf_0 rfl (lv_at hl 0 rfl) ?_
  refine mx_gA S hK hm hW 35 iX5 rfl (by decide) (by decide) (by decide +kernel) dX5_startOf_1 ?_
  refine lv_aload_n S.1 S.2.1 dX5_startOf_4 rfl (lv_at hl 0 rfl) ?_
  refine mx_gA S hK hm hW 17 iX5 rfl (by decide) (by decide) (by decide +kernel) dX5_startOf_5 ?_
  refine lv_iload_n S.1 S.2.1 dX5_startOf_8 rfl (lv_at hl 1 rfl) ?_
  refine mx_ild S hK hm hW 17 (by decide) (k := k) (kw_ixof (k := k) (n := 8) rfl (by omega) (by decide)) dX5_startOf_9 (v := nI pk) hp ?_
  refine mx_ild S hK hm hW 35 (by decide) (k := pk) (kw_ixof (k := pk) (n := 1000) rfl (by omega) (by decide)) dX5_startOf_10 (v := tA t 35 pk) rfl ?_
  refine lv_istore_n (lv' := [(2, .int (tA t 35 pk)), (0, .ref mo), (1, .int (nI k))]) S.1 S.2.1 dX5_startOf_11 rfl hl (by decide) rfl (fun ls hl => ?_)
  refine lv_aload_n S.1 S.2.1 dX5_startOf_12 rfl (lv_at hl 1 rfl) ?_
  refine mx_gA S hK hm hW 25 iX5 rfl (by decide) (by decide) (by decide +kernel) dX5_startOf_13 ?_
  refine lv_iload_n S.1 S.2.1 dX5_startOf_16 rfl (lv_at hl 2 rfl) ?_
  refine mx_ild S hK hm hW 25 (by decide) (k := k) (kw_ixof (k := k) (n := 8) rfl (by omega) (by decide)) dX5_startOf_17 (v := tA t 25 k) rfl ?_
  refine lv_iload_n S.1 S.2.1 dX5_startOf_18 rfl (lv_at hl 0 rfl) ?_
  refine lv_icmp_le (tgt := 31) S.1 S.2.1 dX5_startOf_19 (by decide) (fun c1 => ?_) (fun c1 => ?_)
  · skip
    refine lv_iload_n S.1 S.2.1 dX5_startOf_31 rfl (lv_at hl 0 rfl) ?_
    refine kw_iret S hr hlk hW hS (by decide) (by decide) dX5_startOf_32 ?_
    refine ⟨?_, rfl, hm.to ?_⟩ <;> first | rfl | (simp [c1, kw_b]; done) | (simp [c1, kw_b, tF_uF, tF_uL, tF_uA, tF_uB, tL_uF, tL_uL, tL_uA, tL_uB, tA_uF, tA_uL, tA_uA, tA_uB, tB_uF, tB_uL, tB_uA, tB_uB]; done)
  · skip
    refine lv_aload_n S.1 S.2.1 dX5_startOf_22 rfl (lv_at hl 1 rfl) ?_
    refine mx_gA S hK hm hW 25 iX5 rfl (by decide) (by decide) (by decide +kernel) dX5_startOf_23 ?_
    refine lv_iload_n S.1 S.2.1 dX5_startOf_26 rfl (lv_at hl 2 rfl) ?_
    refine mx_ild S hK hm hW 25 (by decide) (k := k) (kw_ixof (k := k) (n := 8) rfl (by omega) (by decide)) dX5_startOf_27 (v := tA t 25 k) rfl ?_
    refine lv_goto (tgt := 32) S.1 S.2.1 dX5_startOf_28 (by decide) ?_
    refine kw_iret S hr hlk hW hS (by decide) (by decide) dX5_startOf_32 ?_
    refine ⟨?_, rfl, hm.to ?_⟩ <;> first | rfl | (simp [c1, kw_b]; done) | (simp [c1, kw_b, tF_uF, tF_uL, tF_uA, tF_uB, tL_uF, tL_uL, tL_uA, tL_uB, tA_uF, tA_uL, tA_uA, tA_uB, tB_uF, tB_uL, tB_uA, tB_uB]; done)
set_option maxHeartbeats 1000000 in
set_option maxRecDepth 100000 in
/-- deadlineOf -/
theorem c_X5_deadlineOf (l : Launch) (G : kw_G) (nu : Nat → Option Nat) (x z : kw_St) (mo : Nat) (ma : Nat → Nat) (t : mo_T) (k : Nat) (pk : Nat) (hm : mw nu z mo ma t x) (hk : k < 8) (hp : tA t 17 k = nI pk) (hpk : pk < 1000) (hgu : 0 < tA t 15 k) : kw_M l G yX5_deadlineOf wsX5_deadlineOf { frames := 1, cells := 0, slots := 0, locals := 22 } 0 0 [.ref mo, .int (nI k)] nu x (fun v nu' y => v = some (.int ((if tA t 25 k ≤ tA t 35 pk then tA t 35 pk else tA t 25 k) + (1000 * tA t 34 pk + tA t 15 k - 1) / tA t 15 k)) ∧ nu' = nu ∧ mw nu z mo ma (t) y) := by
  refine kw_M.ofW (cc := cX5_deadlineOf) (maxL := 3) (ret := (some .int)) (by decide) rfl (Nat.le_of_ble_eq_true rfl) ?_
  intro p e s m args below meth c A ls S hr hlk hnm hK hZ hA hW hS hl
  have hl : lv_has ls 3 [(0, .ref mo), (1, .int (nI k))] := hl
  have iX5 : ∀ w ∈ wsX50, w ∈ wsX5_deadlineOf := by decide +kernel
  refine lv_aload_n S.1 S.2.1 dX5_deadlineOf_0 rfl (lv_at hl 0 rfl) ?_
  refine mx_gA S hK hm hW 15 iX5 rfl (by decide) (by decide) (by decide +kernel) dX5_deadlineOf_1 ?_
  refine lv_iload_n S.1 S.2.1 dX5_deadlineOf_4 rfl (lv_at hl 1 rfl) ?_
  refine mx_ild S hK hm hW 15 (by decide) (k := k) (kw_ixof (k := k) (n := 8) rfl (by omega) (by decide)) dX5_deadlineOf_5 (v := tA t 15 k) rfl ?_
  refine lv_istore_n (lv' := [(2, .int (tA t 15 k)), (0, .ref mo), (1, .int (nI k))]) S.1 S.2.1 dX5_deadlineOf_6 rfl hl (by decide) rfl (fun ls hl => ?_)
  refine lv_aload_n S.1 S.2.1 dX5_deadlineOf_7 rfl (lv_at hl 1 rfl) ?_
  refine lv_iload_n S.1 S.2.1 dX5_deadlineOf_8 rfl (lv_at hl 2 rfl) ?_
  refine mx_cV (As := [.int (nI k)]) (rest := []) (st1 := [.int (if tA t 25 k ≤ tA t 35 pk then tA t 35 pk else tA t 25 k)]) S hK hZ hA hm hW hS (c_X5_startOf l G nu x z mo ma t k pk hm hk hp hpk) (cwV 1 S.2.2.2.2 gX5_deadlineOf_X5_startOf rfl rfl rfl (by decide +kernel) ⟨Nat.le_of_ble_eq_true rfl, Nat.le_of_ble_eq_true rfl⟩) rfl hl.1 rfl (Nat.le_of_ble_eq_true rfl) dX5_deadlineOf_9 ⟨Nat.le_of_ble_eq_true rfl, Nat.le_of_ble_eq_true rfl⟩ rfl (fun x H locs hm hW hS => ?_)
  refine lv_sipush (v := 1000) S.1 S.2.1 dX5_deadlineOf_12 (by decide) ?_
  refine lv_aload_n S.1 S.2.1 dX5_deadlineOf_15 rfl (lv_at hl 1 rfl) ?_
  refine mx_gA S hK hm hW 34 iX5 rfl (by decide) (by decide) (by decide +kernel) dX5_deadlineOf_16 ?_
  refine lv_aload_n S.1 S.2.1 dX5_deadlineOf_19 rfl (lv_at hl 1 rfl) ?_
  refine mx_gA S hK hm hW 17 iX5 rfl (by decide) (by decide) (by decide +kernel) dX5_deadlineOf_20 ?_
  refine lv_iload_n S.1 S.2.1 dX5_deadlineOf_23 rfl (lv_at hl 2 rfl) ?_
  refine mx_ild S hK hm hW 17 (by decide) (k := k) (kw_ixof (k := k) (n := 8) rfl (by omega) (by decide)) dX5_deadlineOf_24 (v := nI pk) hp ?_
  refine mx_ild S hK hm hW 34 (by decide) (k := pk) (kw_ixof (k := pk) (n := 1000) rfl (by omega) (by decide)) dX5_deadlineOf_25 (v := tA t 34 pk) rfl ?_
  refine lv_imul S.1 S.2.1 dX5_deadlineOf_26 ?_
  refine lv_iload_n S.1 S.2.1 dX5_deadlineOf_27 rfl (lv_at hl 0 rfl) ?_
  refine lv_iadd S.1 S.2.1 dX5_deadlineOf_28 ?_
  refine lv_iconst (v := 1) S.1 S.2.1 dX5_deadlineOf_29 (by decide) ?_
  refine lv_isub S.1 S.2.1 dX5_deadlineOf_30 ?_
  refine lv_iload_n S.1 S.2.1 dX5_deadlineOf_31 rfl (lv_at hl 0 rfl) ?_
  refine lv_idiv S.1 S.2.1 dX5_deadlineOf_32 (kw_d1 hgu) ?_
  refine lv_iadd S.1 S.2.1 dX5_deadlineOf_33 ?_
  refine kw_iret S hr hlk hW hS (by decide) (by decide) dX5_deadlineOf_34 ?_
  refine ⟨?_, rfl, hm.to ?_⟩ <;> first | rfl | (simp [kw_b]; done) | (simp [kw_b, tF_uF, tF_uL, tF_uA, tF_uB, tL_uF, tL_uL, tL_uA, tL_uB, tA_uF, tA_uL, tA_uA, tA_uB, tB_uF, tB_uL, tB_uA, tB_uB]; done)
set_option maxHeartbeats 1000000 in
set_option maxRecDepth 100000 in
/-- tagOf -/
theorem c_X5_tagOf (l : Launch) (G : kw_G) (nu : Nat → Option Nat) (x z : kw_St) (mo : Nat) (ma : Nat → Nat) (t : mo_T) (k : Nat) (pk : Nat) (hm : mw nu z mo ma t x) (hk : k < 8) (hp : tA t 17 k = nI pk) (hpk : pk < 1000) (hwe : 0 < tA t 14 k) : kw_M l G yX5_tagOf wsX5_tagOf { frames := 0, cells := 0, slots := 0, locals := 0 } 0 0 [.ref mo, .int (nI k)] nu x (fun v nu' y => v = some (.long (tB t 27 k + 27720 / (tA t 14 k).toInt64 * (tA t 34 pk).toInt64)) ∧ nu' = nu ∧ mw nu z mo ma (t) y) := by
  refine kw_M.ofW (cc := cX5_tagOf) (maxL := 2) (ret := (some .long)) (by decide) rfl (Nat.le_of_ble_eq_true rfl) ?_
  intro p e s m args below meth c A ls S hr hlk hnm hK hZ hA hW hS hl
  have hl : lv_has ls 2 [(0, .ref mo), (1, .int (nI k))] := hl
  have iX5 : ∀ w ∈ wsX50, w ∈ wsX5_tagOf := by decide +kernel
  refine lv_aload_n S.1 S.2.1 dX5_tagOf_0 rfl (lv_at hl 0 rfl) ?_
  refine mx_gA S hK hm hW 27 iX5 rfl (by decide) (by decide) (by decide +kernel) dX5_tagOf_1 ?_
  refine lv_iload_n S.1 S.2.1 dX5_tagOf_4 rfl (lv_at hl 1 rfl) ?_
  refine mx_lld S hK hm hW 27 (by decide) (k := k) (kw_ixof (k := k) (n := 8) rfl (by omega) (by decide)) dX5_tagOf_5 (v := tB t 27 k) rfl ?_
  refine lv_ldc2 (v := 27720) S.1 S.2.1 S.2.2.2.1 (S.2.2.2.2 _ (by decide +kernel)) dX5_tagOf_6 ?_
  refine lv_aload_n S.1 S.2.1 dX5_tagOf_9 rfl (lv_at hl 0 rfl) ?_
  refine mx_gA S hK hm hW 14 iX5 rfl (by decide) (by decide) (by decide +kernel) dX5_tagOf_10 ?_
  refine lv_iload_n S.1 S.2.1 dX5_tagOf_13 rfl (lv_at hl 1 rfl) ?_
  refine mx_ild S hK hm hW 14 (by decide) (k := k) (kw_ixof (k := k) (n := 8) rfl (by omega) (by decide)) dX5_tagOf_14 (v := tA t 14 k) rfl ?_
  refine lv_i2l S.1 S.2.1 dX5_tagOf_15 rfl ?_
  refine lv_ldiv S.1 S.2.1 dX5_tagOf_16 (kw_d0 hwe) ?_
  refine lv_aload_n S.1 S.2.1 dX5_tagOf_17 rfl (lv_at hl 0 rfl) ?_
  refine mx_gA S hK hm hW 34 iX5 rfl (by decide) (by decide) (by decide +kernel) dX5_tagOf_18 ?_
  refine lv_aload_n S.1 S.2.1 dX5_tagOf_21 rfl (lv_at hl 0 rfl) ?_
  refine mx_gA S hK hm hW 17 iX5 rfl (by decide) (by decide) (by decide +kernel) dX5_tagOf_22 ?_
  refine lv_iload_n S.1 S.2.1 dX5_tagOf_25 rfl (lv_at hl 1 rfl) ?_
  refine mx_ild S hK hm hW 17 (by decide) (k := k) (kw_ixof (k := k) (n := 8) rfl (by omega) (by decide)) dX5_tagOf_26 (v := nI pk) hp ?_
  refine mx_ild S hK hm hW 34 (by decide) (k := pk) (kw_ixof (k := pk) (n := 1000) rfl (by omega) (by decide)) dX5_tagOf_27 (v := tA t 34 pk) rfl ?_
  refine lv_i2l S.1 S.2.1 dX5_tagOf_28 rfl ?_
  refine lv_lmul S.1 S.2.1 dX5_tagOf_29 ?_
  refine lv_ladd S.1 S.2.1 dX5_tagOf_30 ?_
  refine kw_lret S hr hlk hW hS (by decide) (by decide) dX5_tagOf_31 ?_
  refine ⟨?_, rfl, hm.to ?_⟩ <;> first | rfl | (simp [kw_b]; done) | (simp [kw_b, tF_uF, tF_uL, tF_uA, tF_uB, tL_uF, tL_uL, tL_uA, tL_uB, tA_uF, tA_uL, tA_uA, tA_uB, tB_uF, tB_uL, tB_uA, tB_uB]; done)
set_option maxHeartbeats 1000000 in
set_option maxRecDepth 100000 in
/-- groupTagOf -/
theorem c_X5_groupTagOf (l : Launch) (G : kw_G) (nu : Nat → Option Nat) (x z : kw_St) (mo : Nat) (ma : Nat → Nat) (t : mo_T) (k : Nat) (pk : Nat) (g : Nat) (hm : mw nu z mo ma t x) (hk : k < 8) (hp : tA t 17 k = nI pk) (hpk : pk < 1000) (hg : tA t 13 k = nI g) (hg4 : g < 4) (hwe : 0 < tA t 9 g) : kw_M l G yX5_groupTagOf wsX5_groupTagOf { frames := 0, cells := 0, slots := 0, locals := 0 } 0 0 [.ref mo, .int (nI k)] nu x (fun v nu' y => v = some (.long (tB t 10 g + 27720 / (tA t 9 g).toInt64 * (tA t 34 pk).toInt64)) ∧ nu' = nu ∧ mw nu z mo ma (t) y) := by
  refine kw_M.ofW (cc := cX5_groupTagOf) (maxL := 3) (ret := (some .long)) (by decide) rfl (Nat.le_of_ble_eq_true rfl) ?_
  intro p e s m args below meth c A ls S hr hlk hnm hK hZ hA hW hS hl
  have hl : lv_has ls 3 [(0, .ref mo), (1, .int (nI k))] := hl
  have iX5 : ∀ w ∈ wsX50, w ∈ wsX5_groupTagOf := by decide +kernel
  refine lv_aload_n S.1 S.2.1 dX5_groupTagOf_0 rfl (lv_at hl 0 rfl) ?_
  refine mx_gA S hK hm hW 13 iX5 rfl (by decide) (by decide) (by decide +kernel) dX5_groupTagOf_1 ?_
  refine lv_iload_n S.1 S.2.1 dX5_groupTagOf_4 rfl (lv_at hl 1 rfl) ?_
  refine mx_ild S hK hm hW 13 (by decide) (k := k) (kw_ixof (k := k) (n := 8) rfl (by omega) (by decide)) dX5_groupTagOf_5 (v := nI g) hg ?_
  refine lv_istore_n (lv' := [(2, .int (nI g)), (0, .ref mo), (1, .int (nI k))]) S.1 S.2.1 dX5_groupTagOf_6 rfl hl (by decide) rfl (fun ls hl => ?_)
  refine lv_aload_n S.1 S.2.1 dX5_groupTagOf_7 rfl (lv_at hl 1 rfl) ?_
  refine mx_gA S hK hm hW 10 iX5 rfl (by decide) (by decide) (by decide +kernel) dX5_groupTagOf_8 ?_
  refine lv_iload_n S.1 S.2.1 dX5_groupTagOf_11 rfl (lv_at hl 0 rfl) ?_
  refine mx_lld S hK hm hW 10 (by decide) (k := g) (kw_ixof (k := g) (n := 4) rfl (by omega) (by decide)) dX5_groupTagOf_12 (v := tB t 10 g) rfl ?_
  refine lv_ldc2 (v := 27720) S.1 S.2.1 S.2.2.2.1 (S.2.2.2.2 _ (by decide +kernel)) dX5_groupTagOf_13 ?_
  refine lv_aload_n S.1 S.2.1 dX5_groupTagOf_16 rfl (lv_at hl 1 rfl) ?_
  refine mx_gA S hK hm hW 9 iX5 rfl (by decide) (by decide) (by decide +kernel) dX5_groupTagOf_17 ?_
  refine lv_iload_n S.1 S.2.1 dX5_groupTagOf_20 rfl (lv_at hl 0 rfl) ?_
  refine mx_ild S hK hm hW 9 (by decide) (k := g) (kw_ixof (k := g) (n := 4) rfl (by omega) (by decide)) dX5_groupTagOf_21 (v := tA t 9 g) rfl ?_
  refine lv_i2l S.1 S.2.1 dX5_groupTagOf_22 rfl ?_
  refine lv_ldiv S.1 S.2.1 dX5_groupTagOf_23 (kw_d0 hwe) ?_
  refine lv_aload_n S.1 S.2.1 dX5_groupTagOf_24 rfl (lv_at hl 1 rfl) ?_
  refine mx_gA S hK hm hW 34 iX5 rfl (by decide) (by decide) (by decide +kernel) dX5_groupTagOf_25 ?_
  refine lv_aload_n S.1 S.2.1 dX5_groupTagOf_28 rfl (lv_at hl 1 rfl) ?_
  refine mx_gA S hK hm hW 17 iX5 rfl (by decide) (by decide) (by decide +kernel) dX5_groupTagOf_29 ?_
  refine lv_iload_n S.1 S.2.1 dX5_groupTagOf_32 rfl (lv_at hl 2 rfl) ?_
  refine mx_ild S hK hm hW 17 (by decide) (k := k) (kw_ixof (k := k) (n := 8) rfl (by omega) (by decide)) dX5_groupTagOf_33 (v := nI pk) hp ?_
  refine mx_ild S hK hm hW 34 (by decide) (k := pk) (kw_ixof (k := pk) (n := 1000) rfl (by omega) (by decide)) dX5_groupTagOf_34 (v := tA t 34 pk) rfl ?_
  refine lv_i2l S.1 S.2.1 dX5_groupTagOf_35 rfl ?_
  refine lv_lmul S.1 S.2.1 dX5_groupTagOf_36 ?_
  refine lv_ladd S.1 S.2.1 dX5_groupTagOf_37 ?_
  refine kw_lret S hr hlk hW hS (by decide) (by decide) dX5_groupTagOf_38 ?_
  refine ⟨?_, rfl, hm.to ?_⟩ <;> first | rfl | (simp [kw_b]; done) | (simp [kw_b, tF_uF, tF_uL, tF_uA, tF_uB, tL_uF, tL_uL, tL_uA, tL_uB, tA_uF, tA_uL, tA_uA, tA_uB, tB_uF, tB_uL, tB_uA, tB_uB]; done)
def m_goes (t : mo_T) (k pk g nb : Nat) (w : Int32) : mo_T := uB (uB (uF (uF (uF (uA (uA (uA (uA (uA (uA t 17 k (tA t 39 pk)) 19 k (tA t 19 k - 1)) 20 k (tA t 20 k - tA t 34 pk)) 36 pk (tF t 1)) 37 pk w) 40 nb (nI pk)) 5 (nI (nb + 1))) 8 (nI pk)) 7 (tA t 34 pk)) 32 k (tB t 32 k - 1000 * (tA t 34 pk).toInt64)) 32 (8 + g) (tB t 32 (8 + g) - 1000 * (tA t 34 pk).toInt64)
set_option maxHeartbeats 1000000 in
set_option maxRecDepth 100000 in
/-- goes -/
theorem c_X5_goes (l : Launch) (G : kw_G) (nu : Nat → Option Nat) (x z : kw_St) (mo : Nat) (ma : Nat → Nat) (t : mo_T) (k : Nat) (w : Int32) (pk : Nat) (g : Nat) (nb : Nat) (hm : mw nu z mo ma t x) (hk : k < 8) (hp : tA t 17 k = nI pk) (hpk : pk < 1000) (hg : tA t 13 k = nI g) (hg4 : g < 4) (hb : tF t 5 = nI nb) (hb9 : nb < 1000) : kw_M l G yX5_goes wsX5_goes { frames := 0, cells := 0, slots := 0, locals := 0 } 0 0 [.ref mo, .int (nI k), .int (w)] nu x (fun v nu' y => v = some (.int (nI pk)) ∧ nu' = nu ∧ mw nu z mo ma (m_goes t k pk g nb w) y) := by
  refine kw_M.ofW (cc := cX5_goes) (maxL := 4) (ret := (some .int)) (by decide) rfl (Nat.le_of_ble_eq_true rfl) ?_
  intro p e s m args below meth c A ls S hr hlk hnm hK hZ hA hW hS hl
  have hl : lv_has ls 4 [(0, .ref mo), (1, .int (nI k)), (2, .int (w))] := hl
  have iX5 : ∀ w ∈ wsX50, w ∈ wsX5_goes := by decide +kernel
  refine lv_aload_n S.1 S.2.1 dX5_goes_0 rfl (lv_at hl 0 rfl) ?_
  refine mx_gA S hK hm hW 17 iX5 rfl (by decide) (by decide) (by decide +kernel) dX5_goes_1 ?_
  refine lv_iload_n S.1 S.2.1 dX5_goes_4 rfl (lv_at hl 1 rfl) ?_
  refine mx_ild S hK hm hW 17 (by decide) (k := k) (kw_ixof (k := k) (n := 8) rfl (by omega) (by decide)) dX5_goes_5 (v := nI pk) hp ?_
  refine lv_istore_n (lv' := [(3, .int (nI pk)), (0, .ref mo), (1, .int (nI k)), (2, .int (w))]) S.1 S.2.1 dX5_goes_6 rfl hl (by decide) rfl (fun ls hl => ?_)
  refine lv_aload_n S.1 S.2.1 dX5_goes_7 rfl (lv_at hl 1 rfl) ?_
  refine mx_gA S hK hm hW 17 iX5 rfl (by decide) (by decide) (by decide +kernel) dX5_goes_8 ?_
  refine lv_iload_n S.1 S.2.1 dX5_goes_11 rfl (lv_at hl 2 rfl) ?_
  refine lv_aload_n S.1 S.2.1 dX5_goes_12 rfl (lv_at hl 1 rfl) ?_
  refine mx_gA S hK hm hW 39 iX5 rfl (by decide) (by decide) (by decide +kernel) dX5_goes_13 ?_
  refine lv_iload_n S.1 S.2.1 dX5_goes_16 rfl (lv_at hl 0 rfl) ?_
  refine mx_ild S hK hm hW 39 (by decide) (k := pk) (kw_ixof (k := pk) (n := 1000) rfl (by omega) (by decide)) dX5_goes_17 (v := tA t 39 pk) rfl ?_
  refine mx_ist S hK hm hW hS 17 (by decide) (k := k) (kw_ixof (k := k) (n := 8) rfl (by omega) (by decide)) dX5_goes_18 (fun x H locs hm hW hS => ?_)
  refine lv_aload_n S.1 S.2.1 dX5_goes_19 rfl (lv_at hl 1 rfl) ?_
  refine mx_gA S hK hm hW 19 iX5 rfl (by decide) (by decide) (by decide +kernel) dX5_goes_20 ?_
  refine lv_iload_n S.1 S.2.1 dX5_goes_23 rfl (lv_at hl 2 rfl) ?_
  refine lv_dup2_11 S.1 S.2.1 dX5_goes_24 rfl rfl ?_
  refine mx_ild S hK hm hW 19 (by decide) (k := k) (kw_ixof (k := k) (n := 8) rfl (by omega) (by decide)) dX5_goes_25 (v := tA t 19 k) (by simp [tF_uF, tF_uL, tF_uA, tF_uB, tL_uF, tL_uL, tL_uA, tL_uB, tA_uF, tA_uL, tA_uA, tA_uB, tB_uF, tB_uL, tB_uA, tB_uB, (show ¬ 8 + g = k by omega), (show ¬ k = 8 + g by omega)]) ?_
  refine lv_iconst (v := 1) S.1 S.2.1 dX5_goes_26 (by decide) ?_
  refine lv_isub S.1 S.2.1 dX5_goes_27 ?_
  refine mx_ist S hK hm hW hS 19 (by decide) (k := k) (kw_ixof (k := k) (n := 8) rfl (by omega) (by decide)) dX5_goes_28 (fun x H locs hm hW hS => ?_)
  refine lv_aload_n S.1 S.2.1 dX5_goes_29 rfl (lv_at hl 1 rfl) ?_
  refine mx_gA S hK hm hW 20 iX5 rfl (by decide) (by decide) (by decide +kernel) dX5_goes_30 ?_
  refine lv_iload_n S.1 S.2.1 dX5_goes_33 rfl (lv_at hl 2 rfl) ?_
  refine lv_dup2_11 S.1 S.2.1 dX5_goes_34 rfl rfl ?_
  refine mx_ild S hK hm hW 20 (by decide) (k := k) (kw_ixof (k := k) (n := 8) rfl (by omega) (by decide)) dX5_goes_35 (v := tA t 20 k) (by simp [tF_uF, tF_uL, tF_uA, tF_uB, tL_uF, tL_uL, tL_uA, tL_uB, tA_uF, tA_uL, tA_uA, tA_uB, tB_uF, tB_uL, tB_uA, tB_uB, (show ¬ 8 + g = k by omega), (show ¬ k = 8 + g by omega)]) ?_
  refine lv_aload_n S.1 S.2.1 dX5_goes_36 rfl (lv_at hl 1 rfl) ?_
  refine mx_gA S hK hm hW 34 iX5 rfl (by decide) (by decide) (by decide +kernel) dX5_goes_37 ?_
  refine lv_iload_n S.1 S.2.1 dX5_goes_40 rfl (lv_at hl 0 rfl) ?_
  refine mx_ild S hK hm hW 34 (by decide) (k := pk) (kw_ixof (k := pk) (n := 1000) rfl (by omega) (by decide)) dX5_goes_41 (v := tA t 34 pk) (by simp [tF_uF, tF_uL, tF_uA, tF_uB, tL_uF, tL_uL, tL_uA, tL_uB, tA_uF, tA_uL, tA_uA, tA_uB, tB_uF, tB_uL, tB_uA, tB_uB, (show ¬ 8 + g = k by omega), (show ¬ k = 8 + g by omega)]) ?_
  refine lv_isub S.1 S.2.1 dX5_goes_42 ?_
  refine mx_ist S hK hm hW hS 20 (by decide) (k := k) (kw_ixof (k := k) (n := 8) rfl (by omega) (by decide)) dX5_goes_43 (fun x H locs hm hW hS => ?_)
  refine lv_aload_n S.1 S.2.1 dX5_goes_44 rfl (lv_at hl 1 rfl) ?_
  refine mx_gA S hK hm hW 36 iX5 rfl (by decide) (by decide) (by decide +kernel) dX5_goes_45 ?_
  refine lv_iload_n S.1 S.2.1 dX5_goes_48 rfl (lv_at hl 0 rfl) ?_
  refine lv_aload_n S.1 S.2.1 dX5_goes_49 rfl (lv_at hl 1 rfl) ?_
  refine mx_gI S hK hm hW 1 iX5 rfl (by decide) (by decide +kernel) dX5_goes_50 (v := tF t 1) (by simp [tF_uF, tF_uL, tF_uA, tF_uB, tL_uF, tL_uL, tL_uA, tL_uB, tA_uF, tA_uL, tA_uA, tA_uB, tB_uF, tB_uL, tB_uA, tB_uB, (show ¬ 8 + g = k by omega), (show ¬ k = 8 + g by omega)]) ?_
  refine mx_ist S hK hm hW hS 36 (by decide) (k := pk) (kw_ixof (k := pk) (n := 1000) rfl (by omega) (by decide)) dX5_goes_53 (fun x H locs hm hW hS => ?_)
  refine lv_aload_n S.1 S.2.1 dX5_goes_54 rfl (lv_at hl 1 rfl) ?_
  refine mx_gA S hK hm hW 37 iX5 rfl (by decide) (by decide) (by decide +kernel) dX5_goes_55 ?_
  refine lv_iload_n S.1 S.2.1 dX5_goes_58 rfl (lv_at hl 0 rfl) ?_
  refine lv_iload_n S.1 S.2.1 dX5_goes_59 rfl (lv_at hl 3 rfl) ?_
  refine mx_ist S hK hm hW hS 37 (by decide) (k := pk) (kw_ixof (k := pk) (n := 1000) rfl (by omega) (by decide)) dX5_goes_60 (fun x H locs hm hW hS => ?_)
  refine lv_aload_n S.1 S.2.1 dX5_goes_61 rfl (lv_at hl 1 rfl) ?_
  refine mx_gA S hK hm hW 40 iX5 rfl (by decide) (by decide) (by decide +kernel) dX5_goes_62 ?_
  refine lv_aload_n S.1 S.2.1 dX5_goes_65 rfl (lv_at hl 1 rfl) ?_
  refine mx_gI S hK hm hW 5 iX5 rfl (by decide) (by decide +kernel) dX5_goes_66 (v := nI nb) (Eq.trans (b := tF t 5) (by simp [tF_uF, tF_uL, tF_uA, tF_uB, tL_uF, tL_uL, tL_uA, tL_uB, tA_uF, tA_uL, tA_uA, tA_uB, tB_uF, tB_uL, tB_uA, tB_uB, (show ¬ 8 + g = k by omega), (show ¬ k = 8 + g by omega)]) hb) ?_
  refine lv_iload_n S.1 S.2.1 dX5_goes_69 rfl (lv_at hl 0 rfl) ?_
  refine mx_ist S hK hm hW hS 40 (by decide) (k := nb) (kw_ixof (k := nb) (n := 1000) rfl (by omega) (by decide)) dX5_goes_70 (fun x H locs hm hW hS => ?_)
  refine lv_aload_n S.1 S.2.1 dX5_goes_71 rfl (lv_at hl 1 rfl) ?_
  refine lv_dup S.1 S.2.1 dX5_goes_72 rfl ?_
  refine mx_gI S hK hm hW 5 iX5 rfl (by decide) (by decide +kernel) dX5_goes_73 (v := nI nb) (Eq.trans (b := tF t 5) (by simp [tF_uF, tF_uL, tF_uA, tF_uB, tL_uF, tL_uL, tL_uA, tL_uB, tA_uF, tA_uL, tA_uA, tA_uB, tB_uF, tB_uL, tB_uA, tB_uB, (show ¬ 8 + g = k by omega), (show ¬ k = 8 + g by omega)]) hb) ?_
  refine lv_iconst (v := 1) S.1 S.2.1 dX5_goes_76 (by decide) ?_
  refine lv_iadd S.1 S.2.1 dX5_goes_77 ?_
  rw [show (nI nb : Int32) + 1 = nI (nb + 1) from nI_add (nb) (1)]
  refine mx_pI S hK hm hW hS 5 iX5 rfl (by decide) (by decide +kernel) rfl rfl dX5_goes_78 (fun x H locs hm hW hS => ?_)
  refine lv_aload_n S.1 S.2.1 dX5_goes_81 rfl (lv_at hl 1 rfl) ?_
  refine lv_iload_n S.1 S.2.1 dX5_goes_82 rfl (lv_at hl 0 rfl) ?_
  refine mx_pI S hK hm hW hS 8 iX5 rfl (by decide) (by decide +kernel) rfl rfl dX5_goes_83 (fun x H locs hm hW hS => ?_)
  refine lv_aload_n S.1 S.2.1 dX5_goes_86 rfl (lv_at hl 1 rfl) ?_
  refine lv_aload_n S.1 S.2.1 dX5_goes_87 rfl (lv_at hl 1 rfl) ?_
  refine mx_gA S hK hm hW 34 iX5 rfl (by decide) (by decide) (by decide +kernel) dX5_goes_88 ?_
  refine lv_iload_n S.1 S.2.1 dX5_goes_91 rfl (lv_at hl 0 rfl) ?_
  refine mx_ild S hK hm hW 34 (by decide) (k := pk) (kw_ixof (k := pk) (n := 1000) rfl (by omega) (by decide)) dX5_goes_92 (v := tA t 34 pk) (by simp [tF_uF, tF_uL, tF_uA, tF_uB, tL_uF, tL_uL, tL_uA, tL_uB, tA_uF, tA_uL, tA_uA, tA_uB, tB_uF, tB_uL, tB_uA, tB_uB, (show ¬ 8 + g = k by omega), (show ¬ k = 8 + g by omega)]) ?_
  refine mx_pI S hK hm hW hS 7 iX5 rfl (by decide) (by decide +kernel) rfl rfl dX5_goes_93 (fun x H locs hm hW hS => ?_)
  refine lv_aload_n S.1 S.2.1 dX5_goes_96 rfl (lv_at hl 1 rfl) ?_
  refine mx_gA S hK hm hW 32 iX5 rfl (by decide) (by decide) (by decide +kernel) dX5_goes_97 ?_
  refine lv_iload_n S.1 S.2.1 dX5_goes_100 rfl (lv_at hl 2 rfl) ?_
  refine lv_dup2_11 S.1 S.2.1 dX5_goes_101 rfl rfl ?_
  refine mx_lld S hK hm hW 32 (by decide) (k := k) (kw_ixof (k := k) (n := 20) rfl (by omega) (by decide)) dX5_goes_102 (v := tB t 32 k) (by simp [tF_uF, tF_uL, tF_uA, tF_uB, tL_uF, tL_uL, tL_uA, tL_uB, tA_uF, tA_uL, tA_uA, tA_uB, tB_uF, tB_uL, tB_uA, tB_uB, (show ¬ 8 + g = k by omega), (show ¬ k = 8 + g by omega)]) ?_
  refine lv_ldc2 (v := 1000) S.1 S.2.1 S.2.2.2.1 (S.2.2.2.2 _ (by decide +kernel)) dX5_goes_103 ?_
  refine lv_aload_n S.1 S.2.1 dX5_goes_106 rfl (lv_at hl 1 rfl) ?_
  refine mx_gA S hK hm hW 34 iX5 rfl (by decide) (by decide) (by decide +kernel) dX5_goes_107 ?_
  refine lv_iload_n S.1 S.2.1 dX5_goes_110 rfl (lv_at hl 0 rfl) ?_
  refine mx_ild S hK hm hW 34 (by decide) (k := pk) (kw_ixof (k := pk) (n := 1000) rfl (by omega) (by decide)) dX5_goes_111 (v := tA t 34 pk) (by simp [tF_uF, tF_uL, tF_uA, tF_uB, tL_uF, tL_uL, tL_uA, tL_uB, tA_uF, tA_uL, tA_uA, tA_uB, tB_uF, tB_uL, tB_uA, tB_uB, (show ¬ 8 + g = k by omega), (show ¬ k = 8 + g by omega)]) ?_
  refine lv_i2l S.1 S.2.1 dX5_goes_112 rfl ?_
  refine lv_lmul S.1 S.2.1 dX5_goes_113 ?_
  refine lv_lsub S.1 S.2.1 dX5_goes_114 ?_
  refine mx_lst S hK hm hW hS 32 (by decide) (k := k) (kw_ixof (k := k) (n := 20) rfl (by omega) (by decide)) dX5_goes_115 (fun x H locs hm hW hS => ?_)
  refine lv_aload_n S.1 S.2.1 dX5_goes_116 rfl (lv_at hl 1 rfl) ?_
  refine mx_gA S hK hm hW 32 iX5 rfl (by decide) (by decide) (by decide +kernel) dX5_goes_117 ?_
  refine lv_bipush (v := 8) S.1 S.2.1 dX5_goes_120 (by decide) ?_
  refine lv_aload_n S.1 S.2.1 dX5_goes_122 rfl (lv_at hl 1 rfl) ?_
  refine mx_gA S hK hm hW 13 iX5 rfl (by decide) (by decide) (by decide +kernel) dX5_goes_123 ?_
  refine lv_iload_n S.1 S.2.1 dX5_goes_126 rfl (lv_at hl 2 rfl) ?_
  refine mx_ild S hK hm hW 13 (by decide) (k := k) (kw_ixof (k := k) (n := 8) rfl (by omega) (by decide)) dX5_goes_127 (v := nI g) (Eq.trans (b := tA t 13 k) (by simp [tF_uF, tF_uL, tF_uA, tF_uB, tL_uF, tL_uL, tL_uA, tL_uB, tA_uF, tA_uL, tA_uA, tA_uB, tB_uF, tB_uL, tB_uA, tB_uB, (show ¬ 8 + g = k by omega), (show ¬ k = 8 + g by omega)]) hg) ?_
  refine lv_iadd S.1 S.2.1 dX5_goes_128 ?_
  rw [show (8 : Int32) + nI g = nI (8 + g) from nI_add (8) (g)]
  refine lv_dup2_11 S.1 S.2.1 dX5_goes_129 rfl rfl ?_
  refine mx_lld S hK hm hW 32 (by decide) (k := (8 + g)) (kw_ixof (k := 8 + g) (n := 20) rfl (by omega) (by decide)) dX5_goes_130 (v := tB t 32 (8 + g)) (by simp [tF_uF, tF_uL, tF_uA, tF_uB, tL_uF, tL_uL, tL_uA, tL_uB, tA_uF, tA_uL, tA_uA, tA_uB, tB_uF, tB_uL, tB_uA, tB_uB, (show ¬ 8 + g = k by omega), (show ¬ k = 8 + g by omega)]) ?_
  refine lv_ldc2 (v := 1000) S.1 S.2.1 S.2.2.2.1 (S.2.2.2.2 _ (by decide +kernel)) dX5_goes_131 ?_
  refine lv_aload_n S.1 S.2.1 dX5_goes_134 rfl (lv_at hl 1 rfl) ?_
  refine mx_gA S hK hm hW 34 iX5 rfl (by decide) (by decide) (by decide +kernel) dX5_goes_135 ?_
  refine lv_iload_n S.1 S.2.1 dX5_goes_138 rfl (lv_at hl 0 rfl) ?_
  refine mx_ild S hK hm hW 34 (by decide) (k := pk) (kw_ixof (k := pk) (n := 1000) rfl (by omega) (by decide)) dX5_goes_139 (v := tA t 34 pk) (by simp [tF_uF, tF_uL, tF_uA, tF_uB, tL_uF, tL_uL, tL_uA, tL_uB, tA_uF, tA_uL, tA_uA, tA_uB, tB_uF, tB_uL, tB_uA, tB_uB, (show ¬ 8 + g = k by omega), (show ¬ k = 8 + g by omega)]) ?_
  refine lv_i2l S.1 S.2.1 dX5_goes_140 rfl ?_
  refine lv_lmul S.1 S.2.1 dX5_goes_141 ?_
  refine lv_lsub S.1 S.2.1 dX5_goes_142 ?_
  refine mx_lst S hK hm hW hS 32 (by decide) (k := (8 + g)) (kw_ixof (k := 8 + g) (n := 20) rfl (by omega) (by decide)) dX5_goes_143 (fun x H locs hm hW hS => ?_)
  refine lv_iload_n S.1 S.2.1 dX5_goes_144 rfl (lv_at hl 0 rfl) ?_
  refine kw_iret S hr hlk hW hS (by decide) (by decide) dX5_goes_145 ?_
  refine ⟨?_, rfl, hm.to ?_⟩ <;> first | rfl | (simp [m_goes, kw_b]; done) | (simp [m_goes, kw_b, tF_uF, tF_uL, tF_uA, tF_uB, tL_uF, tL_uL, tL_uA, tL_uB, tA_uF, tA_uL, tA_uA, tA_uB, tB_uF, tB_uL, tB_uA, tB_uB, (show ¬ 8 + g = k by omega), (show ¬ k = 8 + g by omega)]; done)
theorem kw_wi_nI {k n : Nat} (hk : k < 1000) (hn : n ≤ 1000) : kw_wi (nI k) 0 (nI n - 1) = decide (k < n) := by
  have h0 : ¬ nI k < 0 := nI_pos (by omega)
  rcases Nat.eq_zero_or_pos n with rfl | hp
  · have h1 : nI 0 - 1 < nI k := by
      rw [Int32.lt_iff_toInt_lt, nI_toInt (by omega)]
      have : (nI 0 - 1).toInt = -1 := by decide
      omega
    simp [kw_wi, h1]
  · have e : nI n - 1 = nI (n - 1) := by rw [show n = (n - 1) + 1 by omega, nI_pred]; rfl
    rw [e]
    by_cases h : k < n
    · have h1 : ¬ nI (n - 1) < nI k := nI_nlt (by omega) (by omega)
      simp [kw_wi, h0, h1, h]
    · have h1 : nI (n - 1) < nI k := nI_lt (by omega) (by omega)
      simp [kw_wi, h1, h]
theorem kw_wi_lt {k n : Nat} (hk : k < 1000) (hn : n ≤ 1000) (h : kw_wi (nI k) 0 (nI n - 1) = true) : k < n := by rw [kw_wi_nI hk hn] at h; exact of_decide_eq_true h
theorem kw_wi_ge {k n : Nat} (hk : k < 1000) (hn : n ≤ 1000) (h : ¬ kw_wi (nI k) 0 (nI n - 1) = true) : ¬ k < n := by rw [kw_wi_nI hk hn] at h; exact fun q => h (decide_eq_true q)
/-- an int that is no number below a thousand is the number of nothing -/
theorem kw_wi_out {v : Int32} {n : Nat} (hv : ∀ k, k < 1000 → v ≠ nI k) (hn : n ≤ 1000) : kw_wi v 0 (nI n - 1) = false := by
  by_cases h0 : v < 0
  · simp [kw_wi, h0]
  obtain ⟨j, hj, rfl⟩ := nI_of h0
  have hj2 : ¬ j < 1000 := fun q => hv j q rfl
  have h1 : nI n - 1 < nI j := by
    rcases Nat.eq_zero_or_pos n with rfl | hp
    · rw [Int32.lt_iff_toInt_lt, nI_toInt hj]
      have : (nI 0 - 1).toInt = -1 := by decide
      omega
    · rw [show nI n - 1 = nI (n - 1) by rw [show n = (n - 1) + 1 by omega, nI_pred]; rfl]
      exact nI_lt (by omega) hj
  simp [kw_wi, h1]
def m_polok (nl k : Nat) (r b : Int32) : Bool := decide (k < nl) && (kw_wi r 0 1000 && kw_wi b 0 20000)
def m_police (t : mo_T) (nl k : Nat) (r b mk : Int32) : mo_T := if m_polok nl k r b = true then m_fill (uA (uA t 28 k 1) 29 k mk) (12 + k) r b else t
set_option maxHeartbeats 1000000 in
set_option maxRecDepth 100000 in
/-- police -/
theorem c_X5_police_s (l : Launch) (G : kw_G) (nu : Nat → Option Nat) (x z : kw_St) (mo : Nat) (ma : Nat → Nat) (t : mo_T) (k : Nat) (r : Int32) (b : Int32) (mk : Int32) (nl : Nat) (hm : mw nu z mo ma t x) (hk : k < 1000) (hnl : tF t 3 = nI nl) (hn8 : nl ≤ 8) (hmk : mk = 0 ∨ mk = 1) : kw_M l G yX5_police wsX5_police { frames := 1, cells := 0, slots := 0, locals := 23 } 0 0 [.ref mo, .int (nI k), .int (r), .int (b), .int (mk)] nu x (fun v nu' y => v = some (.int (kw_b (m_polok nl k r b = true))) ∧ nu' = nu ∧ mw nu z mo ma (m_police t nl k r b mk) y) := by
  refine kw_M.ofW (cc := cX5_police) (maxL := 5) (ret := (some .boolean)) (by decide) rfl (Nat.le_of_ble_eq_true rfl) ?_
  intro p e s m args below meth c A ls S hr hlk hnm hK hZ hA hW hS hl
  have hl : lv_has ls 5 [(0, .ref mo), (1, .int (nI k)), (2, .int (r)), (3, .int (b)), (4, .int (mk))] := hl
  have iX5 : ∀ w ∈ wsX50, w ∈ wsX5_police := by decide +kernel
  have hn9 : nl ≤ 1000 := by omega
  refine lv_iload_n S.1 S.2.1 dX5_police_0 rfl (lv_at hl 1 rfl) ?_
  refine lv_iconst (v := 0) S.1 S.2.1 dX5_police_1 (by decide) ?_
  refine lv_aload_n S.1 S.2.1 dX5_police_2 rfl (lv_at hl 0 rfl) ?_
  refine mx_gI S hK hm hW 3 iX5 rfl (by decide) (by decide +kernel) dX5_police_3 (v := nI nl) hnl ?_
  refine lv_iconst (v := 1) S.1 S.2.1 dX5_police_6 (by decide) ?_
  refine lv_isub S.1 S.2.1 dX5_police_7 ?_
  refine kx_cS (As := [.int (nI k), .int (0), .int ((nI nl) - (1))]) (rest := []) (st1 := [.int (kw_b (kw_wi (nI k) 0 ((nI nl) - (1)) = true))]) S hK hZ hA hW hS (c_X5_in l G nu x (nI k) 0 ((nI nl) - (1)) ) (va_cwS 3 S.2.2.2.2 gX5_police_X5_in rfl rfl rfl (by decide +kernel) ⟨Nat.le_of_ble_eq_true rfl, Nat.le_of_ble_eq_true rfl⟩) rfl hl.1 rfl (Nat.le_of_ble_eq_true rfl) dX5_police_8 ⟨Nat.le_of_ble_eq_true rfl, Nat.le_of_ble_eq_true rfl⟩ rfl (fun H locs hW hS => ?_)
  refine kx_ifz_eq (tgt := 36) S dX5_police_11 (by decide) (fun c1 => ?_) (fun c1 => ?_)
  · skip
    have hkl : ¬ k < nl := kw_wi_ge hk hn9 (by assumption)
    refine lv_iconst (v := 0) S.1 S.2.1 dX5_police_36 (by decide) ?_
    refine kw_zret S hr hlk hW hS (by decide) (by decide) dX5_police_37 kw_n0 ?_
    refine ⟨?_, rfl, hm.to ?_⟩ <;> first | rfl | (simp [m_polok, m_police, c1, hkl, kw_b]; done) | (simp [m_polok, m_police, c1, hkl, kw_b, tF_uF, tF_uL, tF_uA, tF_uB, tL_uF, tL_uL, tL_uA, tL_uB, tA_uF, tA_uL, tA_uA, tA_uB, tB_uF, tB_uL, tB_uA, tB_uB]; done)
  · skip
    have hkl : k < nl := kw_wi_lt hk hn9 (by assumption)
    refine lv_iload_n S.1 S.2.1 dX5_police_14 rfl (lv_at hl 2 rfl) ?_
    refine lv_iconst (v := 0) S.1 S.2.1 dX5_police_15 (by decide) ?_
    refine lv_sipush (v := 1000) S.1 S.2.1 dX5_police_16 (by decide) ?_
    refine kx_cS (As := [.int (r), .int (0), .int (1000)]) (rest := []) (st1 := [.int (kw_b (kw_wi r 0 1000 = true))]) S hK hZ hA hW hS (c_X5_in l G nu x r 0 1000 ) (va_cwS 3 S.2.2.2.2 gX5_police_X5_in rfl rfl rfl (by decide +kernel) ⟨Nat.le_of_ble_eq_true rfl, Nat.le_of_ble_eq_true rfl⟩) rfl hl.1 rfl (Nat.le_of_ble_eq_true rfl) dX5_police_19 ⟨Nat.le_of_ble_eq_true rfl, Nat.le_of_ble_eq_true rfl⟩ rfl (fun H locs hW hS => ?_)
    refine kx_ifz_eq (tgt := 36) S dX5_police_22 (by decide) (fun c2 => ?_) (fun c2 => ?_)
    · skip
      refine lv_iconst (v := 0) S.1 S.2.1 dX5_police_36 (by decide) ?_
      refine kw_zret S hr hlk hW hS (by decide) (by decide) dX5_police_37 kw_n0 ?_
      refine ⟨?_, rfl, hm.to ?_⟩ <;> first | rfl | (simp [m_polok, m_police, c1, hkl, c2, kw_b]; done) | (simp [m_polok, m_police, c1, hkl, c2, kw_b, tF_uF, tF_uL, tF_uA, tF_uB, tL_uF, tL_uL, tL_uA, tL_uB, tA_uF, tA_uL, tA_uA, tA_uB, tB_uF, tB_uL, tB_uA, tB_uB]; done)
    · skip
      refine lv_iload_n S.1 S.2.1 dX5_police_25 rfl (lv_at hl 3 rfl) ?_
      refine lv_iconst (v := 0) S.1 S.2.1 dX5_police_26 (by decide) ?_
      refine lv_sipush (v := 20000) S.1 S.2.1 dX5_police_27 (by decide) ?_
      refine kx_cS (As := [.int (b), .int (0), .int (20000)]) (rest := []) (st1 := [.int (kw_b (kw_wi b 0 20000 = true))]) S hK hZ hA hW hS (c_X5_in l G nu x b 0 20000 ) (va_cwS 3 S.2.2.2.2 gX5_police_X5_in rfl rfl rfl (by decide +kernel) ⟨Nat.le_of_ble_eq_true rfl, Nat.le_of_ble_eq_true rfl⟩) rfl hl.1 rfl (Nat.le_of_ble_eq_true rfl) dX5_police_30 ⟨Nat.le_of_ble_eq_true rfl, Nat.le_of_ble_eq_true rfl⟩ rfl (fun H locs hW hS => ?_)
      refine kx_ifz_ne (tgt := 38) S dX5_police_33 (by decide) (fun c3 => ?_) (fun c3 => ?_)
      · skip
        refine lv_aload_n S.1 S.2.1 dX5_police_38 rfl (lv_at hl 0 rfl) ?_
        refine mx_gA S hK hm hW 28 iX5 rfl (by decide) (by decide) (by decide +kernel) dX5_police_39 ?_
        refine lv_iload_n S.1 S.2.1 dX5_police_42 rfl (lv_at hl 1 rfl) ?_
        refine lv_iconst (v := 1) S.1 S.2.1 dX5_police_43 (by decide) ?_
        refine mx_zst S hK hm hW hS 28 (by decide) (k := k) (kw_ixof (k := k) (n := 8) rfl (by omega) (by decide)) dX5_police_44 (Or.inr rfl) (fun x H locs hm hW hS => ?_)
        refine lv_aload_n S.1 S.2.1 dX5_police_45 rfl (lv_at hl 0 rfl) ?_
        refine mx_gA S hK hm hW 29 iX5 rfl (by decide) (by decide) (by decide +kernel) dX5_police_46 ?_
        refine lv_iload_n S.1 S.2.1 dX5_police_49 rfl (lv_at hl 1 rfl) ?_
        refine lv_iload S.1 S.2.1 dX5_police_50 (lv_at hl 4 rfl) ?_
        refine mx_zst S hK hm hW hS 29 (by decide) (k := k) (kw_ixof (k := k) (n := 8) rfl (by omega) (by decide)) dX5_police_52 hmk (fun x H locs hm hW hS => ?_)
        refine lv_aload_n S.1 S.2.1 dX5_police_53 rfl (lv_at hl 0 rfl) ?_
        refine lv_bipush (v := 12) S.1 S.2.1 dX5_police_54 (by decide) ?_
        refine lv_iload_n S.1 S.2.1 dX5_police_56 rfl (lv_at hl 1 rfl) ?_
        refine lv_iadd S.1 S.2.1 dX5_police_57 ?_
        rw [show (12 : Int32) + nI k = nI (12 + k) from nI_add (12) (k)]
        refine lv_iload_n S.1 S.2.1 dX5_police_58 rfl (lv_at hl 2 rfl) ?_
        refine lv_iload_n S.1 S.2.1 dX5_police_59 rfl (lv_at hl 3 rfl) ?_
        refine mx_cV (As := [.int (nI (12 + k)), .int (r), .int (b)]) (rest := []) (st1 := []) S hK hZ hA hm hW hS (c_X5_fill l G nu x z mo ma (uA (uA t 28 (k) (1)) 29 (k) (mk)) (12 + k) r b hm (by omega)) (cwV 3 S.2.2.2.2 gX5_police_X5_fill rfl rfl rfl (by decide +kernel) ⟨Nat.le_of_ble_eq_true rfl, Nat.le_of_ble_eq_true rfl⟩) rfl hl.1 rfl (Nat.le_of_ble_eq_true rfl) dX5_police_60 ⟨Nat.le_of_ble_eq_true rfl, Nat.le_of_ble_eq_true rfl⟩ rfl (fun x H locs hm hW hS => ?_)
        refine lv_iconst (v := 1) S.1 S.2.1 dX5_police_63 (by decide) ?_
        refine kw_zret S hr hlk hW hS (by decide) (by decide) dX5_police_64 kw_n1 ?_
        refine ⟨?_, rfl, hm.to ?_⟩ <;> first | rfl | (simp [m_polok, m_police, c1, hkl, c2, c3, kw_b]; done) | (simp [m_polok, m_police, c1, hkl, c2, c3, kw_b, tF_uF, tF_uL, tF_uA, tF_uB, tL_uF, tL_uL, tL_uA, tL_uB, tA_uF, tA_uL, tA_uA, tA_uB, tB_uF, tB_uL, tB_uA, tB_uB]; done)
      · skip
        refine lv_iconst (v := 0) S.1 S.2.1 dX5_police_36 (by decide) ?_
        refine kw_zret S hr hlk hW hS (by decide) (by decide) dX5_police_37 kw_n0 ?_
        refine ⟨?_, rfl, hm.to ?_⟩ <;> first | rfl | (simp [m_polok, m_police, c1, hkl, c2, c3, kw_b]; done) | (simp [m_polok, m_police, c1, hkl, c2, c3, kw_b, tF_uF, tF_uL, tF_uA, tF_uB, tL_uF, tL_uL, tL_uA, tL_uB, tA_uF, tA_uL, tA_uA, tA_uB, tB_uF, tB_uL, tB_uA, tB_uB]; done)
set_option maxHeartbeats 1000000 in
set_option maxRecDepth 100000 in
/-- police, of no class -/
theorem c_X5_police_o (l : Launch) (G : kw_G) (nu : Nat → Option Nat) (x z : kw_St) (mo : Nat) (ma : Nat → Nat) (t : mo_T) (ki : Int32) (r : Int32) (b : Int32) (mk : Int32) (nl : Nat) (hm : mw nu z mo ma t x) (hki : ∀ k, k < 1000 → ki ≠ nI k) (hnl : tF t 3 = nI nl) (hn8 : nl ≤ 8) : kw_M l G yX5_police wsX5_police { frames := 1, cells := 0, slots := 0, locals := 23 } 0 0 [.ref mo, .int (ki), .int (r), .int (b), .int (mk)] nu x (fun v nu' y => v = some (.int (0)) ∧ nu' = nu ∧ mw nu z mo ma (t) y) := by
  refine kw_M.ofW (cc := cX5_police) (maxL := 5) (ret := (some .boolean)) (by decide) rfl (Nat.le_of_ble_eq_true rfl) ?_
  intro p e s m args below meth c A ls S hr hlk hnm hK hZ hA hW hS hl
  have hl : lv_has ls 5 [(0, .ref mo), (1, .int (ki)), (2, .int (r)), (3, .int (b)), (4, .int (mk))] := hl
  have iX5 : ∀ w ∈ wsX50, w ∈ wsX5_police := by decide +kernel
  refine lv_iload_n S.1 S.2.1 dX5_police_0 rfl (lv_at hl 1 rfl) ?_
  refine lv_iconst (v := 0) S.1 S.2.1 dX5_police_1 (by decide) ?_
  refine lv_aload_n S.1 S.2.1 dX5_police_2 rfl (lv_at hl 0 rfl) ?_
  refine mx_gI S hK hm hW 3 iX5 rfl (by decide) (by decide +kernel) dX5_police_3 (v := nI nl) hnl ?_
  refine lv_iconst (v := 1) S.1 S.2.1 dX5_police_6 (by decide) ?_
  refine lv_isub S.1 S.2.1 dX5_police_7 ?_
  refine kx_cS (As := [.int (ki), .int (0), .int ((nI nl) - (1))]) (rest := []) (st1 := [.int (kw_b (kw_wi ki 0 ((nI nl) - (1)) = true))]) S hK hZ hA hW hS (c_X5_in l G nu x ki 0 ((nI nl) - (1)) ) (va_cwS 3 S.2.2.2.2 gX5_police_X5_in rfl rfl rfl (by decide +kernel) ⟨Nat.le_of_ble_eq_true rfl, Nat.le_of_ble_eq_true rfl⟩) rfl hl.1 rfl (Nat.le_of_ble_eq_true rfl) dX5_police_8 ⟨Nat.le_of_ble_eq_true rfl, Nat.le_of_ble_eq_true rfl⟩ rfl (fun H locs hW hS => ?_)
  refine kx_ifz_eq (tgt := 36) S dX5_police_11 (by decide) (fun c1 => ?_) (fun c1 => ?_)
  · skip
    refine lv_iconst (v := 0) S.1 S.2.1 dX5_police_36 (by decide) ?_
    refine kw_zret S hr hlk hW hS (by decide) (by decide) dX5_police_37 kw_n0 ?_
    refine ⟨?_, rfl, hm.to ?_⟩ <;> first | rfl | (simp [c1, kw_b]; done) | (simp [c1, kw_b, tF_uF, tF_uL, tF_uA, tF_uB, tL_uF, tL_uL, tL_uA, tL_uB, tA_uF, tA_uL, tA_uA, tA_uB, tB_uF, tB_uL, tB_uA, tB_uB]; done)
  · skip
    exact absurd c1 (by rw [kw_wi_out hki (by omega)]; decide)
end
