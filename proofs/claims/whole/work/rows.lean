section
-- ===== PART A: goes FIRST, ahead of the names: the tables' words, and 'selects' of the private methods out of them =====
/-- a private method of a class that the tables say can be made, by its rows of tables_1 -/
def lw_okq (q : MethodName × Nat) : Prop := (q.1.cls ≠ "java/lang/invoke/MethodHandle" ∧ q.1.cls ≠ "java/lang/invoke/VarHandle") ∧ Cond.instantiable q.1.cls q.2 ∈ tables_1 ∧ Cond.privateMethod q.1 ∈ tables_1 ∧ Cond.instanceMethod q.1 ∈ tables_1
theorem lw_p0 : lw_okq (⟨"BeadLoom", "rackAt", "(I)LBeadLoom$Rack;"⟩, 8) := ⟨⟨by decide +kernel, by decide +kernel⟩, List.mem_of_getElem? (i := 8) (by decide +kernel), List.mem_of_getElem? (i := 102) (by decide +kernel), List.mem_of_getElem? (i := 103) (by decide +kernel)⟩
theorem lw_p1 : lw_okq (⟨"BeadLoom$Rack", "hold", "(II)V"⟩, 4) := ⟨⟨by decide +kernel, by decide +kernel⟩, List.mem_of_getElem? (i := 50) (by decide +kernel), List.mem_of_getElem? (i := 106) (by decide +kernel), List.mem_of_getElem? (i := 107) (by decide +kernel)⟩
theorem lw_p2 : lw_okq (⟨"BeadLoom", "isBead", "(J)Z"⟩, 8) := ⟨⟨by decide +kernel, by decide +kernel⟩, List.mem_of_getElem? (i := 8) (by decide +kernel), List.mem_of_getElem? (i := 133) (by decide +kernel), List.mem_of_getElem? (i := 134) (by decide +kernel)⟩
theorem lw_p3 : lw_okq (⟨"BeadLoom", "colourOf", "(J)I"⟩, 8) := ⟨⟨by decide +kernel, by decide +kernel⟩, List.mem_of_getElem? (i := 8) (by decide +kernel), List.mem_of_getElem? (i := 141) (by decide +kernel), List.mem_of_getElem? (i := 142) (by decide +kernel)⟩
theorem lw_p4 : lw_okq (⟨"BeadLoom", "rowAt", "(I)LBeadLoom$Rack;"⟩, 8) := ⟨⟨by decide +kernel, by decide +kernel⟩, List.mem_of_getElem? (i := 8) (by decide +kernel), List.mem_of_getElem? (i := 149) (by decide +kernel), List.mem_of_getElem? (i := 150) (by decide +kernel)⟩
theorem lw_p5 : lw_okq (⟨"BeadLoom$Rack", "hasRow", "()Z"⟩, 4) := ⟨⟨by decide +kernel, by decide +kernel⟩, List.mem_of_getElem? (i := 50) (by decide +kernel), List.mem_of_getElem? (i := 153) (by decide +kernel), List.mem_of_getElem? (i := 154) (by decide +kernel)⟩
theorem lw_p6 : lw_okq (⟨"BeadLoom$Rack", "hasPlace", "(I)Z"⟩, 4) := ⟨⟨by decide +kernel, by decide +kernel⟩, List.mem_of_getElem? (i := 50) (by decide +kernel), List.mem_of_getElem? (i := 157) (by decide +kernel), List.mem_of_getElem? (i := 158) (by decide +kernel)⟩
theorem lw_p7 : lw_okq (⟨"BeadLoom", "mayLie", "(IJ)Z"⟩, 8) := ⟨⟨by decide +kernel, by decide +kernel⟩, List.mem_of_getElem? (i := 8) (by decide +kernel), List.mem_of_getElem? (i := 161) (by decide +kernel), List.mem_of_getElem? (i := 162) (by decide +kernel)⟩
theorem lw_p8 : lw_okq (⟨"BeadLoom", "moving", "(LBeadLoom$Rack;JLBeadLoom$Rack;JJ)I"⟩, 8) := ⟨⟨by decide +kernel, by decide +kernel⟩, List.mem_of_getElem? (i := 8) (by decide +kernel), List.mem_of_getElem? (i := 176) (by decide +kernel), List.mem_of_getElem? (i := 177) (by decide +kernel)⟩
theorem lw_p9 : lw_okq (⟨"BeadLoom$Rack", "hasStretch", "(JJ)Z"⟩, 4) := ⟨⟨by decide +kernel, by decide +kernel⟩, List.mem_of_getElem? (i := 50) (by decide +kernel), List.mem_of_getElem? (i := 186) (by decide +kernel), List.mem_of_getElem? (i := 187) (by decide +kernel)⟩
theorem lw_p10 : lw_okq (⟨"BeadLoom", "mayCome", "(LBeadLoom$Rack;ILBeadLoom$Rack;I)I"⟩, 8) := ⟨⟨by decide +kernel, by decide +kernel⟩, List.mem_of_getElem? (i := 8) (by decide +kernel), List.mem_of_getElem? (i := 190) (by decide +kernel), List.mem_of_getElem? (i := 191) (by decide +kernel)⟩
theorem lw_p11 : lw_okq (⟨"BeadLoom$Rack", "blankPlace", "(I)V"⟩, 4) := ⟨⟨by decide +kernel, by decide +kernel⟩, List.mem_of_getElem? (i := 50) (by decide +kernel), List.mem_of_getElem? (i := 204) (by decide +kernel), List.mem_of_getElem? (i := 205) (by decide +kernel)⟩
theorem lw_p12 : lw_okq (⟨"BeadLoom$Rack", "rotate", "(I)V"⟩, 4) := ⟨⟨by decide +kernel, by decide +kernel⟩, List.mem_of_getElem? (i := 50) (by decide +kernel), List.mem_of_getElem? (i := 217) (by decide +kernel), List.mem_of_getElem? (i := 218) (by decide +kernel)⟩
theorem lw_p13 : lw_okq (⟨"BeadLoom$Rack", "keepCells", "()V"⟩, 4) := ⟨⟨by decide +kernel, by decide +kernel⟩, List.mem_of_getElem? (i := 50) (by decide +kernel), List.mem_of_getElem? (i := 221) (by decide +kernel), List.mem_of_getElem? (i := 222) (by decide +kernel)⟩
theorem lw_p14 : lw_okq (⟨"BeadLoom$Pattern", "isFull", "()Z"⟩, 6) := ⟨⟨by decide +kernel, by decide +kernel⟩, List.mem_of_getElem? (i := 18) (by decide +kernel), List.mem_of_getElem? (i := 233) (by decide +kernel), List.mem_of_getElem? (i := 234) (by decide +kernel)⟩
theorem lw_p15 : lw_okq (⟨"BeadLoom$Pattern", "append", "(IIIII)V"⟩, 6) := ⟨⟨by decide +kernel, by decide +kernel⟩, List.mem_of_getElem? (i := 18) (by decide +kernel), List.mem_of_getElem? (i := 237) (by decide +kernel), List.mem_of_getElem? (i := 238) (by decide +kernel)⟩
def lw_privs_1 : List (MethodName × Nat) := [(⟨"BeadLoom", "rackAt", "(I)LBeadLoom$Rack;"⟩, 8), (⟨"BeadLoom$Rack", "hold", "(II)V"⟩, 4), (⟨"BeadLoom", "isBead", "(J)Z"⟩, 8), (⟨"BeadLoom", "colourOf", "(J)I"⟩, 8), (⟨"BeadLoom", "rowAt", "(I)LBeadLoom$Rack;"⟩, 8), (⟨"BeadLoom$Rack", "hasRow", "()Z"⟩, 4), (⟨"BeadLoom$Rack", "hasPlace", "(I)Z"⟩, 4), (⟨"BeadLoom", "mayLie", "(IJ)Z"⟩, 8), (⟨"BeadLoom", "moving", "(LBeadLoom$Rack;JLBeadLoom$Rack;JJ)I"⟩, 8), (⟨"BeadLoom$Rack", "hasStretch", "(JJ)Z"⟩, 4), (⟨"BeadLoom", "mayCome", "(LBeadLoom$Rack;ILBeadLoom$Rack;I)I"⟩, 8), (⟨"BeadLoom$Rack", "blankPlace", "(I)V"⟩, 4), (⟨"BeadLoom$Rack", "rotate", "(I)V"⟩, 4), (⟨"BeadLoom$Rack", "keepCells", "()V"⟩, 4), (⟨"BeadLoom$Pattern", "isFull", "()Z"⟩, 6), (⟨"BeadLoom$Pattern", "append", "(IIIII)V"⟩, 6)]
theorem lw_r1 : ∀ q ∈ lw_privs_1, lw_okq q := List.forall_mem_cons.mpr ⟨lw_p0, List.forall_mem_cons.mpr ⟨lw_p1, List.forall_mem_cons.mpr ⟨lw_p2, List.forall_mem_cons.mpr ⟨lw_p3, List.forall_mem_cons.mpr ⟨lw_p4, List.forall_mem_cons.mpr ⟨lw_p5, List.forall_mem_cons.mpr ⟨lw_p6, List.forall_mem_cons.mpr ⟨lw_p7, List.forall_mem_cons.mpr ⟨lw_p8, List.forall_mem_cons.mpr ⟨lw_p9, List.forall_mem_cons.mpr ⟨lw_p10, List.forall_mem_cons.mpr ⟨lw_p11, List.forall_mem_cons.mpr ⟨lw_p12, List.forall_mem_cons.mpr ⟨lw_p13, List.forall_mem_cons.mpr ⟨lw_p14, List.forall_mem_cons.mpr ⟨lw_p15, fun _ h => absurd h List.not_mem_nil⟩⟩⟩⟩⟩⟩⟩⟩⟩⟩⟩⟩⟩⟩⟩⟩
theorem lw_p16 : lw_okq (⟨"BeadLoom", "keepAllRows", "()V"⟩, 8) := ⟨⟨by decide +kernel, by decide +kernel⟩, List.mem_of_getElem? (i := 8) (by decide +kernel), List.mem_of_getElem? (i := 250) (by decide +kernel), List.mem_of_getElem? (i := 251) (by decide +kernel)⟩
theorem lw_p17 : lw_okq (⟨"BeadLoom", "weaveRound", "()I"⟩, 8) := ⟨⟨by decide +kernel, by decide +kernel⟩, List.mem_of_getElem? (i := 8) (by decide +kernel), List.mem_of_getElem? (i := 255) (by decide +kernel), List.mem_of_getElem? (i := 256) (by decide +kernel)⟩
theorem lw_p18 : lw_okq (⟨"BeadLoom", "restoreAllRows", "()V"⟩, 8) := ⟨⟨by decide +kernel, by decide +kernel⟩, List.mem_of_getElem? (i := 8) (by decide +kernel), List.mem_of_getElem? (i := 259) (by decide +kernel), List.mem_of_getElem? (i := 260) (by decide +kernel)⟩
theorem lw_p19 : lw_okq (⟨"BeadLoom$Rack", "restoreCells", "()V"⟩, 4) := ⟨⟨by decide +kernel, by decide +kernel⟩, List.mem_of_getElem? (i := 50) (by decide +kernel), List.mem_of_getElem? (i := 263) (by decide +kernel), List.mem_of_getElem? (i := 264) (by decide +kernel)⟩
theorem lw_p20 : lw_okq (⟨"BeadLoomModel", "become", "(III)V"⟩, 13) := ⟨⟨by decide +kernel, by decide +kernel⟩, List.mem_of_getElem? (i := 292) (by decide +kernel), List.mem_of_getElem? (i := 345) (by decide +kernel), List.mem_of_getElem? (i := 346) (by decide +kernel)⟩
theorem lw_p21 : lw_okq (⟨"BeadLoomModel", "nothing", "(I)J"⟩, 13) := ⟨⟨by decide +kernel, by decide +kernel⟩, List.mem_of_getElem? (i := 292) (by decide +kernel), List.mem_of_getElem? (i := 349) (by decide +kernel), List.mem_of_getElem? (i := 350) (by decide +kernel)⟩
theorem lw_p22 : lw_okq (⟨"BeadLoomModel", "isBeads", "(I)Z"⟩, 13) := ⟨⟨by decide +kernel, by decide +kernel⟩, List.mem_of_getElem? (i := 292) (by decide +kernel), List.mem_of_getElem? (i := 353) (by decide +kernel), List.mem_of_getElem? (i := 354) (by decide +kernel)⟩
theorem lw_p23 : lw_okq (⟨"BeadLoomModel", "isBead", "(J)Z"⟩, 13) := ⟨⟨by decide +kernel, by decide +kernel⟩, List.mem_of_getElem? (i := 292) (by decide +kernel), List.mem_of_getElem? (i := 374) (by decide +kernel), List.mem_of_getElem? (i := 375) (by decide +kernel)⟩
theorem lw_p24 : lw_okq (⟨"BeadLoomModel", "isPlace", "(II)Z"⟩, 13) := ⟨⟨by decide +kernel, by decide +kernel⟩, List.mem_of_getElem? (i := 292) (by decide +kernel), List.mem_of_getElem? (i := 386) (by decide +kernel), List.mem_of_getElem? (i := 387) (by decide +kernel)⟩
theorem lw_p25 : lw_okq (⟨"BeadLoomModel", "hasRow", "(I)Z"⟩, 13) := ⟨⟨by decide +kernel, by decide +kernel⟩, List.mem_of_getElem? (i := 292) (by decide +kernel), List.mem_of_getElem? (i := 390) (by decide +kernel), List.mem_of_getElem? (i := 391) (by decide +kernel)⟩
theorem lw_p26 : lw_okq (⟨"BeadLoomModel", "moving", "(IJIJJ)I"⟩, 13) := ⟨⟨by decide +kernel, by decide +kernel⟩, List.mem_of_getElem? (i := 292) (by decide +kernel), List.mem_of_getElem? (i := 406) (by decide +kernel), List.mem_of_getElem? (i := 407) (by decide +kernel)⟩
theorem lw_p27 : lw_okq (⟨"BeadLoomModel", "reason", "(IJIJJ)I"⟩, 13) := ⟨⟨by decide +kernel, by decide +kernel⟩, List.mem_of_getElem? (i := 292) (by decide +kernel), List.mem_of_getElem? (i := 410) (by decide +kernel), List.mem_of_getElem? (i := 411) (by decide +kernel)⟩
theorem lw_p28 : lw_okq (⟨"BeadLoomModel", "doStep", "(I)I"⟩, 13) := ⟨⟨by decide +kernel, by decide +kernel⟩, List.mem_of_getElem? (i := 292) (by decide +kernel), List.mem_of_getElem? (i := 438) (by decide +kernel), List.mem_of_getElem? (i := 439) (by decide +kernel)⟩
theorem lw_p29 : lw_okq (⟨"BeadLoomModel", "areAlike", "(III)Z"⟩, 13) := ⟨⟨by decide +kernel, by decide +kernel⟩, List.mem_of_getElem? (i := 292) (by decide +kernel), List.mem_of_getElem? (i := 446) (by decide +kernel), List.mem_of_getElem? (i := 447) (by decide +kernel)⟩
theorem lw_p30 : lw_okq (⟨"BeadLoomModel", "isNumbers", "(I)Z"⟩, 13) := ⟨⟨by decide +kernel, by decide +kernel⟩, List.mem_of_getElem? (i := 292) (by decide +kernel), List.mem_of_getElem? (i := 450) (by decide +kernel), List.mem_of_getElem? (i := 451) (by decide +kernel)⟩
def lw_privs_2 : List (MethodName × Nat) := [(⟨"BeadLoom", "keepAllRows", "()V"⟩, 8), (⟨"BeadLoom", "weaveRound", "()I"⟩, 8), (⟨"BeadLoom", "restoreAllRows", "()V"⟩, 8), (⟨"BeadLoom$Rack", "restoreCells", "()V"⟩, 4), (⟨"BeadLoomModel", "become", "(III)V"⟩, 13), (⟨"BeadLoomModel", "nothing", "(I)J"⟩, 13), (⟨"BeadLoomModel", "isBeads", "(I)Z"⟩, 13), (⟨"BeadLoomModel", "isBead", "(J)Z"⟩, 13), (⟨"BeadLoomModel", "isPlace", "(II)Z"⟩, 13), (⟨"BeadLoomModel", "hasRow", "(I)Z"⟩, 13), (⟨"BeadLoomModel", "moving", "(IJIJJ)I"⟩, 13), (⟨"BeadLoomModel", "reason", "(IJIJJ)I"⟩, 13), (⟨"BeadLoomModel", "doStep", "(I)I"⟩, 13), (⟨"BeadLoomModel", "areAlike", "(III)Z"⟩, 13), (⟨"BeadLoomModel", "isNumbers", "(I)Z"⟩, 13)]
theorem lw_r2 : ∀ q ∈ lw_privs_2, lw_okq q := List.forall_mem_cons.mpr ⟨lw_p16, List.forall_mem_cons.mpr ⟨lw_p17, List.forall_mem_cons.mpr ⟨lw_p18, List.forall_mem_cons.mpr ⟨lw_p19, List.forall_mem_cons.mpr ⟨lw_p20, List.forall_mem_cons.mpr ⟨lw_p21, List.forall_mem_cons.mpr ⟨lw_p22, List.forall_mem_cons.mpr ⟨lw_p23, List.forall_mem_cons.mpr ⟨lw_p24, List.forall_mem_cons.mpr ⟨lw_p25, List.forall_mem_cons.mpr ⟨lw_p26, List.forall_mem_cons.mpr ⟨lw_p27, List.forall_mem_cons.mpr ⟨lw_p28, List.forall_mem_cons.mpr ⟨lw_p29, List.forall_mem_cons.mpr ⟨lw_p30, fun _ h => absurd h List.not_mem_nil⟩⟩⟩⟩⟩⟩⟩⟩⟩⟩⟩⟩⟩⟩⟩
def lw_privs : List (MethodName × Nat) := lw_privs_1 ++ (lw_privs_2)
def lw_tbl : List Cond := k2_sels lw_privs ++ tables_1
theorem lw_privs_ok : ∀ q ∈ lw_privs, lw_okq q := by
  show ∀ q ∈ lw_privs_1 ++ (lw_privs_2), lw_okq q
  exact List.forall_mem_append.mpr ⟨lw_r1, lw_r2⟩
/-! ===== BEGIN words of one list among another's, by their places ===== -/
theorem goodIn_r {big : List Cond} (ws : List Cond) (ps : List Nat) (hp : ws = ps.filterMap (fun i => big[i]?)) (h : ws.all goodWord = true) : GoodIn big ws := by
  intro w hw
  have h1 := List.all_eq_true.mp h w hw
  rw [hp] at hw
  obtain ⟨i, -, hi⟩ := List.mem_filterMap.mp hw
  have hm : w ∈ big := by first | exact List.mem_of_getElem? hi | exact List.getElem?_mem hi
  exact ⟨hm, good_of_word h1⟩
theorem goodIn_app {big a b : List Cond} (ha : GoodIn big a) (hb : GoodIn big b) : GoodIn big (a ++ b) := fun w h => (List.mem_append.mp h).elim (ha w) (hb w)
theorem goodIn_ca {big a b : List Cond} {c : Cond} (ha : GoodIn big (c :: a)) (hb : GoodIn big b) : GoodIn big (c :: (a ++ b)) := fun w h => (List.mem_cons.mp h).elim (fun e => ha w (List.mem_cons.mpr (Or.inl e))) (fun h => (List.mem_append.mp h).elim (fun h => ha w (List.mem_cons.mpr (Or.inr h))) (hb w))
theorem goodIn_sub {big ws : List Cond} (hm : ∀ w ∈ ws, w ∈ big) (h : ws.all goodWord = true) : GoodIn big ws := fun w hw => ⟨hm w hw, good_of_word (List.all_eq_true.mp h w hw)⟩
/-! ===== END ===== -/

/-! ===== BEGIN printed: names, fields, word lists, decode rows ===== -/
def RX0 : String := "BeadLoom$Pattern"
def TX0 : u_T := fun k => match k with
  | 0 => ("BeadLoom$Pattern", "fromRack", "[I", true)
  | 1 => ("BeadLoom$Pattern", "fromPlace", "[I", true)
  | 2 => ("BeadLoom$Pattern", "toRack", "[I", true)
  | 3 => ("BeadLoom$Pattern", "toPlace", "[I", true)
  | 4 => ("BeadLoom$Pattern", "things", "[I", true)
  | _ => ("BeadLoom$Pattern", "steps", "I", false)
def tyX0 : Nat → FieldType := fun k => match k with
  | 0 => .array .int
  | 1 => .array .int
  | 2 => .array .int
  | 3 => .array .int
  | 4 => .array .int
  | _ => .int
abbrev wsX00 : List Cond := u_ws RX0 TX0 6
theorem nmX0 : ∀ a, a < 6 → ∀ b, b < 6 → a ≠ b → (TX0 a).2.1 ≠ (TX0 b).2.1 := by decide +kernel
theorem tyX0_ok : ∀ k, k < 6 → parseFieldDescriptor (TX0 k).2.2.1 = some (tyX0 k) := by decide +kernel
abbrev cX0_init : ByteArray := prog_2_method_1_code
def yX0_init : MethodName := ⟨RX0, "<init>", "()V"⟩
abbrev cX0_isFull : ByteArray := prog_2_method_2_code
def yX0_isFull : MethodName := ⟨RX0, "isFull", "()Z"⟩
abbrev cX0_append : ByteArray := prog_2_method_3_code
def yX0_append : MethodName := ⟨RX0, "append", "(IIIII)V"⟩
def RX1 : String := "BeadLoom$Rack"
def TX1 : u_T := fun k => match k with
  | 0 => ("BeadLoom$Rack", "cells", "[J", true)
  | 1 => ("BeadLoom$Rack", "kept", "[J", true)
  | 2 => ("BeadLoom$Rack", "kind", "I", false)
  | _ => ("BeadLoom$Rack", "places", "I", false)
def tyX1 : Nat → FieldType := fun k => match k with
  | 0 => .array .long
  | 1 => .array .long
  | 2 => .int
  | _ => .int
abbrev wsX10 : List Cond := u_ws RX1 TX1 4
theorem nmX1 : ∀ a, a < 4 → ∀ b, b < 4 → a ≠ b → (TX1 a).2.1 ≠ (TX1 b).2.1 := by decide +kernel
theorem tyX1_ok : ∀ k, k < 4 → parseFieldDescriptor (TX1 k).2.2.1 = some (tyX1 k) := by decide +kernel
abbrev cX1_init : ByteArray := prog_3_method_1_code
def yX1_init : MethodName := ⟨RX1, "<init>", "()V"⟩
abbrev cX1_hold : ByteArray := prog_3_method_2_code
def yX1_hold : MethodName := ⟨RX1, "hold", "(II)V"⟩
abbrev cX1_hasRow : ByteArray := prog_3_method_3_code
def yX1_hasRow : MethodName := ⟨RX1, "hasRow", "()Z"⟩
abbrev cX1_hasPlace : ByteArray := prog_3_method_4_code
def yX1_hasPlace : MethodName := ⟨RX1, "hasPlace", "(I)Z"⟩
abbrev cX1_hasStretch : ByteArray := prog_3_method_5_code
def yX1_hasStretch : MethodName := ⟨RX1, "hasStretch", "(JJ)Z"⟩
abbrev cX1_blankPlace : ByteArray := prog_3_method_6_code
def yX1_blankPlace : MethodName := ⟨RX1, "blankPlace", "(I)V"⟩
abbrev cX1_keepCells : ByteArray := prog_3_method_7_code
def yX1_keepCells : MethodName := ⟨RX1, "keepCells", "()V"⟩
abbrev cX1_restoreCells : ByteArray := prog_3_method_8_code
def yX1_restoreCells : MethodName := ⟨RX1, "restoreCells", "()V"⟩
abbrev cX1_rotate : ByteArray := prog_3_method_9_code
def yX1_rotate : MethodName := ⟨RX1, "rotate", "(I)V"⟩
def RX2 : String := "BeadLoom"
def TX2 : u_T := fun k => match k with
  | 0 => ("BeadLoom", "racks", "[LBeadLoom$Rack;", true)
  | 1 => ("BeadLoom", "colours", "[I", true)
  | 2 => ("BeadLoom", "pearls", "[Z", true)
  | 3 => ("BeadLoom", "pattern", "LBeadLoom$Pattern;", true)
  | 4 => ("BeadLoom", "movings", "[I", true)
  | 5 => ("BeadLoom", "beads", "I", false)
  | 6 => ("BeadLoom", "came", "I", false)
  | _ => ("BeadLoom", "roundsWoven", "I", false)
def tyX2 : Nat → FieldType := fun k => match k with
  | 0 => .array (.object "BeadLoom$Rack")
  | 1 => .array .int
  | 2 => .array .boolean
  | 3 => .object "BeadLoom$Pattern"
  | 4 => .array .int
  | 5 => .int
  | 6 => .int
  | _ => .int
abbrev wsX20 : List Cond := u_ws RX2 TX2 8
theorem nmX2 : ∀ a, a < 8 → ∀ b, b < 8 → a ≠ b → (TX2 a).2.1 ≠ (TX2 b).2.1 := by decide +kernel
theorem tyX2_ok : ∀ k, k < 8 → parseFieldDescriptor (TX2 k).2.2.1 = some (tyX2 k) := by decide +kernel
abbrev cX2_init : ByteArray := prog_1_method_1_code
def yX2_init : MethodName := ⟨RX2, "<init>", "()V"⟩
abbrev cX2_make : ByteArray := prog_1_method_2_code
def yX2_make : MethodName := ⟨RX2, "make", "(III)Z"⟩
abbrev cX2_lamp : ByteArray := prog_1_method_3_code
def yX2_lamp : MethodName := ⟨RX2, "lamp", "(I)Z"⟩
abbrev cX2_empty : ByteArray := prog_1_method_4_code
def yX2_empty : MethodName := ⟨RX2, "empty", "(I)Z"⟩
abbrev cX2_bead : ByteArray := prog_1_method_5_code
def yX2_bead : MethodName := ⟨RX2, "bead", "(IZ)I"⟩
abbrev cX2_paint : ByteArray := prog_1_method_6_code
def yX2_paint : MethodName := ⟨RX2, "paint", "(II)Z"⟩
abbrev cX2_colour : ByteArray := prog_1_method_7_code
def yX2_colour : MethodName := ⟨RX2, "colour", "(I)I"⟩
abbrev cX2_put : ByteArray := prog_1_method_8_code
def yX2_put : MethodName := ⟨RX2, "put", "(IIJ)Z"⟩
abbrev cX2_look : ByteArray := prog_1_method_9_code
def yX2_look : MethodName := ⟨RX2, "look", "(II)J"⟩
abbrev cX2_move : ByteArray := prog_1_method_10_code
def yX2_move : MethodName := ⟨RX2, "move", "(IIIII)I"⟩
abbrev cX2_open : ByteArray := prog_1_method_11_code
def yX2_open : MethodName := ⟨RX2, "open", "(II)I"⟩
abbrev cX2_close : ByteArray := prog_1_method_12_code
def yX2_close : MethodName := ⟨RX2, "close", "(II)I"⟩
abbrev cX2_turn : ByteArray := prog_1_method_13_code
def yX2_turn : MethodName := ⟨RX2, "turn", "(II)I"⟩
abbrev cX2_step : ByteArray := prog_1_method_14_code
def yX2_step : MethodName := ⟨RX2, "step", "(IIIII)I"⟩
abbrev cX2_forget : ByteArray := prog_1_method_15_code
def yX2_forget : MethodName := ⟨RX2, "forget", "()I"⟩
abbrev cX2_weave : ByteArray := prog_1_method_16_code
def yX2_weave : MethodName := ⟨RX2, "weave", "(IZ)I"⟩
abbrev cX2_alike : ByteArray := prog_1_method_17_code
def yX2_alike : MethodName := ⟨RX2, "alike", "(II)I"⟩
abbrev cX2_shade : ByteArray := prog_1_method_18_code
def yX2_shade : MethodName := ⟨RX2, "shade", "(I)J"⟩
abbrev cX2_rack : ByteArray := prog_1_method_19_code
def yX2_rack : MethodName := ⟨RX2, "rack", "(II)I"⟩
abbrev cX2_about : ByteArray := prog_1_method_20_code
def yX2_about : MethodName := ⟨RX2, "about", "(I)I"⟩
abbrev cX2_rackAt : ByteArray := prog_1_method_21_code
def yX2_rackAt : MethodName := ⟨RX2, "rackAt", "(I)LBeadLoom$Rack;"⟩
abbrev cX2_rowAt : ByteArray := prog_1_method_22_code
def yX2_rowAt : MethodName := ⟨RX2, "rowAt", "(I)LBeadLoom$Rack;"⟩
abbrev cX2_isBead : ByteArray := prog_1_method_23_code
def yX2_isBead : MethodName := ⟨RX2, "isBead", "(J)Z"⟩
abbrev cX2_colourOf : ByteArray := prog_1_method_24_code
def yX2_colourOf : MethodName := ⟨RX2, "colourOf", "(J)I"⟩
abbrev cX2_mayLie : ByteArray := prog_1_method_25_code
def yX2_mayLie : MethodName := ⟨RX2, "mayLie", "(IJ)Z"⟩
abbrev cX2_holdsBeads : ByteArray := prog_1_method_26_code
def yX2_holdsBeads : MethodName := ⟨RX2, "holdsBeads", "(I)Z"⟩
abbrev cX2_holdsNumbers : ByteArray := prog_1_method_27_code
def yX2_holdsNumbers : MethodName := ⟨RX2, "holdsNumbers", "(I)Z"⟩
abbrev cX2_blank : ByteArray := prog_1_method_28_code
def yX2_blank : MethodName := ⟨RX2, "blank", "(I)J"⟩
abbrev cX2_fitted : ByteArray := prog_1_method_29_code
def yX2_fitted : MethodName := ⟨RX2, "fitted", "(IJ)J"⟩
abbrev cX2_mayExchange : ByteArray := prog_1_method_30_code
def yX2_mayExchange : MethodName := ⟨RX2, "mayExchange", "(II)Z"⟩
abbrev cX2_mayCompare : ByteArray := prog_1_method_31_code
def yX2_mayCompare : MethodName := ⟨RX2, "mayCompare", "(II)Z"⟩
abbrev cX2_thingsBehind : ByteArray := prog_1_method_32_code
def yX2_thingsBehind : MethodName := ⟨RX2, "thingsBehind", "(LBeadLoom$Rack;I)J"⟩
abbrev cX2_moving : ByteArray := prog_1_method_33_code
def yX2_moving : MethodName := ⟨RX2, "moving", "(LBeadLoom$Rack;JLBeadLoom$Rack;JJ)I"⟩
abbrev cX2_hindrance : ByteArray := prog_1_method_34_code
def yX2_hindrance : MethodName := ⟨RX2, "hindrance", "(LBeadLoom$Rack;JLBeadLoom$Rack;JJ)I"⟩
abbrev cX2_mayCome : ByteArray := prog_1_method_35_code
def yX2_mayCome : MethodName := ⟨RX2, "mayCome", "(LBeadLoom$Rack;ILBeadLoom$Rack;I)I"⟩
abbrev cX2_weaveRound : ByteArray := prog_1_method_36_code
def yX2_weaveRound : MethodName := ⟨RX2, "weaveRound", "()I"⟩
abbrev cX2_keepAllRows : ByteArray := prog_1_method_37_code
def yX2_keepAllRows : MethodName := ⟨RX2, "keepAllRows", "()V"⟩
abbrev cX2_restoreAllRows : ByteArray := prog_1_method_38_code
def yX2_restoreAllRows : MethodName := ⟨RX2, "restoreAllRows", "()V"⟩
def RX3 : String := "BeadLoomModel"
def TX3 : u_T := fun k => match k with
  | 0 => ("BeadLoomModel", "kind", "[I", true)
  | 1 => ("BeadLoomModel", "many", "[I", true)
  | 2 => ("BeadLoomModel", "cell", "[J", true)
  | 3 => ("BeadLoomModel", "before", "[J", true)
  | 4 => ("BeadLoomModel", "aside", "[J", true)
  | 5 => ("BeadLoomModel", "beads", "I", false)
  | 6 => ("BeadLoomModel", "colours", "[I", true)
  | 7 => ("BeadLoomModel", "pearls", "[Z", true)
  | 8 => ("BeadLoomModel", "steps", "I", false)
  | 9 => ("BeadLoomModel", "pattern", "[I", true)
  | 10 => ("BeadLoomModel", "came", "I", false)
  | 11 => ("BeadLoomModel", "counts", "[I", true)
  | _ => ("BeadLoomModel", "woven", "I", false)
def tyX3 : Nat → FieldType := fun k => match k with
  | 0 => .array .int
  | 1 => .array .int
  | 2 => .array .long
  | 3 => .array .long
  | 4 => .array .long
  | 5 => .int
  | 6 => .array .int
  | 7 => .array .boolean
  | 8 => .int
  | 9 => .array .int
  | 10 => .int
  | 11 => .array .int
  | _ => .int
abbrev wsX30 : List Cond := u_ws RX3 TX3 13
theorem nmX3 : ∀ a, a < 13 → ∀ b, b < 13 → a ≠ b → (TX3 a).2.1 ≠ (TX3 b).2.1 := by decide +kernel
theorem tyX3_ok : ∀ k, k < 13 → parseFieldDescriptor (TX3 k).2.2.1 = some (tyX3 k) := by decide +kernel
abbrev cX3_init : ByteArray := prog_5_method_1_code
def yX3_init : MethodName := ⟨RX3, "<init>", "()V"⟩
abbrev cX3_isRack : ByteArray := prog_5_method_2_code
def yX3_isRack : MethodName := ⟨RX3, "isRack", "(I)Z"⟩
abbrev cX3_hasRow : ByteArray := prog_5_method_3_code
def yX3_hasRow : MethodName := ⟨RX3, "hasRow", "(I)Z"⟩
abbrev cX3_isNumbers : ByteArray := prog_5_method_4_code
def yX3_isNumbers : MethodName := ⟨RX3, "isNumbers", "(I)Z"⟩
abbrev cX3_isBeads : ByteArray := prog_5_method_5_code
def yX3_isBeads : MethodName := ⟨RX3, "isBeads", "(I)Z"⟩
abbrev cX3_isPlace : ByteArray := prog_5_method_6_code
def yX3_isPlace : MethodName := ⟨RX3, "isPlace", "(II)Z"⟩
abbrev cX3_isBead : ByteArray := prog_5_method_7_code
def yX3_isBead : MethodName := ⟨RX3, "isBead", "(J)Z"⟩
abbrev cX3_nothing : ByteArray := prog_5_method_8_code
def yX3_nothing : MethodName := ⟨RX3, "nothing", "(I)J"⟩
abbrev cX3_kept : ByteArray := prog_5_method_9_code
def yX3_kept : MethodName := ⟨RX3, "kept", "(IJ)J"⟩
abbrev cX3_become : ByteArray := prog_5_method_10_code
def yX3_become : MethodName := ⟨RX3, "become", "(III)V"⟩
abbrev cX3_make : ByteArray := prog_5_method_11_code
def yX3_make : MethodName := ⟨RX3, "make", "(III)Z"⟩
abbrev cX3_lamp : ByteArray := prog_5_method_12_code
def yX3_lamp : MethodName := ⟨RX3, "lamp", "(I)Z"⟩
abbrev cX3_empty : ByteArray := prog_5_method_13_code
def yX3_empty : MethodName := ⟨RX3, "empty", "(I)Z"⟩
abbrev cX3_bead : ByteArray := prog_5_method_14_code
def yX3_bead : MethodName := ⟨RX3, "bead", "(IZ)I"⟩
abbrev cX3_paint : ByteArray := prog_5_method_15_code
def yX3_paint : MethodName := ⟨RX3, "paint", "(II)Z"⟩
abbrev cX3_colour : ByteArray := prog_5_method_16_code
def yX3_colour : MethodName := ⟨RX3, "colour", "(I)I"⟩
abbrev cX3_put : ByteArray := prog_5_method_17_code
def yX3_put : MethodName := ⟨RX3, "put", "(IIJ)Z"⟩
abbrev cX3_look : ByteArray := prog_5_method_18_code
def yX3_look : MethodName := ⟨RX3, "look", "(II)J"⟩
abbrev cX3_reason : ByteArray := prog_5_method_19_code
def yX3_reason : MethodName := ⟨RX3, "reason", "(IJIJJ)I"⟩
abbrev cX3_moving : ByteArray := prog_5_method_20_code
def yX3_moving : MethodName := ⟨RX3, "moving", "(IJIJJ)I"⟩
abbrev cX3_move : ByteArray := prog_5_method_21_code
def yX3_move : MethodName := ⟨RX3, "move", "(IIIII)I"⟩
abbrev cX3_open : ByteArray := prog_5_method_22_code
def yX3_open : MethodName := ⟨RX3, "open", "(II)I"⟩
abbrev cX3_close : ByteArray := prog_5_method_23_code
def yX3_close : MethodName := ⟨RX3, "close", "(II)I"⟩
abbrev cX3_turn : ByteArray := prog_5_method_24_code
def yX3_turn : MethodName := ⟨RX3, "turn", "(II)I"⟩
abbrev cX3_step : ByteArray := prog_5_method_25_code
def yX3_step : MethodName := ⟨RX3, "step", "(IIIII)I"⟩
abbrev cX3_forget : ByteArray := prog_5_method_26_code
def yX3_forget : MethodName := ⟨RX3, "forget", "()I"⟩
abbrev cX3_doStep : ByteArray := prog_5_method_27_code
def yX3_doStep : MethodName := ⟨RX3, "doStep", "(I)I"⟩
abbrev cX3_weave : ByteArray := prog_5_method_28_code
def yX3_weave : MethodName := ⟨RX3, "weave", "(IZ)I"⟩
abbrev cX3_areAlike : ByteArray := prog_5_method_29_code
def yX3_areAlike : MethodName := ⟨RX3, "areAlike", "(III)Z"⟩
abbrev cX3_alike : ByteArray := prog_5_method_30_code
def yX3_alike : MethodName := ⟨RX3, "alike", "(II)I"⟩
abbrev cX3_shade : ByteArray := prog_5_method_31_code
def yX3_shade : MethodName := ⟨RX3, "shade", "(I)J"⟩
abbrev cX3_rack : ByteArray := prog_5_method_32_code
def yX3_rack : MethodName := ⟨RX3, "rack", "(II)I"⟩
abbrev cX3_about : ByteArray := prog_5_method_33_code
def yX3_about : MethodName := ⟨RX3, "about", "(I)I"⟩
def RJ9 : String := "java/lang/Math"
def TJ9 : u_T := fun k => match k with
  | _ => ("", "", "", false)
def tyJ9 : Nat → FieldType := fun k => match k with
  | _ => .int
abbrev wsJ90 : List Cond := u_ws RJ9 TJ9 0
theorem nmJ9 : ∀ a, a < 0 → ∀ b, b < 0 → a ≠ b → (TJ9 a).2.1 ≠ (TJ9 b).2.1 := by decide +kernel
theorem tyJ9_ok : ∀ k, k < 0 → parseFieldDescriptor (TJ9 k).2.2.1 = some (tyJ9 k) := by decide +kernel
abbrev cJ9_floorMod_7cf53 : ByteArray := prog_6_method_50_code
def yJ9_floorMod_7cf53 : MethodName := ⟨RJ9, "floorMod", "(II)I"⟩
abbrev cJ9_min_7cf53 : ByteArray := prog_6_method_69_code
def yJ9_min_7cf53 : MethodName := ⟨RJ9, "min", "(II)I"⟩
def RJ10 : String := "java/lang/System"
def TJ10 : u_T := fun k => match k with
  | _ => ("", "", "", false)
def tyJ10 : Nat → FieldType := fun k => match k with
  | _ => .int
abbrev wsJ100 : List Cond := u_ws RJ10 TJ10 0
theorem nmJ10 : ∀ a, a < 0 → ∀ b, b < 0 → a ≠ b → (TJ10 a).2.1 ≠ (TJ10 b).2.1 := by decide +kernel
theorem tyJ10_ok : ∀ k, k < 0 → parseFieldDescriptor (TJ10 k).2.2.1 = some (tyJ10 k) := by decide +kernel
def RL : String := "BeadLoomLaw"
abbrev cL_law : ByteArray := code
def yL_law : MethodName := ⟨RL, "law", "([I)Z"⟩
def wsX0_init : List Cond := .code yX0_init cX0_init 1 none :: ([.methodLink RX0 3 objectInit, .instanceMethod objectInit, .code objectInit ⟨#[0xb1]⟩ 1 none, .arrayClass .int, .fieldLink RX0 9 "BeadLoom$Pattern" "fromRack" "[I", .fieldLink RX0 15 "BeadLoom$Pattern" "fromPlace" "[I", .fieldLink RX0 18 "BeadLoom$Pattern" "toRack" "[I", .fieldLink RX0 21 "BeadLoom$Pattern" "toPlace" "[I", .fieldLink RX0 24 "BeadLoom$Pattern" "things" "[I", .fieldLink RX0 27 "BeadLoom$Pattern" "steps" "I"] ++ wsX00)
def wsX0_isFull : List Cond := .code yX0_isFull cX0_isFull 1 (some .boolean) :: ([.fieldLink RX0 27 "BeadLoom$Pattern" "steps" "I"] ++ wsX00)
def wsX0_append : List Cond := .code yX0_append cX0_append 6 none :: ([.fieldLink RX0 9 "BeadLoom$Pattern" "fromRack" "[I", .fieldLink RX0 27 "BeadLoom$Pattern" "steps" "I", .fieldLink RX0 15 "BeadLoom$Pattern" "fromPlace" "[I", .fieldLink RX0 18 "BeadLoom$Pattern" "toRack" "[I", .fieldLink RX0 21 "BeadLoom$Pattern" "toPlace" "[I", .fieldLink RX0 24 "BeadLoom$Pattern" "things" "[I", .methodLink RX0 31 yX0_isFull, .instanceMethod yX0_isFull, .selects RX0 yX0_isFull yX0_isFull, .initialized RX0, .code yX0_isFull cX0_isFull 1 (some .boolean)] ++ wsX00)
def wsX1_init : List Cond := .code yX1_init cX1_init 1 none :: ([.methodLink RX1 3 objectInit, .instanceMethod objectInit, .code objectInit ⟨#[0xb1]⟩ 1 none, .arrayClass .long, .fieldLink RX1 9 "BeadLoom$Rack" "cells" "[J", .fieldLink RX1 15 "BeadLoom$Rack" "kept" "[J", .fieldLink RX1 18 "BeadLoom$Rack" "kind" "I", .fieldLink RX1 22 "BeadLoom$Rack" "places" "I"] ++ wsX10)
def wsX2_holdsBeads : List Cond := .code yX2_holdsBeads cX2_holdsBeads 1 (some .boolean) :: ([])
def wsX2_blank : List Cond := .code yX2_blank cX2_blank 1 (some .long) :: ([.constantLong RX2 137 (-1), .methodLink RX2 131 yX2_holdsBeads, .static yX2_holdsBeads, .initialized RX2, .code yX2_holdsBeads cX2_holdsBeads 1 (some .boolean)])
def wsX1_hold : List Cond := .code yX1_hold cX1_hold 4 none :: ([.fieldLink RX1 18 "BeadLoom$Rack" "kind" "I", .fieldLink RX1 22 "BeadLoom$Rack" "places" "I", .fieldLink RX1 9 "BeadLoom$Rack" "cells" "[J", .static yX2_blank, .initialized RX2, .code yX2_blank cX2_blank 1 (some .long), .constantLong RX2 137 (-1), .methodLink RX2 131 yX2_holdsBeads, .static yX2_holdsBeads, .code yX2_holdsBeads cX2_holdsBeads 1 (some .boolean)] ++ wsX10)
def wsX1_hasRow : List Cond := .code yX1_hasRow cX1_hasRow 1 (some .boolean) :: ([.fieldLink RX1 18 "BeadLoom$Rack" "kind" "I"] ++ wsX10)
def wsX1_hasPlace : List Cond := .code yX1_hasPlace cX1_hasPlace 2 (some .boolean) :: ([.fieldLink RX1 22 "BeadLoom$Rack" "places" "I"] ++ wsX10)
def wsX1_hasStretch : List Cond := .code yX1_hasStretch cX1_hasStretch 5 (some .boolean) :: ([.fieldLink RX1 22 "BeadLoom$Rack" "places" "I"] ++ wsX10)
def wsX1_blankPlace : List Cond := .code yX1_blankPlace cX1_blankPlace 2 none :: ([.fieldLink RX1 9 "BeadLoom$Rack" "cells" "[J", .fieldLink RX1 18 "BeadLoom$Rack" "kind" "I", .methodLink RX1 29 yX1_hasPlace, .instanceMethod yX1_hasPlace, .selects RX1 yX1_hasPlace yX1_hasPlace, .initialized RX1, .code yX1_hasPlace cX1_hasPlace 2 (some .boolean), .fieldLink RX1 22 "BeadLoom$Rack" "places" "I", .static yX2_blank, .initialized RX2, .code yX2_blank cX2_blank 1 (some .long), .constantLong RX2 137 (-1), .methodLink RX2 131 yX2_holdsBeads, .static yX2_holdsBeads, .code yX2_holdsBeads cX2_holdsBeads 1 (some .boolean)] ++ wsX10)
def wsX1_keepCells : List Cond := .code yX1_keepCells cX1_keepCells 1 none :: ([.fieldLink RX1 9 "BeadLoom$Rack" "cells" "[J", .fieldLink RX1 15 "BeadLoom$Rack" "kept" "[J", .methodLink RX1 33 arraycopyName, .native arraycopyName, .static arraycopyName, .initialized "java/lang/System"] ++ wsX10)
def wsX1_restoreCells : List Cond := .code yX1_restoreCells cX1_restoreCells 1 none :: ([.fieldLink RX1 15 "BeadLoom$Rack" "kept" "[J", .fieldLink RX1 9 "BeadLoom$Rack" "cells" "[J", .methodLink RX1 33 arraycopyName, .native arraycopyName, .static arraycopyName, .initialized "java/lang/System"] ++ wsX10)
def wsJ9_floorMod_7cf53 : List Cond := .code yJ9_floorMod_7cf53 cJ9_floorMod_7cf53 3 (some .int) :: ([])
def wsX1_rotate : List Cond := .code yX1_rotate cX1_rotate 4 none :: ([.fieldLink RX1 22 "BeadLoom$Rack" "places" "I", .fieldLink RX1 9 "BeadLoom$Rack" "cells" "[J", .fieldLink RX1 15 "BeadLoom$Rack" "kept" "[J", .methodLink RX1 39 yX1_keepCells, .instanceMethod yX1_keepCells, .selects RX1 yX1_keepCells yX1_keepCells, .initialized RX1, .code yX1_keepCells cX1_keepCells 1 none, .methodLink RX1 33 arraycopyName, .native arraycopyName, .static arraycopyName, .initialized "java/lang/System", .methodLink RX1 42 yJ9_floorMod_7cf53, .static yJ9_floorMod_7cf53, .initialized RJ9, .code yJ9_floorMod_7cf53 cJ9_floorMod_7cf53 3 (some .int)] ++ wsX10)
def wsX2_init_r1 : List Cond := [Cond.methodLink RX2 1 objectInit, Cond.instanceMethod objectInit, Cond.code objectInit ⟨#[0xb1]⟩ 1 none, Cond.classLink RX2 9 RX1, Cond.fieldLink RX2 11 "BeadLoom" "racks" "[LBeadLoom$Rack;", Cond.arrayClass .int, Cond.fieldLink RX2 15 "BeadLoom" "colours" "[I", Cond.arrayClass .boolean, Cond.fieldLink RX2 19 "BeadLoom" "pearls" "[Z", Cond.classLink RX2 23 RX0, Cond.instantiable RX0 6, Cond.initialized RX0, Cond.fieldLink RX2 26 "BeadLoom" "pattern" "LBeadLoom$Pattern;", Cond.fieldLink RX2 30 "BeadLoom" "movings" "[I", Cond.fieldLink RX2 33 "BeadLoom" "beads" "I", Cond.fieldLink RX2 37 "BeadLoom" "came" "I", Cond.fieldLink RX2 40 "BeadLoom" "roundsWoven" "I", Cond.instantiable RX1 4, Cond.initialized RX1, Cond.instanceMethod yX0_init, Cond.code yX0_init cX0_init 1 none, Cond.methodLink RX0 3 objectInit, Cond.fieldLink RX0 9 "BeadLoom$Pattern" "fromRack" "[I", Cond.fieldLink RX0 15 "BeadLoom$Pattern" "fromPlace" "[I"]
def wsX2_init_r2 : List Cond := [Cond.fieldLink RX0 18 "BeadLoom$Pattern" "toRack" "[I", Cond.fieldLink RX0 21 "BeadLoom$Pattern" "toPlace" "[I", Cond.fieldLink RX0 24 "BeadLoom$Pattern" "things" "[I", Cond.fieldLink RX0 27 "BeadLoom$Pattern" "steps" "I", Cond.instanceMethod yX1_init, Cond.code yX1_init cX1_init 1 none, Cond.methodLink RX1 3 objectInit, Cond.arrayClass .long, Cond.fieldLink RX1 9 "BeadLoom$Rack" "cells" "[J", Cond.fieldLink RX1 15 "BeadLoom$Rack" "kept" "[J", Cond.fieldLink RX1 18 "BeadLoom$Rack" "kind" "I", Cond.fieldLink RX1 22 "BeadLoom$Rack" "places" "I"]
def wsX2_init : List Cond := .code yX2_init cX2_init 2 none :: ((wsX2_init_r1 ++ wsX2_init_r2) ++ wsX20 ++ wsX00 ++ wsX10)
def wsX2_rackAt : List Cond := .code yX2_rackAt cX2_rackAt 2 (some (.object "BeadLoom$Rack")) :: ([.fieldLink RX2 11 "BeadLoom" "racks" "[LBeadLoom$Rack;"] ++ wsX20)
def wsX2_make : List Cond := .code yX2_make cX2_make 5 (some .boolean) :: ([.methodLink RX2 44 yX2_rackAt, .instanceMethod yX2_rackAt, .selects RX2 yX2_rackAt yX2_rackAt, .initialized RX2, .code yX2_rackAt cX2_rackAt 2 (some (.object "BeadLoom$Rack")), .fieldLink RX2 11 "BeadLoom" "racks" "[LBeadLoom$Rack;", .instanceMethod yX1_hold, .initialized RX1, .selects RX1 yX1_hold yX1_hold, .code yX1_hold cX1_hold 4 none, .fieldLink RX1 18 "BeadLoom$Rack" "kind" "I", .fieldLink RX1 22 "BeadLoom$Rack" "places" "I", .fieldLink RX1 9 "BeadLoom$Rack" "cells" "[J", .static yX2_blank, .code yX2_blank cX2_blank 1 (some .long), .constantLong RX2 137 (-1), .methodLink RX2 131 yX2_holdsBeads, .static yX2_holdsBeads, .code yX2_holdsBeads cX2_holdsBeads 1 (some .boolean)] ++ wsX20 ++ wsX10)
def wsX2_lamp : List Cond := .code yX2_lamp cX2_lamp 3 (some .boolean) :: ([.methodLink RX2 44 yX2_rackAt, .instanceMethod yX2_rackAt, .selects RX2 yX2_rackAt yX2_rackAt, .initialized RX2, .code yX2_rackAt cX2_rackAt 2 (some (.object "BeadLoom$Rack")), .fieldLink RX2 11 "BeadLoom" "racks" "[LBeadLoom$Rack;", .instanceMethod yX1_hold, .initialized RX1, .selects RX1 yX1_hold yX1_hold, .code yX1_hold cX1_hold 4 none, .fieldLink RX1 18 "BeadLoom$Rack" "kind" "I", .fieldLink RX1 22 "BeadLoom$Rack" "places" "I", .fieldLink RX1 9 "BeadLoom$Rack" "cells" "[J", .static yX2_blank, .code yX2_blank cX2_blank 1 (some .long), .constantLong RX2 137 (-1), .methodLink RX2 131 yX2_holdsBeads, .static yX2_holdsBeads, .code yX2_holdsBeads cX2_holdsBeads 1 (some .boolean)] ++ wsX20 ++ wsX10)
def wsX2_empty : List Cond := .code yX2_empty cX2_empty 3 (some .boolean) :: ([.methodLink RX2 44 yX2_rackAt, .instanceMethod yX2_rackAt, .selects RX2 yX2_rackAt yX2_rackAt, .initialized RX2, .code yX2_rackAt cX2_rackAt 2 (some (.object "BeadLoom$Rack")), .fieldLink RX2 11 "BeadLoom" "racks" "[LBeadLoom$Rack;", .instanceMethod yX1_hold, .initialized RX1, .selects RX1 yX1_hold yX1_hold, .code yX1_hold cX1_hold 4 none, .fieldLink RX1 18 "BeadLoom$Rack" "kind" "I", .fieldLink RX1 22 "BeadLoom$Rack" "places" "I", .fieldLink RX1 9 "BeadLoom$Rack" "cells" "[J", .static yX2_blank, .code yX2_blank cX2_blank 1 (some .long), .constantLong RX2 137 (-1), .methodLink RX2 131 yX2_holdsBeads, .static yX2_holdsBeads, .code yX2_holdsBeads cX2_holdsBeads 1 (some .boolean)] ++ wsX10 ++ wsX20)
def wsX2_bead : List Cond := .code yX2_bead cX2_bead 3 (some .int) :: ([.fieldLink RX2 33 "BeadLoom" "beads" "I", .fieldLink RX2 15 "BeadLoom" "colours" "[I", .fieldLink RX2 19 "BeadLoom" "pearls" "[Z"] ++ wsX20)
def wsX2_isBead : List Cond := .code yX2_isBead cX2_isBead 3 (some .boolean) :: ([.fieldLink RX2 33 "BeadLoom" "beads" "I"] ++ wsX20)
def wsX2_paint : List Cond := .code yX2_paint cX2_paint 3 (some .boolean) :: ([.fieldLink RX2 15 "BeadLoom" "colours" "[I", .methodLink RX2 55 yX2_isBead, .instanceMethod yX2_isBead, .selects RX2 yX2_isBead yX2_isBead, .initialized RX2, .code yX2_isBead cX2_isBead 3 (some .boolean), .fieldLink RX2 33 "BeadLoom" "beads" "I"] ++ wsX20)
def wsX2_colourOf : List Cond := .code yX2_colourOf cX2_colourOf 3 (some .int) :: ([.fieldLink RX2 15 "BeadLoom" "colours" "[I", .methodLink RX2 55 yX2_isBead, .instanceMethod yX2_isBead, .selects RX2 yX2_isBead yX2_isBead, .initialized RX2, .code yX2_isBead cX2_isBead 3 (some .boolean), .fieldLink RX2 33 "BeadLoom" "beads" "I"] ++ wsX20)
def wsX2_colour : List Cond := .code yX2_colour cX2_colour 2 (some .int) :: ([.methodLink RX2 59 yX2_colourOf, .instanceMethod yX2_colourOf, .selects RX2 yX2_colourOf yX2_colourOf, .initialized RX2, .code yX2_colourOf cX2_colourOf 3 (some .int), .fieldLink RX2 15 "BeadLoom" "colours" "[I", .methodLink RX2 55 yX2_isBead, .instanceMethod yX2_isBead, .selects RX2 yX2_isBead yX2_isBead, .code yX2_isBead cX2_isBead 3 (some .boolean), .fieldLink RX2 33 "BeadLoom" "beads" "I"] ++ wsX20)
def wsX2_rowAt : List Cond := .code yX2_rowAt cX2_rowAt 3 (some (.object "BeadLoom$Rack")) :: ([.methodLink RX2 44 yX2_rackAt, .instanceMethod yX2_rackAt, .selects RX2 yX2_rackAt yX2_rackAt, .initialized RX2, .code yX2_rackAt cX2_rackAt 2 (some (.object "BeadLoom$Rack")), .fieldLink RX2 11 "BeadLoom" "racks" "[LBeadLoom$Rack;", .instanceMethod yX1_hasRow, .initialized RX1, .selects RX1 yX1_hasRow yX1_hasRow, .code yX1_hasRow cX1_hasRow 1 (some .boolean), .fieldLink RX1 18 "BeadLoom$Rack" "kind" "I"] ++ wsX20 ++ wsX10)
def wsX2_mayLie : List Cond := .code yX2_mayLie cX2_mayLie 4 (some .boolean) :: ([.constantLong RX2 137 (-1), .fieldLink RX2 19 "BeadLoom" "pearls" "[Z", .methodLink RX2 131 yX2_holdsBeads, .static yX2_holdsBeads, .initialized RX2, .code yX2_holdsBeads cX2_holdsBeads 1 (some .boolean), .methodLink RX2 55 yX2_isBead, .instanceMethod yX2_isBead, .selects RX2 yX2_isBead yX2_isBead, .code yX2_isBead cX2_isBead 3 (some .boolean), .fieldLink RX2 33 "BeadLoom" "beads" "I"] ++ wsX20)
def wsX2_fitted : List Cond := .code yX2_fitted cX2_fitted 3 (some .long) :: ([])
def wsX2_put_r1 : List Cond := [Cond.methodLink RX2 63 yX2_rowAt, Cond.instanceMethod yX2_rowAt, Cond.selects RX2 yX2_rowAt yX2_rowAt, Cond.initialized RX2, Cond.code yX2_rowAt cX2_rowAt 3 (some (.object "BeadLoom$Rack")), Cond.methodLink RX2 44 yX2_rackAt, Cond.instanceMethod yX2_rackAt, Cond.selects RX2 yX2_rackAt yX2_rackAt, Cond.code yX2_rackAt cX2_rackAt 2 (some (.object "BeadLoom$Rack")), Cond.fieldLink RX2 11 "BeadLoom" "racks" "[LBeadLoom$Rack;", Cond.instanceMethod yX1_hasRow, Cond.initialized RX1, Cond.selects RX1 yX1_hasRow yX1_hasRow, Cond.code yX1_hasRow cX1_hasRow 1 (some .boolean), Cond.fieldLink RX1 18 "BeadLoom$Rack" "kind" "I", Cond.instanceMethod yX1_hasPlace, Cond.selects RX1 yX1_hasPlace yX1_hasPlace, Cond.code yX1_hasPlace cX1_hasPlace 2 (some .boolean), Cond.fieldLink RX1 22 "BeadLoom$Rack" "places" "I", Cond.methodLink RX2 70 yX2_mayLie, Cond.instanceMethod yX2_mayLie, Cond.selects RX2 yX2_mayLie yX2_mayLie, Cond.code yX2_mayLie cX2_mayLie 4 (some .boolean), Cond.constantLong RX2 137 (-1)]
def wsX2_put_r2 : List Cond := [Cond.fieldLink RX2 19 "BeadLoom" "pearls" "[Z", Cond.methodLink RX2 131 yX2_holdsBeads, Cond.static yX2_holdsBeads, Cond.code yX2_holdsBeads cX2_holdsBeads 1 (some .boolean), Cond.methodLink RX2 55 yX2_isBead, Cond.instanceMethod yX2_isBead, Cond.selects RX2 yX2_isBead yX2_isBead, Cond.code yX2_isBead cX2_isBead 3 (some .boolean), Cond.fieldLink RX2 33 "BeadLoom" "beads" "I", Cond.methodLink RX2 78 yX2_fitted, Cond.static yX2_fitted, Cond.code yX2_fitted cX2_fitted 3 (some .long)]
def wsX2_put : List Cond := .code yX2_put cX2_put 6 (some .boolean) :: ((wsX2_put_r1 ++ wsX2_put_r2) ++ wsX10 ++ wsX20)
def wsX2_look : List Cond := .code yX2_look cX2_look 4 (some .long) :: ([.methodLink RX2 63 yX2_rowAt, .instanceMethod yX2_rowAt, .selects RX2 yX2_rowAt yX2_rowAt, .initialized RX2, .code yX2_rowAt cX2_rowAt 3 (some (.object "BeadLoom$Rack")), .methodLink RX2 44 yX2_rackAt, .instanceMethod yX2_rackAt, .selects RX2 yX2_rackAt yX2_rackAt, .code yX2_rackAt cX2_rackAt 2 (some (.object "BeadLoom$Rack")), .fieldLink RX2 11 "BeadLoom" "racks" "[LBeadLoom$Rack;", .instanceMethod yX1_hasRow, .initialized RX1, .selects RX1 yX1_hasRow yX1_hasRow, .code yX1_hasRow cX1_hasRow 1 (some .boolean), .fieldLink RX1 18 "BeadLoom$Rack" "kind" "I", .instanceMethod yX1_hasPlace, .selects RX1 yX1_hasPlace yX1_hasPlace, .code yX1_hasPlace cX1_hasPlace 2 (some .boolean), .fieldLink RX1 22 "BeadLoom$Rack" "places" "I"] ++ wsX10 ++ wsX20)
def wsX2_mayExchange : List Cond := .code yX2_mayExchange cX2_mayExchange 2 (some .boolean) :: ([.methodLink RX2 131 yX2_holdsBeads, .static yX2_holdsBeads, .initialized RX2, .code yX2_holdsBeads cX2_holdsBeads 1 (some .boolean)])
def wsX2_hindrance : List Cond := .code yX2_hindrance cX2_hindrance 8 (some .int) :: ([.instanceMethod yX1_hasRow, .initialized RX1, .selects RX1 yX1_hasRow yX1_hasRow, .code yX1_hasRow cX1_hasRow 1 (some .boolean), .fieldLink RX1 18 "BeadLoom$Rack" "kind" "I", .methodLink RX2 139 yX2_mayExchange, .static yX2_mayExchange, .initialized RX2, .code yX2_mayExchange cX2_mayExchange 2 (some .boolean), .methodLink RX2 131 yX2_holdsBeads, .static yX2_holdsBeads, .code yX2_holdsBeads cX2_holdsBeads 1 (some .boolean), .instanceMethod yX1_hasStretch, .selects RX1 yX1_hasStretch yX1_hasStretch, .code yX1_hasStretch cX1_hasStretch 5 (some .boolean), .fieldLink RX1 22 "BeadLoom$Rack" "places" "I"] ++ wsX10)
def wsX2_mayCome : List Cond := .code yX2_mayCome cX2_mayCome 6 (some .int) :: ([.methodLink RX2 70 yX2_mayLie, .instanceMethod yX2_mayLie, .selects RX2 yX2_mayLie yX2_mayLie, .initialized RX2, .code yX2_mayLie cX2_mayLie 4 (some .boolean), .constantLong RX2 137 (-1), .fieldLink RX2 19 "BeadLoom" "pearls" "[Z", .methodLink RX2 131 yX2_holdsBeads, .static yX2_holdsBeads, .code yX2_holdsBeads cX2_holdsBeads 1 (some .boolean), .methodLink RX2 55 yX2_isBead, .instanceMethod yX2_isBead, .selects RX2 yX2_isBead yX2_isBead, .code yX2_isBead cX2_isBead 3 (some .boolean), .fieldLink RX2 33 "BeadLoom" "beads" "I"] ++ wsX10 ++ wsX20)
def wsX2_moving_r1 : List Cond := [Cond.fieldLink RX2 37 "BeadLoom" "came" "I", Cond.methodLink RX2 152 arraycopyName, Cond.native arraycopyName, Cond.static arraycopyName, Cond.initialized "java/lang/System", Cond.fieldLink RX2 30 "BeadLoom" "movings" "[I", Cond.methodLink RX2 145 yX2_hindrance, Cond.static yX2_hindrance, Cond.initialized RX2, Cond.code yX2_hindrance cX2_hindrance 8 (some .int), Cond.instanceMethod yX1_hasRow, Cond.initialized RX1, Cond.selects RX1 yX1_hasRow yX1_hasRow, Cond.code yX1_hasRow cX1_hasRow 1 (some .boolean), Cond.fieldLink RX1 18 "BeadLoom$Rack" "kind" "I", Cond.methodLink RX2 139 yX2_mayExchange, Cond.static yX2_mayExchange, Cond.code yX2_mayExchange cX2_mayExchange 2 (some .boolean), Cond.methodLink RX2 131 yX2_holdsBeads, Cond.static yX2_holdsBeads, Cond.code yX2_holdsBeads cX2_holdsBeads 1 (some .boolean), Cond.instanceMethod yX1_hasStretch, Cond.selects RX1 yX1_hasStretch yX1_hasStretch, Cond.code yX1_hasStretch cX1_hasStretch 5 (some .boolean)]
def wsX2_moving_r2 : List Cond := [Cond.fieldLink RX1 22 "BeadLoom$Rack" "places" "I", Cond.methodLink RX2 148 yX2_mayCome, Cond.instanceMethod yX2_mayCome, Cond.selects RX2 yX2_mayCome yX2_mayCome, Cond.code yX2_mayCome cX2_mayCome 6 (some .int), Cond.methodLink RX2 70 yX2_mayLie, Cond.instanceMethod yX2_mayLie, Cond.selects RX2 yX2_mayLie yX2_mayLie, Cond.code yX2_mayLie cX2_mayLie 4 (some .boolean), Cond.constantLong RX2 137 (-1), Cond.fieldLink RX2 19 "BeadLoom" "pearls" "[Z", Cond.methodLink RX2 55 yX2_isBead, Cond.instanceMethod yX2_isBead, Cond.selects RX2 yX2_isBead yX2_isBead, Cond.code yX2_isBead cX2_isBead 3 (some .boolean), Cond.fieldLink RX2 33 "BeadLoom" "beads" "I"]
def wsX2_moving : List Cond := .code yX2_moving cX2_moving 10 (some .int) :: ((wsX2_moving_r1 ++ wsX2_moving_r2) ++ wsX20 ++ wsX10)
def wsX2_move_r1 : List Cond := [Cond.methodLink RX2 44 yX2_rackAt, Cond.instanceMethod yX2_rackAt, Cond.selects RX2 yX2_rackAt yX2_rackAt, Cond.initialized RX2, Cond.code yX2_rackAt cX2_rackAt 2 (some (.object "BeadLoom$Rack")), Cond.fieldLink RX2 11 "BeadLoom" "racks" "[LBeadLoom$Rack;", Cond.methodLink RX2 82 yX2_moving, Cond.instanceMethod yX2_moving, Cond.selects RX2 yX2_moving yX2_moving, Cond.code yX2_moving cX2_moving 10 (some .int), Cond.fieldLink RX2 37 "BeadLoom" "came" "I", Cond.methodLink RX2 152 arraycopyName, Cond.native arraycopyName, Cond.static arraycopyName, Cond.initialized "java/lang/System", Cond.fieldLink RX2 30 "BeadLoom" "movings" "[I", Cond.methodLink RX2 145 yX2_hindrance, Cond.static yX2_hindrance, Cond.code yX2_hindrance cX2_hindrance 8 (some .int), Cond.instanceMethod yX1_hasRow, Cond.initialized RX1, Cond.selects RX1 yX1_hasRow yX1_hasRow, Cond.code yX1_hasRow cX1_hasRow 1 (some .boolean), Cond.fieldLink RX1 18 "BeadLoom$Rack" "kind" "I"]
def wsX2_move_r2 : List Cond := [Cond.methodLink RX2 139 yX2_mayExchange, Cond.static yX2_mayExchange, Cond.code yX2_mayExchange cX2_mayExchange 2 (some .boolean), Cond.methodLink RX2 131 yX2_holdsBeads, Cond.static yX2_holdsBeads, Cond.code yX2_holdsBeads cX2_holdsBeads 1 (some .boolean), Cond.instanceMethod yX1_hasStretch, Cond.selects RX1 yX1_hasStretch yX1_hasStretch, Cond.code yX1_hasStretch cX1_hasStretch 5 (some .boolean), Cond.fieldLink RX1 22 "BeadLoom$Rack" "places" "I", Cond.methodLink RX2 148 yX2_mayCome, Cond.instanceMethod yX2_mayCome, Cond.selects RX2 yX2_mayCome yX2_mayCome, Cond.code yX2_mayCome cX2_mayCome 6 (some .int), Cond.methodLink RX2 70 yX2_mayLie, Cond.instanceMethod yX2_mayLie, Cond.selects RX2 yX2_mayLie yX2_mayLie, Cond.code yX2_mayLie cX2_mayLie 4 (some .boolean), Cond.constantLong RX2 137 (-1), Cond.fieldLink RX2 19 "BeadLoom" "pearls" "[Z", Cond.methodLink RX2 55 yX2_isBead, Cond.instanceMethod yX2_isBead, Cond.selects RX2 yX2_isBead yX2_isBead, Cond.code yX2_isBead cX2_isBead 3 (some .boolean)]
def wsX2_move_r3 : List Cond := [Cond.fieldLink RX2 33 "BeadLoom" "beads" "I"]
def wsX2_move : List Cond := .code yX2_move cX2_move 6 (some .int) :: ((wsX2_move_r1 ++ (wsX2_move_r2 ++ wsX2_move_r3)) ++ wsX20 ++ wsX10)
def wsX2_thingsBehind : List Cond := .code yX2_thingsBehind cX2_thingsBehind 2 (some .long) :: ([] ++ wsX10)
def wsX2_open_r1 : List Cond := [Cond.methodLink RX2 44 yX2_rackAt, Cond.instanceMethod yX2_rackAt, Cond.selects RX2 yX2_rackAt yX2_rackAt, Cond.initialized RX2, Cond.code yX2_rackAt cX2_rackAt 2 (some (.object "BeadLoom$Rack")), Cond.fieldLink RX2 11 "BeadLoom" "racks" "[LBeadLoom$Rack;", Cond.methodLink RX2 86 yX2_thingsBehind, Cond.static yX2_thingsBehind, Cond.code yX2_thingsBehind cX2_thingsBehind 2 (some .long), Cond.methodLink RX2 82 yX2_moving, Cond.instanceMethod yX2_moving, Cond.selects RX2 yX2_moving yX2_moving, Cond.code yX2_moving cX2_moving 10 (some .int), Cond.fieldLink RX2 37 "BeadLoom" "came" "I", Cond.methodLink RX2 152 arraycopyName, Cond.native arraycopyName, Cond.static arraycopyName, Cond.initialized "java/lang/System", Cond.fieldLink RX2 30 "BeadLoom" "movings" "[I", Cond.methodLink RX2 145 yX2_hindrance, Cond.static yX2_hindrance, Cond.code yX2_hindrance cX2_hindrance 8 (some .int), Cond.instanceMethod yX1_hasRow, Cond.initialized RX1]
def wsX2_open_r2 : List Cond := [Cond.selects RX1 yX1_hasRow yX1_hasRow, Cond.code yX1_hasRow cX1_hasRow 1 (some .boolean), Cond.fieldLink RX1 18 "BeadLoom$Rack" "kind" "I", Cond.methodLink RX2 139 yX2_mayExchange, Cond.static yX2_mayExchange, Cond.code yX2_mayExchange cX2_mayExchange 2 (some .boolean), Cond.methodLink RX2 131 yX2_holdsBeads, Cond.static yX2_holdsBeads, Cond.code yX2_holdsBeads cX2_holdsBeads 1 (some .boolean), Cond.instanceMethod yX1_hasStretch, Cond.selects RX1 yX1_hasStretch yX1_hasStretch, Cond.code yX1_hasStretch cX1_hasStretch 5 (some .boolean), Cond.fieldLink RX1 22 "BeadLoom$Rack" "places" "I", Cond.methodLink RX2 148 yX2_mayCome, Cond.instanceMethod yX2_mayCome, Cond.selects RX2 yX2_mayCome yX2_mayCome, Cond.code yX2_mayCome cX2_mayCome 6 (some .int), Cond.methodLink RX2 70 yX2_mayLie, Cond.instanceMethod yX2_mayLie, Cond.selects RX2 yX2_mayLie yX2_mayLie, Cond.code yX2_mayLie cX2_mayLie 4 (some .boolean), Cond.constantLong RX2 137 (-1), Cond.fieldLink RX2 19 "BeadLoom" "pearls" "[Z", Cond.methodLink RX2 55 yX2_isBead]
def wsX2_open_r3 : List Cond := [Cond.instanceMethod yX2_isBead, Cond.selects RX2 yX2_isBead yX2_isBead, Cond.code yX2_isBead cX2_isBead 3 (some .boolean), Cond.fieldLink RX2 33 "BeadLoom" "beads" "I", Cond.instanceMethod yX1_blankPlace, Cond.selects RX1 yX1_blankPlace yX1_blankPlace, Cond.code yX1_blankPlace cX1_blankPlace 2 none, Cond.fieldLink RX1 9 "BeadLoom$Rack" "cells" "[J", Cond.methodLink RX1 29 yX1_hasPlace, Cond.instanceMethod yX1_hasPlace, Cond.selects RX1 yX1_hasPlace yX1_hasPlace, Cond.code yX1_hasPlace cX1_hasPlace 2 (some .boolean), Cond.static yX2_blank, Cond.code yX2_blank cX2_blank 1 (some .long)]
def wsX2_open : List Cond := .code yX2_open cX2_open 5 (some .int) :: ((wsX2_open_r1 ++ (wsX2_open_r2 ++ wsX2_open_r3)) ++ wsX20 ++ wsX10)
def wsX2_close_r1 : List Cond := [Cond.methodLink RX2 44 yX2_rackAt, Cond.instanceMethod yX2_rackAt, Cond.selects RX2 yX2_rackAt yX2_rackAt, Cond.initialized RX2, Cond.code yX2_rackAt cX2_rackAt 2 (some (.object "BeadLoom$Rack")), Cond.fieldLink RX2 11 "BeadLoom" "racks" "[LBeadLoom$Rack;", Cond.methodLink RX2 86 yX2_thingsBehind, Cond.static yX2_thingsBehind, Cond.code yX2_thingsBehind cX2_thingsBehind 2 (some .long), Cond.methodLink RX2 82 yX2_moving, Cond.instanceMethod yX2_moving, Cond.selects RX2 yX2_moving yX2_moving, Cond.code yX2_moving cX2_moving 10 (some .int), Cond.fieldLink RX2 37 "BeadLoom" "came" "I", Cond.methodLink RX2 152 arraycopyName, Cond.native arraycopyName, Cond.static arraycopyName, Cond.initialized "java/lang/System", Cond.fieldLink RX2 30 "BeadLoom" "movings" "[I", Cond.methodLink RX2 145 yX2_hindrance, Cond.static yX2_hindrance, Cond.code yX2_hindrance cX2_hindrance 8 (some .int), Cond.instanceMethod yX1_hasRow, Cond.initialized RX1]
def wsX2_close_r2 : List Cond := [Cond.selects RX1 yX1_hasRow yX1_hasRow, Cond.code yX1_hasRow cX1_hasRow 1 (some .boolean), Cond.fieldLink RX1 18 "BeadLoom$Rack" "kind" "I", Cond.methodLink RX2 139 yX2_mayExchange, Cond.static yX2_mayExchange, Cond.code yX2_mayExchange cX2_mayExchange 2 (some .boolean), Cond.methodLink RX2 131 yX2_holdsBeads, Cond.static yX2_holdsBeads, Cond.code yX2_holdsBeads cX2_holdsBeads 1 (some .boolean), Cond.instanceMethod yX1_hasStretch, Cond.selects RX1 yX1_hasStretch yX1_hasStretch, Cond.code yX1_hasStretch cX1_hasStretch 5 (some .boolean), Cond.fieldLink RX1 22 "BeadLoom$Rack" "places" "I", Cond.methodLink RX2 148 yX2_mayCome, Cond.instanceMethod yX2_mayCome, Cond.selects RX2 yX2_mayCome yX2_mayCome, Cond.code yX2_mayCome cX2_mayCome 6 (some .int), Cond.methodLink RX2 70 yX2_mayLie, Cond.instanceMethod yX2_mayLie, Cond.selects RX2 yX2_mayLie yX2_mayLie, Cond.code yX2_mayLie cX2_mayLie 4 (some .boolean), Cond.constantLong RX2 137 (-1), Cond.fieldLink RX2 19 "BeadLoom" "pearls" "[Z", Cond.methodLink RX2 55 yX2_isBead]
def wsX2_close_r3 : List Cond := [Cond.instanceMethod yX2_isBead, Cond.selects RX2 yX2_isBead yX2_isBead, Cond.code yX2_isBead cX2_isBead 3 (some .boolean), Cond.fieldLink RX2 33 "BeadLoom" "beads" "I", Cond.instanceMethod yX1_blankPlace, Cond.selects RX1 yX1_blankPlace yX1_blankPlace, Cond.code yX1_blankPlace cX1_blankPlace 2 none, Cond.fieldLink RX1 9 "BeadLoom$Rack" "cells" "[J", Cond.methodLink RX1 29 yX1_hasPlace, Cond.instanceMethod yX1_hasPlace, Cond.selects RX1 yX1_hasPlace yX1_hasPlace, Cond.code yX1_hasPlace cX1_hasPlace 2 (some .boolean), Cond.static yX2_blank, Cond.code yX2_blank cX2_blank 1 (some .long)]
def wsX2_close : List Cond := .code yX2_close cX2_close 5 (some .int) :: ((wsX2_close_r1 ++ (wsX2_close_r2 ++ wsX2_close_r3)) ++ wsX10 ++ wsX20)
def wsX2_turn_r1 : List Cond := [Cond.methodLink RX2 44 yX2_rackAt, Cond.instanceMethod yX2_rackAt, Cond.selects RX2 yX2_rackAt yX2_rackAt, Cond.initialized RX2, Cond.code yX2_rackAt cX2_rackAt 2 (some (.object "BeadLoom$Rack")), Cond.fieldLink RX2 11 "BeadLoom" "racks" "[LBeadLoom$Rack;", Cond.instanceMethod yX1_rotate, Cond.initialized RX1, Cond.selects RX1 yX1_rotate yX1_rotate, Cond.code yX1_rotate cX1_rotate 4 none, Cond.fieldLink RX1 22 "BeadLoom$Rack" "places" "I", Cond.fieldLink RX1 9 "BeadLoom$Rack" "cells" "[J", Cond.fieldLink RX1 15 "BeadLoom$Rack" "kept" "[J", Cond.methodLink RX1 39 yX1_keepCells, Cond.instanceMethod yX1_keepCells, Cond.selects RX1 yX1_keepCells yX1_keepCells, Cond.code yX1_keepCells cX1_keepCells 1 none, Cond.methodLink RX1 33 arraycopyName, Cond.native arraycopyName, Cond.static arraycopyName, Cond.initialized "java/lang/System", Cond.methodLink RX1 42 yJ9_floorMod_7cf53, Cond.static yJ9_floorMod_7cf53, Cond.initialized RJ9]
def wsX2_turn_r2 : List Cond := [Cond.code yJ9_floorMod_7cf53 cJ9_floorMod_7cf53 3 (some .int)]
def wsX2_turn : List Cond := .code yX2_turn cX2_turn 4 (some .int) :: ((wsX2_turn_r1 ++ wsX2_turn_r2) ++ wsX10 ++ wsX20)
def wsX2_step : List Cond := .code yX2_step cX2_step 6 (some .int) :: ([.fieldLink RX2 26 "BeadLoom" "pattern" "LBeadLoom$Pattern;", .methodLink RX2 44 yX2_rackAt, .instanceMethod yX2_rackAt, .selects RX2 yX2_rackAt yX2_rackAt, .initialized RX2, .code yX2_rackAt cX2_rackAt 2 (some (.object "BeadLoom$Rack")), .fieldLink RX2 11 "BeadLoom" "racks" "[LBeadLoom$Rack;", .instanceMethod yX0_isFull, .initialized RX0, .selects RX0 yX0_isFull yX0_isFull, .code yX0_isFull cX0_isFull 1 (some .boolean), .fieldLink RX0 27 "BeadLoom$Pattern" "steps" "I", .instanceMethod yX0_append, .selects RX0 yX0_append yX0_append, .code yX0_append cX0_append 6 none, .fieldLink RX0 9 "BeadLoom$Pattern" "fromRack" "[I", .fieldLink RX0 15 "BeadLoom$Pattern" "fromPlace" "[I", .fieldLink RX0 18 "BeadLoom$Pattern" "toRack" "[I", .fieldLink RX0 21 "BeadLoom$Pattern" "toPlace" "[I", .fieldLink RX0 24 "BeadLoom$Pattern" "things" "[I", .methodLink RX0 31 yX0_isFull] ++ wsX20 ++ wsX00)
def wsX2_forget : List Cond := .code yX2_forget cX2_forget 2 (some .int) :: ([.fieldLink RX2 26 "BeadLoom" "pattern" "LBeadLoom$Pattern;"] ++ wsX20 ++ wsX00)
def wsX2_keepAllRows : List Cond := .code yX2_keepAllRows cX2_keepAllRows 2 none :: ([.fieldLink RX2 11 "BeadLoom" "racks" "[LBeadLoom$Rack;", .instanceMethod yX1_keepCells, .initialized RX1, .selects RX1 yX1_keepCells yX1_keepCells, .code yX1_keepCells cX1_keepCells 1 none, .fieldLink RX1 9 "BeadLoom$Rack" "cells" "[J", .fieldLink RX1 15 "BeadLoom$Rack" "kept" "[J", .methodLink RX1 33 arraycopyName, .native arraycopyName, .static arraycopyName, .initialized "java/lang/System"] ++ wsX20 ++ wsX10)
def wsX2_weaveRound_r1 : List Cond := [Cond.fieldLink RX2 26 "BeadLoom" "pattern" "LBeadLoom$Pattern;", Cond.methodLink RX2 44 yX2_rackAt, Cond.instanceMethod yX2_rackAt, Cond.selects RX2 yX2_rackAt yX2_rackAt, Cond.initialized RX2, Cond.code yX2_rackAt cX2_rackAt 2 (some (.object "BeadLoom$Rack")), Cond.fieldLink RX2 11 "BeadLoom" "racks" "[LBeadLoom$Rack;", Cond.methodLink RX2 82 yX2_moving, Cond.instanceMethod yX2_moving, Cond.selects RX2 yX2_moving yX2_moving, Cond.code yX2_moving cX2_moving 10 (some .int), Cond.fieldLink RX2 37 "BeadLoom" "came" "I", Cond.methodLink RX2 152 arraycopyName, Cond.native arraycopyName, Cond.static arraycopyName, Cond.initialized "java/lang/System", Cond.fieldLink RX2 30 "BeadLoom" "movings" "[I", Cond.methodLink RX2 145 yX2_hindrance, Cond.static yX2_hindrance, Cond.code yX2_hindrance cX2_hindrance 8 (some .int), Cond.instanceMethod yX1_hasRow, Cond.initialized RX1, Cond.selects RX1 yX1_hasRow yX1_hasRow, Cond.code yX1_hasRow cX1_hasRow 1 (some .boolean)]
def wsX2_weaveRound_r2 : List Cond := [Cond.fieldLink RX1 18 "BeadLoom$Rack" "kind" "I", Cond.methodLink RX2 139 yX2_mayExchange, Cond.static yX2_mayExchange, Cond.code yX2_mayExchange cX2_mayExchange 2 (some .boolean), Cond.methodLink RX2 131 yX2_holdsBeads, Cond.static yX2_holdsBeads, Cond.code yX2_holdsBeads cX2_holdsBeads 1 (some .boolean), Cond.instanceMethod yX1_hasStretch, Cond.selects RX1 yX1_hasStretch yX1_hasStretch, Cond.code yX1_hasStretch cX1_hasStretch 5 (some .boolean), Cond.fieldLink RX1 22 "BeadLoom$Rack" "places" "I", Cond.methodLink RX2 148 yX2_mayCome, Cond.instanceMethod yX2_mayCome, Cond.selects RX2 yX2_mayCome yX2_mayCome, Cond.code yX2_mayCome cX2_mayCome 6 (some .int), Cond.methodLink RX2 70 yX2_mayLie, Cond.instanceMethod yX2_mayLie, Cond.selects RX2 yX2_mayLie yX2_mayLie, Cond.code yX2_mayLie cX2_mayLie 4 (some .boolean), Cond.constantLong RX2 137 (-1), Cond.fieldLink RX2 19 "BeadLoom" "pearls" "[Z", Cond.methodLink RX2 55 yX2_isBead, Cond.instanceMethod yX2_isBead, Cond.selects RX2 yX2_isBead yX2_isBead]
def wsX2_weaveRound_r3 : List Cond := [Cond.code yX2_isBead cX2_isBead 3 (some .boolean), Cond.fieldLink RX2 33 "BeadLoom" "beads" "I"]
def wsX2_weaveRound : List Cond := .code yX2_weaveRound cX2_weaveRound 5 (some .int) :: ((wsX2_weaveRound_r1 ++ (wsX2_weaveRound_r2 ++ wsX2_weaveRound_r3)) ++ wsX20 ++ wsX00 ++ wsX10)
def wsX2_restoreAllRows : List Cond := .code yX2_restoreAllRows cX2_restoreAllRows 2 none :: ([.fieldLink RX2 11 "BeadLoom" "racks" "[LBeadLoom$Rack;", .instanceMethod yX1_restoreCells, .initialized RX1, .selects RX1 yX1_restoreCells yX1_restoreCells, .code yX1_restoreCells cX1_restoreCells 1 none, .fieldLink RX1 15 "BeadLoom$Rack" "kept" "[J", .fieldLink RX1 9 "BeadLoom$Rack" "cells" "[J", .methodLink RX1 33 arraycopyName, .native arraycopyName, .static arraycopyName, .initialized "java/lang/System"] ++ wsX20 ++ wsX10)
def wsX2_weave_r1 : List Cond := [Cond.fieldLink RX2 26 "BeadLoom" "pattern" "LBeadLoom$Pattern;", Cond.fieldLink RX2 40 "BeadLoom" "roundsWoven" "I", Cond.methodLink RX2 111 yX2_keepAllRows, Cond.instanceMethod yX2_keepAllRows, Cond.selects RX2 yX2_keepAllRows yX2_keepAllRows, Cond.initialized RX2, Cond.code yX2_keepAllRows cX2_keepAllRows 2 none, Cond.fieldLink RX2 11 "BeadLoom" "racks" "[LBeadLoom$Rack;", Cond.instanceMethod yX1_keepCells, Cond.initialized RX1, Cond.selects RX1 yX1_keepCells yX1_keepCells, Cond.code yX1_keepCells cX1_keepCells 1 none, Cond.fieldLink RX1 9 "BeadLoom$Rack" "cells" "[J", Cond.fieldLink RX1 15 "BeadLoom$Rack" "kept" "[J", Cond.methodLink RX1 33 arraycopyName, Cond.native arraycopyName, Cond.static arraycopyName, Cond.initialized "java/lang/System", Cond.methodLink RX2 114 yX2_weaveRound, Cond.instanceMethod yX2_weaveRound, Cond.selects RX2 yX2_weaveRound yX2_weaveRound, Cond.code yX2_weaveRound cX2_weaveRound 5 (some .int), Cond.methodLink RX2 44 yX2_rackAt, Cond.instanceMethod yX2_rackAt]
def wsX2_weave_r2 : List Cond := [Cond.selects RX2 yX2_rackAt yX2_rackAt, Cond.code yX2_rackAt cX2_rackAt 2 (some (.object "BeadLoom$Rack")), Cond.methodLink RX2 82 yX2_moving, Cond.instanceMethod yX2_moving, Cond.selects RX2 yX2_moving yX2_moving, Cond.code yX2_moving cX2_moving 10 (some .int), Cond.fieldLink RX2 37 "BeadLoom" "came" "I", Cond.methodLink RX2 152 arraycopyName, Cond.fieldLink RX2 30 "BeadLoom" "movings" "[I", Cond.methodLink RX2 145 yX2_hindrance, Cond.static yX2_hindrance, Cond.code yX2_hindrance cX2_hindrance 8 (some .int), Cond.instanceMethod yX1_hasRow, Cond.selects RX1 yX1_hasRow yX1_hasRow, Cond.code yX1_hasRow cX1_hasRow 1 (some .boolean), Cond.fieldLink RX1 18 "BeadLoom$Rack" "kind" "I", Cond.methodLink RX2 139 yX2_mayExchange, Cond.static yX2_mayExchange, Cond.code yX2_mayExchange cX2_mayExchange 2 (some .boolean), Cond.methodLink RX2 131 yX2_holdsBeads, Cond.static yX2_holdsBeads, Cond.code yX2_holdsBeads cX2_holdsBeads 1 (some .boolean), Cond.instanceMethod yX1_hasStretch, Cond.selects RX1 yX1_hasStretch yX1_hasStretch]
def wsX2_weave_r3 : List Cond := [Cond.code yX1_hasStretch cX1_hasStretch 5 (some .boolean), Cond.fieldLink RX1 22 "BeadLoom$Rack" "places" "I", Cond.methodLink RX2 148 yX2_mayCome, Cond.instanceMethod yX2_mayCome, Cond.selects RX2 yX2_mayCome yX2_mayCome, Cond.code yX2_mayCome cX2_mayCome 6 (some .int), Cond.methodLink RX2 70 yX2_mayLie, Cond.instanceMethod yX2_mayLie, Cond.selects RX2 yX2_mayLie yX2_mayLie, Cond.code yX2_mayLie cX2_mayLie 4 (some .boolean), Cond.constantLong RX2 137 (-1), Cond.fieldLink RX2 19 "BeadLoom" "pearls" "[Z", Cond.methodLink RX2 55 yX2_isBead, Cond.instanceMethod yX2_isBead, Cond.selects RX2 yX2_isBead yX2_isBead, Cond.code yX2_isBead cX2_isBead 3 (some .boolean), Cond.fieldLink RX2 33 "BeadLoom" "beads" "I", Cond.methodLink RX2 118 yX2_restoreAllRows, Cond.instanceMethod yX2_restoreAllRows, Cond.selects RX2 yX2_restoreAllRows yX2_restoreAllRows, Cond.code yX2_restoreAllRows cX2_restoreAllRows 2 none, Cond.instanceMethod yX1_restoreCells, Cond.selects RX1 yX1_restoreCells yX1_restoreCells, Cond.code yX1_restoreCells cX1_restoreCells 1 none]
def wsX2_weave : List Cond := .code yX2_weave cX2_weave 7 (some .int) :: ((wsX2_weave_r1 ++ (wsX2_weave_r2 ++ wsX2_weave_r3)) ++ wsX20 ++ wsX00 ++ wsX10)
def wsX2_holdsNumbers : List Cond := .code yX2_holdsNumbers cX2_holdsNumbers 1 (some .boolean) :: ([])
def wsX2_mayCompare : List Cond := .code yX2_mayCompare cX2_mayCompare 2 (some .boolean) :: ([.methodLink RX2 139 yX2_mayExchange, .static yX2_mayExchange, .initialized RX2, .code yX2_mayExchange cX2_mayExchange 2 (some .boolean), .methodLink RX2 131 yX2_holdsBeads, .static yX2_holdsBeads, .code yX2_holdsBeads cX2_holdsBeads 1 (some .boolean), .methodLink RX2 142 yX2_holdsNumbers, .static yX2_holdsNumbers, .code yX2_holdsNumbers cX2_holdsNumbers 1 (some .boolean)])
def wsX2_alike_r1 : List Cond := [Cond.methodLink RX2 125 Lib.Math.min.name, Cond.static Lib.Math.min.name, Cond.initialized "java/lang/Math", Cond.code Lib.Math.min.name Lib.Math.min.code 2 (some .int), Cond.methodLink RX2 63 yX2_rowAt, Cond.instanceMethod yX2_rowAt, Cond.selects RX2 yX2_rowAt yX2_rowAt, Cond.initialized RX2, Cond.code yX2_rowAt cX2_rowAt 3 (some (.object "BeadLoom$Rack")), Cond.methodLink RX2 44 yX2_rackAt, Cond.instanceMethod yX2_rackAt, Cond.selects RX2 yX2_rackAt yX2_rackAt, Cond.code yX2_rackAt cX2_rackAt 2 (some (.object "BeadLoom$Rack")), Cond.fieldLink RX2 11 "BeadLoom" "racks" "[LBeadLoom$Rack;", Cond.instanceMethod yX1_hasRow, Cond.initialized RX1, Cond.selects RX1 yX1_hasRow yX1_hasRow, Cond.code yX1_hasRow cX1_hasRow 1 (some .boolean), Cond.fieldLink RX1 18 "BeadLoom$Rack" "kind" "I", Cond.methodLink RX2 121 yX2_mayCompare, Cond.static yX2_mayCompare, Cond.code yX2_mayCompare cX2_mayCompare 2 (some .boolean), Cond.methodLink RX2 139 yX2_mayExchange, Cond.static yX2_mayExchange]
def wsX2_alike_r2 : List Cond := [Cond.code yX2_mayExchange cX2_mayExchange 2 (some .boolean), Cond.methodLink RX2 131 yX2_holdsBeads, Cond.static yX2_holdsBeads, Cond.code yX2_holdsBeads cX2_holdsBeads 1 (some .boolean), Cond.methodLink RX2 142 yX2_holdsNumbers, Cond.static yX2_holdsNumbers, Cond.code yX2_holdsNumbers cX2_holdsNumbers 1 (some .boolean)]
def wsX2_alike : List Cond := .code yX2_alike cX2_alike 7 (some .int) :: ((wsX2_alike_r1 ++ wsX2_alike_r2) ++ wsX10 ++ wsX20)
def wsX2_shade_r1 : List Cond := [Cond.methodLink RX2 63 yX2_rowAt, Cond.instanceMethod yX2_rowAt, Cond.selects RX2 yX2_rowAt yX2_rowAt, Cond.initialized RX2, Cond.code yX2_rowAt cX2_rowAt 3 (some (.object "BeadLoom$Rack")), Cond.methodLink RX2 44 yX2_rackAt, Cond.instanceMethod yX2_rackAt, Cond.selects RX2 yX2_rackAt yX2_rackAt, Cond.code yX2_rackAt cX2_rackAt 2 (some (.object "BeadLoom$Rack")), Cond.fieldLink RX2 11 "BeadLoom" "racks" "[LBeadLoom$Rack;", Cond.instanceMethod yX1_hasRow, Cond.initialized RX1, Cond.selects RX1 yX1_hasRow yX1_hasRow, Cond.code yX1_hasRow cX1_hasRow 1 (some .boolean), Cond.fieldLink RX1 18 "BeadLoom$Rack" "kind" "I", Cond.methodLink RX2 131 yX2_holdsBeads, Cond.static yX2_holdsBeads, Cond.code yX2_holdsBeads cX2_holdsBeads 1 (some .boolean), Cond.methodLink RX2 59 yX2_colourOf, Cond.instanceMethod yX2_colourOf, Cond.selects RX2 yX2_colourOf yX2_colourOf, Cond.code yX2_colourOf cX2_colourOf 3 (some .int), Cond.fieldLink RX2 15 "BeadLoom" "colours" "[I", Cond.methodLink RX2 55 yX2_isBead]
def wsX2_shade_r2 : List Cond := [Cond.instanceMethod yX2_isBead, Cond.selects RX2 yX2_isBead yX2_isBead, Cond.code yX2_isBead cX2_isBead 3 (some .boolean), Cond.fieldLink RX2 33 "BeadLoom" "beads" "I"]
def wsX2_shade : List Cond := .code yX2_shade cX2_shade 7 (some .long) :: ((wsX2_shade_r1 ++ wsX2_shade_r2) ++ wsX10 ++ wsX20)
def wsX2_rack : List Cond := .code yX2_rack cX2_rack 4 (some .int) :: ([.methodLink RX2 44 yX2_rackAt, .instanceMethod yX2_rackAt, .selects RX2 yX2_rackAt yX2_rackAt, .initialized RX2, .code yX2_rackAt cX2_rackAt 2 (some (.object "BeadLoom$Rack")), .fieldLink RX2 11 "BeadLoom" "racks" "[LBeadLoom$Rack;"] ++ wsX10 ++ wsX20)
def wsX2_about : List Cond := .code yX2_about cX2_about 2 (some .int) :: ([.fieldLink RX2 37 "BeadLoom" "came" "I", .fieldLink RX2 30 "BeadLoom" "movings" "[I", .fieldLink RX2 33 "BeadLoom" "beads" "I", .fieldLink RX2 26 "BeadLoom" "pattern" "LBeadLoom$Pattern;", .fieldLink RX2 40 "BeadLoom" "roundsWoven" "I"] ++ wsX20 ++ wsX00)
def wsX3_init : List Cond := .code yX3_init cX3_init 1 none :: ([.methodLink RX3 1 objectInit, .instanceMethod objectInit, .code objectInit ⟨#[0xb1]⟩ 1 none, .arrayClass .int, .fieldLink RX3 7 "BeadLoomModel" "kind" "[I", .fieldLink RX3 13 "BeadLoomModel" "many" "[I", .arrayClass .long, .fieldLink RX3 16 "BeadLoomModel" "cell" "[J", .fieldLink RX3 20 "BeadLoomModel" "before" "[J", .fieldLink RX3 23 "BeadLoomModel" "aside" "[J", .fieldLink RX3 26 "BeadLoomModel" "colours" "[I", .arrayClass .boolean, .fieldLink RX3 29 "BeadLoomModel" "pearls" "[Z", .fieldLink RX3 33 "BeadLoomModel" "pattern" "[I", .fieldLink RX3 36 "BeadLoomModel" "counts" "[I"] ++ wsX30)
def wsX3_isRack : List Cond := .code yX3_isRack cX3_isRack 1 (some .boolean) :: ([])
def wsX3_hasRow : List Cond := .code yX3_hasRow cX3_hasRow 2 (some .boolean) :: ([.fieldLink RX3 7 "BeadLoomModel" "kind" "[I", .methodLink RX3 39 yX3_isRack, .static yX3_isRack, .initialized RX3, .code yX3_isRack cX3_isRack 1 (some .boolean)] ++ wsX30)
def wsX3_isNumbers : List Cond := .code yX3_isNumbers cX3_isNumbers 2 (some .boolean) :: ([.fieldLink RX3 7 "BeadLoomModel" "kind" "[I"] ++ wsX30)
def wsX3_isBeads : List Cond := .code yX3_isBeads cX3_isBeads 2 (some .boolean) :: ([.fieldLink RX3 7 "BeadLoomModel" "kind" "[I"] ++ wsX30)
def wsX3_isPlace : List Cond := .code yX3_isPlace cX3_isPlace 3 (some .boolean) :: ([.fieldLink RX3 13 "BeadLoomModel" "many" "[I", .methodLink RX3 43 yX3_hasRow, .instanceMethod yX3_hasRow, .selects RX3 yX3_hasRow yX3_hasRow, .initialized RX3, .code yX3_hasRow cX3_hasRow 2 (some .boolean), .fieldLink RX3 7 "BeadLoomModel" "kind" "[I", .methodLink RX3 39 yX3_isRack, .static yX3_isRack, .code yX3_isRack cX3_isRack 1 (some .boolean)] ++ wsX30)
def wsX3_isBead : List Cond := .code yX3_isBead cX3_isBead 3 (some .boolean) :: ([.fieldLink RX3 46 "BeadLoomModel" "beads" "I"] ++ wsX30)
def wsX3_nothing : List Cond := .code yX3_nothing cX3_nothing 2 (some .long) :: ([.constantLong RX3 53 (-1), .methodLink RX3 50 yX3_isBeads, .instanceMethod yX3_isBeads, .selects RX3 yX3_isBeads yX3_isBeads, .initialized RX3, .code yX3_isBeads cX3_isBeads 2 (some .boolean), .fieldLink RX3 7 "BeadLoomModel" "kind" "[I"] ++ wsX30)
def wsX3_kept : List Cond := .code yX3_kept cX3_kept 3 (some .long) :: ([.constantLong RX3 55 (65535)])
def wsX3_become : List Cond := .code yX3_become cX3_become 5 none :: ([.fieldLink RX3 7 "BeadLoomModel" "kind" "[I", .fieldLink RX3 13 "BeadLoomModel" "many" "[I", .fieldLink RX3 16 "BeadLoomModel" "cell" "[J", .methodLink RX3 57 yX3_nothing, .instanceMethod yX3_nothing, .selects RX3 yX3_nothing yX3_nothing, .initialized RX3, .code yX3_nothing cX3_nothing 2 (some .long), .constantLong RX3 53 (-1), .methodLink RX3 50 yX3_isBeads, .instanceMethod yX3_isBeads, .selects RX3 yX3_isBeads yX3_isBeads, .code yX3_isBeads cX3_isBeads 2 (some .boolean)] ++ wsX30)
def wsX3_make : List Cond := .code yX3_make cX3_make 4 (some .boolean) :: ([.methodLink RX3 39 yX3_isRack, .static yX3_isRack, .initialized RX3, .code yX3_isRack cX3_isRack 1 (some .boolean), .methodLink RX3 61 yX3_become, .instanceMethod yX3_become, .selects RX3 yX3_become yX3_become, .code yX3_become cX3_become 5 none, .fieldLink RX3 7 "BeadLoomModel" "kind" "[I", .fieldLink RX3 13 "BeadLoomModel" "many" "[I", .fieldLink RX3 16 "BeadLoomModel" "cell" "[J", .methodLink RX3 57 yX3_nothing, .instanceMethod yX3_nothing, .selects RX3 yX3_nothing yX3_nothing, .code yX3_nothing cX3_nothing 2 (some .long), .constantLong RX3 53 (-1), .methodLink RX3 50 yX3_isBeads, .instanceMethod yX3_isBeads, .selects RX3 yX3_isBeads yX3_isBeads, .code yX3_isBeads cX3_isBeads 2 (some .boolean)] ++ wsX30)
def wsX3_lamp : List Cond := .code yX3_lamp cX3_lamp 2 (some .boolean) :: ([.methodLink RX3 39 yX3_isRack, .static yX3_isRack, .initialized RX3, .code yX3_isRack cX3_isRack 1 (some .boolean), .methodLink RX3 61 yX3_become, .instanceMethod yX3_become, .selects RX3 yX3_become yX3_become, .code yX3_become cX3_become 5 none, .fieldLink RX3 7 "BeadLoomModel" "kind" "[I", .fieldLink RX3 13 "BeadLoomModel" "many" "[I", .fieldLink RX3 16 "BeadLoomModel" "cell" "[J", .methodLink RX3 57 yX3_nothing, .instanceMethod yX3_nothing, .selects RX3 yX3_nothing yX3_nothing, .code yX3_nothing cX3_nothing 2 (some .long), .constantLong RX3 53 (-1), .methodLink RX3 50 yX3_isBeads, .instanceMethod yX3_isBeads, .selects RX3 yX3_isBeads yX3_isBeads, .code yX3_isBeads cX3_isBeads 2 (some .boolean)] ++ wsX30)
def wsX3_empty : List Cond := .code yX3_empty cX3_empty 2 (some .boolean) :: ([.fieldLink RX3 7 "BeadLoomModel" "kind" "[I", .methodLink RX3 39 yX3_isRack, .static yX3_isRack, .initialized RX3, .code yX3_isRack cX3_isRack 1 (some .boolean), .methodLink RX3 61 yX3_become, .instanceMethod yX3_become, .selects RX3 yX3_become yX3_become, .code yX3_become cX3_become 5 none, .fieldLink RX3 13 "BeadLoomModel" "many" "[I", .fieldLink RX3 16 "BeadLoomModel" "cell" "[J", .methodLink RX3 57 yX3_nothing, .instanceMethod yX3_nothing, .selects RX3 yX3_nothing yX3_nothing, .code yX3_nothing cX3_nothing 2 (some .long), .constantLong RX3 53 (-1), .methodLink RX3 50 yX3_isBeads, .instanceMethod yX3_isBeads, .selects RX3 yX3_isBeads yX3_isBeads, .code yX3_isBeads cX3_isBeads 2 (some .boolean)] ++ wsX30)
def wsX3_bead : List Cond := .code yX3_bead cX3_bead 3 (some .int) :: ([.fieldLink RX3 46 "BeadLoomModel" "beads" "I", .fieldLink RX3 26 "BeadLoomModel" "colours" "[I", .fieldLink RX3 29 "BeadLoomModel" "pearls" "[Z"] ++ wsX30)
def wsX3_paint : List Cond := .code yX3_paint cX3_paint 3 (some .boolean) :: ([.fieldLink RX3 26 "BeadLoomModel" "colours" "[I", .methodLink RX3 65 yX3_isBead, .instanceMethod yX3_isBead, .selects RX3 yX3_isBead yX3_isBead, .initialized RX3, .code yX3_isBead cX3_isBead 3 (some .boolean), .fieldLink RX3 46 "BeadLoomModel" "beads" "I"] ++ wsX30)
def wsX3_colour : List Cond := .code yX3_colour cX3_colour 2 (some .int) :: ([.fieldLink RX3 26 "BeadLoomModel" "colours" "[I", .methodLink RX3 65 yX3_isBead, .instanceMethod yX3_isBead, .selects RX3 yX3_isBead yX3_isBead, .initialized RX3, .code yX3_isBead cX3_isBead 3 (some .boolean), .fieldLink RX3 46 "BeadLoomModel" "beads" "I"] ++ wsX30)
def wsX3_put_r1 : List Cond := [Cond.fieldLink RX3 16 "BeadLoomModel" "cell" "[J", Cond.fieldLink RX3 7 "BeadLoomModel" "kind" "[I", Cond.constantLong RX3 53 (-1), Cond.fieldLink RX3 29 "BeadLoomModel" "pearls" "[Z", Cond.methodLink RX3 69 yX3_isPlace, Cond.instanceMethod yX3_isPlace, Cond.selects RX3 yX3_isPlace yX3_isPlace, Cond.initialized RX3, Cond.code yX3_isPlace cX3_isPlace 3 (some .boolean), Cond.fieldLink RX3 13 "BeadLoomModel" "many" "[I", Cond.methodLink RX3 43 yX3_hasRow, Cond.instanceMethod yX3_hasRow, Cond.selects RX3 yX3_hasRow yX3_hasRow, Cond.code yX3_hasRow cX3_hasRow 2 (some .boolean), Cond.methodLink RX3 39 yX3_isRack, Cond.static yX3_isRack, Cond.code yX3_isRack cX3_isRack 1 (some .boolean), Cond.methodLink RX3 50 yX3_isBeads, Cond.instanceMethod yX3_isBeads, Cond.selects RX3 yX3_isBeads yX3_isBeads, Cond.code yX3_isBeads cX3_isBeads 2 (some .boolean), Cond.methodLink RX3 73 yX3_kept, Cond.static yX3_kept, Cond.code yX3_kept cX3_kept 3 (some .long)]
def wsX3_put_r2 : List Cond := [Cond.constantLong RX3 55 (65535), Cond.methodLink RX3 65 yX3_isBead, Cond.instanceMethod yX3_isBead, Cond.selects RX3 yX3_isBead yX3_isBead, Cond.code yX3_isBead cX3_isBead 3 (some .boolean), Cond.fieldLink RX3 46 "BeadLoomModel" "beads" "I"]
def wsX3_put : List Cond := .code yX3_put cX3_put 5 (some .boolean) :: ((wsX3_put_r1 ++ wsX3_put_r2) ++ wsX30)
def wsX3_look : List Cond := .code yX3_look cX3_look 3 (some .long) :: ([.fieldLink RX3 16 "BeadLoomModel" "cell" "[J", .methodLink RX3 69 yX3_isPlace, .instanceMethod yX3_isPlace, .selects RX3 yX3_isPlace yX3_isPlace, .initialized RX3, .code yX3_isPlace cX3_isPlace 3 (some .boolean), .fieldLink RX3 13 "BeadLoomModel" "many" "[I", .methodLink RX3 43 yX3_hasRow, .instanceMethod yX3_hasRow, .selects RX3 yX3_hasRow yX3_hasRow, .code yX3_hasRow cX3_hasRow 2 (some .boolean), .fieldLink RX3 7 "BeadLoomModel" "kind" "[I", .methodLink RX3 39 yX3_isRack, .static yX3_isRack, .code yX3_isRack cX3_isRack 1 (some .boolean)] ++ wsX30)
def wsX3_reason : List Cond := .code yX3_reason cX3_reason 9 (some .int) :: ([.fieldLink RX3 7 "BeadLoomModel" "kind" "[I", .fieldLink RX3 13 "BeadLoomModel" "many" "[I", .methodLink RX3 50 yX3_isBeads, .instanceMethod yX3_isBeads, .selects RX3 yX3_isBeads yX3_isBeads, .initialized RX3, .code yX3_isBeads cX3_isBeads 2 (some .boolean)] ++ wsX30)
def wsX3_moving : List Cond := .code yX3_moving cX3_moving 13 (some .int) :: ([.fieldLink RX3 81 "BeadLoomModel" "came" "I", .fieldLink RX3 23 "BeadLoomModel" "aside" "[J", .fieldLink RX3 16 "BeadLoomModel" "cell" "[J", .fieldLink RX3 7 "BeadLoomModel" "kind" "[I", .constantLong RX3 53 (-1), .fieldLink RX3 29 "BeadLoomModel" "pearls" "[Z", .fieldLink RX3 36 "BeadLoomModel" "counts" "[I", .methodLink RX3 77 yX3_reason, .instanceMethod yX3_reason, .selects RX3 yX3_reason yX3_reason, .initialized RX3, .code yX3_reason cX3_reason 9 (some .int), .fieldLink RX3 13 "BeadLoomModel" "many" "[I", .methodLink RX3 50 yX3_isBeads, .instanceMethod yX3_isBeads, .selects RX3 yX3_isBeads yX3_isBeads, .code yX3_isBeads cX3_isBeads 2 (some .boolean)] ++ wsX30)
def wsX3_move : List Cond := .code yX3_move cX3_move 6 (some .int) :: ([.methodLink RX3 39 yX3_isRack, .static yX3_isRack, .initialized RX3, .code yX3_isRack cX3_isRack 1 (some .boolean), .methodLink RX3 84 yX3_moving, .instanceMethod yX3_moving, .selects RX3 yX3_moving yX3_moving, .code yX3_moving cX3_moving 13 (some .int), .fieldLink RX3 81 "BeadLoomModel" "came" "I", .fieldLink RX3 23 "BeadLoomModel" "aside" "[J", .fieldLink RX3 16 "BeadLoomModel" "cell" "[J", .fieldLink RX3 7 "BeadLoomModel" "kind" "[I", .constantLong RX3 53 (-1), .fieldLink RX3 29 "BeadLoomModel" "pearls" "[Z", .fieldLink RX3 36 "BeadLoomModel" "counts" "[I", .methodLink RX3 77 yX3_reason, .instanceMethod yX3_reason, .selects RX3 yX3_reason yX3_reason, .code yX3_reason cX3_reason 9 (some .int), .fieldLink RX3 13 "BeadLoomModel" "many" "[I", .methodLink RX3 50 yX3_isBeads, .instanceMethod yX3_isBeads, .selects RX3 yX3_isBeads yX3_isBeads, .code yX3_isBeads cX3_isBeads 2 (some .boolean)] ++ wsX30)
def wsX3_open_r1 : List Cond := [Cond.fieldLink RX3 13 "BeadLoomModel" "many" "[I", Cond.fieldLink RX3 16 "BeadLoomModel" "cell" "[J", Cond.methodLink RX3 39 yX3_isRack, Cond.static yX3_isRack, Cond.initialized RX3, Cond.code yX3_isRack cX3_isRack 1 (some .boolean), Cond.methodLink RX3 84 yX3_moving, Cond.instanceMethod yX3_moving, Cond.selects RX3 yX3_moving yX3_moving, Cond.code yX3_moving cX3_moving 13 (some .int), Cond.fieldLink RX3 81 "BeadLoomModel" "came" "I", Cond.fieldLink RX3 23 "BeadLoomModel" "aside" "[J", Cond.fieldLink RX3 7 "BeadLoomModel" "kind" "[I", Cond.constantLong RX3 53 (-1), Cond.fieldLink RX3 29 "BeadLoomModel" "pearls" "[Z", Cond.fieldLink RX3 36 "BeadLoomModel" "counts" "[I", Cond.methodLink RX3 77 yX3_reason, Cond.instanceMethod yX3_reason, Cond.selects RX3 yX3_reason yX3_reason, Cond.code yX3_reason cX3_reason 9 (some .int), Cond.methodLink RX3 50 yX3_isBeads, Cond.instanceMethod yX3_isBeads, Cond.selects RX3 yX3_isBeads yX3_isBeads, Cond.code yX3_isBeads cX3_isBeads 2 (some .boolean)]
def wsX3_open_r2 : List Cond := [Cond.methodLink RX3 57 yX3_nothing, Cond.instanceMethod yX3_nothing, Cond.selects RX3 yX3_nothing yX3_nothing, Cond.code yX3_nothing cX3_nothing 2 (some .long)]
def wsX3_open : List Cond := .code yX3_open cX3_open 4 (some .int) :: ((wsX3_open_r1 ++ wsX3_open_r2) ++ wsX30)
def wsX3_close_r1 : List Cond := [Cond.fieldLink RX3 13 "BeadLoomModel" "many" "[I", Cond.fieldLink RX3 16 "BeadLoomModel" "cell" "[J", Cond.methodLink RX3 39 yX3_isRack, Cond.static yX3_isRack, Cond.initialized RX3, Cond.code yX3_isRack cX3_isRack 1 (some .boolean), Cond.methodLink RX3 84 yX3_moving, Cond.instanceMethod yX3_moving, Cond.selects RX3 yX3_moving yX3_moving, Cond.code yX3_moving cX3_moving 13 (some .int), Cond.fieldLink RX3 81 "BeadLoomModel" "came" "I", Cond.fieldLink RX3 23 "BeadLoomModel" "aside" "[J", Cond.fieldLink RX3 7 "BeadLoomModel" "kind" "[I", Cond.constantLong RX3 53 (-1), Cond.fieldLink RX3 29 "BeadLoomModel" "pearls" "[Z", Cond.fieldLink RX3 36 "BeadLoomModel" "counts" "[I", Cond.methodLink RX3 77 yX3_reason, Cond.instanceMethod yX3_reason, Cond.selects RX3 yX3_reason yX3_reason, Cond.code yX3_reason cX3_reason 9 (some .int), Cond.methodLink RX3 50 yX3_isBeads, Cond.instanceMethod yX3_isBeads, Cond.selects RX3 yX3_isBeads yX3_isBeads, Cond.code yX3_isBeads cX3_isBeads 2 (some .boolean)]
def wsX3_close_r2 : List Cond := [Cond.methodLink RX3 57 yX3_nothing, Cond.instanceMethod yX3_nothing, Cond.selects RX3 yX3_nothing yX3_nothing, Cond.code yX3_nothing cX3_nothing 2 (some .long)]
def wsX3_close : List Cond := .code yX3_close cX3_close 4 (some .int) :: ((wsX3_close_r1 ++ wsX3_close_r2) ++ wsX30)
def wsX3_turn : List Cond := .code yX3_turn cX3_turn 7 (some .int) :: ([.fieldLink RX3 7 "BeadLoomModel" "kind" "[I", .fieldLink RX3 13 "BeadLoomModel" "many" "[I", .fieldLink RX3 23 "BeadLoomModel" "aside" "[J", .fieldLink RX3 16 "BeadLoomModel" "cell" "[J", .methodLink RX3 39 yX3_isRack, .static yX3_isRack, .initialized RX3, .code yX3_isRack cX3_isRack 1 (some .boolean)] ++ wsX30)
def wsX3_step : List Cond := .code yX3_step cX3_step 7 (some .int) :: ([.fieldLink RX3 87 "BeadLoomModel" "steps" "I", .fieldLink RX3 33 "BeadLoomModel" "pattern" "[I", .methodLink RX3 39 yX3_isRack, .static yX3_isRack, .initialized RX3, .code yX3_isRack cX3_isRack 1 (some .boolean)] ++ wsX30)
def wsX3_forget : List Cond := .code yX3_forget cX3_forget 2 (some .int) :: ([.fieldLink RX3 87 "BeadLoomModel" "steps" "I"] ++ wsX30)
def wsX3_doStep : List Cond := .code yX3_doStep cX3_doStep 3 (some .int) :: ([.fieldLink RX3 33 "BeadLoomModel" "pattern" "[I", .methodLink RX3 84 yX3_moving, .instanceMethod yX3_moving, .selects RX3 yX3_moving yX3_moving, .initialized RX3, .code yX3_moving cX3_moving 13 (some .int), .fieldLink RX3 81 "BeadLoomModel" "came" "I", .fieldLink RX3 23 "BeadLoomModel" "aside" "[J", .fieldLink RX3 16 "BeadLoomModel" "cell" "[J", .fieldLink RX3 7 "BeadLoomModel" "kind" "[I", .constantLong RX3 53 (-1), .fieldLink RX3 29 "BeadLoomModel" "pearls" "[Z", .fieldLink RX3 36 "BeadLoomModel" "counts" "[I", .methodLink RX3 77 yX3_reason, .instanceMethod yX3_reason, .selects RX3 yX3_reason yX3_reason, .code yX3_reason cX3_reason 9 (some .int), .fieldLink RX3 13 "BeadLoomModel" "many" "[I", .methodLink RX3 50 yX3_isBeads, .instanceMethod yX3_isBeads, .selects RX3 yX3_isBeads yX3_isBeads, .code yX3_isBeads cX3_isBeads 2 (some .boolean)] ++ wsX30)
def wsX3_weave_r1 : List Cond := [Cond.fieldLink RX3 87 "BeadLoomModel" "steps" "I", Cond.fieldLink RX3 20 "BeadLoomModel" "before" "[J", Cond.fieldLink RX3 16 "BeadLoomModel" "cell" "[J", Cond.fieldLink RX3 94 "BeadLoomModel" "woven" "I", Cond.methodLink RX3 90 yX3_doStep, Cond.instanceMethod yX3_doStep, Cond.selects RX3 yX3_doStep yX3_doStep, Cond.initialized RX3, Cond.code yX3_doStep cX3_doStep 3 (some .int), Cond.fieldLink RX3 33 "BeadLoomModel" "pattern" "[I", Cond.methodLink RX3 84 yX3_moving, Cond.instanceMethod yX3_moving, Cond.selects RX3 yX3_moving yX3_moving, Cond.code yX3_moving cX3_moving 13 (some .int), Cond.fieldLink RX3 81 "BeadLoomModel" "came" "I", Cond.fieldLink RX3 23 "BeadLoomModel" "aside" "[J", Cond.fieldLink RX3 7 "BeadLoomModel" "kind" "[I", Cond.constantLong RX3 53 (-1), Cond.fieldLink RX3 29 "BeadLoomModel" "pearls" "[Z", Cond.fieldLink RX3 36 "BeadLoomModel" "counts" "[I", Cond.methodLink RX3 77 yX3_reason, Cond.instanceMethod yX3_reason, Cond.selects RX3 yX3_reason yX3_reason, Cond.code yX3_reason cX3_reason 9 (some .int)]
def wsX3_weave_r2 : List Cond := [Cond.fieldLink RX3 13 "BeadLoomModel" "many" "[I", Cond.methodLink RX3 50 yX3_isBeads, Cond.instanceMethod yX3_isBeads, Cond.selects RX3 yX3_isBeads yX3_isBeads, Cond.code yX3_isBeads cX3_isBeads 2 (some .boolean)]
def wsX3_weave : List Cond := .code yX3_weave cX3_weave 8 (some .int) :: ((wsX3_weave_r1 ++ wsX3_weave_r2) ++ wsX30)
def wsX3_areAlike : List Cond := .code yX3_areAlike cX3_areAlike 5 (some .boolean) :: ([.fieldLink RX3 7 "BeadLoomModel" "kind" "[I", .fieldLink RX3 16 "BeadLoomModel" "cell" "[J", .methodLink RX3 97 yX3_isNumbers, .instanceMethod yX3_isNumbers, .selects RX3 yX3_isNumbers yX3_isNumbers, .initialized RX3, .code yX3_isNumbers cX3_isNumbers 2 (some .boolean), .methodLink RX3 50 yX3_isBeads, .instanceMethod yX3_isBeads, .selects RX3 yX3_isBeads yX3_isBeads, .code yX3_isBeads cX3_isBeads 2 (some .boolean)] ++ wsX30)
def wsX3_alike : List Cond := .code yX3_alike cX3_alike 4 (some .int) :: ([.fieldLink RX3 13 "BeadLoomModel" "many" "[I", .methodLink RX3 43 yX3_hasRow, .instanceMethod yX3_hasRow, .selects RX3 yX3_hasRow yX3_hasRow, .initialized RX3, .code yX3_hasRow cX3_hasRow 2 (some .boolean), .fieldLink RX3 7 "BeadLoomModel" "kind" "[I", .methodLink RX3 39 yX3_isRack, .static yX3_isRack, .code yX3_isRack cX3_isRack 1 (some .boolean), .methodLink RX3 100 yX3_areAlike, .instanceMethod yX3_areAlike, .selects RX3 yX3_areAlike yX3_areAlike, .code yX3_areAlike cX3_areAlike 5 (some .boolean), .fieldLink RX3 16 "BeadLoomModel" "cell" "[J", .methodLink RX3 97 yX3_isNumbers, .instanceMethod yX3_isNumbers, .selects RX3 yX3_isNumbers yX3_isNumbers, .code yX3_isNumbers cX3_isNumbers 2 (some .boolean), .methodLink RX3 50 yX3_isBeads, .instanceMethod yX3_isBeads, .selects RX3 yX3_isBeads yX3_isBeads, .code yX3_isBeads cX3_isBeads 2 (some .boolean)] ++ wsX30)
def wsX3_shade : List Cond := .code yX3_shade cX3_shade 7 (some .long) :: ([.fieldLink RX3 13 "BeadLoomModel" "many" "[I", .fieldLink RX3 16 "BeadLoomModel" "cell" "[J", .constantLong RX3 53 (-1), .fieldLink RX3 26 "BeadLoomModel" "colours" "[I", .methodLink RX3 43 yX3_hasRow, .instanceMethod yX3_hasRow, .selects RX3 yX3_hasRow yX3_hasRow, .initialized RX3, .code yX3_hasRow cX3_hasRow 2 (some .boolean), .fieldLink RX3 7 "BeadLoomModel" "kind" "[I", .methodLink RX3 39 yX3_isRack, .static yX3_isRack, .code yX3_isRack cX3_isRack 1 (some .boolean), .methodLink RX3 50 yX3_isBeads, .instanceMethod yX3_isBeads, .selects RX3 yX3_isBeads yX3_isBeads, .code yX3_isBeads cX3_isBeads 2 (some .boolean)] ++ wsX30)
def wsX3_rack : List Cond := .code yX3_rack cX3_rack 3 (some .int) :: ([.fieldLink RX3 7 "BeadLoomModel" "kind" "[I", .fieldLink RX3 13 "BeadLoomModel" "many" "[I", .methodLink RX3 39 yX3_isRack, .static yX3_isRack, .initialized RX3, .code yX3_isRack cX3_isRack 1 (some .boolean)] ++ wsX30)
def wsX3_about : List Cond := .code yX3_about cX3_about 2 (some .int) :: ([.fieldLink RX3 81 "BeadLoomModel" "came" "I", .fieldLink RX3 36 "BeadLoomModel" "counts" "[I", .fieldLink RX3 46 "BeadLoomModel" "beads" "I", .fieldLink RX3 87 "BeadLoomModel" "steps" "I", .fieldLink RX3 94 "BeadLoomModel" "woven" "I"] ++ wsX30)
def wsJ9_min_7cf53 : List Cond := .code yJ9_min_7cf53 cJ9_min_7cf53 2 (some .int) :: ([])
def wsL_law_r1 : List Cond := [Cond.classLink RL 7 RX2, Cond.instantiable RX2 8, Cond.initialized RX2, Cond.classLink RL 10 RX3, Cond.instantiable RX3 13, Cond.initialized RX3, Cond.constantLong RL 42 (4294967295), Cond.methodLink RL 9 yX2_init, Cond.instanceMethod yX2_init, Cond.code yX2_init cX2_init 2 none, Cond.methodLink RX2 1 objectInit, Cond.instanceMethod objectInit, Cond.code objectInit ⟨#[0xb1]⟩ 1 none, Cond.classLink RX2 9 RX1, Cond.fieldLink RX2 11 "BeadLoom" "racks" "[LBeadLoom$Rack;", Cond.arrayClass .int, Cond.fieldLink RX2 15 "BeadLoom" "colours" "[I", Cond.arrayClass .boolean, Cond.fieldLink RX2 19 "BeadLoom" "pearls" "[Z", Cond.classLink RX2 23 RX0, Cond.instantiable RX0 6, Cond.initialized RX0, Cond.fieldLink RX2 26 "BeadLoom" "pattern" "LBeadLoom$Pattern;", Cond.fieldLink RX2 30 "BeadLoom" "movings" "[I"]
def wsL_law_r2 : List Cond := [Cond.fieldLink RX2 33 "BeadLoom" "beads" "I", Cond.fieldLink RX2 37 "BeadLoom" "came" "I", Cond.fieldLink RX2 40 "BeadLoom" "roundsWoven" "I", Cond.instantiable RX1 4, Cond.initialized RX1, Cond.instanceMethod yX0_init, Cond.code yX0_init cX0_init 1 none, Cond.methodLink RX0 3 objectInit, Cond.fieldLink RX0 9 "BeadLoom$Pattern" "fromRack" "[I", Cond.fieldLink RX0 15 "BeadLoom$Pattern" "fromPlace" "[I", Cond.fieldLink RX0 18 "BeadLoom$Pattern" "toRack" "[I", Cond.fieldLink RX0 21 "BeadLoom$Pattern" "toPlace" "[I", Cond.fieldLink RX0 24 "BeadLoom$Pattern" "things" "[I", Cond.fieldLink RX0 27 "BeadLoom$Pattern" "steps" "I", Cond.instanceMethod yX1_init, Cond.code yX1_init cX1_init 1 none, Cond.methodLink RX1 3 objectInit, Cond.arrayClass .long, Cond.fieldLink RX1 9 "BeadLoom$Rack" "cells" "[J", Cond.fieldLink RX1 15 "BeadLoom$Rack" "kept" "[J", Cond.fieldLink RX1 18 "BeadLoom$Rack" "kind" "I", Cond.fieldLink RX1 22 "BeadLoom$Rack" "places" "I", Cond.methodLink RL 12 yX3_init, Cond.instanceMethod yX3_init]
def wsL_law_r3 : List Cond := [Cond.code yX3_init cX3_init 1 none, Cond.methodLink RX3 1 objectInit, Cond.fieldLink RX3 7 "BeadLoomModel" "kind" "[I", Cond.fieldLink RX3 13 "BeadLoomModel" "many" "[I", Cond.fieldLink RX3 16 "BeadLoomModel" "cell" "[J", Cond.fieldLink RX3 20 "BeadLoomModel" "before" "[J", Cond.fieldLink RX3 23 "BeadLoomModel" "aside" "[J", Cond.fieldLink RX3 26 "BeadLoomModel" "colours" "[I", Cond.fieldLink RX3 29 "BeadLoomModel" "pearls" "[Z", Cond.fieldLink RX3 33 "BeadLoomModel" "pattern" "[I", Cond.fieldLink RX3 36 "BeadLoomModel" "counts" "[I", Cond.methodLink RL 13 yX2_make, Cond.instanceMethod yX2_make, Cond.selects RX2 yX2_make yX2_make, Cond.code yX2_make cX2_make 5 (some .boolean), Cond.methodLink RX2 44 yX2_rackAt, Cond.instanceMethod yX2_rackAt, Cond.selects RX2 yX2_rackAt yX2_rackAt, Cond.code yX2_rackAt cX2_rackAt 2 (some (.object "BeadLoom$Rack")), Cond.instanceMethod yX1_hold, Cond.selects RX1 yX1_hold yX1_hold, Cond.code yX1_hold cX1_hold 4 none, Cond.static yX2_blank, Cond.code yX2_blank cX2_blank 1 (some .long)]
def wsL_law_r4 : List Cond := [Cond.constantLong RX2 137 (-1), Cond.methodLink RX2 131 yX2_holdsBeads, Cond.static yX2_holdsBeads, Cond.code yX2_holdsBeads cX2_holdsBeads 1 (some .boolean), Cond.methodLink RL 17 yX3_make, Cond.instanceMethod yX3_make, Cond.selects RX3 yX3_make yX3_make, Cond.code yX3_make cX3_make 4 (some .boolean), Cond.methodLink RX3 39 yX3_isRack, Cond.static yX3_isRack, Cond.code yX3_isRack cX3_isRack 1 (some .boolean), Cond.methodLink RX3 61 yX3_become, Cond.instanceMethod yX3_become, Cond.selects RX3 yX3_become yX3_become, Cond.code yX3_become cX3_become 5 none, Cond.methodLink RX3 57 yX3_nothing, Cond.instanceMethod yX3_nothing, Cond.selects RX3 yX3_nothing yX3_nothing, Cond.code yX3_nothing cX3_nothing 2 (some .long), Cond.constantLong RX3 53 (-1), Cond.methodLink RX3 50 yX3_isBeads, Cond.instanceMethod yX3_isBeads, Cond.selects RX3 yX3_isBeads yX3_isBeads, Cond.code yX3_isBeads cX3_isBeads 2 (some .boolean)]
def wsL_law_r5 : List Cond := [Cond.methodLink RL 18 yX2_lamp, Cond.instanceMethod yX2_lamp, Cond.selects RX2 yX2_lamp yX2_lamp, Cond.code yX2_lamp cX2_lamp 3 (some .boolean), Cond.methodLink RL 22 yX3_lamp, Cond.instanceMethod yX3_lamp, Cond.selects RX3 yX3_lamp yX3_lamp, Cond.code yX3_lamp cX3_lamp 2 (some .boolean), Cond.methodLink RL 23 yX2_empty, Cond.instanceMethod yX2_empty, Cond.selects RX2 yX2_empty yX2_empty, Cond.code yX2_empty cX2_empty 3 (some .boolean), Cond.methodLink RL 26 yX3_empty, Cond.instanceMethod yX3_empty, Cond.selects RX3 yX3_empty yX3_empty, Cond.code yX3_empty cX3_empty 2 (some .boolean), Cond.methodLink RL 27 yX2_bead, Cond.instanceMethod yX2_bead, Cond.selects RX2 yX2_bead yX2_bead, Cond.code yX2_bead cX2_bead 3 (some .int), Cond.methodLink RL 31 yX3_bead, Cond.instanceMethod yX3_bead, Cond.selects RX3 yX3_bead yX3_bead, Cond.code yX3_bead cX3_bead 3 (some .int)]
def wsL_law_r6 : List Cond := [Cond.fieldLink RX3 46 "BeadLoomModel" "beads" "I", Cond.methodLink RL 32 yX2_paint, Cond.instanceMethod yX2_paint, Cond.selects RX2 yX2_paint yX2_paint, Cond.code yX2_paint cX2_paint 3 (some .boolean), Cond.methodLink RX2 55 yX2_isBead, Cond.instanceMethod yX2_isBead, Cond.selects RX2 yX2_isBead yX2_isBead, Cond.code yX2_isBead cX2_isBead 3 (some .boolean), Cond.methodLink RL 36 yX3_paint, Cond.instanceMethod yX3_paint, Cond.selects RX3 yX3_paint yX3_paint, Cond.code yX3_paint cX3_paint 3 (some .boolean), Cond.methodLink RX3 65 yX3_isBead, Cond.instanceMethod yX3_isBead, Cond.selects RX3 yX3_isBead yX3_isBead, Cond.code yX3_isBead cX3_isBead 3 (some .boolean), Cond.methodLink RL 37 yX2_colour, Cond.instanceMethod yX2_colour, Cond.selects RX2 yX2_colour yX2_colour, Cond.code yX2_colour cX2_colour 2 (some .int), Cond.methodLink RX2 59 yX2_colourOf, Cond.instanceMethod yX2_colourOf, Cond.selects RX2 yX2_colourOf yX2_colourOf]
def wsL_law_r7 : List Cond := [Cond.code yX2_colourOf cX2_colourOf 3 (some .int), Cond.methodLink RL 41 yX3_colour, Cond.instanceMethod yX3_colour, Cond.selects RX3 yX3_colour yX3_colour, Cond.code yX3_colour cX3_colour 2 (some .int), Cond.methodLink RL 44 yX2_put, Cond.instanceMethod yX2_put, Cond.selects RX2 yX2_put yX2_put, Cond.code yX2_put cX2_put 6 (some .boolean), Cond.methodLink RX2 63 yX2_rowAt, Cond.instanceMethod yX2_rowAt, Cond.selects RX2 yX2_rowAt yX2_rowAt, Cond.code yX2_rowAt cX2_rowAt 3 (some (.object "BeadLoom$Rack")), Cond.instanceMethod yX1_hasRow, Cond.selects RX1 yX1_hasRow yX1_hasRow, Cond.code yX1_hasRow cX1_hasRow 1 (some .boolean), Cond.instanceMethod yX1_hasPlace, Cond.selects RX1 yX1_hasPlace yX1_hasPlace, Cond.code yX1_hasPlace cX1_hasPlace 2 (some .boolean), Cond.methodLink RX2 70 yX2_mayLie, Cond.instanceMethod yX2_mayLie, Cond.selects RX2 yX2_mayLie yX2_mayLie, Cond.code yX2_mayLie cX2_mayLie 4 (some .boolean), Cond.methodLink RX2 78 yX2_fitted]
def wsL_law_r8 : List Cond := [Cond.static yX2_fitted, Cond.code yX2_fitted cX2_fitted 3 (some .long), Cond.methodLink RL 48 yX3_put, Cond.instanceMethod yX3_put, Cond.selects RX3 yX3_put yX3_put, Cond.code yX3_put cX3_put 5 (some .boolean), Cond.methodLink RX3 69 yX3_isPlace, Cond.instanceMethod yX3_isPlace, Cond.selects RX3 yX3_isPlace yX3_isPlace, Cond.code yX3_isPlace cX3_isPlace 3 (some .boolean), Cond.methodLink RX3 43 yX3_hasRow, Cond.instanceMethod yX3_hasRow, Cond.selects RX3 yX3_hasRow yX3_hasRow, Cond.code yX3_hasRow cX3_hasRow 2 (some .boolean), Cond.methodLink RX3 73 yX3_kept, Cond.static yX3_kept, Cond.code yX3_kept cX3_kept 3 (some .long), Cond.constantLong RX3 55 (65535), Cond.methodLink RL 49 yX2_look, Cond.instanceMethod yX2_look, Cond.selects RX2 yX2_look yX2_look, Cond.code yX2_look cX2_look 4 (some .long), Cond.methodLink RL 53 yX3_look, Cond.instanceMethod yX3_look]
def wsL_law_r9 : List Cond := [Cond.selects RX3 yX3_look yX3_look, Cond.code yX3_look cX3_look 3 (some .long), Cond.methodLink RL 54 yX2_move, Cond.instanceMethod yX2_move, Cond.selects RX2 yX2_move yX2_move, Cond.code yX2_move cX2_move 6 (some .int), Cond.methodLink RX2 82 yX2_moving, Cond.instanceMethod yX2_moving, Cond.selects RX2 yX2_moving yX2_moving, Cond.code yX2_moving cX2_moving 10 (some .int), Cond.methodLink RX2 152 arraycopyName, Cond.native arraycopyName, Cond.static arraycopyName, Cond.initialized "java/lang/System", Cond.methodLink RX2 145 yX2_hindrance, Cond.static yX2_hindrance, Cond.code yX2_hindrance cX2_hindrance 8 (some .int), Cond.methodLink RX2 139 yX2_mayExchange, Cond.static yX2_mayExchange, Cond.code yX2_mayExchange cX2_mayExchange 2 (some .boolean), Cond.instanceMethod yX1_hasStretch, Cond.selects RX1 yX1_hasStretch yX1_hasStretch, Cond.code yX1_hasStretch cX1_hasStretch 5 (some .boolean), Cond.methodLink RX2 148 yX2_mayCome]
def wsL_law_r10 : List Cond := [Cond.instanceMethod yX2_mayCome, Cond.selects RX2 yX2_mayCome yX2_mayCome, Cond.code yX2_mayCome cX2_mayCome 6 (some .int), Cond.methodLink RL 58 yX3_move, Cond.instanceMethod yX3_move, Cond.selects RX3 yX3_move yX3_move, Cond.code yX3_move cX3_move 6 (some .int), Cond.methodLink RX3 84 yX3_moving, Cond.instanceMethod yX3_moving, Cond.selects RX3 yX3_moving yX3_moving, Cond.code yX3_moving cX3_moving 13 (some .int), Cond.fieldLink RX3 81 "BeadLoomModel" "came" "I", Cond.methodLink RX3 77 yX3_reason, Cond.instanceMethod yX3_reason, Cond.selects RX3 yX3_reason yX3_reason, Cond.code yX3_reason cX3_reason 9 (some .int), Cond.methodLink RL 59 yX2_open, Cond.instanceMethod yX2_open, Cond.selects RX2 yX2_open yX2_open, Cond.code yX2_open cX2_open 5 (some .int), Cond.methodLink RX2 86 yX2_thingsBehind, Cond.static yX2_thingsBehind, Cond.code yX2_thingsBehind cX2_thingsBehind 2 (some .long), Cond.instanceMethod yX1_blankPlace]
def wsL_law_r11 : List Cond := [Cond.selects RX1 yX1_blankPlace yX1_blankPlace, Cond.code yX1_blankPlace cX1_blankPlace 2 none, Cond.methodLink RX1 29 yX1_hasPlace, Cond.methodLink RL 63 yX3_open, Cond.instanceMethod yX3_open, Cond.selects RX3 yX3_open yX3_open, Cond.code yX3_open cX3_open 4 (some .int), Cond.methodLink RL 64 yX2_close, Cond.instanceMethod yX2_close, Cond.selects RX2 yX2_close yX2_close, Cond.code yX2_close cX2_close 5 (some .int), Cond.methodLink RL 67 yX3_close, Cond.instanceMethod yX3_close, Cond.selects RX3 yX3_close yX3_close, Cond.code yX3_close cX3_close 4 (some .int), Cond.methodLink RL 68 yX2_turn, Cond.instanceMethod yX2_turn, Cond.selects RX2 yX2_turn yX2_turn, Cond.code yX2_turn cX2_turn 4 (some .int), Cond.instanceMethod yX1_rotate, Cond.selects RX1 yX1_rotate yX1_rotate, Cond.code yX1_rotate cX1_rotate 4 none, Cond.methodLink RX1 39 yX1_keepCells, Cond.instanceMethod yX1_keepCells]
def wsL_law_r12 : List Cond := [Cond.selects RX1 yX1_keepCells yX1_keepCells, Cond.code yX1_keepCells cX1_keepCells 1 none, Cond.methodLink RX1 33 arraycopyName, Cond.methodLink RX1 42 yJ9_floorMod_7cf53, Cond.static yJ9_floorMod_7cf53, Cond.initialized RJ9, Cond.code yJ9_floorMod_7cf53 cJ9_floorMod_7cf53 3 (some .int), Cond.methodLink RL 71 yX3_turn, Cond.instanceMethod yX3_turn, Cond.selects RX3 yX3_turn yX3_turn, Cond.code yX3_turn cX3_turn 7 (some .int), Cond.methodLink RL 72 yX2_step, Cond.instanceMethod yX2_step, Cond.selects RX2 yX2_step yX2_step, Cond.code yX2_step cX2_step 6 (some .int), Cond.instanceMethod yX0_isFull, Cond.selects RX0 yX0_isFull yX0_isFull, Cond.code yX0_isFull cX0_isFull 1 (some .boolean), Cond.instanceMethod yX0_append, Cond.selects RX0 yX0_append yX0_append, Cond.code yX0_append cX0_append 6 none, Cond.methodLink RX0 31 yX0_isFull, Cond.methodLink RL 75 yX3_step, Cond.instanceMethod yX3_step]
def wsL_law_r13 : List Cond := [Cond.selects RX3 yX3_step yX3_step, Cond.code yX3_step cX3_step 7 (some .int), Cond.fieldLink RX3 87 "BeadLoomModel" "steps" "I", Cond.methodLink RL 76 yX2_forget, Cond.instanceMethod yX2_forget, Cond.selects RX2 yX2_forget yX2_forget, Cond.code yX2_forget cX2_forget 2 (some .int), Cond.methodLink RL 80 yX3_forget, Cond.instanceMethod yX3_forget, Cond.selects RX3 yX3_forget yX3_forget, Cond.code yX3_forget cX3_forget 2 (some .int), Cond.methodLink RL 81 yX2_weave, Cond.instanceMethod yX2_weave, Cond.selects RX2 yX2_weave yX2_weave, Cond.code yX2_weave cX2_weave 7 (some .int), Cond.methodLink RX2 111 yX2_keepAllRows, Cond.instanceMethod yX2_keepAllRows, Cond.selects RX2 yX2_keepAllRows yX2_keepAllRows, Cond.code yX2_keepAllRows cX2_keepAllRows 2 none, Cond.methodLink RX2 114 yX2_weaveRound, Cond.instanceMethod yX2_weaveRound, Cond.selects RX2 yX2_weaveRound yX2_weaveRound, Cond.code yX2_weaveRound cX2_weaveRound 5 (some .int), Cond.methodLink RX2 118 yX2_restoreAllRows]
def wsL_law_r14 : List Cond := [Cond.instanceMethod yX2_restoreAllRows, Cond.selects RX2 yX2_restoreAllRows yX2_restoreAllRows, Cond.code yX2_restoreAllRows cX2_restoreAllRows 2 none, Cond.instanceMethod yX1_restoreCells, Cond.selects RX1 yX1_restoreCells yX1_restoreCells, Cond.code yX1_restoreCells cX1_restoreCells 1 none, Cond.methodLink RL 84 yX3_weave, Cond.instanceMethod yX3_weave, Cond.selects RX3 yX3_weave yX3_weave, Cond.code yX3_weave cX3_weave 8 (some .int), Cond.fieldLink RX3 94 "BeadLoomModel" "woven" "I", Cond.methodLink RX3 90 yX3_doStep, Cond.instanceMethod yX3_doStep, Cond.selects RX3 yX3_doStep yX3_doStep, Cond.code yX3_doStep cX3_doStep 3 (some .int), Cond.methodLink RL 85 yX2_alike, Cond.instanceMethod yX2_alike, Cond.selects RX2 yX2_alike yX2_alike, Cond.code yX2_alike cX2_alike 7 (some .int), Cond.methodLink RX2 125 Lib.Math.min.name, Cond.static Lib.Math.min.name, Cond.initialized "java/lang/Math", Cond.code Lib.Math.min.name Lib.Math.min.code 2 (some .int), Cond.methodLink RX2 121 yX2_mayCompare]
def wsL_law_r15 : List Cond := [Cond.static yX2_mayCompare, Cond.code yX2_mayCompare cX2_mayCompare 2 (some .boolean), Cond.methodLink RX2 142 yX2_holdsNumbers, Cond.static yX2_holdsNumbers, Cond.code yX2_holdsNumbers cX2_holdsNumbers 1 (some .boolean), Cond.methodLink RL 88 yX3_alike, Cond.instanceMethod yX3_alike, Cond.selects RX3 yX3_alike yX3_alike, Cond.code yX3_alike cX3_alike 4 (some .int), Cond.methodLink RX3 100 yX3_areAlike, Cond.instanceMethod yX3_areAlike, Cond.selects RX3 yX3_areAlike yX3_areAlike, Cond.code yX3_areAlike cX3_areAlike 5 (some .boolean), Cond.methodLink RX3 97 yX3_isNumbers, Cond.instanceMethod yX3_isNumbers, Cond.selects RX3 yX3_isNumbers yX3_isNumbers, Cond.code yX3_isNumbers cX3_isNumbers 2 (some .boolean), Cond.methodLink RL 89 yX2_shade, Cond.instanceMethod yX2_shade, Cond.selects RX2 yX2_shade yX2_shade, Cond.code yX2_shade cX2_shade 7 (some .long), Cond.methodLink RL 93 yX3_shade, Cond.instanceMethod yX3_shade, Cond.selects RX3 yX3_shade yX3_shade]
def wsL_law_r16 : List Cond := [Cond.code yX3_shade cX3_shade 7 (some .long), Cond.methodLink RL 94 yX2_rack, Cond.instanceMethod yX2_rack, Cond.selects RX2 yX2_rack yX2_rack, Cond.code yX2_rack cX2_rack 4 (some .int), Cond.methodLink RL 97 yX3_rack, Cond.instanceMethod yX3_rack, Cond.selects RX3 yX3_rack yX3_rack, Cond.code yX3_rack cX3_rack 3 (some .int), Cond.methodLink RL 98 yX2_about, Cond.instanceMethod yX2_about, Cond.selects RX2 yX2_about yX2_about, Cond.code yX2_about cX2_about 2 (some .int), Cond.methodLink RL 101 yX3_about, Cond.instanceMethod yX3_about, Cond.selects RX3 yX3_about yX3_about, Cond.code yX3_about cX3_about 2 (some .int)]
def wsL_law : List Cond := (wsL_law_r1 ++ (wsL_law_r2 ++ (wsL_law_r3 ++ (wsL_law_r4 ++ (wsL_law_r5 ++ (wsL_law_r6 ++ (wsL_law_r7 ++ (wsL_law_r8 ++ (wsL_law_r9 ++ (wsL_law_r10 ++ (wsL_law_r11 ++ (wsL_law_r12 ++ (wsL_law_r13 ++ (wsL_law_r14 ++ (wsL_law_r15 ++ wsL_law_r16))))))))))))))) ++ wsX20 ++ wsX30 ++ wsX00 ++ wsX10 ++ ([] : List Cond)
set_option maxRecDepth 20000 in
theorem wsL_law_in : ∀ w ∈ wsL_law, w ∈ lw_tbl := fun w h => (goodIn_p wsL_law [42, 45, 52, 84, 326, 131, 135, 139, 142, 145, 371, 374, 378, 382, 386, 150, 391, 154, 395, 158, 399, 162, 166, 403, 407, 170, 174, 411, 178, 182, 186, 190, 194, 197, 415, 419, 423, 426, 201, 431, 205, 209, 212, 215, 219, 223, 435, 439, 443, 230, 233, 237, 447, 242, 451, 246, 250, 254, 258, 455, 262, 266, 270, 459, 275, 463, 279, 283, 288, 292, 296, 467, 471, 300, 309, 303, 306, 475, 479, 483, 313, 487, 317, 491, 321, 495] (by decide +kernel) (by decide +kernel) w h).1
theorem inlX0 : ∀ w ∈ wsX00, w ∈ wsL_law := fun _ h => List.mem_append_left _ (List.mem_append_left _ (List.mem_append_right _ h))
theorem inX0 : ∀ w ∈ wsX00, w ∈ lw_tbl := fun w h => wsL_law_in w (inlX0 w h)
theorem inlX1 : ∀ w ∈ wsX10, w ∈ wsL_law := fun _ h => List.mem_append_left _ (List.mem_append_right _ h)
theorem inX1 : ∀ w ∈ wsX10, w ∈ lw_tbl := fun w h => wsL_law_in w (inlX1 w h)
theorem inlX2 : ∀ w ∈ wsX20, w ∈ wsL_law := fun _ h => List.mem_append_left _ (List.mem_append_left _ (List.mem_append_left _ (List.mem_append_left _ (List.mem_append_right _ h))))
theorem inX2 : ∀ w ∈ wsX20, w ∈ lw_tbl := fun w h => wsL_law_in w (inlX2 w h)
theorem inlX3 : ∀ w ∈ wsX30, w ∈ wsL_law := fun _ h => List.mem_append_left _ (List.mem_append_left _ (List.mem_append_left _ (List.mem_append_right _ h)))
theorem inX3 : ∀ w ∈ wsX30, w ∈ lw_tbl := fun w h => wsL_law_in w (inlX3 w h)
theorem inJ9 : ∀ w ∈ wsJ90, w ∈ lw_tbl := by decide +kernel
theorem inJ10 : ∀ w ∈ wsJ100, w ∈ lw_tbl := by decide +kernel
theorem dX0_init_0 : decode cX0_init 0 = .ok (.aload_n 0, 1) := by decide +kernel
theorem dX0_init_1 : decode cX0_init 1 = .ok (.invokespecial 3, 3) := by decide +kernel
theorem dX0_init_4 : decode cX0_init 4 = .ok (.aload_n 0, 1) := by decide +kernel
theorem dX0_init_5 : decode cX0_init 5 = .ok (.bipush 24, 2) := by decide +kernel
theorem dX0_init_7 : decode cX0_init 7 = .ok (.newarray .int, 2) := by decide +kernel
theorem dX0_init_9 : decode cX0_init 9 = .ok (.putfield 9, 3) := by decide +kernel
theorem dX0_init_12 : decode cX0_init 12 = .ok (.aload_n 0, 1) := by decide +kernel
theorem dX0_init_13 : decode cX0_init 13 = .ok (.bipush 24, 2) := by decide +kernel
theorem dX0_init_15 : decode cX0_init 15 = .ok (.newarray .int, 2) := by decide +kernel
theorem dX0_init_17 : decode cX0_init 17 = .ok (.putfield 15, 3) := by decide +kernel
theorem dX0_init_20 : decode cX0_init 20 = .ok (.aload_n 0, 1) := by decide +kernel
theorem dX0_init_21 : decode cX0_init 21 = .ok (.bipush 24, 2) := by decide +kernel
theorem dX0_init_23 : decode cX0_init 23 = .ok (.newarray .int, 2) := by decide +kernel
theorem dX0_init_25 : decode cX0_init 25 = .ok (.putfield 18, 3) := by decide +kernel
theorem dX0_init_28 : decode cX0_init 28 = .ok (.aload_n 0, 1) := by decide +kernel
theorem dX0_init_29 : decode cX0_init 29 = .ok (.bipush 24, 2) := by decide +kernel
theorem dX0_init_31 : decode cX0_init 31 = .ok (.newarray .int, 2) := by decide +kernel
theorem dX0_init_33 : decode cX0_init 33 = .ok (.putfield 21, 3) := by decide +kernel
theorem dX0_init_36 : decode cX0_init 36 = .ok (.aload_n 0, 1) := by decide +kernel
theorem dX0_init_37 : decode cX0_init 37 = .ok (.bipush 24, 2) := by decide +kernel
theorem dX0_init_39 : decode cX0_init 39 = .ok (.newarray .int, 2) := by decide +kernel
theorem dX0_init_41 : decode cX0_init 41 = .ok (.putfield 24, 3) := by decide +kernel
theorem dX0_init_44 : decode cX0_init 44 = .ok (.aload_n 0, 1) := by decide +kernel
theorem dX0_init_45 : decode cX0_init 45 = .ok (.iconst 0, 1) := by decide +kernel
theorem dX0_init_46 : decode cX0_init 46 = .ok (.putfield 27, 3) := by decide +kernel
theorem dX0_init_49 : decode cX0_init 49 = .ok (.return_, 1) := by decide +kernel
theorem dX0_isFull_0 : decode cX0_isFull 0 = .ok (.aload_n 0, 1) := by decide +kernel
theorem dX0_isFull_1 : decode cX0_isFull 1 = .ok (.getfield 27, 3) := by decide +kernel
theorem dX0_isFull_4 : decode cX0_isFull 4 = .ok (.bipush 24, 2) := by decide +kernel
theorem dX0_isFull_6 : decode cX0_isFull 6 = .ok (.if_icmp .lt 7, 3) := by decide +kernel
theorem dX0_isFull_9 : decode cX0_isFull 9 = .ok (.iconst 1, 1) := by decide +kernel
theorem dX0_isFull_10 : decode cX0_isFull 10 = .ok (.goto 4, 3) := by decide +kernel
theorem dX0_isFull_13 : decode cX0_isFull 13 = .ok (.iconst 0, 1) := by decide +kernel
theorem dX0_isFull_14 : decode cX0_isFull 14 = .ok (.ireturn, 1) := by decide +kernel
theorem dX0_append_0 : decode cX0_append 0 = .ok (.aload_n 0, 1) := by decide +kernel
theorem dX0_append_1 : decode cX0_append 1 = .ok (.invokevirtual 31, 3) := by decide +kernel
theorem dX0_append_4 : decode cX0_append 4 = .ok (.ifCond .eq 4, 3) := by decide +kernel
theorem dX0_append_7 : decode cX0_append 7 = .ok (.return_, 1) := by decide +kernel
theorem dX0_append_8 : decode cX0_append 8 = .ok (.aload_n 0, 1) := by decide +kernel
theorem dX0_append_9 : decode cX0_append 9 = .ok (.getfield 9, 3) := by decide +kernel
theorem dX0_append_12 : decode cX0_append 12 = .ok (.aload_n 0, 1) := by decide +kernel
theorem dX0_append_13 : decode cX0_append 13 = .ok (.getfield 27, 3) := by decide +kernel
theorem dX0_append_16 : decode cX0_append 16 = .ok (.iload_n 1, 1) := by decide +kernel
theorem dX0_append_17 : decode cX0_append 17 = .ok (.iastore, 1) := by decide +kernel
theorem dX0_append_18 : decode cX0_append 18 = .ok (.aload_n 0, 1) := by decide +kernel
theorem dX0_append_19 : decode cX0_append 19 = .ok (.getfield 15, 3) := by decide +kernel
theorem dX0_append_22 : decode cX0_append 22 = .ok (.aload_n 0, 1) := by decide +kernel
theorem dX0_append_23 : decode cX0_append 23 = .ok (.getfield 27, 3) := by decide +kernel
theorem dX0_append_26 : decode cX0_append 26 = .ok (.iload_n 2, 1) := by decide +kernel
theorem dX0_append_27 : decode cX0_append 27 = .ok (.iastore, 1) := by decide +kernel
theorem dX0_append_28 : decode cX0_append 28 = .ok (.aload_n 0, 1) := by decide +kernel
theorem dX0_append_29 : decode cX0_append 29 = .ok (.getfield 18, 3) := by decide +kernel
theorem dX0_append_32 : decode cX0_append 32 = .ok (.aload_n 0, 1) := by decide +kernel
theorem dX0_append_33 : decode cX0_append 33 = .ok (.getfield 27, 3) := by decide +kernel
theorem dX0_append_36 : decode cX0_append 36 = .ok (.iload_n 3, 1) := by decide +kernel
theorem dX0_append_37 : decode cX0_append 37 = .ok (.iastore, 1) := by decide +kernel
theorem dX0_append_38 : decode cX0_append 38 = .ok (.aload_n 0, 1) := by decide +kernel
theorem dX0_append_39 : decode cX0_append 39 = .ok (.getfield 21, 3) := by decide +kernel
theorem dX0_append_42 : decode cX0_append 42 = .ok (.aload_n 0, 1) := by decide +kernel
theorem dX0_append_43 : decode cX0_append 43 = .ok (.getfield 27, 3) := by decide +kernel
theorem dX0_append_46 : decode cX0_append 46 = .ok (.iload 4, 2) := by decide +kernel
theorem dX0_append_48 : decode cX0_append 48 = .ok (.iastore, 1) := by decide +kernel
theorem dX0_append_49 : decode cX0_append 49 = .ok (.aload_n 0, 1) := by decide +kernel
theorem dX0_append_50 : decode cX0_append 50 = .ok (.getfield 24, 3) := by decide +kernel
theorem dX0_append_53 : decode cX0_append 53 = .ok (.aload_n 0, 1) := by decide +kernel
theorem dX0_append_54 : decode cX0_append 54 = .ok (.getfield 27, 3) := by decide +kernel
theorem dX0_append_57 : decode cX0_append 57 = .ok (.iload 5, 2) := by decide +kernel
theorem dX0_append_59 : decode cX0_append 59 = .ok (.iastore, 1) := by decide +kernel
theorem dX0_append_60 : decode cX0_append 60 = .ok (.aload_n 0, 1) := by decide +kernel
theorem dX0_append_61 : decode cX0_append 61 = .ok (.dup, 1) := by decide +kernel
theorem dX0_append_62 : decode cX0_append 62 = .ok (.getfield 27, 3) := by decide +kernel
theorem dX0_append_65 : decode cX0_append 65 = .ok (.iconst 1, 1) := by decide +kernel
theorem dX0_append_66 : decode cX0_append 66 = .ok (.iadd, 1) := by decide +kernel
theorem dX0_append_67 : decode cX0_append 67 = .ok (.putfield 27, 3) := by decide +kernel
theorem dX0_append_70 : decode cX0_append 70 = .ok (.return_, 1) := by decide +kernel
theorem dX1_init_0 : decode cX1_init 0 = .ok (.aload_n 0, 1) := by decide +kernel
theorem dX1_init_1 : decode cX1_init 1 = .ok (.invokespecial 3, 3) := by decide +kernel
theorem dX1_init_4 : decode cX1_init 4 = .ok (.aload_n 0, 1) := by decide +kernel
theorem dX1_init_5 : decode cX1_init 5 = .ok (.bipush 40, 2) := by decide +kernel
theorem dX1_init_7 : decode cX1_init 7 = .ok (.newarray .long, 2) := by decide +kernel
theorem dX1_init_9 : decode cX1_init 9 = .ok (.putfield 9, 3) := by decide +kernel
theorem dX1_init_12 : decode cX1_init 12 = .ok (.aload_n 0, 1) := by decide +kernel
theorem dX1_init_13 : decode cX1_init 13 = .ok (.bipush 40, 2) := by decide +kernel
theorem dX1_init_15 : decode cX1_init 15 = .ok (.newarray .long, 2) := by decide +kernel
theorem dX1_init_17 : decode cX1_init 17 = .ok (.putfield 15, 3) := by decide +kernel
theorem dX1_init_20 : decode cX1_init 20 = .ok (.aload_n 0, 1) := by decide +kernel
theorem dX1_init_21 : decode cX1_init 21 = .ok (.iconst 0, 1) := by decide +kernel
theorem dX1_init_22 : decode cX1_init 22 = .ok (.putfield 18, 3) := by decide +kernel
theorem dX1_init_25 : decode cX1_init 25 = .ok (.aload_n 0, 1) := by decide +kernel
theorem dX1_init_26 : decode cX1_init 26 = .ok (.iconst 0, 1) := by decide +kernel
theorem dX1_init_27 : decode cX1_init 27 = .ok (.putfield 22, 3) := by decide +kernel
theorem dX1_init_30 : decode cX1_init 30 = .ok (.return_, 1) := by decide +kernel
theorem dX1_hold_0 : decode cX1_hold 0 = .ok (.aload_n 0, 1) := by decide +kernel
theorem dX1_hold_1 : decode cX1_hold 1 = .ok (.iload_n 1, 1) := by decide +kernel
theorem dX1_hold_2 : decode cX1_hold 2 = .ok (.putfield 18, 3) := by decide +kernel
theorem dX1_hold_5 : decode cX1_hold 5 = .ok (.aload_n 0, 1) := by decide +kernel
theorem dX1_hold_6 : decode cX1_hold 6 = .ok (.iload_n 2, 1) := by decide +kernel
theorem dX1_hold_7 : decode cX1_hold 7 = .ok (.putfield 22, 3) := by decide +kernel
theorem dX1_hold_10 : decode cX1_hold 10 = .ok (.iconst 0, 1) := by decide +kernel
theorem dX1_hold_11 : decode cX1_hold 11 = .ok (.istore_n 3, 1) := by decide +kernel
theorem dX1_hold_12 : decode cX1_hold 12 = .ok (.iload_n 3, 1) := by decide +kernel
theorem dX1_hold_13 : decode cX1_hold 13 = .ok (.bipush 40, 2) := by decide +kernel
theorem dX1_hold_15 : decode cX1_hold 15 = .ok (.if_icmp .ge 19, 3) := by decide +kernel
theorem dX1_hold_18 : decode cX1_hold 18 = .ok (.aload_n 0, 1) := by decide +kernel
theorem dX1_hold_19 : decode cX1_hold 19 = .ok (.getfield 9, 3) := by decide +kernel
theorem dX1_hold_22 : decode cX1_hold 22 = .ok (.iload_n 3, 1) := by decide +kernel
theorem dX1_hold_23 : decode cX1_hold 23 = .ok (.iload_n 1, 1) := by decide +kernel
theorem dX1_hold_24 : decode cX1_hold 24 = .ok (.invokestatic 25, 3) := by decide +kernel
theorem dX1_hold_27 : decode cX1_hold 27 = .ok (.lastore, 1) := by decide +kernel
theorem dX1_hold_28 : decode cX1_hold 28 = .ok (.iinc 3 1, 3) := by decide +kernel
theorem dX1_hold_31 : decode cX1_hold 31 = .ok (.goto (-19), 3) := by decide +kernel
theorem dX1_hold_34 : decode cX1_hold 34 = .ok (.return_, 1) := by decide +kernel
theorem dX1_hasRow_0 : decode cX1_hasRow 0 = .ok (.aload_n 0, 1) := by decide +kernel
theorem dX1_hasRow_1 : decode cX1_hasRow 1 = .ok (.getfield 18, 3) := by decide +kernel
theorem dX1_hasRow_4 : decode cX1_hasRow 4 = .ok (.ifCond .eq 16, 3) := by decide +kernel
theorem dX1_hasRow_7 : decode cX1_hasRow 7 = .ok (.aload_n 0, 1) := by decide +kernel
theorem dX1_hasRow_8 : decode cX1_hasRow 8 = .ok (.getfield 18, 3) := by decide +kernel
theorem dX1_hasRow_11 : decode cX1_hasRow 11 = .ok (.bipush 9, 2) := by decide +kernel
theorem dX1_hasRow_13 : decode cX1_hasRow 13 = .ok (.if_icmp .eq 7, 3) := by decide +kernel
theorem dX1_hasRow_16 : decode cX1_hasRow 16 = .ok (.iconst 1, 1) := by decide +kernel
theorem dX1_hasRow_17 : decode cX1_hasRow 17 = .ok (.goto 4, 3) := by decide +kernel
theorem dX1_hasRow_20 : decode cX1_hasRow 20 = .ok (.iconst 0, 1) := by decide +kernel
theorem dX1_hasRow_21 : decode cX1_hasRow 21 = .ok (.ireturn, 1) := by decide +kernel
theorem dX1_hasPlace_0 : decode cX1_hasPlace 0 = .ok (.iload_n 1, 1) := by decide +kernel
theorem dX1_hasPlace_1 : decode cX1_hasPlace 1 = .ok (.ifCond .lt 15, 3) := by decide +kernel
theorem dX1_hasPlace_4 : decode cX1_hasPlace 4 = .ok (.iload_n 1, 1) := by decide +kernel
theorem dX1_hasPlace_5 : decode cX1_hasPlace 5 = .ok (.aload_n 0, 1) := by decide +kernel
theorem dX1_hasPlace_6 : decode cX1_hasPlace 6 = .ok (.getfield 22, 3) := by decide +kernel
theorem dX1_hasPlace_9 : decode cX1_hasPlace 9 = .ok (.if_icmp .ge 7, 3) := by decide +kernel
theorem dX1_hasPlace_12 : decode cX1_hasPlace 12 = .ok (.iconst 1, 1) := by decide +kernel
theorem dX1_hasPlace_13 : decode cX1_hasPlace 13 = .ok (.goto 4, 3) := by decide +kernel
theorem dX1_hasPlace_16 : decode cX1_hasPlace 16 = .ok (.iconst 0, 1) := by decide +kernel
theorem dX1_hasPlace_17 : decode cX1_hasPlace 17 = .ok (.ireturn, 1) := by decide +kernel
theorem dX1_hasStretch_0 : decode cX1_hasStretch 0 = .ok (.lload_n 1, 1) := by decide +kernel
theorem dX1_hasStretch_1 : decode cX1_hasStretch 1 = .ok (.lconst 0, 1) := by decide +kernel
theorem dX1_hasStretch_2 : decode cX1_hasStretch 2 = .ok (.lcmp, 1) := by decide +kernel
theorem dX1_hasStretch_3 : decode cX1_hasStretch 3 = .ok (.ifCond .lt 25, 3) := by decide +kernel
theorem dX1_hasStretch_6 : decode cX1_hasStretch 6 = .ok (.lload_n 3, 1) := by decide +kernel
theorem dX1_hasStretch_7 : decode cX1_hasStretch 7 = .ok (.lconst 0, 1) := by decide +kernel
theorem dX1_hasStretch_8 : decode cX1_hasStretch 8 = .ok (.lcmp, 1) := by decide +kernel
theorem dX1_hasStretch_9 : decode cX1_hasStretch 9 = .ok (.ifCond .lt 19, 3) := by decide +kernel
theorem dX1_hasStretch_12 : decode cX1_hasStretch 12 = .ok (.lload_n 1, 1) := by decide +kernel
theorem dX1_hasStretch_13 : decode cX1_hasStretch 13 = .ok (.lload_n 3, 1) := by decide +kernel
theorem dX1_hasStretch_14 : decode cX1_hasStretch 14 = .ok (.ladd, 1) := by decide +kernel
theorem dX1_hasStretch_15 : decode cX1_hasStretch 15 = .ok (.aload_n 0, 1) := by decide +kernel
theorem dX1_hasStretch_16 : decode cX1_hasStretch 16 = .ok (.getfield 22, 3) := by decide +kernel
theorem dX1_hasStretch_19 : decode cX1_hasStretch 19 = .ok (.i2l, 1) := by decide +kernel
theorem dX1_hasStretch_20 : decode cX1_hasStretch 20 = .ok (.lcmp, 1) := by decide +kernel
theorem dX1_hasStretch_21 : decode cX1_hasStretch 21 = .ok (.ifCond .gt 7, 3) := by decide +kernel
theorem dX1_hasStretch_24 : decode cX1_hasStretch 24 = .ok (.iconst 1, 1) := by decide +kernel
theorem dX1_hasStretch_25 : decode cX1_hasStretch 25 = .ok (.goto 4, 3) := by decide +kernel
theorem dX1_hasStretch_28 : decode cX1_hasStretch 28 = .ok (.iconst 0, 1) := by decide +kernel
theorem dX1_hasStretch_29 : decode cX1_hasStretch 29 = .ok (.ireturn, 1) := by decide +kernel
theorem dX1_blankPlace_0 : decode cX1_blankPlace 0 = .ok (.aload_n 0, 1) := by decide +kernel
theorem dX1_blankPlace_1 : decode cX1_blankPlace 1 = .ok (.iload_n 1, 1) := by decide +kernel
theorem dX1_blankPlace_2 : decode cX1_blankPlace 2 = .ok (.invokevirtual 29, 3) := by decide +kernel
theorem dX1_blankPlace_5 : decode cX1_blankPlace 5 = .ok (.ifCond .eq 16, 3) := by decide +kernel
theorem dX1_blankPlace_8 : decode cX1_blankPlace 8 = .ok (.aload_n 0, 1) := by decide +kernel
theorem dX1_blankPlace_9 : decode cX1_blankPlace 9 = .ok (.getfield 9, 3) := by decide +kernel
theorem dX1_blankPlace_12 : decode cX1_blankPlace 12 = .ok (.iload_n 1, 1) := by decide +kernel
theorem dX1_blankPlace_13 : decode cX1_blankPlace 13 = .ok (.aload_n 0, 1) := by decide +kernel
theorem dX1_blankPlace_14 : decode cX1_blankPlace 14 = .ok (.getfield 18, 3) := by decide +kernel
theorem dX1_blankPlace_17 : decode cX1_blankPlace 17 = .ok (.invokestatic 25, 3) := by decide +kernel
theorem dX1_blankPlace_20 : decode cX1_blankPlace 20 = .ok (.lastore, 1) := by decide +kernel
theorem dX1_blankPlace_21 : decode cX1_blankPlace 21 = .ok (.return_, 1) := by decide +kernel
theorem dX1_keepCells_0 : decode cX1_keepCells 0 = .ok (.aload_n 0, 1) := by decide +kernel
theorem dX1_keepCells_1 : decode cX1_keepCells 1 = .ok (.getfield 9, 3) := by decide +kernel
theorem dX1_keepCells_4 : decode cX1_keepCells 4 = .ok (.iconst 0, 1) := by decide +kernel
theorem dX1_keepCells_5 : decode cX1_keepCells 5 = .ok (.aload_n 0, 1) := by decide +kernel
theorem dX1_keepCells_6 : decode cX1_keepCells 6 = .ok (.getfield 15, 3) := by decide +kernel
theorem dX1_keepCells_9 : decode cX1_keepCells 9 = .ok (.iconst 0, 1) := by decide +kernel
theorem dX1_keepCells_10 : decode cX1_keepCells 10 = .ok (.bipush 40, 2) := by decide +kernel
theorem dX1_keepCells_12 : decode cX1_keepCells 12 = .ok (.invokestatic 33, 3) := by decide +kernel
theorem dX1_keepCells_15 : decode cX1_keepCells 15 = .ok (.return_, 1) := by decide +kernel
theorem dX1_restoreCells_0 : decode cX1_restoreCells 0 = .ok (.aload_n 0, 1) := by decide +kernel
theorem dX1_restoreCells_1 : decode cX1_restoreCells 1 = .ok (.getfield 15, 3) := by decide +kernel
theorem dX1_restoreCells_4 : decode cX1_restoreCells 4 = .ok (.iconst 0, 1) := by decide +kernel
theorem dX1_restoreCells_5 : decode cX1_restoreCells 5 = .ok (.aload_n 0, 1) := by decide +kernel
theorem dX1_restoreCells_6 : decode cX1_restoreCells 6 = .ok (.getfield 9, 3) := by decide +kernel
theorem dX1_restoreCells_9 : decode cX1_restoreCells 9 = .ok (.iconst 0, 1) := by decide +kernel
theorem dX1_restoreCells_10 : decode cX1_restoreCells 10 = .ok (.bipush 40, 2) := by decide +kernel
theorem dX1_restoreCells_12 : decode cX1_restoreCells 12 = .ok (.invokestatic 33, 3) := by decide +kernel
theorem dX1_restoreCells_15 : decode cX1_restoreCells 15 = .ok (.return_, 1) := by decide +kernel
theorem dX1_rotate_0 : decode cX1_rotate 0 = .ok (.aload_n 0, 1) := by decide +kernel
theorem dX1_rotate_1 : decode cX1_rotate 1 = .ok (.getfield 22, 3) := by decide +kernel
theorem dX1_rotate_4 : decode cX1_rotate 4 = .ok (.ifCond .ne 4, 3) := by decide +kernel
theorem dX1_rotate_7 : decode cX1_rotate 7 = .ok (.return_, 1) := by decide +kernel
theorem dX1_rotate_8 : decode cX1_rotate 8 = .ok (.aload_n 0, 1) := by decide +kernel
theorem dX1_rotate_9 : decode cX1_rotate 9 = .ok (.invokevirtual 39, 3) := by decide +kernel
theorem dX1_rotate_12 : decode cX1_rotate 12 = .ok (.iload_n 1, 1) := by decide +kernel
theorem dX1_rotate_13 : decode cX1_rotate 13 = .ok (.aload_n 0, 1) := by decide +kernel
theorem dX1_rotate_14 : decode cX1_rotate 14 = .ok (.getfield 22, 3) := by decide +kernel
theorem dX1_rotate_17 : decode cX1_rotate 17 = .ok (.invokestatic 42, 3) := by decide +kernel
theorem dX1_rotate_20 : decode cX1_rotate 20 = .ok (.istore_n 2, 1) := by decide +kernel
theorem dX1_rotate_21 : decode cX1_rotate 21 = .ok (.iconst 0, 1) := by decide +kernel
theorem dX1_rotate_22 : decode cX1_rotate 22 = .ok (.istore_n 3, 1) := by decide +kernel
theorem dX1_rotate_23 : decode cX1_rotate 23 = .ok (.iload_n 3, 1) := by decide +kernel
theorem dX1_rotate_24 : decode cX1_rotate 24 = .ok (.aload_n 0, 1) := by decide +kernel
theorem dX1_rotate_25 : decode cX1_rotate 25 = .ok (.getfield 22, 3) := by decide +kernel
theorem dX1_rotate_28 : decode cX1_rotate 28 = .ok (.if_icmp .ge 28, 3) := by decide +kernel
theorem dX1_rotate_31 : decode cX1_rotate 31 = .ok (.aload_n 0, 1) := by decide +kernel
theorem dX1_rotate_32 : decode cX1_rotate 32 = .ok (.getfield 9, 3) := by decide +kernel
theorem dX1_rotate_35 : decode cX1_rotate 35 = .ok (.iload_n 3, 1) := by decide +kernel
theorem dX1_rotate_36 : decode cX1_rotate 36 = .ok (.iload_n 2, 1) := by decide +kernel
theorem dX1_rotate_37 : decode cX1_rotate 37 = .ok (.iadd, 1) := by decide +kernel
theorem dX1_rotate_38 : decode cX1_rotate 38 = .ok (.aload_n 0, 1) := by decide +kernel
theorem dX1_rotate_39 : decode cX1_rotate 39 = .ok (.getfield 22, 3) := by decide +kernel
theorem dX1_rotate_42 : decode cX1_rotate 42 = .ok (.irem, 1) := by decide +kernel
theorem dX1_rotate_43 : decode cX1_rotate 43 = .ok (.aload_n 0, 1) := by decide +kernel
theorem dX1_rotate_44 : decode cX1_rotate 44 = .ok (.getfield 15, 3) := by decide +kernel
theorem dX1_rotate_47 : decode cX1_rotate 47 = .ok (.iload_n 3, 1) := by decide +kernel
theorem dX1_rotate_48 : decode cX1_rotate 48 = .ok (.laload, 1) := by decide +kernel
theorem dX1_rotate_49 : decode cX1_rotate 49 = .ok (.lastore, 1) := by decide +kernel
theorem dX1_rotate_50 : decode cX1_rotate 50 = .ok (.iinc 3 1, 3) := by decide +kernel
theorem dX1_rotate_53 : decode cX1_rotate 53 = .ok (.goto (-30), 3) := by decide +kernel
theorem dX1_rotate_56 : decode cX1_rotate 56 = .ok (.return_, 1) := by decide +kernel
theorem dX2_init_0 : decode cX2_init 0 = .ok (.aload_n 0, 1) := by decide +kernel
theorem dX2_init_1 : decode cX2_init 1 = .ok (.invokespecial 1, 3) := by decide +kernel
theorem dX2_init_4 : decode cX2_init 4 = .ok (.aload_n 0, 1) := by decide +kernel
theorem dX2_init_5 : decode cX2_init 5 = .ok (.bipush 8, 2) := by decide +kernel
theorem dX2_init_7 : decode cX2_init 7 = .ok (.anewarray 9, 3) := by decide +kernel
theorem dX2_init_10 : decode cX2_init 10 = .ok (.putfield 11, 3) := by decide +kernel
theorem dX2_init_13 : decode cX2_init 13 = .ok (.aload_n 0, 1) := by decide +kernel
theorem dX2_init_14 : decode cX2_init 14 = .ok (.sipush 200, 3) := by decide +kernel
theorem dX2_init_17 : decode cX2_init 17 = .ok (.newarray .int, 2) := by decide +kernel
theorem dX2_init_19 : decode cX2_init 19 = .ok (.putfield 15, 3) := by decide +kernel
theorem dX2_init_22 : decode cX2_init 22 = .ok (.aload_n 0, 1) := by decide +kernel
theorem dX2_init_23 : decode cX2_init 23 = .ok (.sipush 200, 3) := by decide +kernel
theorem dX2_init_26 : decode cX2_init 26 = .ok (.newarray .boolean, 2) := by decide +kernel
theorem dX2_init_28 : decode cX2_init 28 = .ok (.putfield 19, 3) := by decide +kernel
theorem dX2_init_31 : decode cX2_init 31 = .ok (.aload_n 0, 1) := by decide +kernel
theorem dX2_init_32 : decode cX2_init 32 = .ok (.new 23, 3) := by decide +kernel
theorem dX2_init_35 : decode cX2_init 35 = .ok (.dup, 1) := by decide +kernel
theorem dX2_init_36 : decode cX2_init 36 = .ok (.invokespecial 25, 3) := by decide +kernel
theorem dX2_init_39 : decode cX2_init 39 = .ok (.putfield 26, 3) := by decide +kernel
theorem dX2_init_42 : decode cX2_init 42 = .ok (.aload_n 0, 1) := by decide +kernel
theorem dX2_init_43 : decode cX2_init 43 = .ok (.iconst 5, 1) := by decide +kernel
theorem dX2_init_44 : decode cX2_init 44 = .ok (.newarray .int, 2) := by decide +kernel
theorem dX2_init_46 : decode cX2_init 46 = .ok (.putfield 30, 3) := by decide +kernel
theorem dX2_init_49 : decode cX2_init 49 = .ok (.aload_n 0, 1) := by decide +kernel
theorem dX2_init_50 : decode cX2_init 50 = .ok (.iconst 0, 1) := by decide +kernel
theorem dX2_init_51 : decode cX2_init 51 = .ok (.putfield 33, 3) := by decide +kernel
theorem dX2_init_54 : decode cX2_init 54 = .ok (.aload_n 0, 1) := by decide +kernel
theorem dX2_init_55 : decode cX2_init 55 = .ok (.iconst 0, 1) := by decide +kernel
theorem dX2_init_56 : decode cX2_init 56 = .ok (.putfield 37, 3) := by decide +kernel
theorem dX2_init_59 : decode cX2_init 59 = .ok (.aload_n 0, 1) := by decide +kernel
theorem dX2_init_60 : decode cX2_init 60 = .ok (.iconst 0, 1) := by decide +kernel
theorem dX2_init_61 : decode cX2_init 61 = .ok (.putfield 40, 3) := by decide +kernel
theorem dX2_init_64 : decode cX2_init 64 = .ok (.iconst 0, 1) := by decide +kernel
theorem dX2_init_65 : decode cX2_init 65 = .ok (.istore_n 1, 1) := by decide +kernel
theorem dX2_init_66 : decode cX2_init 66 = .ok (.iload_n 1, 1) := by decide +kernel
theorem dX2_init_67 : decode cX2_init 67 = .ok (.bipush 8, 2) := by decide +kernel
theorem dX2_init_69 : decode cX2_init 69 = .ok (.if_icmp .ge 22, 3) := by decide +kernel
theorem dX2_init_72 : decode cX2_init 72 = .ok (.aload_n 0, 1) := by decide +kernel
theorem dX2_init_73 : decode cX2_init 73 = .ok (.getfield 11, 3) := by decide +kernel
theorem dX2_init_76 : decode cX2_init 76 = .ok (.iload_n 1, 1) := by decide +kernel
theorem dX2_init_77 : decode cX2_init 77 = .ok (.new 9, 3) := by decide +kernel
theorem dX2_init_80 : decode cX2_init 80 = .ok (.dup, 1) := by decide +kernel
theorem dX2_init_81 : decode cX2_init 81 = .ok (.invokespecial 43, 3) := by decide +kernel
theorem dX2_init_84 : decode cX2_init 84 = .ok (.aastore, 1) := by decide +kernel
theorem dX2_init_85 : decode cX2_init 85 = .ok (.iinc 1 1, 3) := by decide +kernel
theorem dX2_init_88 : decode cX2_init 88 = .ok (.goto (-22), 3) := by decide +kernel
theorem dX2_init_91 : decode cX2_init 91 = .ok (.return_, 1) := by decide +kernel
theorem dX2_make_0 : decode cX2_make 0 = .ok (.aload_n 0, 1) := by decide +kernel
theorem dX2_make_1 : decode cX2_make 1 = .ok (.iload_n 1, 1) := by decide +kernel
theorem dX2_make_2 : decode cX2_make 2 = .ok (.invokevirtual 44, 3) := by decide +kernel
theorem dX2_make_5 : decode cX2_make 5 = .ok (.astore 4, 2) := by decide +kernel
theorem dX2_make_7 : decode cX2_make 7 = .ok (.aload 4, 2) := by decide +kernel
theorem dX2_make_9 : decode cX2_make 9 = .ok (.ifnull 24, 3) := by decide +kernel
theorem dX2_make_12 : decode cX2_make 12 = .ok (.iload_n 2, 1) := by decide +kernel
theorem dX2_make_13 : decode cX2_make 13 = .ok (.iconst 1, 1) := by decide +kernel
theorem dX2_make_14 : decode cX2_make 14 = .ok (.if_icmp .lt 19, 3) := by decide +kernel
theorem dX2_make_17 : decode cX2_make 17 = .ok (.iload_n 2, 1) := by decide +kernel
theorem dX2_make_18 : decode cX2_make 18 = .ok (.bipush 8, 2) := by decide +kernel
theorem dX2_make_20 : decode cX2_make 20 = .ok (.if_icmp .gt 13, 3) := by decide +kernel
theorem dX2_make_23 : decode cX2_make 23 = .ok (.iload_n 3, 1) := by decide +kernel
theorem dX2_make_24 : decode cX2_make 24 = .ok (.ifCond .lt 9, 3) := by decide +kernel
theorem dX2_make_27 : decode cX2_make 27 = .ok (.iload_n 3, 1) := by decide +kernel
theorem dX2_make_28 : decode cX2_make 28 = .ok (.bipush 40, 2) := by decide +kernel
theorem dX2_make_30 : decode cX2_make 30 = .ok (.if_icmp .le 5, 3) := by decide +kernel
theorem dX2_make_33 : decode cX2_make 33 = .ok (.iconst 0, 1) := by decide +kernel
theorem dX2_make_34 : decode cX2_make 34 = .ok (.ireturn, 1) := by decide +kernel
theorem dX2_make_35 : decode cX2_make 35 = .ok (.aload 4, 2) := by decide +kernel
theorem dX2_make_37 : decode cX2_make 37 = .ok (.iload_n 2, 1) := by decide +kernel
theorem dX2_make_38 : decode cX2_make 38 = .ok (.iload_n 3, 1) := by decide +kernel
theorem dX2_make_39 : decode cX2_make 39 = .ok (.invokevirtual 48, 3) := by decide +kernel
theorem dX2_make_42 : decode cX2_make 42 = .ok (.iconst 1, 1) := by decide +kernel
theorem dX2_make_43 : decode cX2_make 43 = .ok (.ireturn, 1) := by decide +kernel
theorem dX2_lamp_0 : decode cX2_lamp 0 = .ok (.aload_n 0, 1) := by decide +kernel
theorem dX2_lamp_1 : decode cX2_lamp 1 = .ok (.iload_n 1, 1) := by decide +kernel
theorem dX2_lamp_2 : decode cX2_lamp 2 = .ok (.invokevirtual 44, 3) := by decide +kernel
theorem dX2_lamp_5 : decode cX2_lamp 5 = .ok (.astore_n 2, 1) := by decide +kernel
theorem dX2_lamp_6 : decode cX2_lamp 6 = .ok (.aload_n 2, 1) := by decide +kernel
theorem dX2_lamp_7 : decode cX2_lamp 7 = .ok (.ifnonnull 5, 3) := by decide +kernel
theorem dX2_lamp_10 : decode cX2_lamp 10 = .ok (.iconst 0, 1) := by decide +kernel
theorem dX2_lamp_11 : decode cX2_lamp 11 = .ok (.ireturn, 1) := by decide +kernel
theorem dX2_lamp_12 : decode cX2_lamp 12 = .ok (.aload_n 2, 1) := by decide +kernel
theorem dX2_lamp_13 : decode cX2_lamp 13 = .ok (.bipush 9, 2) := by decide +kernel
theorem dX2_lamp_15 : decode cX2_lamp 15 = .ok (.iconst 0, 1) := by decide +kernel
theorem dX2_lamp_16 : decode cX2_lamp 16 = .ok (.invokevirtual 48, 3) := by decide +kernel
theorem dX2_lamp_19 : decode cX2_lamp 19 = .ok (.iconst 1, 1) := by decide +kernel
theorem dX2_lamp_20 : decode cX2_lamp 20 = .ok (.ireturn, 1) := by decide +kernel
theorem dX2_empty_0 : decode cX2_empty 0 = .ok (.aload_n 0, 1) := by decide +kernel
theorem dX2_empty_1 : decode cX2_empty 1 = .ok (.iload_n 1, 1) := by decide +kernel
theorem dX2_empty_2 : decode cX2_empty 2 = .ok (.invokevirtual 44, 3) := by decide +kernel
theorem dX2_empty_5 : decode cX2_empty 5 = .ok (.astore_n 2, 1) := by decide +kernel
theorem dX2_empty_6 : decode cX2_empty 6 = .ok (.aload_n 2, 1) := by decide +kernel
theorem dX2_empty_7 : decode cX2_empty 7 = .ok (.ifnull 10, 3) := by decide +kernel
theorem dX2_empty_10 : decode cX2_empty 10 = .ok (.aload_n 2, 1) := by decide +kernel
theorem dX2_empty_11 : decode cX2_empty 11 = .ok (.getfield 52, 3) := by decide +kernel
theorem dX2_empty_14 : decode cX2_empty 14 = .ok (.ifCond .ne 5, 3) := by decide +kernel
theorem dX2_empty_17 : decode cX2_empty 17 = .ok (.iconst 0, 1) := by decide +kernel
theorem dX2_empty_18 : decode cX2_empty 18 = .ok (.ireturn, 1) := by decide +kernel
theorem dX2_empty_19 : decode cX2_empty 19 = .ok (.aload_n 2, 1) := by decide +kernel
theorem dX2_empty_20 : decode cX2_empty 20 = .ok (.iconst 0, 1) := by decide +kernel
theorem dX2_empty_21 : decode cX2_empty 21 = .ok (.iconst 0, 1) := by decide +kernel
theorem dX2_empty_22 : decode cX2_empty 22 = .ok (.invokevirtual 48, 3) := by decide +kernel
theorem dX2_empty_25 : decode cX2_empty 25 = .ok (.iconst 1, 1) := by decide +kernel
theorem dX2_empty_26 : decode cX2_empty 26 = .ok (.ireturn, 1) := by decide +kernel
theorem dX2_bead_0 : decode cX2_bead 0 = .ok (.aload_n 0, 1) := by decide +kernel
theorem dX2_bead_1 : decode cX2_bead 1 = .ok (.getfield 33, 3) := by decide +kernel
theorem dX2_bead_4 : decode cX2_bead 4 = .ok (.sipush 200, 3) := by decide +kernel
theorem dX2_bead_7 : decode cX2_bead 7 = .ok (.if_icmp .lt 5, 3) := by decide +kernel
theorem dX2_bead_10 : decode cX2_bead 10 = .ok (.iconst (-1), 1) := by decide +kernel
theorem dX2_bead_11 : decode cX2_bead 11 = .ok (.ireturn, 1) := by decide +kernel
theorem dX2_bead_12 : decode cX2_bead 12 = .ok (.aload_n 0, 1) := by decide +kernel
theorem dX2_bead_13 : decode cX2_bead 13 = .ok (.getfield 15, 3) := by decide +kernel
theorem dX2_bead_16 : decode cX2_bead 16 = .ok (.aload_n 0, 1) := by decide +kernel
theorem dX2_bead_17 : decode cX2_bead 17 = .ok (.getfield 33, 3) := by decide +kernel
theorem dX2_bead_20 : decode cX2_bead 20 = .ok (.iload_n 1, 1) := by decide +kernel
theorem dX2_bead_21 : decode cX2_bead 21 = .ok (.iastore, 1) := by decide +kernel
theorem dX2_bead_22 : decode cX2_bead 22 = .ok (.aload_n 0, 1) := by decide +kernel
theorem dX2_bead_23 : decode cX2_bead 23 = .ok (.getfield 19, 3) := by decide +kernel
theorem dX2_bead_26 : decode cX2_bead 26 = .ok (.aload_n 0, 1) := by decide +kernel
theorem dX2_bead_27 : decode cX2_bead 27 = .ok (.getfield 33, 3) := by decide +kernel
theorem dX2_bead_30 : decode cX2_bead 30 = .ok (.iload_n 2, 1) := by decide +kernel
theorem dX2_bead_31 : decode cX2_bead 31 = .ok (.bastore, 1) := by decide +kernel
theorem dX2_bead_32 : decode cX2_bead 32 = .ok (.aload_n 0, 1) := by decide +kernel
theorem dX2_bead_33 : decode cX2_bead 33 = .ok (.dup, 1) := by decide +kernel
theorem dX2_bead_34 : decode cX2_bead 34 = .ok (.getfield 33, 3) := by decide +kernel
theorem dX2_bead_37 : decode cX2_bead 37 = .ok (.iconst 1, 1) := by decide +kernel
theorem dX2_bead_38 : decode cX2_bead 38 = .ok (.iadd, 1) := by decide +kernel
theorem dX2_bead_39 : decode cX2_bead 39 = .ok (.putfield 33, 3) := by decide +kernel
theorem dX2_bead_42 : decode cX2_bead 42 = .ok (.aload_n 0, 1) := by decide +kernel
theorem dX2_bead_43 : decode cX2_bead 43 = .ok (.getfield 33, 3) := by decide +kernel
theorem dX2_bead_46 : decode cX2_bead 46 = .ok (.iconst 1, 1) := by decide +kernel
theorem dX2_bead_47 : decode cX2_bead 47 = .ok (.isub, 1) := by decide +kernel
theorem dX2_bead_48 : decode cX2_bead 48 = .ok (.ireturn, 1) := by decide +kernel
theorem dX2_paint_0 : decode cX2_paint 0 = .ok (.aload_n 0, 1) := by decide +kernel
theorem dX2_paint_1 : decode cX2_paint 1 = .ok (.iload_n 1, 1) := by decide +kernel
theorem dX2_paint_2 : decode cX2_paint 2 = .ok (.i2l, 1) := by decide +kernel
theorem dX2_paint_3 : decode cX2_paint 3 = .ok (.invokevirtual 55, 3) := by decide +kernel
theorem dX2_paint_6 : decode cX2_paint 6 = .ok (.ifCond .ne 5, 3) := by decide +kernel
theorem dX2_paint_9 : decode cX2_paint 9 = .ok (.iconst 0, 1) := by decide +kernel
theorem dX2_paint_10 : decode cX2_paint 10 = .ok (.ireturn, 1) := by decide +kernel
theorem dX2_paint_11 : decode cX2_paint 11 = .ok (.aload_n 0, 1) := by decide +kernel
theorem dX2_paint_12 : decode cX2_paint 12 = .ok (.getfield 15, 3) := by decide +kernel
theorem dX2_paint_15 : decode cX2_paint 15 = .ok (.iload_n 1, 1) := by decide +kernel
theorem dX2_paint_16 : decode cX2_paint 16 = .ok (.iload_n 2, 1) := by decide +kernel
theorem dX2_paint_17 : decode cX2_paint 17 = .ok (.iastore, 1) := by decide +kernel
theorem dX2_paint_18 : decode cX2_paint 18 = .ok (.iconst 1, 1) := by decide +kernel
theorem dX2_paint_19 : decode cX2_paint 19 = .ok (.ireturn, 1) := by decide +kernel
theorem dX2_colour_0 : decode cX2_colour 0 = .ok (.aload_n 0, 1) := by decide +kernel
theorem dX2_colour_1 : decode cX2_colour 1 = .ok (.iload_n 1, 1) := by decide +kernel
theorem dX2_colour_2 : decode cX2_colour 2 = .ok (.i2l, 1) := by decide +kernel
theorem dX2_colour_3 : decode cX2_colour 3 = .ok (.invokevirtual 59, 3) := by decide +kernel
theorem dX2_colour_6 : decode cX2_colour 6 = .ok (.ireturn, 1) := by decide +kernel
theorem dX2_put_0 : decode cX2_put 0 = .ok (.aload_n 0, 1) := by decide +kernel
theorem dX2_put_1 : decode cX2_put 1 = .ok (.iload_n 1, 1) := by decide +kernel
theorem dX2_put_2 : decode cX2_put 2 = .ok (.invokevirtual 63, 3) := by decide +kernel
theorem dX2_put_5 : decode cX2_put 5 = .ok (.astore 5, 2) := by decide +kernel
theorem dX2_put_7 : decode cX2_put 7 = .ok (.aload 5, 2) := by decide +kernel
theorem dX2_put_9 : decode cX2_put 9 = .ok (.ifnull 25, 3) := by decide +kernel
theorem dX2_put_12 : decode cX2_put 12 = .ok (.aload 5, 2) := by decide +kernel
theorem dX2_put_14 : decode cX2_put 14 = .ok (.iload_n 2, 1) := by decide +kernel
theorem dX2_put_15 : decode cX2_put 15 = .ok (.invokevirtual 66, 3) := by decide +kernel
theorem dX2_put_18 : decode cX2_put 18 = .ok (.ifCond .eq 16, 3) := by decide +kernel
theorem dX2_put_21 : decode cX2_put 21 = .ok (.aload_n 0, 1) := by decide +kernel
theorem dX2_put_22 : decode cX2_put 22 = .ok (.aload 5, 2) := by decide +kernel
theorem dX2_put_24 : decode cX2_put 24 = .ok (.getfield 52, 3) := by decide +kernel
theorem dX2_put_27 : decode cX2_put 27 = .ok (.lload_n 3, 1) := by decide +kernel
theorem dX2_put_28 : decode cX2_put 28 = .ok (.invokevirtual 70, 3) := by decide +kernel
theorem dX2_put_31 : decode cX2_put 31 = .ok (.ifCond .ne 5, 3) := by decide +kernel
theorem dX2_put_34 : decode cX2_put 34 = .ok (.iconst 0, 1) := by decide +kernel
theorem dX2_put_35 : decode cX2_put 35 = .ok (.ireturn, 1) := by decide +kernel
theorem dX2_put_36 : decode cX2_put 36 = .ok (.aload 5, 2) := by decide +kernel
theorem dX2_put_38 : decode cX2_put 38 = .ok (.getfield 74, 3) := by decide +kernel
theorem dX2_put_41 : decode cX2_put 41 = .ok (.iload_n 2, 1) := by decide +kernel
theorem dX2_put_42 : decode cX2_put 42 = .ok (.aload 5, 2) := by decide +kernel
theorem dX2_put_44 : decode cX2_put 44 = .ok (.getfield 52, 3) := by decide +kernel
theorem dX2_put_47 : decode cX2_put 47 = .ok (.lload_n 3, 1) := by decide +kernel
theorem dX2_put_48 : decode cX2_put 48 = .ok (.invokestatic 78, 3) := by decide +kernel
theorem dX2_put_51 : decode cX2_put 51 = .ok (.lastore, 1) := by decide +kernel
theorem dX2_put_52 : decode cX2_put 52 = .ok (.iconst 1, 1) := by decide +kernel
theorem dX2_put_53 : decode cX2_put 53 = .ok (.ireturn, 1) := by decide +kernel
theorem dX2_look_0 : decode cX2_look 0 = .ok (.aload_n 0, 1) := by decide +kernel
theorem dX2_look_1 : decode cX2_look 1 = .ok (.iload_n 1, 1) := by decide +kernel
theorem dX2_look_2 : decode cX2_look 2 = .ok (.invokevirtual 63, 3) := by decide +kernel
theorem dX2_look_5 : decode cX2_look 5 = .ok (.astore_n 3, 1) := by decide +kernel
theorem dX2_look_6 : decode cX2_look 6 = .ok (.aload_n 3, 1) := by decide +kernel
theorem dX2_look_7 : decode cX2_look 7 = .ok (.ifnull 11, 3) := by decide +kernel
theorem dX2_look_10 : decode cX2_look 10 = .ok (.aload_n 3, 1) := by decide +kernel
theorem dX2_look_11 : decode cX2_look 11 = .ok (.iload_n 2, 1) := by decide +kernel
theorem dX2_look_12 : decode cX2_look 12 = .ok (.invokevirtual 66, 3) := by decide +kernel
theorem dX2_look_15 : decode cX2_look 15 = .ok (.ifCond .ne 5, 3) := by decide +kernel
theorem dX2_look_18 : decode cX2_look 18 = .ok (.lconst 0, 1) := by decide +kernel
theorem dX2_look_19 : decode cX2_look 19 = .ok (.lreturn, 1) := by decide +kernel
theorem dX2_look_20 : decode cX2_look 20 = .ok (.aload_n 3, 1) := by decide +kernel
theorem dX2_look_21 : decode cX2_look 21 = .ok (.getfield 74, 3) := by decide +kernel
theorem dX2_look_24 : decode cX2_look 24 = .ok (.iload_n 2, 1) := by decide +kernel
theorem dX2_look_25 : decode cX2_look 25 = .ok (.laload, 1) := by decide +kernel
theorem dX2_look_26 : decode cX2_look 26 = .ok (.lreturn, 1) := by decide +kernel
theorem dX2_move_0 : decode cX2_move 0 = .ok (.aload_n 0, 1) := by decide +kernel
theorem dX2_move_1 : decode cX2_move 1 = .ok (.aload_n 0, 1) := by decide +kernel
theorem dX2_move_2 : decode cX2_move 2 = .ok (.iload_n 1, 1) := by decide +kernel
theorem dX2_move_3 : decode cX2_move 3 = .ok (.invokevirtual 44, 3) := by decide +kernel
theorem dX2_move_6 : decode cX2_move 6 = .ok (.iload_n 2, 1) := by decide +kernel
theorem dX2_move_7 : decode cX2_move 7 = .ok (.i2l, 1) := by decide +kernel
theorem dX2_move_8 : decode cX2_move 8 = .ok (.aload_n 0, 1) := by decide +kernel
theorem dX2_move_9 : decode cX2_move 9 = .ok (.iload_n 3, 1) := by decide +kernel
theorem dX2_move_10 : decode cX2_move 10 = .ok (.invokevirtual 44, 3) := by decide +kernel
theorem dX2_move_13 : decode cX2_move 13 = .ok (.iload 4, 2) := by decide +kernel
theorem dX2_move_15 : decode cX2_move 15 = .ok (.i2l, 1) := by decide +kernel
theorem dX2_move_16 : decode cX2_move 16 = .ok (.iload 5, 2) := by decide +kernel
theorem dX2_move_18 : decode cX2_move 18 = .ok (.i2l, 1) := by decide +kernel
theorem dX2_move_19 : decode cX2_move 19 = .ok (.invokevirtual 82, 3) := by decide +kernel
theorem dX2_move_22 : decode cX2_move 22 = .ok (.ireturn, 1) := by decide +kernel
theorem dX2_open_0 : decode cX2_open 0 = .ok (.aload_n 0, 1) := by decide +kernel
theorem dX2_open_1 : decode cX2_open 1 = .ok (.iload_n 1, 1) := by decide +kernel
theorem dX2_open_2 : decode cX2_open 2 = .ok (.invokevirtual 44, 3) := by decide +kernel
theorem dX2_open_5 : decode cX2_open 5 = .ok (.astore_n 3, 1) := by decide +kernel
theorem dX2_open_6 : decode cX2_open 6 = .ok (.aload_n 3, 1) := by decide +kernel
theorem dX2_open_7 : decode cX2_open 7 = .ok (.ifnonnull 5, 3) := by decide +kernel
theorem dX2_open_10 : decode cX2_open 10 = .ok (.iconst (-1), 1) := by decide +kernel
theorem dX2_open_11 : decode cX2_open 11 = .ok (.ireturn, 1) := by decide +kernel
theorem dX2_open_12 : decode cX2_open 12 = .ok (.aload_n 0, 1) := by decide +kernel
theorem dX2_open_13 : decode cX2_open 13 = .ok (.aload_n 3, 1) := by decide +kernel
theorem dX2_open_14 : decode cX2_open 14 = .ok (.iload_n 2, 1) := by decide +kernel
theorem dX2_open_15 : decode cX2_open 15 = .ok (.i2l, 1) := by decide +kernel
theorem dX2_open_16 : decode cX2_open 16 = .ok (.aload_n 3, 1) := by decide +kernel
theorem dX2_open_17 : decode cX2_open 17 = .ok (.iload_n 2, 1) := by decide +kernel
theorem dX2_open_18 : decode cX2_open 18 = .ok (.i2l, 1) := by decide +kernel
theorem dX2_open_19 : decode cX2_open 19 = .ok (.lconst 1, 1) := by decide +kernel
theorem dX2_open_20 : decode cX2_open 20 = .ok (.ladd, 1) := by decide +kernel
theorem dX2_open_21 : decode cX2_open 21 = .ok (.aload_n 3, 1) := by decide +kernel
theorem dX2_open_22 : decode cX2_open 22 = .ok (.iload_n 2, 1) := by decide +kernel
theorem dX2_open_23 : decode cX2_open 23 = .ok (.invokestatic 86, 3) := by decide +kernel
theorem dX2_open_26 : decode cX2_open 26 = .ok (.invokevirtual 82, 3) := by decide +kernel
theorem dX2_open_29 : decode cX2_open 29 = .ok (.istore 4, 2) := by decide +kernel
theorem dX2_open_31 : decode cX2_open 31 = .ok (.iload 4, 2) := by decide +kernel
theorem dX2_open_33 : decode cX2_open 33 = .ok (.ifCond .ne 8, 3) := by decide +kernel
theorem dX2_open_36 : decode cX2_open 36 = .ok (.aload_n 3, 1) := by decide +kernel
theorem dX2_open_37 : decode cX2_open 37 = .ok (.iload_n 2, 1) := by decide +kernel
theorem dX2_open_38 : decode cX2_open 38 = .ok (.invokevirtual 90, 3) := by decide +kernel
theorem dX2_open_41 : decode cX2_open 41 = .ok (.iload 4, 2) := by decide +kernel
theorem dX2_open_43 : decode cX2_open 43 = .ok (.ireturn, 1) := by decide +kernel
theorem dX2_close_0 : decode cX2_close 0 = .ok (.aload_n 0, 1) := by decide +kernel
theorem dX2_close_1 : decode cX2_close 1 = .ok (.iload_n 1, 1) := by decide +kernel
theorem dX2_close_2 : decode cX2_close 2 = .ok (.invokevirtual 44, 3) := by decide +kernel
theorem dX2_close_5 : decode cX2_close 5 = .ok (.astore_n 3, 1) := by decide +kernel
theorem dX2_close_6 : decode cX2_close 6 = .ok (.aload_n 3, 1) := by decide +kernel
theorem dX2_close_7 : decode cX2_close 7 = .ok (.ifnonnull 5, 3) := by decide +kernel
theorem dX2_close_10 : decode cX2_close 10 = .ok (.iconst (-1), 1) := by decide +kernel
theorem dX2_close_11 : decode cX2_close 11 = .ok (.ireturn, 1) := by decide +kernel
theorem dX2_close_12 : decode cX2_close 12 = .ok (.aload_n 0, 1) := by decide +kernel
theorem dX2_close_13 : decode cX2_close 13 = .ok (.aload_n 3, 1) := by decide +kernel
theorem dX2_close_14 : decode cX2_close 14 = .ok (.iload_n 2, 1) := by decide +kernel
theorem dX2_close_15 : decode cX2_close 15 = .ok (.i2l, 1) := by decide +kernel
theorem dX2_close_16 : decode cX2_close 16 = .ok (.lconst 1, 1) := by decide +kernel
theorem dX2_close_17 : decode cX2_close 17 = .ok (.ladd, 1) := by decide +kernel
theorem dX2_close_18 : decode cX2_close 18 = .ok (.aload_n 3, 1) := by decide +kernel
theorem dX2_close_19 : decode cX2_close 19 = .ok (.iload_n 2, 1) := by decide +kernel
theorem dX2_close_20 : decode cX2_close 20 = .ok (.i2l, 1) := by decide +kernel
theorem dX2_close_21 : decode cX2_close 21 = .ok (.aload_n 3, 1) := by decide +kernel
theorem dX2_close_22 : decode cX2_close 22 = .ok (.iload_n 2, 1) := by decide +kernel
theorem dX2_close_23 : decode cX2_close 23 = .ok (.invokestatic 86, 3) := by decide +kernel
theorem dX2_close_26 : decode cX2_close 26 = .ok (.invokevirtual 82, 3) := by decide +kernel
theorem dX2_close_29 : decode cX2_close 29 = .ok (.istore 4, 2) := by decide +kernel
theorem dX2_close_31 : decode cX2_close 31 = .ok (.iload 4, 2) := by decide +kernel
theorem dX2_close_33 : decode cX2_close 33 = .ok (.ifCond .ne 13, 3) := by decide +kernel
theorem dX2_close_36 : decode cX2_close 36 = .ok (.aload_n 3, 1) := by decide +kernel
theorem dX2_close_37 : decode cX2_close 37 = .ok (.aload_n 3, 1) := by decide +kernel
theorem dX2_close_38 : decode cX2_close 38 = .ok (.getfield 94, 3) := by decide +kernel
theorem dX2_close_41 : decode cX2_close 41 = .ok (.iconst 1, 1) := by decide +kernel
theorem dX2_close_42 : decode cX2_close 42 = .ok (.isub, 1) := by decide +kernel
theorem dX2_close_43 : decode cX2_close 43 = .ok (.invokevirtual 90, 3) := by decide +kernel
theorem dX2_close_46 : decode cX2_close 46 = .ok (.iload 4, 2) := by decide +kernel
theorem dX2_close_48 : decode cX2_close 48 = .ok (.ireturn, 1) := by decide +kernel
theorem dX2_turn_0 : decode cX2_turn 0 = .ok (.aload_n 0, 1) := by decide +kernel
theorem dX2_turn_1 : decode cX2_turn 1 = .ok (.iload_n 1, 1) := by decide +kernel
theorem dX2_turn_2 : decode cX2_turn 2 = .ok (.invokevirtual 44, 3) := by decide +kernel
theorem dX2_turn_5 : decode cX2_turn 5 = .ok (.astore_n 3, 1) := by decide +kernel
theorem dX2_turn_6 : decode cX2_turn 6 = .ok (.aload_n 3, 1) := by decide +kernel
theorem dX2_turn_7 : decode cX2_turn 7 = .ok (.ifnonnull 5, 3) := by decide +kernel
theorem dX2_turn_10 : decode cX2_turn 10 = .ok (.iconst (-1), 1) := by decide +kernel
theorem dX2_turn_11 : decode cX2_turn 11 = .ok (.ireturn, 1) := by decide +kernel
theorem dX2_turn_12 : decode cX2_turn 12 = .ok (.aload_n 3, 1) := by decide +kernel
theorem dX2_turn_13 : decode cX2_turn 13 = .ok (.getfield 52, 3) := by decide +kernel
theorem dX2_turn_16 : decode cX2_turn 16 = .ok (.ifCond .ne 5, 3) := by decide +kernel
theorem dX2_turn_19 : decode cX2_turn 19 = .ok (.iconst 1, 1) := by decide +kernel
theorem dX2_turn_20 : decode cX2_turn 20 = .ok (.ireturn, 1) := by decide +kernel
theorem dX2_turn_21 : decode cX2_turn 21 = .ok (.aload_n 3, 1) := by decide +kernel
theorem dX2_turn_22 : decode cX2_turn 22 = .ok (.getfield 52, 3) := by decide +kernel
theorem dX2_turn_25 : decode cX2_turn 25 = .ok (.bipush 9, 2) := by decide +kernel
theorem dX2_turn_27 : decode cX2_turn 27 = .ok (.if_icmp .ne 5, 3) := by decide +kernel
theorem dX2_turn_30 : decode cX2_turn 30 = .ok (.iconst 2, 1) := by decide +kernel
theorem dX2_turn_31 : decode cX2_turn 31 = .ok (.ireturn, 1) := by decide +kernel
theorem dX2_turn_32 : decode cX2_turn 32 = .ok (.aload_n 3, 1) := by decide +kernel
theorem dX2_turn_33 : decode cX2_turn 33 = .ok (.iload_n 2, 1) := by decide +kernel
theorem dX2_turn_34 : decode cX2_turn 34 = .ok (.invokevirtual 97, 3) := by decide +kernel
theorem dX2_turn_37 : decode cX2_turn 37 = .ok (.iconst 0, 1) := by decide +kernel
theorem dX2_turn_38 : decode cX2_turn 38 = .ok (.ireturn, 1) := by decide +kernel
theorem dX2_step_0 : decode cX2_step 0 = .ok (.aload_n 0, 1) := by decide +kernel
theorem dX2_step_1 : decode cX2_step 1 = .ok (.iload_n 1, 1) := by decide +kernel
theorem dX2_step_2 : decode cX2_step 2 = .ok (.invokevirtual 44, 3) := by decide +kernel
theorem dX2_step_5 : decode cX2_step 5 = .ok (.ifnull 21, 3) := by decide +kernel
theorem dX2_step_8 : decode cX2_step 8 = .ok (.aload_n 0, 1) := by decide +kernel
theorem dX2_step_9 : decode cX2_step 9 = .ok (.iload_n 3, 1) := by decide +kernel
theorem dX2_step_10 : decode cX2_step 10 = .ok (.invokevirtual 44, 3) := by decide +kernel
theorem dX2_step_13 : decode cX2_step 13 = .ok (.ifnull 13, 3) := by decide +kernel
theorem dX2_step_16 : decode cX2_step 16 = .ok (.aload_n 0, 1) := by decide +kernel
theorem dX2_step_17 : decode cX2_step 17 = .ok (.getfield 26, 3) := by decide +kernel
theorem dX2_step_20 : decode cX2_step 20 = .ok (.invokevirtual 100, 3) := by decide +kernel
theorem dX2_step_23 : decode cX2_step 23 = .ok (.ifCond .eq 5, 3) := by decide +kernel
theorem dX2_step_26 : decode cX2_step 26 = .ok (.iconst (-1), 1) := by decide +kernel
theorem dX2_step_27 : decode cX2_step 27 = .ok (.ireturn, 1) := by decide +kernel
theorem dX2_step_28 : decode cX2_step 28 = .ok (.aload_n 0, 1) := by decide +kernel
theorem dX2_step_29 : decode cX2_step 29 = .ok (.getfield 26, 3) := by decide +kernel
theorem dX2_step_32 : decode cX2_step 32 = .ok (.iload_n 1, 1) := by decide +kernel
theorem dX2_step_33 : decode cX2_step 33 = .ok (.iload_n 2, 1) := by decide +kernel
theorem dX2_step_34 : decode cX2_step 34 = .ok (.iload_n 3, 1) := by decide +kernel
theorem dX2_step_35 : decode cX2_step 35 = .ok (.iload 4, 2) := by decide +kernel
theorem dX2_step_37 : decode cX2_step 37 = .ok (.iload 5, 2) := by decide +kernel
theorem dX2_step_39 : decode cX2_step 39 = .ok (.invokevirtual 104, 3) := by decide +kernel
theorem dX2_step_42 : decode cX2_step 42 = .ok (.aload_n 0, 1) := by decide +kernel
theorem dX2_step_43 : decode cX2_step 43 = .ok (.getfield 26, 3) := by decide +kernel
theorem dX2_step_46 : decode cX2_step 46 = .ok (.getfield 108, 3) := by decide +kernel
theorem dX2_step_49 : decode cX2_step 49 = .ok (.ireturn, 1) := by decide +kernel
theorem dX2_forget_0 : decode cX2_forget 0 = .ok (.aload_n 0, 1) := by decide +kernel
theorem dX2_forget_1 : decode cX2_forget 1 = .ok (.getfield 26, 3) := by decide +kernel
theorem dX2_forget_4 : decode cX2_forget 4 = .ok (.getfield 108, 3) := by decide +kernel
theorem dX2_forget_7 : decode cX2_forget 7 = .ok (.istore_n 1, 1) := by decide +kernel
theorem dX2_forget_8 : decode cX2_forget 8 = .ok (.aload_n 0, 1) := by decide +kernel
theorem dX2_forget_9 : decode cX2_forget 9 = .ok (.getfield 26, 3) := by decide +kernel
theorem dX2_forget_12 : decode cX2_forget 12 = .ok (.iconst 0, 1) := by decide +kernel
theorem dX2_forget_13 : decode cX2_forget 13 = .ok (.putfield 108, 3) := by decide +kernel
theorem dX2_forget_16 : decode cX2_forget 16 = .ok (.iload_n 1, 1) := by decide +kernel
theorem dX2_forget_17 : decode cX2_forget 17 = .ok (.ireturn, 1) := by decide +kernel
theorem dX2_weave_0 : decode cX2_weave 0 = .ok (.iload_n 1, 1) := by decide +kernel
theorem dX2_weave_1 : decode cX2_weave 1 = .ok (.iconst 1, 1) := by decide +kernel
theorem dX2_weave_2 : decode cX2_weave 2 = .ok (.if_icmp .lt 19, 3) := by decide +kernel
theorem dX2_weave_5 : decode cX2_weave 5 = .ok (.iload_n 1, 1) := by decide +kernel
theorem dX2_weave_6 : decode cX2_weave 6 = .ok (.bipush 50, 2) := by decide +kernel
theorem dX2_weave_8 : decode cX2_weave 8 = .ok (.if_icmp .gt 13, 3) := by decide +kernel
theorem dX2_weave_11 : decode cX2_weave 11 = .ok (.aload_n 0, 1) := by decide +kernel
theorem dX2_weave_12 : decode cX2_weave 12 = .ok (.getfield 26, 3) := by decide +kernel
theorem dX2_weave_15 : decode cX2_weave 15 = .ok (.getfield 108, 3) := by decide +kernel
theorem dX2_weave_18 : decode cX2_weave 18 = .ok (.ifCond .ne 5, 3) := by decide +kernel
theorem dX2_weave_21 : decode cX2_weave 21 = .ok (.iconst (-1), 1) := by decide +kernel
theorem dX2_weave_22 : decode cX2_weave 22 = .ok (.ireturn, 1) := by decide +kernel
theorem dX2_weave_23 : decode cX2_weave 23 = .ok (.iconst 0, 1) := by decide +kernel
theorem dX2_weave_24 : decode cX2_weave 24 = .ok (.istore_n 3, 1) := by decide +kernel
theorem dX2_weave_25 : decode cX2_weave 25 = .ok (.iconst 0, 1) := by decide +kernel
theorem dX2_weave_26 : decode cX2_weave 26 = .ok (.istore 4, 2) := by decide +kernel
theorem dX2_weave_28 : decode cX2_weave 28 = .ok (.iload 4, 2) := by decide +kernel
theorem dX2_weave_30 : decode cX2_weave 30 = .ok (.iload_n 1, 1) := by decide +kernel
theorem dX2_weave_31 : decode cX2_weave 31 = .ok (.if_icmp .ge 79, 3) := by decide +kernel
theorem dX2_weave_34 : decode cX2_weave 34 = .ok (.iload_n 2, 1) := by decide +kernel
theorem dX2_weave_35 : decode cX2_weave 35 = .ok (.ifCond .eq 7, 3) := by decide +kernel
theorem dX2_weave_38 : decode cX2_weave 38 = .ok (.aload_n 0, 1) := by decide +kernel
theorem dX2_weave_39 : decode cX2_weave 39 = .ok (.invokevirtual 111, 3) := by decide +kernel
theorem dX2_weave_42 : decode cX2_weave 42 = .ok (.aload_n 0, 1) := by decide +kernel
theorem dX2_weave_43 : decode cX2_weave 43 = .ok (.invokevirtual 114, 3) := by decide +kernel
theorem dX2_weave_46 : decode cX2_weave 46 = .ok (.istore 5, 2) := by decide +kernel
theorem dX2_weave_48 : decode cX2_weave 48 = .ok (.iload 5, 2) := by decide +kernel
theorem dX2_weave_50 : decode cX2_weave 50 = .ok (.aload_n 0, 1) := by decide +kernel
theorem dX2_weave_51 : decode cX2_weave 51 = .ok (.getfield 26, 3) := by decide +kernel
theorem dX2_weave_54 : decode cX2_weave 54 = .ok (.getfield 108, 3) := by decide +kernel
theorem dX2_weave_57 : decode cX2_weave 57 = .ok (.if_icmp .ne 7, 3) := by decide +kernel
theorem dX2_weave_60 : decode cX2_weave 60 = .ok (.iconst 1, 1) := by decide +kernel
theorem dX2_weave_61 : decode cX2_weave 61 = .ok (.goto 4, 3) := by decide +kernel
theorem dX2_weave_64 : decode cX2_weave 64 = .ok (.iconst 0, 1) := by decide +kernel
theorem dX2_weave_65 : decode cX2_weave 65 = .ok (.istore 6, 2) := by decide +kernel
theorem dX2_weave_67 : decode cX2_weave 67 = .ok (.iload 6, 2) := by decide +kernel
theorem dX2_weave_69 : decode cX2_weave 69 = .ok (.ifCond .ne 13, 3) := by decide +kernel
theorem dX2_weave_72 : decode cX2_weave 72 = .ok (.iload_n 2, 1) := by decide +kernel
theorem dX2_weave_73 : decode cX2_weave 73 = .ok (.ifCond .eq 9, 3) := by decide +kernel
theorem dX2_weave_76 : decode cX2_weave 76 = .ok (.aload_n 0, 1) := by decide +kernel
theorem dX2_weave_77 : decode cX2_weave 77 = .ok (.invokevirtual 118, 3) := by decide +kernel
theorem dX2_weave_80 : decode cX2_weave 80 = .ok (.iload_n 3, 1) := by decide +kernel
theorem dX2_weave_81 : decode cX2_weave 81 = .ok (.ireturn, 1) := by decide +kernel
theorem dX2_weave_82 : decode cX2_weave 82 = .ok (.iload_n 3, 1) := by decide +kernel
theorem dX2_weave_83 : decode cX2_weave 83 = .ok (.iload 5, 2) := by decide +kernel
theorem dX2_weave_85 : decode cX2_weave 85 = .ok (.iadd, 1) := by decide +kernel
theorem dX2_weave_86 : decode cX2_weave 86 = .ok (.istore_n 3, 1) := by decide +kernel
theorem dX2_weave_87 : decode cX2_weave 87 = .ok (.iload 6, 2) := by decide +kernel
theorem dX2_weave_89 : decode cX2_weave 89 = .ok (.ifCond .ne 5, 3) := by decide +kernel
theorem dX2_weave_92 : decode cX2_weave 92 = .ok (.iload_n 3, 1) := by decide +kernel
theorem dX2_weave_93 : decode cX2_weave 93 = .ok (.ireturn, 1) := by decide +kernel
theorem dX2_weave_94 : decode cX2_weave 94 = .ok (.aload_n 0, 1) := by decide +kernel
theorem dX2_weave_95 : decode cX2_weave 95 = .ok (.dup, 1) := by decide +kernel
theorem dX2_weave_96 : decode cX2_weave 96 = .ok (.getfield 40, 3) := by decide +kernel
theorem dX2_weave_99 : decode cX2_weave 99 = .ok (.iconst 1, 1) := by decide +kernel
theorem dX2_weave_100 : decode cX2_weave 100 = .ok (.iadd, 1) := by decide +kernel
theorem dX2_weave_101 : decode cX2_weave 101 = .ok (.putfield 40, 3) := by decide +kernel
theorem dX2_weave_104 : decode cX2_weave 104 = .ok (.iinc 4 1, 3) := by decide +kernel
theorem dX2_weave_107 : decode cX2_weave 107 = .ok (.goto (-79), 3) := by decide +kernel
theorem dX2_weave_110 : decode cX2_weave 110 = .ok (.iload_n 3, 1) := by decide +kernel
theorem dX2_weave_111 : decode cX2_weave 111 = .ok (.ireturn, 1) := by decide +kernel
theorem dX2_alike_0 : decode cX2_alike 0 = .ok (.aload_n 0, 1) := by decide +kernel
theorem dX2_alike_1 : decode cX2_alike 1 = .ok (.iload_n 1, 1) := by decide +kernel
theorem dX2_alike_2 : decode cX2_alike 2 = .ok (.invokevirtual 63, 3) := by decide +kernel
theorem dX2_alike_5 : decode cX2_alike 5 = .ok (.astore_n 3, 1) := by decide +kernel
theorem dX2_alike_6 : decode cX2_alike 6 = .ok (.aload_n 0, 1) := by decide +kernel
theorem dX2_alike_7 : decode cX2_alike 7 = .ok (.iload_n 2, 1) := by decide +kernel
theorem dX2_alike_8 : decode cX2_alike 8 = .ok (.invokevirtual 63, 3) := by decide +kernel
theorem dX2_alike_11 : decode cX2_alike 11 = .ok (.astore 4, 2) := by decide +kernel
theorem dX2_alike_13 : decode cX2_alike 13 = .ok (.aload_n 3, 1) := by decide +kernel
theorem dX2_alike_14 : decode cX2_alike 14 = .ok (.ifnull 8, 3) := by decide +kernel
theorem dX2_alike_17 : decode cX2_alike 17 = .ok (.aload 4, 2) := by decide +kernel
theorem dX2_alike_19 : decode cX2_alike 19 = .ok (.ifnonnull 5, 3) := by decide +kernel
theorem dX2_alike_22 : decode cX2_alike 22 = .ok (.iconst (-1), 1) := by decide +kernel
theorem dX2_alike_23 : decode cX2_alike 23 = .ok (.ireturn, 1) := by decide +kernel
theorem dX2_alike_24 : decode cX2_alike 24 = .ok (.aload_n 3, 1) := by decide +kernel
theorem dX2_alike_25 : decode cX2_alike 25 = .ok (.getfield 52, 3) := by decide +kernel
theorem dX2_alike_28 : decode cX2_alike 28 = .ok (.aload 4, 2) := by decide +kernel
theorem dX2_alike_30 : decode cX2_alike 30 = .ok (.getfield 52, 3) := by decide +kernel
theorem dX2_alike_33 : decode cX2_alike 33 = .ok (.invokestatic 121, 3) := by decide +kernel
theorem dX2_alike_36 : decode cX2_alike 36 = .ok (.ifCond .ne 5, 3) := by decide +kernel
theorem dX2_alike_39 : decode cX2_alike 39 = .ok (.iconst 0, 1) := by decide +kernel
theorem dX2_alike_40 : decode cX2_alike 40 = .ok (.ireturn, 1) := by decide +kernel
theorem dX2_alike_41 : decode cX2_alike 41 = .ok (.aload_n 3, 1) := by decide +kernel
theorem dX2_alike_42 : decode cX2_alike 42 = .ok (.getfield 94, 3) := by decide +kernel
theorem dX2_alike_45 : decode cX2_alike 45 = .ok (.aload 4, 2) := by decide +kernel
theorem dX2_alike_47 : decode cX2_alike 47 = .ok (.getfield 94, 3) := by decide +kernel
theorem dX2_alike_50 : decode cX2_alike 50 = .ok (.invokestatic 125, 3) := by decide +kernel
theorem dX2_alike_53 : decode cX2_alike 53 = .ok (.istore 5, 2) := by decide +kernel
theorem dX2_alike_55 : decode cX2_alike 55 = .ok (.iconst 0, 1) := by decide +kernel
theorem dX2_alike_56 : decode cX2_alike 56 = .ok (.istore 6, 2) := by decide +kernel
theorem dX2_alike_58 : decode cX2_alike 58 = .ok (.iload 6, 2) := by decide +kernel
theorem dX2_alike_60 : decode cX2_alike 60 = .ok (.iload 5, 2) := by decide +kernel
theorem dX2_alike_62 : decode cX2_alike 62 = .ok (.if_icmp .ge 28, 3) := by decide +kernel
theorem dX2_alike_65 : decode cX2_alike 65 = .ok (.aload_n 3, 1) := by decide +kernel
theorem dX2_alike_66 : decode cX2_alike 66 = .ok (.getfield 74, 3) := by decide +kernel
theorem dX2_alike_69 : decode cX2_alike 69 = .ok (.iload 6, 2) := by decide +kernel
theorem dX2_alike_71 : decode cX2_alike 71 = .ok (.laload, 1) := by decide +kernel
theorem dX2_alike_72 : decode cX2_alike 72 = .ok (.aload 4, 2) := by decide +kernel
theorem dX2_alike_74 : decode cX2_alike 74 = .ok (.getfield 74, 3) := by decide +kernel
theorem dX2_alike_77 : decode cX2_alike 77 = .ok (.iload 6, 2) := by decide +kernel
theorem dX2_alike_79 : decode cX2_alike 79 = .ok (.laload, 1) := by decide +kernel
theorem dX2_alike_80 : decode cX2_alike 80 = .ok (.lcmp, 1) := by decide +kernel
theorem dX2_alike_81 : decode cX2_alike 81 = .ok (.ifCond .ne 9, 3) := by decide +kernel
theorem dX2_alike_84 : decode cX2_alike 84 = .ok (.iinc 6 1, 3) := by decide +kernel
theorem dX2_alike_87 : decode cX2_alike 87 = .ok (.goto (-29), 3) := by decide +kernel
theorem dX2_alike_90 : decode cX2_alike 90 = .ok (.iload 6, 2) := by decide +kernel
theorem dX2_alike_92 : decode cX2_alike 92 = .ok (.ireturn, 1) := by decide +kernel
theorem dX2_shade_0 : decode cX2_shade 0 = .ok (.aload_n 0, 1) := by decide +kernel
theorem dX2_shade_1 : decode cX2_shade 1 = .ok (.iload_n 1, 1) := by decide +kernel
theorem dX2_shade_2 : decode cX2_shade 2 = .ok (.invokevirtual 63, 3) := by decide +kernel
theorem dX2_shade_5 : decode cX2_shade 5 = .ok (.astore_n 2, 1) := by decide +kernel
theorem dX2_shade_6 : decode cX2_shade 6 = .ok (.aload_n 2, 1) := by decide +kernel
theorem dX2_shade_7 : decode cX2_shade 7 = .ok (.ifnonnull 5, 3) := by decide +kernel
theorem dX2_shade_10 : decode cX2_shade 10 = .ok (.lconst 0, 1) := by decide +kernel
theorem dX2_shade_11 : decode cX2_shade 11 = .ok (.lreturn, 1) := by decide +kernel
theorem dX2_shade_12 : decode cX2_shade 12 = .ok (.aload_n 2, 1) := by decide +kernel
theorem dX2_shade_13 : decode cX2_shade 13 = .ok (.getfield 52, 3) := by decide +kernel
theorem dX2_shade_16 : decode cX2_shade 16 = .ok (.invokestatic 131, 3) := by decide +kernel
theorem dX2_shade_19 : decode cX2_shade 19 = .ok (.istore_n 3, 1) := by decide +kernel
theorem dX2_shade_20 : decode cX2_shade 20 = .ok (.lconst 0, 1) := by decide +kernel
theorem dX2_shade_21 : decode cX2_shade 21 = .ok (.lstore 4, 2) := by decide +kernel
theorem dX2_shade_23 : decode cX2_shade 23 = .ok (.iconst 0, 1) := by decide +kernel
theorem dX2_shade_24 : decode cX2_shade 24 = .ok (.istore 6, 2) := by decide +kernel
theorem dX2_shade_26 : decode cX2_shade 26 = .ok (.iload 6, 2) := by decide +kernel
theorem dX2_shade_28 : decode cX2_shade 28 = .ok (.aload_n 2, 1) := by decide +kernel
theorem dX2_shade_29 : decode cX2_shade 29 = .ok (.getfield 94, 3) := by decide +kernel
theorem dX2_shade_32 : decode cX2_shade 32 = .ok (.if_icmp .ge 40, 3) := by decide +kernel
theorem dX2_shade_35 : decode cX2_shade 35 = .ok (.lload 4, 2) := by decide +kernel
theorem dX2_shade_37 : decode cX2_shade 37 = .ok (.iload_n 3, 1) := by decide +kernel
theorem dX2_shade_38 : decode cX2_shade 38 = .ok (.ifCond .eq 18, 3) := by decide +kernel
theorem dX2_shade_41 : decode cX2_shade 41 = .ok (.aload_n 0, 1) := by decide +kernel
theorem dX2_shade_42 : decode cX2_shade 42 = .ok (.aload_n 2, 1) := by decide +kernel
theorem dX2_shade_43 : decode cX2_shade 43 = .ok (.getfield 74, 3) := by decide +kernel
theorem dX2_shade_46 : decode cX2_shade 46 = .ok (.iload 6, 2) := by decide +kernel
theorem dX2_shade_48 : decode cX2_shade 48 = .ok (.laload, 1) := by decide +kernel
theorem dX2_shade_49 : decode cX2_shade 49 = .ok (.invokevirtual 59, 3) := by decide +kernel
theorem dX2_shade_52 : decode cX2_shade 52 = .ok (.i2l, 1) := by decide +kernel
theorem dX2_shade_53 : decode cX2_shade 53 = .ok (.goto 10, 3) := by decide +kernel
theorem dX2_shade_56 : decode cX2_shade 56 = .ok (.aload_n 2, 1) := by decide +kernel
theorem dX2_shade_57 : decode cX2_shade 57 = .ok (.getfield 74, 3) := by decide +kernel
theorem dX2_shade_60 : decode cX2_shade 60 = .ok (.iload 6, 2) := by decide +kernel
theorem dX2_shade_62 : decode cX2_shade 62 = .ok (.laload, 1) := by decide +kernel
theorem dX2_shade_63 : decode cX2_shade 63 = .ok (.ladd, 1) := by decide +kernel
theorem dX2_shade_64 : decode cX2_shade 64 = .ok (.lstore 4, 2) := by decide +kernel
theorem dX2_shade_66 : decode cX2_shade 66 = .ok (.iinc 6 1, 3) := by decide +kernel
theorem dX2_shade_69 : decode cX2_shade 69 = .ok (.goto (-43), 3) := by decide +kernel
theorem dX2_shade_72 : decode cX2_shade 72 = .ok (.lload 4, 2) := by decide +kernel
theorem dX2_shade_74 : decode cX2_shade 74 = .ok (.lreturn, 1) := by decide +kernel
theorem dX2_rack_0 : decode cX2_rack 0 = .ok (.aload_n 0, 1) := by decide +kernel
theorem dX2_rack_1 : decode cX2_rack 1 = .ok (.iload_n 1, 1) := by decide +kernel
theorem dX2_rack_2 : decode cX2_rack 2 = .ok (.invokevirtual 44, 3) := by decide +kernel
theorem dX2_rack_5 : decode cX2_rack 5 = .ok (.astore_n 3, 1) := by decide +kernel
theorem dX2_rack_6 : decode cX2_rack 6 = .ok (.aload_n 3, 1) := by decide +kernel
theorem dX2_rack_7 : decode cX2_rack 7 = .ok (.ifnonnull 5, 3) := by decide +kernel
theorem dX2_rack_10 : decode cX2_rack 10 = .ok (.iconst (-1), 1) := by decide +kernel
theorem dX2_rack_11 : decode cX2_rack 11 = .ok (.ireturn, 1) := by decide +kernel
theorem dX2_rack_12 : decode cX2_rack 12 = .ok (.iload_n 2, 1) := by decide +kernel
theorem dX2_rack_13 : decode cX2_rack 13 = .ok (.lookupswitch 37 #[(0, 27), (1, 32)], 27) := by decide +kernel
theorem dX2_rack_40 : decode cX2_rack 40 = .ok (.aload_n 3, 1) := by decide +kernel
theorem dX2_rack_41 : decode cX2_rack 41 = .ok (.getfield 52, 3) := by decide +kernel
theorem dX2_rack_44 : decode cX2_rack 44 = .ok (.ireturn, 1) := by decide +kernel
theorem dX2_rack_45 : decode cX2_rack 45 = .ok (.aload_n 3, 1) := by decide +kernel
theorem dX2_rack_46 : decode cX2_rack 46 = .ok (.getfield 94, 3) := by decide +kernel
theorem dX2_rack_49 : decode cX2_rack 49 = .ok (.ireturn, 1) := by decide +kernel
theorem dX2_rack_50 : decode cX2_rack 50 = .ok (.iconst (-1), 1) := by decide +kernel
theorem dX2_rack_51 : decode cX2_rack 51 = .ok (.ireturn, 1) := by decide +kernel
theorem dX2_about_0 : decode cX2_about 0 = .ok (.iload_n 1, 1) := by decide +kernel
theorem dX2_about_1 : decode cX2_about 1 = .ok (.tableswitch 109 0 8 #[51, 56, 63, 70, 77, 84, 91, 96, 104], 51) := by decide +kernel
theorem dX2_about_52 : decode cX2_about 52 = .ok (.aload_n 0, 1) := by decide +kernel
theorem dX2_about_53 : decode cX2_about 53 = .ok (.getfield 37, 3) := by decide +kernel
theorem dX2_about_56 : decode cX2_about 56 = .ok (.ireturn, 1) := by decide +kernel
theorem dX2_about_57 : decode cX2_about 57 = .ok (.aload_n 0, 1) := by decide +kernel
theorem dX2_about_58 : decode cX2_about 58 = .ok (.getfield 30, 3) := by decide +kernel
theorem dX2_about_61 : decode cX2_about 61 = .ok (.iconst 1, 1) := by decide +kernel
theorem dX2_about_62 : decode cX2_about 62 = .ok (.iaload, 1) := by decide +kernel
theorem dX2_about_63 : decode cX2_about 63 = .ok (.ireturn, 1) := by decide +kernel
theorem dX2_about_64 : decode cX2_about 64 = .ok (.aload_n 0, 1) := by decide +kernel
theorem dX2_about_65 : decode cX2_about 65 = .ok (.getfield 30, 3) := by decide +kernel
theorem dX2_about_68 : decode cX2_about 68 = .ok (.iconst 2, 1) := by decide +kernel
theorem dX2_about_69 : decode cX2_about 69 = .ok (.iaload, 1) := by decide +kernel
theorem dX2_about_70 : decode cX2_about 70 = .ok (.ireturn, 1) := by decide +kernel
theorem dX2_about_71 : decode cX2_about 71 = .ok (.aload_n 0, 1) := by decide +kernel
theorem dX2_about_72 : decode cX2_about 72 = .ok (.getfield 30, 3) := by decide +kernel
theorem dX2_about_75 : decode cX2_about 75 = .ok (.iconst 3, 1) := by decide +kernel
theorem dX2_about_76 : decode cX2_about 76 = .ok (.iaload, 1) := by decide +kernel
theorem dX2_about_77 : decode cX2_about 77 = .ok (.ireturn, 1) := by decide +kernel
theorem dX2_about_78 : decode cX2_about 78 = .ok (.aload_n 0, 1) := by decide +kernel
theorem dX2_about_79 : decode cX2_about 79 = .ok (.getfield 30, 3) := by decide +kernel
theorem dX2_about_82 : decode cX2_about 82 = .ok (.iconst 4, 1) := by decide +kernel
theorem dX2_about_83 : decode cX2_about 83 = .ok (.iaload, 1) := by decide +kernel
theorem dX2_about_84 : decode cX2_about 84 = .ok (.ireturn, 1) := by decide +kernel
theorem dX2_about_85 : decode cX2_about 85 = .ok (.aload_n 0, 1) := by decide +kernel
theorem dX2_about_86 : decode cX2_about 86 = .ok (.getfield 30, 3) := by decide +kernel
theorem dX2_about_89 : decode cX2_about 89 = .ok (.iconst 0, 1) := by decide +kernel
theorem dX2_about_90 : decode cX2_about 90 = .ok (.iaload, 1) := by decide +kernel
theorem dX2_about_91 : decode cX2_about 91 = .ok (.ireturn, 1) := by decide +kernel
theorem dX2_about_92 : decode cX2_about 92 = .ok (.aload_n 0, 1) := by decide +kernel
theorem dX2_about_93 : decode cX2_about 93 = .ok (.getfield 33, 3) := by decide +kernel
theorem dX2_about_96 : decode cX2_about 96 = .ok (.ireturn, 1) := by decide +kernel
theorem dX2_about_97 : decode cX2_about 97 = .ok (.aload_n 0, 1) := by decide +kernel
theorem dX2_about_98 : decode cX2_about 98 = .ok (.getfield 26, 3) := by decide +kernel
theorem dX2_about_101 : decode cX2_about 101 = .ok (.getfield 108, 3) := by decide +kernel
theorem dX2_about_104 : decode cX2_about 104 = .ok (.ireturn, 1) := by decide +kernel
theorem dX2_about_105 : decode cX2_about 105 = .ok (.aload_n 0, 1) := by decide +kernel
theorem dX2_about_106 : decode cX2_about 106 = .ok (.getfield 40, 3) := by decide +kernel
theorem dX2_about_109 : decode cX2_about 109 = .ok (.ireturn, 1) := by decide +kernel
theorem dX2_about_110 : decode cX2_about 110 = .ok (.iconst (-1), 1) := by decide +kernel
theorem dX2_about_111 : decode cX2_about 111 = .ok (.ireturn, 1) := by decide +kernel
theorem dX2_rackAt_0 : decode cX2_rackAt 0 = .ok (.iload_n 1, 1) := by decide +kernel
theorem dX2_rackAt_1 : decode cX2_rackAt 1 = .ok (.ifCond .lt 18, 3) := by decide +kernel
theorem dX2_rackAt_4 : decode cX2_rackAt 4 = .ok (.iload_n 1, 1) := by decide +kernel
theorem dX2_rackAt_5 : decode cX2_rackAt 5 = .ok (.bipush 8, 2) := by decide +kernel
theorem dX2_rackAt_7 : decode cX2_rackAt 7 = .ok (.if_icmp .ge 12, 3) := by decide +kernel
theorem dX2_rackAt_10 : decode cX2_rackAt 10 = .ok (.aload_n 0, 1) := by decide +kernel
theorem dX2_rackAt_11 : decode cX2_rackAt 11 = .ok (.getfield 11, 3) := by decide +kernel
theorem dX2_rackAt_14 : decode cX2_rackAt 14 = .ok (.iload_n 1, 1) := by decide +kernel
theorem dX2_rackAt_15 : decode cX2_rackAt 15 = .ok (.aaload, 1) := by decide +kernel
theorem dX2_rackAt_16 : decode cX2_rackAt 16 = .ok (.goto 4, 3) := by decide +kernel
theorem dX2_rackAt_19 : decode cX2_rackAt 19 = .ok (.aconst_null, 1) := by decide +kernel
theorem dX2_rackAt_20 : decode cX2_rackAt 20 = .ok (.areturn, 1) := by decide +kernel
theorem dX2_rowAt_0 : decode cX2_rowAt 0 = .ok (.aload_n 0, 1) := by decide +kernel
theorem dX2_rowAt_1 : decode cX2_rowAt 1 = .ok (.iload_n 1, 1) := by decide +kernel
theorem dX2_rowAt_2 : decode cX2_rowAt 2 = .ok (.invokevirtual 44, 3) := by decide +kernel
theorem dX2_rowAt_5 : decode cX2_rowAt 5 = .ok (.astore_n 2, 1) := by decide +kernel
theorem dX2_rowAt_6 : decode cX2_rowAt 6 = .ok (.aload_n 2, 1) := by decide +kernel
theorem dX2_rowAt_7 : decode cX2_rowAt 7 = .ok (.ifnull 14, 3) := by decide +kernel
theorem dX2_rowAt_10 : decode cX2_rowAt 10 = .ok (.aload_n 2, 1) := by decide +kernel
theorem dX2_rowAt_11 : decode cX2_rowAt 11 = .ok (.invokevirtual 134, 3) := by decide +kernel
theorem dX2_rowAt_14 : decode cX2_rowAt 14 = .ok (.ifCond .eq 7, 3) := by decide +kernel
theorem dX2_rowAt_17 : decode cX2_rowAt 17 = .ok (.aload_n 2, 1) := by decide +kernel
theorem dX2_rowAt_18 : decode cX2_rowAt 18 = .ok (.goto 4, 3) := by decide +kernel
theorem dX2_rowAt_21 : decode cX2_rowAt 21 = .ok (.aconst_null, 1) := by decide +kernel
theorem dX2_rowAt_22 : decode cX2_rowAt 22 = .ok (.areturn, 1) := by decide +kernel
theorem dX2_isBead_0 : decode cX2_isBead 0 = .ok (.lload_n 1, 1) := by decide +kernel
theorem dX2_isBead_1 : decode cX2_isBead 1 = .ok (.lconst 0, 1) := by decide +kernel
theorem dX2_isBead_2 : decode cX2_isBead 2 = .ok (.lcmp, 1) := by decide +kernel
theorem dX2_isBead_3 : decode cX2_isBead 3 = .ok (.ifCond .lt 17, 3) := by decide +kernel
theorem dX2_isBead_6 : decode cX2_isBead 6 = .ok (.lload_n 1, 1) := by decide +kernel
theorem dX2_isBead_7 : decode cX2_isBead 7 = .ok (.aload_n 0, 1) := by decide +kernel
theorem dX2_isBead_8 : decode cX2_isBead 8 = .ok (.getfield 33, 3) := by decide +kernel
theorem dX2_isBead_11 : decode cX2_isBead 11 = .ok (.i2l, 1) := by decide +kernel
theorem dX2_isBead_12 : decode cX2_isBead 12 = .ok (.lcmp, 1) := by decide +kernel
theorem dX2_isBead_13 : decode cX2_isBead 13 = .ok (.ifCond .ge 7, 3) := by decide +kernel
theorem dX2_isBead_16 : decode cX2_isBead 16 = .ok (.iconst 1, 1) := by decide +kernel
theorem dX2_isBead_17 : decode cX2_isBead 17 = .ok (.goto 4, 3) := by decide +kernel
theorem dX2_isBead_20 : decode cX2_isBead 20 = .ok (.iconst 0, 1) := by decide +kernel
theorem dX2_isBead_21 : decode cX2_isBead 21 = .ok (.ireturn, 1) := by decide +kernel
theorem dX2_colourOf_0 : decode cX2_colourOf 0 = .ok (.aload_n 0, 1) := by decide +kernel
theorem dX2_colourOf_1 : decode cX2_colourOf 1 = .ok (.lload_n 1, 1) := by decide +kernel
theorem dX2_colourOf_2 : decode cX2_colourOf 2 = .ok (.invokevirtual 55, 3) := by decide +kernel
theorem dX2_colourOf_5 : decode cX2_colourOf 5 = .ok (.ifCond .eq 13, 3) := by decide +kernel
theorem dX2_colourOf_8 : decode cX2_colourOf 8 = .ok (.aload_n 0, 1) := by decide +kernel
theorem dX2_colourOf_9 : decode cX2_colourOf 9 = .ok (.getfield 15, 3) := by decide +kernel
theorem dX2_colourOf_12 : decode cX2_colourOf 12 = .ok (.lload_n 1, 1) := by decide +kernel
theorem dX2_colourOf_13 : decode cX2_colourOf 13 = .ok (.l2i, 1) := by decide +kernel
theorem dX2_colourOf_14 : decode cX2_colourOf 14 = .ok (.iaload, 1) := by decide +kernel
theorem dX2_colourOf_15 : decode cX2_colourOf 15 = .ok (.goto 4, 3) := by decide +kernel
theorem dX2_colourOf_18 : decode cX2_colourOf 18 = .ok (.iconst 0, 1) := by decide +kernel
theorem dX2_colourOf_19 : decode cX2_colourOf 19 = .ok (.ireturn, 1) := by decide +kernel
theorem dX2_mayLie_0 : decode cX2_mayLie 0 = .ok (.iload_n 1, 1) := by decide +kernel
theorem dX2_mayLie_1 : decode cX2_mayLie 1 = .ok (.invokestatic 131, 3) := by decide +kernel
theorem dX2_mayLie_4 : decode cX2_mayLie 4 = .ok (.ifCond .eq 11, 3) := by decide +kernel
theorem dX2_mayLie_7 : decode cX2_mayLie 7 = .ok (.lload_n 2, 1) := by decide +kernel
theorem dX2_mayLie_8 : decode cX2_mayLie 8 = .ok (.ldc2_w 137, 3) := by decide +kernel
theorem dX2_mayLie_11 : decode cX2_mayLie 11 = .ok (.lcmp, 1) := by decide +kernel
theorem dX2_mayLie_12 : decode cX2_mayLie 12 = .ok (.ifCond .ne 5, 3) := by decide +kernel
theorem dX2_mayLie_15 : decode cX2_mayLie 15 = .ok (.iconst 1, 1) := by decide +kernel
theorem dX2_mayLie_16 : decode cX2_mayLie 16 = .ok (.ireturn, 1) := by decide +kernel
theorem dX2_mayLie_17 : decode cX2_mayLie 17 = .ok (.aload_n 0, 1) := by decide +kernel
theorem dX2_mayLie_18 : decode cX2_mayLie 18 = .ok (.lload_n 2, 1) := by decide +kernel
theorem dX2_mayLie_19 : decode cX2_mayLie 19 = .ok (.invokevirtual 55, 3) := by decide +kernel
theorem dX2_mayLie_22 : decode cX2_mayLie 22 = .ok (.ifCond .eq 23, 3) := by decide +kernel
theorem dX2_mayLie_25 : decode cX2_mayLie 25 = .ok (.iload_n 1, 1) := by decide +kernel
theorem dX2_mayLie_26 : decode cX2_mayLie 26 = .ok (.bipush 7, 2) := by decide +kernel
theorem dX2_mayLie_28 : decode cX2_mayLie 28 = .ok (.if_icmp .eq 13, 3) := by decide +kernel
theorem dX2_mayLie_31 : decode cX2_mayLie 31 = .ok (.aload_n 0, 1) := by decide +kernel
theorem dX2_mayLie_32 : decode cX2_mayLie 32 = .ok (.getfield 19, 3) := by decide +kernel
theorem dX2_mayLie_35 : decode cX2_mayLie 35 = .ok (.lload_n 2, 1) := by decide +kernel
theorem dX2_mayLie_36 : decode cX2_mayLie 36 = .ok (.l2i, 1) := by decide +kernel
theorem dX2_mayLie_37 : decode cX2_mayLie 37 = .ok (.baload, 1) := by decide +kernel
theorem dX2_mayLie_38 : decode cX2_mayLie 38 = .ok (.ifCond .eq 7, 3) := by decide +kernel
theorem dX2_mayLie_41 : decode cX2_mayLie 41 = .ok (.iconst 1, 1) := by decide +kernel
theorem dX2_mayLie_42 : decode cX2_mayLie 42 = .ok (.goto 4, 3) := by decide +kernel
theorem dX2_mayLie_45 : decode cX2_mayLie 45 = .ok (.iconst 0, 1) := by decide +kernel
theorem dX2_mayLie_46 : decode cX2_mayLie 46 = .ok (.ireturn, 1) := by decide +kernel
theorem dX2_holdsBeads_0 : decode cX2_holdsBeads 0 = .ok (.iload_n 0, 1) := by decide +kernel
theorem dX2_holdsBeads_1 : decode cX2_holdsBeads 1 = .ok (.bipush 7, 2) := by decide +kernel
theorem dX2_holdsBeads_3 : decode cX2_holdsBeads 3 = .ok (.if_icmp .eq 9, 3) := by decide +kernel
theorem dX2_holdsBeads_6 : decode cX2_holdsBeads 6 = .ok (.iload_n 0, 1) := by decide +kernel
theorem dX2_holdsBeads_7 : decode cX2_holdsBeads 7 = .ok (.bipush 8, 2) := by decide +kernel
theorem dX2_holdsBeads_9 : decode cX2_holdsBeads 9 = .ok (.if_icmp .ne 7, 3) := by decide +kernel
theorem dX2_holdsBeads_12 : decode cX2_holdsBeads 12 = .ok (.iconst 1, 1) := by decide +kernel
theorem dX2_holdsBeads_13 : decode cX2_holdsBeads 13 = .ok (.goto 4, 3) := by decide +kernel
theorem dX2_holdsBeads_16 : decode cX2_holdsBeads 16 = .ok (.iconst 0, 1) := by decide +kernel
theorem dX2_holdsBeads_17 : decode cX2_holdsBeads 17 = .ok (.ireturn, 1) := by decide +kernel
theorem dX2_holdsNumbers_0 : decode cX2_holdsNumbers 0 = .ok (.iload_n 0, 1) := by decide +kernel
theorem dX2_holdsNumbers_1 : decode cX2_holdsNumbers 1 = .ok (.iconst 1, 1) := by decide +kernel
theorem dX2_holdsNumbers_2 : decode cX2_holdsNumbers 2 = .ok (.if_icmp .lt 12, 3) := by decide +kernel
theorem dX2_holdsNumbers_5 : decode cX2_holdsNumbers 5 = .ok (.iload_n 0, 1) := by decide +kernel
theorem dX2_holdsNumbers_6 : decode cX2_holdsNumbers 6 = .ok (.iconst 5, 1) := by decide +kernel
theorem dX2_holdsNumbers_7 : decode cX2_holdsNumbers 7 = .ok (.if_icmp .gt 7, 3) := by decide +kernel
theorem dX2_holdsNumbers_10 : decode cX2_holdsNumbers 10 = .ok (.iconst 1, 1) := by decide +kernel
theorem dX2_holdsNumbers_11 : decode cX2_holdsNumbers 11 = .ok (.goto 4, 3) := by decide +kernel
theorem dX2_holdsNumbers_14 : decode cX2_holdsNumbers 14 = .ok (.iconst 0, 1) := by decide +kernel
theorem dX2_holdsNumbers_15 : decode cX2_holdsNumbers 15 = .ok (.ireturn, 1) := by decide +kernel
theorem dX2_blank_0 : decode cX2_blank 0 = .ok (.iload_n 0, 1) := by decide +kernel
theorem dX2_blank_1 : decode cX2_blank 1 = .ok (.invokestatic 131, 3) := by decide +kernel
theorem dX2_blank_4 : decode cX2_blank 4 = .ok (.ifCond .eq 9, 3) := by decide +kernel
theorem dX2_blank_7 : decode cX2_blank 7 = .ok (.ldc2_w 137, 3) := by decide +kernel
theorem dX2_blank_10 : decode cX2_blank 10 = .ok (.goto 4, 3) := by decide +kernel
theorem dX2_blank_13 : decode cX2_blank 13 = .ok (.lconst 0, 1) := by decide +kernel
theorem dX2_blank_14 : decode cX2_blank 14 = .ok (.lreturn, 1) := by decide +kernel
theorem dX2_fitted_0 : decode cX2_fitted 0 = .ok (.iload_n 0, 1) := by decide +kernel
theorem dX2_fitted_1 : decode cX2_fitted 1 = .ok (.tableswitch 70 1 6 #[39, 44, 49, 54, 70, 58], 39) := by decide +kernel
theorem dX2_fitted_40 : decode cX2_fitted 40 = .ok (.lload_n 1, 1) := by decide +kernel
theorem dX2_fitted_41 : decode cX2_fitted 41 = .ok (.l2i, 1) := by decide +kernel
theorem dX2_fitted_42 : decode cX2_fitted 42 = .ok (.i2b, 1) := by decide +kernel
theorem dX2_fitted_43 : decode cX2_fitted 43 = .ok (.i2l, 1) := by decide +kernel
theorem dX2_fitted_44 : decode cX2_fitted 44 = .ok (.lreturn, 1) := by decide +kernel
theorem dX2_fitted_45 : decode cX2_fitted 45 = .ok (.lload_n 1, 1) := by decide +kernel
theorem dX2_fitted_46 : decode cX2_fitted 46 = .ok (.l2i, 1) := by decide +kernel
theorem dX2_fitted_47 : decode cX2_fitted 47 = .ok (.i2s, 1) := by decide +kernel
theorem dX2_fitted_48 : decode cX2_fitted 48 = .ok (.i2l, 1) := by decide +kernel
theorem dX2_fitted_49 : decode cX2_fitted 49 = .ok (.lreturn, 1) := by decide +kernel
theorem dX2_fitted_50 : decode cX2_fitted 50 = .ok (.lload_n 1, 1) := by decide +kernel
theorem dX2_fitted_51 : decode cX2_fitted 51 = .ok (.l2i, 1) := by decide +kernel
theorem dX2_fitted_52 : decode cX2_fitted 52 = .ok (.i2c, 1) := by decide +kernel
theorem dX2_fitted_53 : decode cX2_fitted 53 = .ok (.i2l, 1) := by decide +kernel
theorem dX2_fitted_54 : decode cX2_fitted 54 = .ok (.lreturn, 1) := by decide +kernel
theorem dX2_fitted_55 : decode cX2_fitted 55 = .ok (.lload_n 1, 1) := by decide +kernel
theorem dX2_fitted_56 : decode cX2_fitted 56 = .ok (.l2i, 1) := by decide +kernel
theorem dX2_fitted_57 : decode cX2_fitted 57 = .ok (.i2l, 1) := by decide +kernel
theorem dX2_fitted_58 : decode cX2_fitted 58 = .ok (.lreturn, 1) := by decide +kernel
theorem dX2_fitted_59 : decode cX2_fitted 59 = .ok (.lload_n 1, 1) := by decide +kernel
theorem dX2_fitted_60 : decode cX2_fitted 60 = .ok (.lconst 0, 1) := by decide +kernel
theorem dX2_fitted_61 : decode cX2_fitted 61 = .ok (.lcmp, 1) := by decide +kernel
theorem dX2_fitted_62 : decode cX2_fitted 62 = .ok (.ifCond .ne 7, 3) := by decide +kernel
theorem dX2_fitted_65 : decode cX2_fitted 65 = .ok (.lconst 0, 1) := by decide +kernel
theorem dX2_fitted_66 : decode cX2_fitted 66 = .ok (.goto 4, 3) := by decide +kernel
theorem dX2_fitted_69 : decode cX2_fitted 69 = .ok (.lconst 1, 1) := by decide +kernel
theorem dX2_fitted_70 : decode cX2_fitted 70 = .ok (.lreturn, 1) := by decide +kernel
theorem dX2_fitted_71 : decode cX2_fitted 71 = .ok (.lload_n 1, 1) := by decide +kernel
theorem dX2_fitted_72 : decode cX2_fitted 72 = .ok (.lreturn, 1) := by decide +kernel
theorem dX2_mayExchange_0 : decode cX2_mayExchange 0 = .ok (.iload_n 0, 1) := by decide +kernel
theorem dX2_mayExchange_1 : decode cX2_mayExchange 1 = .ok (.iload_n 1, 1) := by decide +kernel
theorem dX2_mayExchange_2 : decode cX2_mayExchange 2 = .ok (.if_icmp .eq 17, 3) := by decide +kernel
theorem dX2_mayExchange_5 : decode cX2_mayExchange 5 = .ok (.iload_n 0, 1) := by decide +kernel
theorem dX2_mayExchange_6 : decode cX2_mayExchange 6 = .ok (.invokestatic 131, 3) := by decide +kernel
theorem dX2_mayExchange_9 : decode cX2_mayExchange 9 = .ok (.ifCond .eq 14, 3) := by decide +kernel
theorem dX2_mayExchange_12 : decode cX2_mayExchange 12 = .ok (.iload_n 1, 1) := by decide +kernel
theorem dX2_mayExchange_13 : decode cX2_mayExchange 13 = .ok (.invokestatic 131, 3) := by decide +kernel
theorem dX2_mayExchange_16 : decode cX2_mayExchange 16 = .ok (.ifCond .eq 7, 3) := by decide +kernel
theorem dX2_mayExchange_19 : decode cX2_mayExchange 19 = .ok (.iconst 1, 1) := by decide +kernel
theorem dX2_mayExchange_20 : decode cX2_mayExchange 20 = .ok (.goto 4, 3) := by decide +kernel
theorem dX2_mayExchange_23 : decode cX2_mayExchange 23 = .ok (.iconst 0, 1) := by decide +kernel
theorem dX2_mayExchange_24 : decode cX2_mayExchange 24 = .ok (.ireturn, 1) := by decide +kernel
theorem dX2_mayCompare_0 : decode cX2_mayCompare 0 = .ok (.iload_n 0, 1) := by decide +kernel
theorem dX2_mayCompare_1 : decode cX2_mayCompare 1 = .ok (.iload_n 1, 1) := by decide +kernel
theorem dX2_mayCompare_2 : decode cX2_mayCompare 2 = .ok (.invokestatic 139, 3) := by decide +kernel
theorem dX2_mayCompare_5 : decode cX2_mayCompare 5 = .ok (.ifCond .ne 17, 3) := by decide +kernel
theorem dX2_mayCompare_8 : decode cX2_mayCompare 8 = .ok (.iload_n 0, 1) := by decide +kernel
theorem dX2_mayCompare_9 : decode cX2_mayCompare 9 = .ok (.invokestatic 142, 3) := by decide +kernel
theorem dX2_mayCompare_12 : decode cX2_mayCompare 12 = .ok (.ifCond .eq 14, 3) := by decide +kernel
theorem dX2_mayCompare_15 : decode cX2_mayCompare 15 = .ok (.iload_n 1, 1) := by decide +kernel
theorem dX2_mayCompare_16 : decode cX2_mayCompare 16 = .ok (.invokestatic 142, 3) := by decide +kernel
theorem dX2_mayCompare_19 : decode cX2_mayCompare 19 = .ok (.ifCond .eq 7, 3) := by decide +kernel
theorem dX2_mayCompare_22 : decode cX2_mayCompare 22 = .ok (.iconst 1, 1) := by decide +kernel
theorem dX2_mayCompare_23 : decode cX2_mayCompare 23 = .ok (.goto 4, 3) := by decide +kernel
theorem dX2_mayCompare_26 : decode cX2_mayCompare 26 = .ok (.iconst 0, 1) := by decide +kernel
theorem dX2_mayCompare_27 : decode cX2_mayCompare 27 = .ok (.ireturn, 1) := by decide +kernel
theorem dX2_thingsBehind_0 : decode cX2_thingsBehind 0 = .ok (.aload_n 0, 1) := by decide +kernel
theorem dX2_thingsBehind_1 : decode cX2_thingsBehind 1 = .ok (.getfield 94, 3) := by decide +kernel
theorem dX2_thingsBehind_4 : decode cX2_thingsBehind 4 = .ok (.i2l, 1) := by decide +kernel
theorem dX2_thingsBehind_5 : decode cX2_thingsBehind 5 = .ok (.lconst 1, 1) := by decide +kernel
theorem dX2_thingsBehind_6 : decode cX2_thingsBehind 6 = .ok (.lsub, 1) := by decide +kernel
theorem dX2_thingsBehind_7 : decode cX2_thingsBehind 7 = .ok (.iload_n 1, 1) := by decide +kernel
theorem dX2_thingsBehind_8 : decode cX2_thingsBehind 8 = .ok (.i2l, 1) := by decide +kernel
theorem dX2_thingsBehind_9 : decode cX2_thingsBehind 9 = .ok (.lsub, 1) := by decide +kernel
theorem dX2_thingsBehind_10 : decode cX2_thingsBehind 10 = .ok (.lreturn, 1) := by decide +kernel
theorem dX2_moving_0 : decode cX2_moving 0 = .ok (.aload_n 1, 1) := by decide +kernel
theorem dX2_moving_1 : decode cX2_moving 1 = .ok (.ifnull 8, 3) := by decide +kernel
theorem dX2_moving_4 : decode cX2_moving 4 = .ok (.aload 4, 2) := by decide +kernel
theorem dX2_moving_6 : decode cX2_moving 6 = .ok (.ifnonnull 5, 3) := by decide +kernel
theorem dX2_moving_9 : decode cX2_moving 9 = .ok (.iconst (-1), 1) := by decide +kernel
theorem dX2_moving_10 : decode cX2_moving 10 = .ok (.ireturn, 1) := by decide +kernel
theorem dX2_moving_11 : decode cX2_moving 11 = .ok (.aload_n 0, 1) := by decide +kernel
theorem dX2_moving_12 : decode cX2_moving 12 = .ok (.iconst 0, 1) := by decide +kernel
theorem dX2_moving_13 : decode cX2_moving 13 = .ok (.putfield 37, 3) := by decide +kernel
theorem dX2_moving_16 : decode cX2_moving 16 = .ok (.aload_n 1, 1) := by decide +kernel
theorem dX2_moving_17 : decode cX2_moving 17 = .ok (.lload_n 2, 1) := by decide +kernel
theorem dX2_moving_18 : decode cX2_moving 18 = .ok (.aload 4, 2) := by decide +kernel
theorem dX2_moving_20 : decode cX2_moving 20 = .ok (.lload 5, 2) := by decide +kernel
theorem dX2_moving_22 : decode cX2_moving 22 = .ok (.lload 7, 2) := by decide +kernel
theorem dX2_moving_24 : decode cX2_moving 24 = .ok (.invokestatic 145, 3) := by decide +kernel
theorem dX2_moving_27 : decode cX2_moving 27 = .ok (.istore 9, 2) := by decide +kernel
theorem dX2_moving_29 : decode cX2_moving 29 = .ok (.iload 9, 2) := by decide +kernel
theorem dX2_moving_31 : decode cX2_moving 31 = .ok (.ifCond .ne 58, 3) := by decide +kernel
theorem dX2_moving_34 : decode cX2_moving 34 = .ok (.aload_n 0, 1) := by decide +kernel
theorem dX2_moving_35 : decode cX2_moving 35 = .ok (.aload_n 0, 1) := by decide +kernel
theorem dX2_moving_36 : decode cX2_moving 36 = .ok (.aload_n 1, 1) := by decide +kernel
theorem dX2_moving_37 : decode cX2_moving 37 = .ok (.lload_n 2, 1) := by decide +kernel
theorem dX2_moving_38 : decode cX2_moving 38 = .ok (.l2i, 1) := by decide +kernel
theorem dX2_moving_39 : decode cX2_moving 39 = .ok (.aload 4, 2) := by decide +kernel
theorem dX2_moving_41 : decode cX2_moving 41 = .ok (.lload 7, 2) := by decide +kernel
theorem dX2_moving_43 : decode cX2_moving 43 = .ok (.l2i, 1) := by decide +kernel
theorem dX2_moving_44 : decode cX2_moving 44 = .ok (.invokevirtual 148, 3) := by decide +kernel
theorem dX2_moving_47 : decode cX2_moving 47 = .ok (.putfield 37, 3) := by decide +kernel
theorem dX2_moving_50 : decode cX2_moving 50 = .ok (.aload_n 1, 1) := by decide +kernel
theorem dX2_moving_51 : decode cX2_moving 51 = .ok (.getfield 74, 3) := by decide +kernel
theorem dX2_moving_54 : decode cX2_moving 54 = .ok (.lload_n 2, 1) := by decide +kernel
theorem dX2_moving_55 : decode cX2_moving 55 = .ok (.l2i, 1) := by decide +kernel
theorem dX2_moving_56 : decode cX2_moving 56 = .ok (.aload 4, 2) := by decide +kernel
theorem dX2_moving_58 : decode cX2_moving 58 = .ok (.getfield 74, 3) := by decide +kernel
theorem dX2_moving_61 : decode cX2_moving 61 = .ok (.lload 5, 2) := by decide +kernel
theorem dX2_moving_63 : decode cX2_moving 63 = .ok (.l2i, 1) := by decide +kernel
theorem dX2_moving_64 : decode cX2_moving 64 = .ok (.aload_n 0, 1) := by decide +kernel
theorem dX2_moving_65 : decode cX2_moving 65 = .ok (.getfield 37, 3) := by decide +kernel
theorem dX2_moving_68 : decode cX2_moving 68 = .ok (.invokestatic 152, 3) := by decide +kernel
theorem dX2_moving_71 : decode cX2_moving 71 = .ok (.aload_n 0, 1) := by decide +kernel
theorem dX2_moving_72 : decode cX2_moving 72 = .ok (.getfield 37, 3) := by decide +kernel
theorem dX2_moving_75 : decode cX2_moving 75 = .ok (.i2l, 1) := by decide +kernel
theorem dX2_moving_76 : decode cX2_moving 76 = .ok (.lload 7, 2) := by decide +kernel
theorem dX2_moving_78 : decode cX2_moving 78 = .ok (.lcmp, 1) := by decide +kernel
theorem dX2_moving_79 : decode cX2_moving 79 = .ok (.ifCond .ge 7, 3) := by decide +kernel
theorem dX2_moving_82 : decode cX2_moving 82 = .ok (.iconst 4, 1) := by decide +kernel
theorem dX2_moving_83 : decode cX2_moving 83 = .ok (.goto 4, 3) := by decide +kernel
theorem dX2_moving_86 : decode cX2_moving 86 = .ok (.iconst 0, 1) := by decide +kernel
theorem dX2_moving_87 : decode cX2_moving 87 = .ok (.istore 9, 2) := by decide +kernel
theorem dX2_moving_89 : decode cX2_moving 89 = .ok (.aload_n 0, 1) := by decide +kernel
theorem dX2_moving_90 : decode cX2_moving 90 = .ok (.getfield 30, 3) := by decide +kernel
theorem dX2_moving_93 : decode cX2_moving 93 = .ok (.iload 9, 2) := by decide +kernel
theorem dX2_moving_95 : decode cX2_moving 95 = .ok (.dup2, 1) := by decide +kernel
theorem dX2_moving_96 : decode cX2_moving 96 = .ok (.iaload, 1) := by decide +kernel
theorem dX2_moving_97 : decode cX2_moving 97 = .ok (.iconst 1, 1) := by decide +kernel
theorem dX2_moving_98 : decode cX2_moving 98 = .ok (.iadd, 1) := by decide +kernel
theorem dX2_moving_99 : decode cX2_moving 99 = .ok (.iastore, 1) := by decide +kernel
theorem dX2_moving_100 : decode cX2_moving 100 = .ok (.iload 9, 2) := by decide +kernel
theorem dX2_moving_102 : decode cX2_moving 102 = .ok (.ireturn, 1) := by decide +kernel
theorem dX2_hindrance_0 : decode cX2_hindrance 0 = .ok (.aload_n 0, 1) := by decide +kernel
theorem dX2_hindrance_1 : decode cX2_hindrance 1 = .ok (.getfield 52, 3) := by decide +kernel
theorem dX2_hindrance_4 : decode cX2_hindrance 4 = .ok (.ifCond .eq 10, 3) := by decide +kernel
theorem dX2_hindrance_7 : decode cX2_hindrance 7 = .ok (.aload_n 3, 1) := by decide +kernel
theorem dX2_hindrance_8 : decode cX2_hindrance 8 = .ok (.getfield 52, 3) := by decide +kernel
theorem dX2_hindrance_11 : decode cX2_hindrance 11 = .ok (.ifCond .ne 5, 3) := by decide +kernel
theorem dX2_hindrance_14 : decode cX2_hindrance 14 = .ok (.iconst 1, 1) := by decide +kernel
theorem dX2_hindrance_15 : decode cX2_hindrance 15 = .ok (.ireturn, 1) := by decide +kernel
theorem dX2_hindrance_16 : decode cX2_hindrance 16 = .ok (.aload_n 0, 1) := by decide +kernel
theorem dX2_hindrance_17 : decode cX2_hindrance 17 = .ok (.invokevirtual 134, 3) := by decide +kernel
theorem dX2_hindrance_20 : decode cX2_hindrance 20 = .ok (.ifCond .eq 24, 3) := by decide +kernel
theorem dX2_hindrance_23 : decode cX2_hindrance 23 = .ok (.aload_n 3, 1) := by decide +kernel
theorem dX2_hindrance_24 : decode cX2_hindrance 24 = .ok (.invokevirtual 134, 3) := by decide +kernel
theorem dX2_hindrance_27 : decode cX2_hindrance 27 = .ok (.ifCond .eq 17, 3) := by decide +kernel
theorem dX2_hindrance_30 : decode cX2_hindrance 30 = .ok (.aload_n 0, 1) := by decide +kernel
theorem dX2_hindrance_31 : decode cX2_hindrance 31 = .ok (.getfield 52, 3) := by decide +kernel
theorem dX2_hindrance_34 : decode cX2_hindrance 34 = .ok (.aload_n 3, 1) := by decide +kernel
theorem dX2_hindrance_35 : decode cX2_hindrance 35 = .ok (.getfield 52, 3) := by decide +kernel
theorem dX2_hindrance_38 : decode cX2_hindrance 38 = .ok (.invokestatic 139, 3) := by decide +kernel
theorem dX2_hindrance_41 : decode cX2_hindrance 41 = .ok (.ifCond .ne 5, 3) := by decide +kernel
theorem dX2_hindrance_44 : decode cX2_hindrance 44 = .ok (.iconst 2, 1) := by decide +kernel
theorem dX2_hindrance_45 : decode cX2_hindrance 45 = .ok (.ireturn, 1) := by decide +kernel
theorem dX2_hindrance_46 : decode cX2_hindrance 46 = .ok (.aload_n 0, 1) := by decide +kernel
theorem dX2_hindrance_47 : decode cX2_hindrance 47 = .ok (.lload_n 1, 1) := by decide +kernel
theorem dX2_hindrance_48 : decode cX2_hindrance 48 = .ok (.lload 6, 2) := by decide +kernel
theorem dX2_hindrance_50 : decode cX2_hindrance 50 = .ok (.invokevirtual 158, 3) := by decide +kernel
theorem dX2_hindrance_53 : decode cX2_hindrance 53 = .ok (.ifCond .eq 14, 3) := by decide +kernel
theorem dX2_hindrance_56 : decode cX2_hindrance 56 = .ok (.aload_n 3, 1) := by decide +kernel
theorem dX2_hindrance_57 : decode cX2_hindrance 57 = .ok (.lload 4, 2) := by decide +kernel
theorem dX2_hindrance_59 : decode cX2_hindrance 59 = .ok (.lload 6, 2) := by decide +kernel
theorem dX2_hindrance_61 : decode cX2_hindrance 61 = .ok (.invokevirtual 158, 3) := by decide +kernel
theorem dX2_hindrance_64 : decode cX2_hindrance 64 = .ok (.ifCond .ne 5, 3) := by decide +kernel
theorem dX2_hindrance_67 : decode cX2_hindrance 67 = .ok (.iconst 3, 1) := by decide +kernel
theorem dX2_hindrance_68 : decode cX2_hindrance 68 = .ok (.ireturn, 1) := by decide +kernel
theorem dX2_hindrance_69 : decode cX2_hindrance 69 = .ok (.iconst 0, 1) := by decide +kernel
theorem dX2_hindrance_70 : decode cX2_hindrance 70 = .ok (.ireturn, 1) := by decide +kernel
theorem dX2_mayCome_0 : decode cX2_mayCome 0 = .ok (.aload_n 3, 1) := by decide +kernel
theorem dX2_mayCome_1 : decode cX2_mayCome 1 = .ok (.getfield 52, 3) := by decide +kernel
theorem dX2_mayCome_4 : decode cX2_mayCome 4 = .ok (.bipush 8, 2) := by decide +kernel
theorem dX2_mayCome_6 : decode cX2_mayCome 6 = .ok (.if_icmp .eq 6, 3) := by decide +kernel
theorem dX2_mayCome_9 : decode cX2_mayCome 9 = .ok (.iload 4, 2) := by decide +kernel
theorem dX2_mayCome_11 : decode cX2_mayCome 11 = .ok (.ireturn, 1) := by decide +kernel
theorem dX2_mayCome_12 : decode cX2_mayCome 12 = .ok (.iconst 0, 1) := by decide +kernel
theorem dX2_mayCome_13 : decode cX2_mayCome 13 = .ok (.istore 5, 2) := by decide +kernel
theorem dX2_mayCome_15 : decode cX2_mayCome 15 = .ok (.iload 5, 2) := by decide +kernel
theorem dX2_mayCome_17 : decode cX2_mayCome 17 = .ok (.iload 4, 2) := by decide +kernel
theorem dX2_mayCome_19 : decode cX2_mayCome 19 = .ok (.if_icmp .ge 27, 3) := by decide +kernel
theorem dX2_mayCome_22 : decode cX2_mayCome 22 = .ok (.aload_n 0, 1) := by decide +kernel
theorem dX2_mayCome_23 : decode cX2_mayCome 23 = .ok (.bipush 8, 2) := by decide +kernel
theorem dX2_mayCome_25 : decode cX2_mayCome 25 = .ok (.aload_n 1, 1) := by decide +kernel
theorem dX2_mayCome_26 : decode cX2_mayCome 26 = .ok (.getfield 74, 3) := by decide +kernel
theorem dX2_mayCome_29 : decode cX2_mayCome 29 = .ok (.iload_n 2, 1) := by decide +kernel
theorem dX2_mayCome_30 : decode cX2_mayCome 30 = .ok (.iload 5, 2) := by decide +kernel
theorem dX2_mayCome_32 : decode cX2_mayCome 32 = .ok (.iadd, 1) := by decide +kernel
theorem dX2_mayCome_33 : decode cX2_mayCome 33 = .ok (.laload, 1) := by decide +kernel
theorem dX2_mayCome_34 : decode cX2_mayCome 34 = .ok (.invokevirtual 70, 3) := by decide +kernel
theorem dX2_mayCome_37 : decode cX2_mayCome 37 = .ok (.ifCond .eq 9, 3) := by decide +kernel
theorem dX2_mayCome_40 : decode cX2_mayCome 40 = .ok (.iinc 5 1, 3) := by decide +kernel
theorem dX2_mayCome_43 : decode cX2_mayCome 43 = .ok (.goto (-28), 3) := by decide +kernel
theorem dX2_mayCome_46 : decode cX2_mayCome 46 = .ok (.iload 5, 2) := by decide +kernel
theorem dX2_mayCome_48 : decode cX2_mayCome 48 = .ok (.ireturn, 1) := by decide +kernel
theorem dX2_weaveRound_0 : decode cX2_weaveRound 0 = .ok (.iconst 0, 1) := by decide +kernel
theorem dX2_weaveRound_1 : decode cX2_weaveRound 1 = .ok (.istore_n 1, 1) := by decide +kernel
theorem dX2_weaveRound_2 : decode cX2_weaveRound 2 = .ok (.iload_n 1, 1) := by decide +kernel
theorem dX2_weaveRound_3 : decode cX2_weaveRound 3 = .ok (.aload_n 0, 1) := by decide +kernel
theorem dX2_weaveRound_4 : decode cX2_weaveRound 4 = .ok (.getfield 26, 3) := by decide +kernel
theorem dX2_weaveRound_7 : decode cX2_weaveRound 7 = .ok (.getfield 108, 3) := by decide +kernel
theorem dX2_weaveRound_10 : decode cX2_weaveRound 10 = .ok (.if_icmp .ge 82, 3) := by decide +kernel
theorem dX2_weaveRound_13 : decode cX2_weaveRound 13 = .ok (.aload_n 0, 1) := by decide +kernel
theorem dX2_weaveRound_14 : decode cX2_weaveRound 14 = .ok (.aload_n 0, 1) := by decide +kernel
theorem dX2_weaveRound_15 : decode cX2_weaveRound 15 = .ok (.getfield 26, 3) := by decide +kernel
theorem dX2_weaveRound_18 : decode cX2_weaveRound 18 = .ok (.getfield 162, 3) := by decide +kernel
theorem dX2_weaveRound_21 : decode cX2_weaveRound 21 = .ok (.iload_n 1, 1) := by decide +kernel
theorem dX2_weaveRound_22 : decode cX2_weaveRound 22 = .ok (.iaload, 1) := by decide +kernel
theorem dX2_weaveRound_23 : decode cX2_weaveRound 23 = .ok (.invokevirtual 44, 3) := by decide +kernel
theorem dX2_weaveRound_26 : decode cX2_weaveRound 26 = .ok (.astore_n 2, 1) := by decide +kernel
theorem dX2_weaveRound_27 : decode cX2_weaveRound 27 = .ok (.aload_n 0, 1) := by decide +kernel
theorem dX2_weaveRound_28 : decode cX2_weaveRound 28 = .ok (.aload_n 0, 1) := by decide +kernel
theorem dX2_weaveRound_29 : decode cX2_weaveRound 29 = .ok (.getfield 26, 3) := by decide +kernel
theorem dX2_weaveRound_32 : decode cX2_weaveRound 32 = .ok (.getfield 165, 3) := by decide +kernel
theorem dX2_weaveRound_35 : decode cX2_weaveRound 35 = .ok (.iload_n 1, 1) := by decide +kernel
theorem dX2_weaveRound_36 : decode cX2_weaveRound 36 = .ok (.iaload, 1) := by decide +kernel
theorem dX2_weaveRound_37 : decode cX2_weaveRound 37 = .ok (.invokevirtual 44, 3) := by decide +kernel
theorem dX2_weaveRound_40 : decode cX2_weaveRound 40 = .ok (.astore_n 3, 1) := by decide +kernel
theorem dX2_weaveRound_41 : decode cX2_weaveRound 41 = .ok (.aload_n 0, 1) := by decide +kernel
theorem dX2_weaveRound_42 : decode cX2_weaveRound 42 = .ok (.aload_n 2, 1) := by decide +kernel
theorem dX2_weaveRound_43 : decode cX2_weaveRound 43 = .ok (.aload_n 0, 1) := by decide +kernel
theorem dX2_weaveRound_44 : decode cX2_weaveRound 44 = .ok (.getfield 26, 3) := by decide +kernel
theorem dX2_weaveRound_47 : decode cX2_weaveRound 47 = .ok (.getfield 168, 3) := by decide +kernel
theorem dX2_weaveRound_50 : decode cX2_weaveRound 50 = .ok (.iload_n 1, 1) := by decide +kernel
theorem dX2_weaveRound_51 : decode cX2_weaveRound 51 = .ok (.iaload, 1) := by decide +kernel
theorem dX2_weaveRound_52 : decode cX2_weaveRound 52 = .ok (.i2l, 1) := by decide +kernel
theorem dX2_weaveRound_53 : decode cX2_weaveRound 53 = .ok (.aload_n 3, 1) := by decide +kernel
theorem dX2_weaveRound_54 : decode cX2_weaveRound 54 = .ok (.aload_n 0, 1) := by decide +kernel
theorem dX2_weaveRound_55 : decode cX2_weaveRound 55 = .ok (.getfield 26, 3) := by decide +kernel
theorem dX2_weaveRound_58 : decode cX2_weaveRound 58 = .ok (.getfield 171, 3) := by decide +kernel
theorem dX2_weaveRound_61 : decode cX2_weaveRound 61 = .ok (.iload_n 1, 1) := by decide +kernel
theorem dX2_weaveRound_62 : decode cX2_weaveRound 62 = .ok (.iaload, 1) := by decide +kernel
theorem dX2_weaveRound_63 : decode cX2_weaveRound 63 = .ok (.i2l, 1) := by decide +kernel
theorem dX2_weaveRound_64 : decode cX2_weaveRound 64 = .ok (.aload_n 0, 1) := by decide +kernel
theorem dX2_weaveRound_65 : decode cX2_weaveRound 65 = .ok (.getfield 26, 3) := by decide +kernel
theorem dX2_weaveRound_68 : decode cX2_weaveRound 68 = .ok (.getfield 174, 3) := by decide +kernel
theorem dX2_weaveRound_71 : decode cX2_weaveRound 71 = .ok (.iload_n 1, 1) := by decide +kernel
theorem dX2_weaveRound_72 : decode cX2_weaveRound 72 = .ok (.iaload, 1) := by decide +kernel
theorem dX2_weaveRound_73 : decode cX2_weaveRound 73 = .ok (.i2l, 1) := by decide +kernel
theorem dX2_weaveRound_74 : decode cX2_weaveRound 74 = .ok (.invokevirtual 82, 3) := by decide +kernel
theorem dX2_weaveRound_77 : decode cX2_weaveRound 77 = .ok (.istore 4, 2) := by decide +kernel
theorem dX2_weaveRound_79 : decode cX2_weaveRound 79 = .ok (.iload 4, 2) := by decide +kernel
theorem dX2_weaveRound_81 : decode cX2_weaveRound 81 = .ok (.ifCond .eq 5, 3) := by decide +kernel
theorem dX2_weaveRound_84 : decode cX2_weaveRound 84 = .ok (.iload_n 1, 1) := by decide +kernel
theorem dX2_weaveRound_85 : decode cX2_weaveRound 85 = .ok (.ireturn, 1) := by decide +kernel
theorem dX2_weaveRound_86 : decode cX2_weaveRound 86 = .ok (.iinc 1 1, 3) := by decide +kernel
theorem dX2_weaveRound_89 : decode cX2_weaveRound 89 = .ok (.goto (-87), 3) := by decide +kernel
theorem dX2_weaveRound_92 : decode cX2_weaveRound 92 = .ok (.aload_n 0, 1) := by decide +kernel
theorem dX2_weaveRound_93 : decode cX2_weaveRound 93 = .ok (.getfield 26, 3) := by decide +kernel
theorem dX2_weaveRound_96 : decode cX2_weaveRound 96 = .ok (.getfield 108, 3) := by decide +kernel
theorem dX2_weaveRound_99 : decode cX2_weaveRound 99 = .ok (.ireturn, 1) := by decide +kernel
theorem dX2_keepAllRows_0 : decode cX2_keepAllRows 0 = .ok (.iconst 0, 1) := by decide +kernel
theorem dX2_keepAllRows_1 : decode cX2_keepAllRows 1 = .ok (.istore_n 1, 1) := by decide +kernel
theorem dX2_keepAllRows_2 : decode cX2_keepAllRows 2 = .ok (.iload_n 1, 1) := by decide +kernel
theorem dX2_keepAllRows_3 : decode cX2_keepAllRows 3 = .ok (.bipush 8, 2) := by decide +kernel
theorem dX2_keepAllRows_5 : decode cX2_keepAllRows 5 = .ok (.if_icmp .ge 18, 3) := by decide +kernel
theorem dX2_keepAllRows_8 : decode cX2_keepAllRows 8 = .ok (.aload_n 0, 1) := by decide +kernel
theorem dX2_keepAllRows_9 : decode cX2_keepAllRows 9 = .ok (.getfield 11, 3) := by decide +kernel
theorem dX2_keepAllRows_12 : decode cX2_keepAllRows 12 = .ok (.iload_n 1, 1) := by decide +kernel
theorem dX2_keepAllRows_13 : decode cX2_keepAllRows 13 = .ok (.aaload, 1) := by decide +kernel
theorem dX2_keepAllRows_14 : decode cX2_keepAllRows 14 = .ok (.invokevirtual 177, 3) := by decide +kernel
theorem dX2_keepAllRows_17 : decode cX2_keepAllRows 17 = .ok (.iinc 1 1, 3) := by decide +kernel
theorem dX2_keepAllRows_20 : decode cX2_keepAllRows 20 = .ok (.goto (-18), 3) := by decide +kernel
theorem dX2_keepAllRows_23 : decode cX2_keepAllRows 23 = .ok (.return_, 1) := by decide +kernel
theorem dX2_restoreAllRows_0 : decode cX2_restoreAllRows 0 = .ok (.iconst 0, 1) := by decide +kernel
theorem dX2_restoreAllRows_1 : decode cX2_restoreAllRows 1 = .ok (.istore_n 1, 1) := by decide +kernel
theorem dX2_restoreAllRows_2 : decode cX2_restoreAllRows 2 = .ok (.iload_n 1, 1) := by decide +kernel
theorem dX2_restoreAllRows_3 : decode cX2_restoreAllRows 3 = .ok (.bipush 8, 2) := by decide +kernel
theorem dX2_restoreAllRows_5 : decode cX2_restoreAllRows 5 = .ok (.if_icmp .ge 18, 3) := by decide +kernel
theorem dX2_restoreAllRows_8 : decode cX2_restoreAllRows 8 = .ok (.aload_n 0, 1) := by decide +kernel
theorem dX2_restoreAllRows_9 : decode cX2_restoreAllRows 9 = .ok (.getfield 11, 3) := by decide +kernel
theorem dX2_restoreAllRows_12 : decode cX2_restoreAllRows 12 = .ok (.iload_n 1, 1) := by decide +kernel
theorem dX2_restoreAllRows_13 : decode cX2_restoreAllRows 13 = .ok (.aaload, 1) := by decide +kernel
theorem dX2_restoreAllRows_14 : decode cX2_restoreAllRows 14 = .ok (.invokevirtual 180, 3) := by decide +kernel
theorem dX2_restoreAllRows_17 : decode cX2_restoreAllRows 17 = .ok (.iinc 1 1, 3) := by decide +kernel
theorem dX2_restoreAllRows_20 : decode cX2_restoreAllRows 20 = .ok (.goto (-18), 3) := by decide +kernel
theorem dX2_restoreAllRows_23 : decode cX2_restoreAllRows 23 = .ok (.return_, 1) := by decide +kernel
theorem dX3_init_0 : decode cX3_init 0 = .ok (.aload_n 0, 1) := by decide +kernel
theorem dX3_init_1 : decode cX3_init 1 = .ok (.invokespecial 1, 3) := by decide +kernel
theorem dX3_init_4 : decode cX3_init 4 = .ok (.aload_n 0, 1) := by decide +kernel
theorem dX3_init_5 : decode cX3_init 5 = .ok (.bipush 8, 2) := by decide +kernel
theorem dX3_init_7 : decode cX3_init 7 = .ok (.newarray .int, 2) := by decide +kernel
theorem dX3_init_9 : decode cX3_init 9 = .ok (.putfield 7, 3) := by decide +kernel
theorem dX3_init_12 : decode cX3_init 12 = .ok (.aload_n 0, 1) := by decide +kernel
theorem dX3_init_13 : decode cX3_init 13 = .ok (.bipush 8, 2) := by decide +kernel
theorem dX3_init_15 : decode cX3_init 15 = .ok (.newarray .int, 2) := by decide +kernel
theorem dX3_init_17 : decode cX3_init 17 = .ok (.putfield 13, 3) := by decide +kernel
theorem dX3_init_20 : decode cX3_init 20 = .ok (.aload_n 0, 1) := by decide +kernel
theorem dX3_init_21 : decode cX3_init 21 = .ok (.sipush 320, 3) := by decide +kernel
theorem dX3_init_24 : decode cX3_init 24 = .ok (.newarray .long, 2) := by decide +kernel
theorem dX3_init_26 : decode cX3_init 26 = .ok (.putfield 16, 3) := by decide +kernel
theorem dX3_init_29 : decode cX3_init 29 = .ok (.aload_n 0, 1) := by decide +kernel
theorem dX3_init_30 : decode cX3_init 30 = .ok (.sipush 320, 3) := by decide +kernel
theorem dX3_init_33 : decode cX3_init 33 = .ok (.newarray .long, 2) := by decide +kernel
theorem dX3_init_35 : decode cX3_init 35 = .ok (.putfield 20, 3) := by decide +kernel
theorem dX3_init_38 : decode cX3_init 38 = .ok (.aload_n 0, 1) := by decide +kernel
theorem dX3_init_39 : decode cX3_init 39 = .ok (.bipush 40, 2) := by decide +kernel
theorem dX3_init_41 : decode cX3_init 41 = .ok (.newarray .long, 2) := by decide +kernel
theorem dX3_init_43 : decode cX3_init 43 = .ok (.putfield 23, 3) := by decide +kernel
theorem dX3_init_46 : decode cX3_init 46 = .ok (.aload_n 0, 1) := by decide +kernel
theorem dX3_init_47 : decode cX3_init 47 = .ok (.sipush 200, 3) := by decide +kernel
theorem dX3_init_50 : decode cX3_init 50 = .ok (.newarray .int, 2) := by decide +kernel
theorem dX3_init_52 : decode cX3_init 52 = .ok (.putfield 26, 3) := by decide +kernel
theorem dX3_init_55 : decode cX3_init 55 = .ok (.aload_n 0, 1) := by decide +kernel
theorem dX3_init_56 : decode cX3_init 56 = .ok (.sipush 200, 3) := by decide +kernel
theorem dX3_init_59 : decode cX3_init 59 = .ok (.newarray .boolean, 2) := by decide +kernel
theorem dX3_init_61 : decode cX3_init 61 = .ok (.putfield 29, 3) := by decide +kernel
theorem dX3_init_64 : decode cX3_init 64 = .ok (.aload_n 0, 1) := by decide +kernel
theorem dX3_init_65 : decode cX3_init 65 = .ok (.bipush 120, 2) := by decide +kernel
theorem dX3_init_67 : decode cX3_init 67 = .ok (.newarray .int, 2) := by decide +kernel
theorem dX3_init_69 : decode cX3_init 69 = .ok (.putfield 33, 3) := by decide +kernel
theorem dX3_init_72 : decode cX3_init 72 = .ok (.aload_n 0, 1) := by decide +kernel
theorem dX3_init_73 : decode cX3_init 73 = .ok (.bipush 6, 2) := by decide +kernel
theorem dX3_init_75 : decode cX3_init 75 = .ok (.newarray .int, 2) := by decide +kernel
theorem dX3_init_77 : decode cX3_init 77 = .ok (.putfield 36, 3) := by decide +kernel
theorem dX3_init_80 : decode cX3_init 80 = .ok (.return_, 1) := by decide +kernel
theorem dX3_isRack_0 : decode cX3_isRack 0 = .ok (.iload_n 0, 1) := by decide +kernel
theorem dX3_isRack_1 : decode cX3_isRack 1 = .ok (.ifCond .lt 13, 3) := by decide +kernel
theorem dX3_isRack_4 : decode cX3_isRack 4 = .ok (.iload_n 0, 1) := by decide +kernel
theorem dX3_isRack_5 : decode cX3_isRack 5 = .ok (.bipush 8, 2) := by decide +kernel
theorem dX3_isRack_7 : decode cX3_isRack 7 = .ok (.if_icmp .ge 7, 3) := by decide +kernel
theorem dX3_isRack_10 : decode cX3_isRack 10 = .ok (.iconst 1, 1) := by decide +kernel
theorem dX3_isRack_11 : decode cX3_isRack 11 = .ok (.goto 4, 3) := by decide +kernel
theorem dX3_isRack_14 : decode cX3_isRack 14 = .ok (.iconst 0, 1) := by decide +kernel
theorem dX3_isRack_15 : decode cX3_isRack 15 = .ok (.ireturn, 1) := by decide +kernel
theorem dX3_hasRow_0 : decode cX3_hasRow 0 = .ok (.iload_n 1, 1) := by decide +kernel
theorem dX3_hasRow_1 : decode cX3_hasRow 1 = .ok (.invokestatic 39, 3) := by decide +kernel
theorem dX3_hasRow_4 : decode cX3_hasRow 4 = .ok (.ifCond .eq 27, 3) := by decide +kernel
theorem dX3_hasRow_7 : decode cX3_hasRow 7 = .ok (.aload_n 0, 1) := by decide +kernel
theorem dX3_hasRow_8 : decode cX3_hasRow 8 = .ok (.getfield 7, 3) := by decide +kernel
theorem dX3_hasRow_11 : decode cX3_hasRow 11 = .ok (.iload_n 1, 1) := by decide +kernel
theorem dX3_hasRow_12 : decode cX3_hasRow 12 = .ok (.iaload, 1) := by decide +kernel
theorem dX3_hasRow_13 : decode cX3_hasRow 13 = .ok (.ifCond .le 18, 3) := by decide +kernel
theorem dX3_hasRow_16 : decode cX3_hasRow 16 = .ok (.aload_n 0, 1) := by decide +kernel
theorem dX3_hasRow_17 : decode cX3_hasRow 17 = .ok (.getfield 7, 3) := by decide +kernel
theorem dX3_hasRow_20 : decode cX3_hasRow 20 = .ok (.iload_n 1, 1) := by decide +kernel
theorem dX3_hasRow_21 : decode cX3_hasRow 21 = .ok (.iaload, 1) := by decide +kernel
theorem dX3_hasRow_22 : decode cX3_hasRow 22 = .ok (.bipush 9, 2) := by decide +kernel
theorem dX3_hasRow_24 : decode cX3_hasRow 24 = .ok (.if_icmp .ge 7, 3) := by decide +kernel
theorem dX3_hasRow_27 : decode cX3_hasRow 27 = .ok (.iconst 1, 1) := by decide +kernel
theorem dX3_hasRow_28 : decode cX3_hasRow 28 = .ok (.goto 4, 3) := by decide +kernel
theorem dX3_hasRow_31 : decode cX3_hasRow 31 = .ok (.iconst 0, 1) := by decide +kernel
theorem dX3_hasRow_32 : decode cX3_hasRow 32 = .ok (.ireturn, 1) := by decide +kernel
theorem dX3_isNumbers_0 : decode cX3_isNumbers 0 = .ok (.aload_n 0, 1) := by decide +kernel
theorem dX3_isNumbers_1 : decode cX3_isNumbers 1 = .ok (.getfield 7, 3) := by decide +kernel
theorem dX3_isNumbers_4 : decode cX3_isNumbers 4 = .ok (.iload_n 1, 1) := by decide +kernel
theorem dX3_isNumbers_5 : decode cX3_isNumbers 5 = .ok (.iaload, 1) := by decide +kernel
theorem dX3_isNumbers_6 : decode cX3_isNumbers 6 = .ok (.bipush 6, 2) := by decide +kernel
theorem dX3_isNumbers_8 : decode cX3_isNumbers 8 = .ok (.if_icmp .ge 7, 3) := by decide +kernel
theorem dX3_isNumbers_11 : decode cX3_isNumbers 11 = .ok (.iconst 1, 1) := by decide +kernel
theorem dX3_isNumbers_12 : decode cX3_isNumbers 12 = .ok (.goto 4, 3) := by decide +kernel
theorem dX3_isNumbers_15 : decode cX3_isNumbers 15 = .ok (.iconst 0, 1) := by decide +kernel
theorem dX3_isNumbers_16 : decode cX3_isNumbers 16 = .ok (.ireturn, 1) := by decide +kernel
theorem dX3_isBeads_0 : decode cX3_isBeads 0 = .ok (.aload_n 0, 1) := by decide +kernel
theorem dX3_isBeads_1 : decode cX3_isBeads 1 = .ok (.getfield 7, 3) := by decide +kernel
theorem dX3_isBeads_4 : decode cX3_isBeads 4 = .ok (.iload_n 1, 1) := by decide +kernel
theorem dX3_isBeads_5 : decode cX3_isBeads 5 = .ok (.iaload, 1) := by decide +kernel
theorem dX3_isBeads_6 : decode cX3_isBeads 6 = .ok (.bipush 7, 2) := by decide +kernel
theorem dX3_isBeads_8 : decode cX3_isBeads 8 = .ok (.if_icmp .eq 14, 3) := by decide +kernel
theorem dX3_isBeads_11 : decode cX3_isBeads 11 = .ok (.aload_n 0, 1) := by decide +kernel
theorem dX3_isBeads_12 : decode cX3_isBeads 12 = .ok (.getfield 7, 3) := by decide +kernel
theorem dX3_isBeads_15 : decode cX3_isBeads 15 = .ok (.iload_n 1, 1) := by decide +kernel
theorem dX3_isBeads_16 : decode cX3_isBeads 16 = .ok (.iaload, 1) := by decide +kernel
theorem dX3_isBeads_17 : decode cX3_isBeads 17 = .ok (.bipush 8, 2) := by decide +kernel
theorem dX3_isBeads_19 : decode cX3_isBeads 19 = .ok (.if_icmp .ne 7, 3) := by decide +kernel
theorem dX3_isBeads_22 : decode cX3_isBeads 22 = .ok (.iconst 1, 1) := by decide +kernel
theorem dX3_isBeads_23 : decode cX3_isBeads 23 = .ok (.goto 4, 3) := by decide +kernel
theorem dX3_isBeads_26 : decode cX3_isBeads 26 = .ok (.iconst 0, 1) := by decide +kernel
theorem dX3_isBeads_27 : decode cX3_isBeads 27 = .ok (.ireturn, 1) := by decide +kernel
theorem dX3_isPlace_0 : decode cX3_isPlace 0 = .ok (.aload_n 0, 1) := by decide +kernel
theorem dX3_isPlace_1 : decode cX3_isPlace 1 = .ok (.iload_n 1, 1) := by decide +kernel
theorem dX3_isPlace_2 : decode cX3_isPlace 2 = .ok (.invokevirtual 43, 3) := by decide +kernel
theorem dX3_isPlace_5 : decode cX3_isPlace 5 = .ok (.ifCond .eq 21, 3) := by decide +kernel
theorem dX3_isPlace_8 : decode cX3_isPlace 8 = .ok (.iload_n 2, 1) := by decide +kernel
theorem dX3_isPlace_9 : decode cX3_isPlace 9 = .ok (.ifCond .lt 17, 3) := by decide +kernel
theorem dX3_isPlace_12 : decode cX3_isPlace 12 = .ok (.iload_n 2, 1) := by decide +kernel
theorem dX3_isPlace_13 : decode cX3_isPlace 13 = .ok (.aload_n 0, 1) := by decide +kernel
theorem dX3_isPlace_14 : decode cX3_isPlace 14 = .ok (.getfield 13, 3) := by decide +kernel
theorem dX3_isPlace_17 : decode cX3_isPlace 17 = .ok (.iload_n 1, 1) := by decide +kernel
theorem dX3_isPlace_18 : decode cX3_isPlace 18 = .ok (.iaload, 1) := by decide +kernel
theorem dX3_isPlace_19 : decode cX3_isPlace 19 = .ok (.if_icmp .ge 7, 3) := by decide +kernel
theorem dX3_isPlace_22 : decode cX3_isPlace 22 = .ok (.iconst 1, 1) := by decide +kernel
theorem dX3_isPlace_23 : decode cX3_isPlace 23 = .ok (.goto 4, 3) := by decide +kernel
theorem dX3_isPlace_26 : decode cX3_isPlace 26 = .ok (.iconst 0, 1) := by decide +kernel
theorem dX3_isPlace_27 : decode cX3_isPlace 27 = .ok (.ireturn, 1) := by decide +kernel
theorem dX3_isBead_0 : decode cX3_isBead 0 = .ok (.lload_n 1, 1) := by decide +kernel
theorem dX3_isBead_1 : decode cX3_isBead 1 = .ok (.lconst 0, 1) := by decide +kernel
theorem dX3_isBead_2 : decode cX3_isBead 2 = .ok (.lcmp, 1) := by decide +kernel
theorem dX3_isBead_3 : decode cX3_isBead 3 = .ok (.ifCond .lt 17, 3) := by decide +kernel
theorem dX3_isBead_6 : decode cX3_isBead 6 = .ok (.lload_n 1, 1) := by decide +kernel
theorem dX3_isBead_7 : decode cX3_isBead 7 = .ok (.aload_n 0, 1) := by decide +kernel
theorem dX3_isBead_8 : decode cX3_isBead 8 = .ok (.getfield 46, 3) := by decide +kernel
theorem dX3_isBead_11 : decode cX3_isBead 11 = .ok (.i2l, 1) := by decide +kernel
theorem dX3_isBead_12 : decode cX3_isBead 12 = .ok (.lcmp, 1) := by decide +kernel
theorem dX3_isBead_13 : decode cX3_isBead 13 = .ok (.ifCond .ge 7, 3) := by decide +kernel
theorem dX3_isBead_16 : decode cX3_isBead 16 = .ok (.iconst 1, 1) := by decide +kernel
theorem dX3_isBead_17 : decode cX3_isBead 17 = .ok (.goto 4, 3) := by decide +kernel
theorem dX3_isBead_20 : decode cX3_isBead 20 = .ok (.iconst 0, 1) := by decide +kernel
theorem dX3_isBead_21 : decode cX3_isBead 21 = .ok (.ireturn, 1) := by decide +kernel
theorem dX3_nothing_0 : decode cX3_nothing 0 = .ok (.aload_n 0, 1) := by decide +kernel
theorem dX3_nothing_1 : decode cX3_nothing 1 = .ok (.iload_n 1, 1) := by decide +kernel
theorem dX3_nothing_2 : decode cX3_nothing 2 = .ok (.invokevirtual 50, 3) := by decide +kernel
theorem dX3_nothing_5 : decode cX3_nothing 5 = .ok (.ifCond .eq 9, 3) := by decide +kernel
theorem dX3_nothing_8 : decode cX3_nothing 8 = .ok (.ldc2_w 53, 3) := by decide +kernel
theorem dX3_nothing_11 : decode cX3_nothing 11 = .ok (.goto 4, 3) := by decide +kernel
theorem dX3_nothing_14 : decode cX3_nothing 14 = .ok (.lconst 0, 1) := by decide +kernel
theorem dX3_nothing_15 : decode cX3_nothing 15 = .ok (.lreturn, 1) := by decide +kernel
theorem dX3_kept_0 : decode cX3_kept 0 = .ok (.iload_n 0, 1) := by decide +kernel
theorem dX3_kept_1 : decode cX3_kept 1 = .ok (.tableswitch 57 1 5 #[35, 40, 45, 51, 55], 35) := by decide +kernel
theorem dX3_kept_36 : decode cX3_kept 36 = .ok (.lload_n 1, 1) := by decide +kernel
theorem dX3_kept_37 : decode cX3_kept 37 = .ok (.l2i, 1) := by decide +kernel
theorem dX3_kept_38 : decode cX3_kept 38 = .ok (.i2b, 1) := by decide +kernel
theorem dX3_kept_39 : decode cX3_kept 39 = .ok (.i2l, 1) := by decide +kernel
theorem dX3_kept_40 : decode cX3_kept 40 = .ok (.lreturn, 1) := by decide +kernel
theorem dX3_kept_41 : decode cX3_kept 41 = .ok (.lload_n 1, 1) := by decide +kernel
theorem dX3_kept_42 : decode cX3_kept 42 = .ok (.l2i, 1) := by decide +kernel
theorem dX3_kept_43 : decode cX3_kept 43 = .ok (.i2s, 1) := by decide +kernel
theorem dX3_kept_44 : decode cX3_kept 44 = .ok (.i2l, 1) := by decide +kernel
theorem dX3_kept_45 : decode cX3_kept 45 = .ok (.lreturn, 1) := by decide +kernel
theorem dX3_kept_46 : decode cX3_kept 46 = .ok (.lload_n 1, 1) := by decide +kernel
theorem dX3_kept_47 : decode cX3_kept 47 = .ok (.ldc2_w 55, 3) := by decide +kernel
theorem dX3_kept_50 : decode cX3_kept 50 = .ok (.land, 1) := by decide +kernel
theorem dX3_kept_51 : decode cX3_kept 51 = .ok (.lreturn, 1) := by decide +kernel
theorem dX3_kept_52 : decode cX3_kept 52 = .ok (.lload_n 1, 1) := by decide +kernel
theorem dX3_kept_53 : decode cX3_kept 53 = .ok (.l2i, 1) := by decide +kernel
theorem dX3_kept_54 : decode cX3_kept 54 = .ok (.i2l, 1) := by decide +kernel
theorem dX3_kept_55 : decode cX3_kept 55 = .ok (.lreturn, 1) := by decide +kernel
theorem dX3_kept_56 : decode cX3_kept 56 = .ok (.lload_n 1, 1) := by decide +kernel
theorem dX3_kept_57 : decode cX3_kept 57 = .ok (.lreturn, 1) := by decide +kernel
theorem dX3_kept_58 : decode cX3_kept 58 = .ok (.lload_n 1, 1) := by decide +kernel
theorem dX3_kept_59 : decode cX3_kept 59 = .ok (.lconst 0, 1) := by decide +kernel
theorem dX3_kept_60 : decode cX3_kept 60 = .ok (.lcmp, 1) := by decide +kernel
theorem dX3_kept_61 : decode cX3_kept 61 = .ok (.ifCond .ne 7, 3) := by decide +kernel
theorem dX3_kept_64 : decode cX3_kept 64 = .ok (.lconst 0, 1) := by decide +kernel
theorem dX3_kept_65 : decode cX3_kept 65 = .ok (.goto 4, 3) := by decide +kernel
theorem dX3_kept_68 : decode cX3_kept 68 = .ok (.lconst 1, 1) := by decide +kernel
theorem dX3_kept_69 : decode cX3_kept 69 = .ok (.lreturn, 1) := by decide +kernel
theorem dX3_become_0 : decode cX3_become 0 = .ok (.aload_n 0, 1) := by decide +kernel
theorem dX3_become_1 : decode cX3_become 1 = .ok (.getfield 7, 3) := by decide +kernel
theorem dX3_become_4 : decode cX3_become 4 = .ok (.iload_n 1, 1) := by decide +kernel
theorem dX3_become_5 : decode cX3_become 5 = .ok (.iload_n 2, 1) := by decide +kernel
theorem dX3_become_6 : decode cX3_become 6 = .ok (.iastore, 1) := by decide +kernel
theorem dX3_become_7 : decode cX3_become 7 = .ok (.aload_n 0, 1) := by decide +kernel
theorem dX3_become_8 : decode cX3_become 8 = .ok (.getfield 13, 3) := by decide +kernel
theorem dX3_become_11 : decode cX3_become 11 = .ok (.iload_n 1, 1) := by decide +kernel
theorem dX3_become_12 : decode cX3_become 12 = .ok (.iload_n 3, 1) := by decide +kernel
theorem dX3_become_13 : decode cX3_become 13 = .ok (.iastore, 1) := by decide +kernel
theorem dX3_become_14 : decode cX3_become 14 = .ok (.iconst 0, 1) := by decide +kernel
theorem dX3_become_15 : decode cX3_become 15 = .ok (.istore 4, 2) := by decide +kernel
theorem dX3_become_17 : decode cX3_become 17 = .ok (.iload 4, 2) := by decide +kernel
theorem dX3_become_19 : decode cX3_become 19 = .ok (.iload_n 3, 1) := by decide +kernel
theorem dX3_become_20 : decode cX3_become 20 = .ok (.if_icmp .ge 26, 3) := by decide +kernel
theorem dX3_become_23 : decode cX3_become 23 = .ok (.aload_n 0, 1) := by decide +kernel
theorem dX3_become_24 : decode cX3_become 24 = .ok (.getfield 16, 3) := by decide +kernel
theorem dX3_become_27 : decode cX3_become 27 = .ok (.bipush 40, 2) := by decide +kernel
theorem dX3_become_29 : decode cX3_become 29 = .ok (.iload_n 1, 1) := by decide +kernel
theorem dX3_become_30 : decode cX3_become 30 = .ok (.imul, 1) := by decide +kernel
theorem dX3_become_31 : decode cX3_become 31 = .ok (.iload 4, 2) := by decide +kernel
theorem dX3_become_33 : decode cX3_become 33 = .ok (.iadd, 1) := by decide +kernel
theorem dX3_become_34 : decode cX3_become 34 = .ok (.aload_n 0, 1) := by decide +kernel
theorem dX3_become_35 : decode cX3_become 35 = .ok (.iload_n 1, 1) := by decide +kernel
theorem dX3_become_36 : decode cX3_become 36 = .ok (.invokevirtual 57, 3) := by decide +kernel
theorem dX3_become_39 : decode cX3_become 39 = .ok (.lastore, 1) := by decide +kernel
theorem dX3_become_40 : decode cX3_become 40 = .ok (.iinc 4 1, 3) := by decide +kernel
theorem dX3_become_43 : decode cX3_become 43 = .ok (.goto (-26), 3) := by decide +kernel
theorem dX3_become_46 : decode cX3_become 46 = .ok (.return_, 1) := by decide +kernel
theorem dX3_make_0 : decode cX3_make 0 = .ok (.iload_n 1, 1) := by decide +kernel
theorem dX3_make_1 : decode cX3_make 1 = .ok (.invokestatic 39, 3) := by decide +kernel
theorem dX3_make_4 : decode cX3_make 4 = .ok (.ifCond .eq 24, 3) := by decide +kernel
theorem dX3_make_7 : decode cX3_make 7 = .ok (.iload_n 2, 1) := by decide +kernel
theorem dX3_make_8 : decode cX3_make 8 = .ok (.iconst 1, 1) := by decide +kernel
theorem dX3_make_9 : decode cX3_make 9 = .ok (.if_icmp .lt 19, 3) := by decide +kernel
theorem dX3_make_12 : decode cX3_make 12 = .ok (.iload_n 2, 1) := by decide +kernel
theorem dX3_make_13 : decode cX3_make 13 = .ok (.bipush 8, 2) := by decide +kernel
theorem dX3_make_15 : decode cX3_make 15 = .ok (.if_icmp .gt 13, 3) := by decide +kernel
theorem dX3_make_18 : decode cX3_make 18 = .ok (.iload_n 3, 1) := by decide +kernel
theorem dX3_make_19 : decode cX3_make 19 = .ok (.ifCond .lt 9, 3) := by decide +kernel
theorem dX3_make_22 : decode cX3_make 22 = .ok (.iload_n 3, 1) := by decide +kernel
theorem dX3_make_23 : decode cX3_make 23 = .ok (.bipush 40, 2) := by decide +kernel
theorem dX3_make_25 : decode cX3_make 25 = .ok (.if_icmp .le 5, 3) := by decide +kernel
theorem dX3_make_28 : decode cX3_make 28 = .ok (.iconst 0, 1) := by decide +kernel
theorem dX3_make_29 : decode cX3_make 29 = .ok (.ireturn, 1) := by decide +kernel
theorem dX3_make_30 : decode cX3_make 30 = .ok (.aload_n 0, 1) := by decide +kernel
theorem dX3_make_31 : decode cX3_make 31 = .ok (.iload_n 1, 1) := by decide +kernel
theorem dX3_make_32 : decode cX3_make 32 = .ok (.iload_n 2, 1) := by decide +kernel
theorem dX3_make_33 : decode cX3_make 33 = .ok (.iload_n 3, 1) := by decide +kernel
theorem dX3_make_34 : decode cX3_make 34 = .ok (.invokevirtual 61, 3) := by decide +kernel
theorem dX3_make_37 : decode cX3_make 37 = .ok (.iconst 1, 1) := by decide +kernel
theorem dX3_make_38 : decode cX3_make 38 = .ok (.ireturn, 1) := by decide +kernel
theorem dX3_lamp_0 : decode cX3_lamp 0 = .ok (.iload_n 1, 1) := by decide +kernel
theorem dX3_lamp_1 : decode cX3_lamp 1 = .ok (.invokestatic 39, 3) := by decide +kernel
theorem dX3_lamp_4 : decode cX3_lamp 4 = .ok (.ifCond .ne 5, 3) := by decide +kernel
theorem dX3_lamp_7 : decode cX3_lamp 7 = .ok (.iconst 0, 1) := by decide +kernel
theorem dX3_lamp_8 : decode cX3_lamp 8 = .ok (.ireturn, 1) := by decide +kernel
theorem dX3_lamp_9 : decode cX3_lamp 9 = .ok (.aload_n 0, 1) := by decide +kernel
theorem dX3_lamp_10 : decode cX3_lamp 10 = .ok (.iload_n 1, 1) := by decide +kernel
theorem dX3_lamp_11 : decode cX3_lamp 11 = .ok (.bipush 9, 2) := by decide +kernel
theorem dX3_lamp_13 : decode cX3_lamp 13 = .ok (.iconst 0, 1) := by decide +kernel
theorem dX3_lamp_14 : decode cX3_lamp 14 = .ok (.invokevirtual 61, 3) := by decide +kernel
theorem dX3_lamp_17 : decode cX3_lamp 17 = .ok (.iconst 1, 1) := by decide +kernel
theorem dX3_lamp_18 : decode cX3_lamp 18 = .ok (.ireturn, 1) := by decide +kernel
theorem dX3_empty_0 : decode cX3_empty 0 = .ok (.iload_n 1, 1) := by decide +kernel
theorem dX3_empty_1 : decode cX3_empty 1 = .ok (.invokestatic 39, 3) := by decide +kernel
theorem dX3_empty_4 : decode cX3_empty 4 = .ok (.ifCond .eq 12, 3) := by decide +kernel
theorem dX3_empty_7 : decode cX3_empty 7 = .ok (.aload_n 0, 1) := by decide +kernel
theorem dX3_empty_8 : decode cX3_empty 8 = .ok (.getfield 7, 3) := by decide +kernel
theorem dX3_empty_11 : decode cX3_empty 11 = .ok (.iload_n 1, 1) := by decide +kernel
theorem dX3_empty_12 : decode cX3_empty 12 = .ok (.iaload, 1) := by decide +kernel
theorem dX3_empty_13 : decode cX3_empty 13 = .ok (.ifCond .ne 5, 3) := by decide +kernel
theorem dX3_empty_16 : decode cX3_empty 16 = .ok (.iconst 0, 1) := by decide +kernel
theorem dX3_empty_17 : decode cX3_empty 17 = .ok (.ireturn, 1) := by decide +kernel
theorem dX3_empty_18 : decode cX3_empty 18 = .ok (.aload_n 0, 1) := by decide +kernel
theorem dX3_empty_19 : decode cX3_empty 19 = .ok (.iload_n 1, 1) := by decide +kernel
theorem dX3_empty_20 : decode cX3_empty 20 = .ok (.iconst 0, 1) := by decide +kernel
theorem dX3_empty_21 : decode cX3_empty 21 = .ok (.iconst 0, 1) := by decide +kernel
theorem dX3_empty_22 : decode cX3_empty 22 = .ok (.invokevirtual 61, 3) := by decide +kernel
theorem dX3_empty_25 : decode cX3_empty 25 = .ok (.iconst 1, 1) := by decide +kernel
theorem dX3_empty_26 : decode cX3_empty 26 = .ok (.ireturn, 1) := by decide +kernel
theorem dX3_bead_0 : decode cX3_bead 0 = .ok (.aload_n 0, 1) := by decide +kernel
theorem dX3_bead_1 : decode cX3_bead 1 = .ok (.getfield 46, 3) := by decide +kernel
theorem dX3_bead_4 : decode cX3_bead 4 = .ok (.sipush 200, 3) := by decide +kernel
theorem dX3_bead_7 : decode cX3_bead 7 = .ok (.if_icmp .ne 5, 3) := by decide +kernel
theorem dX3_bead_10 : decode cX3_bead 10 = .ok (.iconst (-1), 1) := by decide +kernel
theorem dX3_bead_11 : decode cX3_bead 11 = .ok (.ireturn, 1) := by decide +kernel
theorem dX3_bead_12 : decode cX3_bead 12 = .ok (.aload_n 0, 1) := by decide +kernel
theorem dX3_bead_13 : decode cX3_bead 13 = .ok (.getfield 26, 3) := by decide +kernel
theorem dX3_bead_16 : decode cX3_bead 16 = .ok (.aload_n 0, 1) := by decide +kernel
theorem dX3_bead_17 : decode cX3_bead 17 = .ok (.getfield 46, 3) := by decide +kernel
theorem dX3_bead_20 : decode cX3_bead 20 = .ok (.iload_n 1, 1) := by decide +kernel
theorem dX3_bead_21 : decode cX3_bead 21 = .ok (.iastore, 1) := by decide +kernel
theorem dX3_bead_22 : decode cX3_bead 22 = .ok (.aload_n 0, 1) := by decide +kernel
theorem dX3_bead_23 : decode cX3_bead 23 = .ok (.getfield 29, 3) := by decide +kernel
theorem dX3_bead_26 : decode cX3_bead 26 = .ok (.aload_n 0, 1) := by decide +kernel
theorem dX3_bead_27 : decode cX3_bead 27 = .ok (.getfield 46, 3) := by decide +kernel
theorem dX3_bead_30 : decode cX3_bead 30 = .ok (.iload_n 2, 1) := by decide +kernel
theorem dX3_bead_31 : decode cX3_bead 31 = .ok (.bastore, 1) := by decide +kernel
theorem dX3_bead_32 : decode cX3_bead 32 = .ok (.aload_n 0, 1) := by decide +kernel
theorem dX3_bead_33 : decode cX3_bead 33 = .ok (.dup, 1) := by decide +kernel
theorem dX3_bead_34 : decode cX3_bead 34 = .ok (.getfield 46, 3) := by decide +kernel
theorem dX3_bead_37 : decode cX3_bead 37 = .ok (.iconst 1, 1) := by decide +kernel
theorem dX3_bead_38 : decode cX3_bead 38 = .ok (.iadd, 1) := by decide +kernel
theorem dX3_bead_39 : decode cX3_bead 39 = .ok (.putfield 46, 3) := by decide +kernel
theorem dX3_bead_42 : decode cX3_bead 42 = .ok (.aload_n 0, 1) := by decide +kernel
theorem dX3_bead_43 : decode cX3_bead 43 = .ok (.getfield 46, 3) := by decide +kernel
theorem dX3_bead_46 : decode cX3_bead 46 = .ok (.iconst 1, 1) := by decide +kernel
theorem dX3_bead_47 : decode cX3_bead 47 = .ok (.isub, 1) := by decide +kernel
theorem dX3_bead_48 : decode cX3_bead 48 = .ok (.ireturn, 1) := by decide +kernel
theorem dX3_paint_0 : decode cX3_paint 0 = .ok (.aload_n 0, 1) := by decide +kernel
theorem dX3_paint_1 : decode cX3_paint 1 = .ok (.iload_n 1, 1) := by decide +kernel
theorem dX3_paint_2 : decode cX3_paint 2 = .ok (.i2l, 1) := by decide +kernel
theorem dX3_paint_3 : decode cX3_paint 3 = .ok (.invokevirtual 65, 3) := by decide +kernel
theorem dX3_paint_6 : decode cX3_paint 6 = .ok (.ifCond .ne 5, 3) := by decide +kernel
theorem dX3_paint_9 : decode cX3_paint 9 = .ok (.iconst 0, 1) := by decide +kernel
theorem dX3_paint_10 : decode cX3_paint 10 = .ok (.ireturn, 1) := by decide +kernel
theorem dX3_paint_11 : decode cX3_paint 11 = .ok (.aload_n 0, 1) := by decide +kernel
theorem dX3_paint_12 : decode cX3_paint 12 = .ok (.getfield 26, 3) := by decide +kernel
theorem dX3_paint_15 : decode cX3_paint 15 = .ok (.iload_n 1, 1) := by decide +kernel
theorem dX3_paint_16 : decode cX3_paint 16 = .ok (.iload_n 2, 1) := by decide +kernel
theorem dX3_paint_17 : decode cX3_paint 17 = .ok (.iastore, 1) := by decide +kernel
theorem dX3_paint_18 : decode cX3_paint 18 = .ok (.iconst 1, 1) := by decide +kernel
theorem dX3_paint_19 : decode cX3_paint 19 = .ok (.ireturn, 1) := by decide +kernel
theorem dX3_colour_0 : decode cX3_colour 0 = .ok (.aload_n 0, 1) := by decide +kernel
theorem dX3_colour_1 : decode cX3_colour 1 = .ok (.iload_n 1, 1) := by decide +kernel
theorem dX3_colour_2 : decode cX3_colour 2 = .ok (.i2l, 1) := by decide +kernel
theorem dX3_colour_3 : decode cX3_colour 3 = .ok (.invokevirtual 65, 3) := by decide +kernel
theorem dX3_colour_6 : decode cX3_colour 6 = .ok (.ifCond .eq 12, 3) := by decide +kernel
theorem dX3_colour_9 : decode cX3_colour 9 = .ok (.aload_n 0, 1) := by decide +kernel
theorem dX3_colour_10 : decode cX3_colour 10 = .ok (.getfield 26, 3) := by decide +kernel
theorem dX3_colour_13 : decode cX3_colour 13 = .ok (.iload_n 1, 1) := by decide +kernel
theorem dX3_colour_14 : decode cX3_colour 14 = .ok (.iaload, 1) := by decide +kernel
theorem dX3_colour_15 : decode cX3_colour 15 = .ok (.goto 4, 3) := by decide +kernel
theorem dX3_colour_18 : decode cX3_colour 18 = .ok (.iconst 0, 1) := by decide +kernel
theorem dX3_colour_19 : decode cX3_colour 19 = .ok (.ireturn, 1) := by decide +kernel
theorem dX3_put_0 : decode cX3_put 0 = .ok (.aload_n 0, 1) := by decide +kernel
theorem dX3_put_1 : decode cX3_put 1 = .ok (.iload_n 1, 1) := by decide +kernel
theorem dX3_put_2 : decode cX3_put 2 = .ok (.iload_n 2, 1) := by decide +kernel
theorem dX3_put_3 : decode cX3_put 3 = .ok (.invokevirtual 69, 3) := by decide +kernel
theorem dX3_put_6 : decode cX3_put 6 = .ok (.ifCond .ne 5, 3) := by decide +kernel
theorem dX3_put_9 : decode cX3_put 9 = .ok (.iconst 0, 1) := by decide +kernel
theorem dX3_put_10 : decode cX3_put 10 = .ok (.ireturn, 1) := by decide +kernel
theorem dX3_put_11 : decode cX3_put 11 = .ok (.aload_n 0, 1) := by decide +kernel
theorem dX3_put_12 : decode cX3_put 12 = .ok (.iload_n 1, 1) := by decide +kernel
theorem dX3_put_13 : decode cX3_put 13 = .ok (.invokevirtual 50, 3) := by decide +kernel
theorem dX3_put_16 : decode cX3_put 16 = .ok (.ifCond .ne 26, 3) := by decide +kernel
theorem dX3_put_19 : decode cX3_put 19 = .ok (.aload_n 0, 1) := by decide +kernel
theorem dX3_put_20 : decode cX3_put 20 = .ok (.getfield 16, 3) := by decide +kernel
theorem dX3_put_23 : decode cX3_put 23 = .ok (.bipush 40, 2) := by decide +kernel
theorem dX3_put_25 : decode cX3_put 25 = .ok (.iload_n 1, 1) := by decide +kernel
theorem dX3_put_26 : decode cX3_put 26 = .ok (.imul, 1) := by decide +kernel
theorem dX3_put_27 : decode cX3_put 27 = .ok (.iload_n 2, 1) := by decide +kernel
theorem dX3_put_28 : decode cX3_put 28 = .ok (.iadd, 1) := by decide +kernel
theorem dX3_put_29 : decode cX3_put 29 = .ok (.aload_n 0, 1) := by decide +kernel
theorem dX3_put_30 : decode cX3_put 30 = .ok (.getfield 7, 3) := by decide +kernel
theorem dX3_put_33 : decode cX3_put 33 = .ok (.iload_n 1, 1) := by decide +kernel
theorem dX3_put_34 : decode cX3_put 34 = .ok (.iaload, 1) := by decide +kernel
theorem dX3_put_35 : decode cX3_put 35 = .ok (.lload_n 3, 1) := by decide +kernel
theorem dX3_put_36 : decode cX3_put 36 = .ok (.invokestatic 73, 3) := by decide +kernel
theorem dX3_put_39 : decode cX3_put 39 = .ok (.lastore, 1) := by decide +kernel
theorem dX3_put_40 : decode cX3_put 40 = .ok (.iconst 1, 1) := by decide +kernel
theorem dX3_put_41 : decode cX3_put 41 = .ok (.ireturn, 1) := by decide +kernel
theorem dX3_put_42 : decode cX3_put 42 = .ok (.lload_n 3, 1) := by decide +kernel
theorem dX3_put_43 : decode cX3_put 43 = .ok (.ldc2_w 53, 3) := by decide +kernel
theorem dX3_put_46 : decode cX3_put 46 = .ok (.lcmp, 1) := by decide +kernel
theorem dX3_put_47 : decode cX3_put 47 = .ok (.ifCond .eq 13, 3) := by decide +kernel
theorem dX3_put_50 : decode cX3_put 50 = .ok (.aload_n 0, 1) := by decide +kernel
theorem dX3_put_51 : decode cX3_put 51 = .ok (.lload_n 3, 1) := by decide +kernel
theorem dX3_put_52 : decode cX3_put 52 = .ok (.invokevirtual 65, 3) := by decide +kernel
theorem dX3_put_55 : decode cX3_put 55 = .ok (.ifCond .ne 5, 3) := by decide +kernel
theorem dX3_put_58 : decode cX3_put 58 = .ok (.iconst 0, 1) := by decide +kernel
theorem dX3_put_59 : decode cX3_put 59 = .ok (.ireturn, 1) := by decide +kernel
theorem dX3_put_60 : decode cX3_put 60 = .ok (.lload_n 3, 1) := by decide +kernel
theorem dX3_put_61 : decode cX3_put 61 = .ok (.ldc2_w 53, 3) := by decide +kernel
theorem dX3_put_64 : decode cX3_put 64 = .ok (.lcmp, 1) := by decide +kernel
theorem dX3_put_65 : decode cX3_put 65 = .ok (.ifCond .eq 26, 3) := by decide +kernel
theorem dX3_put_68 : decode cX3_put 68 = .ok (.aload_n 0, 1) := by decide +kernel
theorem dX3_put_69 : decode cX3_put 69 = .ok (.getfield 7, 3) := by decide +kernel
theorem dX3_put_72 : decode cX3_put 72 = .ok (.iload_n 1, 1) := by decide +kernel
theorem dX3_put_73 : decode cX3_put 73 = .ok (.iaload, 1) := by decide +kernel
theorem dX3_put_74 : decode cX3_put 74 = .ok (.bipush 8, 2) := by decide +kernel
theorem dX3_put_76 : decode cX3_put 76 = .ok (.if_icmp .ne 15, 3) := by decide +kernel
theorem dX3_put_79 : decode cX3_put 79 = .ok (.aload_n 0, 1) := by decide +kernel
theorem dX3_put_80 : decode cX3_put 80 = .ok (.getfield 29, 3) := by decide +kernel
theorem dX3_put_83 : decode cX3_put 83 = .ok (.lload_n 3, 1) := by decide +kernel
theorem dX3_put_84 : decode cX3_put 84 = .ok (.l2i, 1) := by decide +kernel
theorem dX3_put_85 : decode cX3_put 85 = .ok (.baload, 1) := by decide +kernel
theorem dX3_put_86 : decode cX3_put 86 = .ok (.ifCond .ne 5, 3) := by decide +kernel
theorem dX3_put_89 : decode cX3_put 89 = .ok (.iconst 0, 1) := by decide +kernel
theorem dX3_put_90 : decode cX3_put 90 = .ok (.ireturn, 1) := by decide +kernel
theorem dX3_put_91 : decode cX3_put 91 = .ok (.aload_n 0, 1) := by decide +kernel
theorem dX3_put_92 : decode cX3_put 92 = .ok (.getfield 16, 3) := by decide +kernel
theorem dX3_put_95 : decode cX3_put 95 = .ok (.bipush 40, 2) := by decide +kernel
theorem dX3_put_97 : decode cX3_put 97 = .ok (.iload_n 1, 1) := by decide +kernel
theorem dX3_put_98 : decode cX3_put 98 = .ok (.imul, 1) := by decide +kernel
theorem dX3_put_99 : decode cX3_put 99 = .ok (.iload_n 2, 1) := by decide +kernel
theorem dX3_put_100 : decode cX3_put 100 = .ok (.iadd, 1) := by decide +kernel
theorem dX3_put_101 : decode cX3_put 101 = .ok (.lload_n 3, 1) := by decide +kernel
theorem dX3_put_102 : decode cX3_put 102 = .ok (.lastore, 1) := by decide +kernel
theorem dX3_put_103 : decode cX3_put 103 = .ok (.iconst 1, 1) := by decide +kernel
theorem dX3_put_104 : decode cX3_put 104 = .ok (.ireturn, 1) := by decide +kernel
theorem dX3_look_0 : decode cX3_look 0 = .ok (.aload_n 0, 1) := by decide +kernel
theorem dX3_look_1 : decode cX3_look 1 = .ok (.iload_n 1, 1) := by decide +kernel
theorem dX3_look_2 : decode cX3_look 2 = .ok (.iload_n 2, 1) := by decide +kernel
theorem dX3_look_3 : decode cX3_look 3 = .ok (.invokevirtual 69, 3) := by decide +kernel
theorem dX3_look_6 : decode cX3_look 6 = .ok (.ifCond .eq 17, 3) := by decide +kernel
theorem dX3_look_9 : decode cX3_look 9 = .ok (.aload_n 0, 1) := by decide +kernel
theorem dX3_look_10 : decode cX3_look 10 = .ok (.getfield 16, 3) := by decide +kernel
theorem dX3_look_13 : decode cX3_look 13 = .ok (.bipush 40, 2) := by decide +kernel
theorem dX3_look_15 : decode cX3_look 15 = .ok (.iload_n 1, 1) := by decide +kernel
theorem dX3_look_16 : decode cX3_look 16 = .ok (.imul, 1) := by decide +kernel
theorem dX3_look_17 : decode cX3_look 17 = .ok (.iload_n 2, 1) := by decide +kernel
theorem dX3_look_18 : decode cX3_look 18 = .ok (.iadd, 1) := by decide +kernel
theorem dX3_look_19 : decode cX3_look 19 = .ok (.laload, 1) := by decide +kernel
theorem dX3_look_20 : decode cX3_look 20 = .ok (.goto 4, 3) := by decide +kernel
theorem dX3_look_23 : decode cX3_look 23 = .ok (.lconst 0, 1) := by decide +kernel
theorem dX3_look_24 : decode cX3_look 24 = .ok (.lreturn, 1) := by decide +kernel
theorem dX3_reason_0 : decode cX3_reason 0 = .ok (.aload_n 0, 1) := by decide +kernel
theorem dX3_reason_1 : decode cX3_reason 1 = .ok (.getfield 7, 3) := by decide +kernel
theorem dX3_reason_4 : decode cX3_reason 4 = .ok (.iload_n 1, 1) := by decide +kernel
theorem dX3_reason_5 : decode cX3_reason 5 = .ok (.iaload, 1) := by decide +kernel
theorem dX3_reason_6 : decode cX3_reason 6 = .ok (.ifCond .eq 13, 3) := by decide +kernel
theorem dX3_reason_9 : decode cX3_reason 9 = .ok (.aload_n 0, 1) := by decide +kernel
theorem dX3_reason_10 : decode cX3_reason 10 = .ok (.getfield 7, 3) := by decide +kernel
theorem dX3_reason_13 : decode cX3_reason 13 = .ok (.iload 4, 2) := by decide +kernel
theorem dX3_reason_15 : decode cX3_reason 15 = .ok (.iaload, 1) := by decide +kernel
theorem dX3_reason_16 : decode cX3_reason 16 = .ok (.ifCond .ne 5, 3) := by decide +kernel
theorem dX3_reason_19 : decode cX3_reason 19 = .ok (.iconst 1, 1) := by decide +kernel
theorem dX3_reason_20 : decode cX3_reason 20 = .ok (.ireturn, 1) := by decide +kernel
theorem dX3_reason_21 : decode cX3_reason 21 = .ok (.aload_n 0, 1) := by decide +kernel
theorem dX3_reason_22 : decode cX3_reason 22 = .ok (.getfield 7, 3) := by decide +kernel
theorem dX3_reason_25 : decode cX3_reason 25 = .ok (.iload_n 1, 1) := by decide +kernel
theorem dX3_reason_26 : decode cX3_reason 26 = .ok (.iaload, 1) := by decide +kernel
theorem dX3_reason_27 : decode cX3_reason 27 = .ok (.bipush 9, 2) := by decide +kernel
theorem dX3_reason_29 : decode cX3_reason 29 = .ok (.if_icmp .eq 15, 3) := by decide +kernel
theorem dX3_reason_32 : decode cX3_reason 32 = .ok (.aload_n 0, 1) := by decide +kernel
theorem dX3_reason_33 : decode cX3_reason 33 = .ok (.getfield 7, 3) := by decide +kernel
theorem dX3_reason_36 : decode cX3_reason 36 = .ok (.iload 4, 2) := by decide +kernel
theorem dX3_reason_38 : decode cX3_reason 38 = .ok (.iaload, 1) := by decide +kernel
theorem dX3_reason_39 : decode cX3_reason 39 = .ok (.bipush 9, 2) := by decide +kernel
theorem dX3_reason_41 : decode cX3_reason 41 = .ok (.if_icmp .ne 5, 3) := by decide +kernel
theorem dX3_reason_44 : decode cX3_reason 44 = .ok (.iconst 2, 1) := by decide +kernel
theorem dX3_reason_45 : decode cX3_reason 45 = .ok (.ireturn, 1) := by decide +kernel
theorem dX3_reason_46 : decode cX3_reason 46 = .ok (.aload_n 0, 1) := by decide +kernel
theorem dX3_reason_47 : decode cX3_reason 47 = .ok (.getfield 7, 3) := by decide +kernel
theorem dX3_reason_50 : decode cX3_reason 50 = .ok (.iload_n 1, 1) := by decide +kernel
theorem dX3_reason_51 : decode cX3_reason 51 = .ok (.iaload, 1) := by decide +kernel
theorem dX3_reason_52 : decode cX3_reason 52 = .ok (.aload_n 0, 1) := by decide +kernel
theorem dX3_reason_53 : decode cX3_reason 53 = .ok (.getfield 7, 3) := by decide +kernel
theorem dX3_reason_56 : decode cX3_reason 56 = .ok (.iload 4, 2) := by decide +kernel
theorem dX3_reason_58 : decode cX3_reason 58 = .ok (.iaload, 1) := by decide +kernel
theorem dX3_reason_59 : decode cX3_reason 59 = .ok (.if_icmp .eq 22, 3) := by decide +kernel
theorem dX3_reason_62 : decode cX3_reason 62 = .ok (.aload_n 0, 1) := by decide +kernel
theorem dX3_reason_63 : decode cX3_reason 63 = .ok (.iload_n 1, 1) := by decide +kernel
theorem dX3_reason_64 : decode cX3_reason 64 = .ok (.invokevirtual 50, 3) := by decide +kernel
theorem dX3_reason_67 : decode cX3_reason 67 = .ok (.ifCond .eq 12, 3) := by decide +kernel
theorem dX3_reason_70 : decode cX3_reason 70 = .ok (.aload_n 0, 1) := by decide +kernel
theorem dX3_reason_71 : decode cX3_reason 71 = .ok (.iload 4, 2) := by decide +kernel
theorem dX3_reason_73 : decode cX3_reason 73 = .ok (.invokevirtual 50, 3) := by decide +kernel
theorem dX3_reason_76 : decode cX3_reason 76 = .ok (.ifCond .ne 5, 3) := by decide +kernel
theorem dX3_reason_79 : decode cX3_reason 79 = .ok (.iconst 2, 1) := by decide +kernel
theorem dX3_reason_80 : decode cX3_reason 80 = .ok (.ireturn, 1) := by decide +kernel
theorem dX3_reason_81 : decode cX3_reason 81 = .ok (.lload_n 2, 1) := by decide +kernel
theorem dX3_reason_82 : decode cX3_reason 82 = .ok (.lconst 0, 1) := by decide +kernel
theorem dX3_reason_83 : decode cX3_reason 83 = .ok (.lcmp, 1) := by decide +kernel
theorem dX3_reason_84 : decode cX3_reason 84 = .ok (.ifCond .lt 17, 3) := by decide +kernel
theorem dX3_reason_87 : decode cX3_reason 87 = .ok (.lload 5, 2) := by decide +kernel
theorem dX3_reason_89 : decode cX3_reason 89 = .ok (.lconst 0, 1) := by decide +kernel
theorem dX3_reason_90 : decode cX3_reason 90 = .ok (.lcmp, 1) := by decide +kernel
theorem dX3_reason_91 : decode cX3_reason 91 = .ok (.ifCond .lt 10, 3) := by decide +kernel
theorem dX3_reason_94 : decode cX3_reason 94 = .ok (.lload 7, 2) := by decide +kernel
theorem dX3_reason_96 : decode cX3_reason 96 = .ok (.lconst 0, 1) := by decide +kernel
theorem dX3_reason_97 : decode cX3_reason 97 = .ok (.lcmp, 1) := by decide +kernel
theorem dX3_reason_98 : decode cX3_reason 98 = .ok (.ifCond .ge 5, 3) := by decide +kernel
theorem dX3_reason_101 : decode cX3_reason 101 = .ok (.iconst 3, 1) := by decide +kernel
theorem dX3_reason_102 : decode cX3_reason 102 = .ok (.ireturn, 1) := by decide +kernel
theorem dX3_reason_103 : decode cX3_reason 103 = .ok (.lload_n 2, 1) := by decide +kernel
theorem dX3_reason_104 : decode cX3_reason 104 = .ok (.lload 7, 2) := by decide +kernel
theorem dX3_reason_106 : decode cX3_reason 106 = .ok (.ladd, 1) := by decide +kernel
theorem dX3_reason_107 : decode cX3_reason 107 = .ok (.aload_n 0, 1) := by decide +kernel
theorem dX3_reason_108 : decode cX3_reason 108 = .ok (.getfield 13, 3) := by decide +kernel
theorem dX3_reason_111 : decode cX3_reason 111 = .ok (.iload_n 1, 1) := by decide +kernel
theorem dX3_reason_112 : decode cX3_reason 112 = .ok (.iaload, 1) := by decide +kernel
theorem dX3_reason_113 : decode cX3_reason 113 = .ok (.i2l, 1) := by decide +kernel
theorem dX3_reason_114 : decode cX3_reason 114 = .ok (.lcmp, 1) := by decide +kernel
theorem dX3_reason_115 : decode cX3_reason 115 = .ok (.ifCond .gt 20, 3) := by decide +kernel
theorem dX3_reason_118 : decode cX3_reason 118 = .ok (.lload 5, 2) := by decide +kernel
theorem dX3_reason_120 : decode cX3_reason 120 = .ok (.lload 7, 2) := by decide +kernel
theorem dX3_reason_122 : decode cX3_reason 122 = .ok (.ladd, 1) := by decide +kernel
theorem dX3_reason_123 : decode cX3_reason 123 = .ok (.aload_n 0, 1) := by decide +kernel
theorem dX3_reason_124 : decode cX3_reason 124 = .ok (.getfield 13, 3) := by decide +kernel
theorem dX3_reason_127 : decode cX3_reason 127 = .ok (.iload 4, 2) := by decide +kernel
theorem dX3_reason_129 : decode cX3_reason 129 = .ok (.iaload, 1) := by decide +kernel
theorem dX3_reason_130 : decode cX3_reason 130 = .ok (.i2l, 1) := by decide +kernel
theorem dX3_reason_131 : decode cX3_reason 131 = .ok (.lcmp, 1) := by decide +kernel
theorem dX3_reason_132 : decode cX3_reason 132 = .ok (.ifCond .le 5, 3) := by decide +kernel
theorem dX3_reason_135 : decode cX3_reason 135 = .ok (.iconst 3, 1) := by decide +kernel
theorem dX3_reason_136 : decode cX3_reason 136 = .ok (.ireturn, 1) := by decide +kernel
theorem dX3_reason_137 : decode cX3_reason 137 = .ok (.iconst 0, 1) := by decide +kernel
theorem dX3_reason_138 : decode cX3_reason 138 = .ok (.ireturn, 1) := by decide +kernel
theorem dX3_moving_0 : decode cX3_moving 0 = .ok (.aload_n 0, 1) := by decide +kernel
theorem dX3_moving_1 : decode cX3_moving 1 = .ok (.iload_n 1, 1) := by decide +kernel
theorem dX3_moving_2 : decode cX3_moving 2 = .ok (.lload_n 2, 1) := by decide +kernel
theorem dX3_moving_3 : decode cX3_moving 3 = .ok (.iload 4, 2) := by decide +kernel
theorem dX3_moving_5 : decode cX3_moving 5 = .ok (.lload 5, 2) := by decide +kernel
theorem dX3_moving_7 : decode cX3_moving 7 = .ok (.lload 7, 2) := by decide +kernel
theorem dX3_moving_9 : decode cX3_moving 9 = .ok (.invokevirtual 77, 3) := by decide +kernel
theorem dX3_moving_12 : decode cX3_moving 12 = .ok (.istore 9, 2) := by decide +kernel
theorem dX3_moving_14 : decode cX3_moving 14 = .ok (.aload_n 0, 1) := by decide +kernel
theorem dX3_moving_15 : decode cX3_moving 15 = .ok (.iconst 0, 1) := by decide +kernel
theorem dX3_moving_16 : decode cX3_moving 16 = .ok (.putfield 81, 3) := by decide +kernel
theorem dX3_moving_19 : decode cX3_moving 19 = .ok (.iload 9, 2) := by decide +kernel
theorem dX3_moving_21 : decode cX3_moving 21 = .ok (.ifCond .ne 142, 3) := by decide +kernel
theorem dX3_moving_24 : decode cX3_moving 24 = .ok (.iconst 0, 1) := by decide +kernel
theorem dX3_moving_25 : decode cX3_moving 25 = .ok (.istore 10, 2) := by decide +kernel
theorem dX3_moving_27 : decode cX3_moving 27 = .ok (.iload 10, 2) := by decide +kernel
theorem dX3_moving_29 : decode cX3_moving 29 = .ok (.i2l, 1) := by decide +kernel
theorem dX3_moving_30 : decode cX3_moving 30 = .ok (.lload 7, 2) := by decide +kernel
theorem dX3_moving_32 : decode cX3_moving 32 = .ok (.lcmp, 1) := by decide +kernel
theorem dX3_moving_33 : decode cX3_moving 33 = .ok (.ifCond .ge 31, 3) := by decide +kernel
theorem dX3_moving_36 : decode cX3_moving 36 = .ok (.aload_n 0, 1) := by decide +kernel
theorem dX3_moving_37 : decode cX3_moving 37 = .ok (.getfield 23, 3) := by decide +kernel
theorem dX3_moving_40 : decode cX3_moving 40 = .ok (.iload 10, 2) := by decide +kernel
theorem dX3_moving_42 : decode cX3_moving 42 = .ok (.aload_n 0, 1) := by decide +kernel
theorem dX3_moving_43 : decode cX3_moving 43 = .ok (.getfield 16, 3) := by decide +kernel
theorem dX3_moving_46 : decode cX3_moving 46 = .ok (.bipush 40, 2) := by decide +kernel
theorem dX3_moving_48 : decode cX3_moving 48 = .ok (.iload_n 1, 1) := by decide +kernel
theorem dX3_moving_49 : decode cX3_moving 49 = .ok (.imul, 1) := by decide +kernel
theorem dX3_moving_50 : decode cX3_moving 50 = .ok (.lload_n 2, 1) := by decide +kernel
theorem dX3_moving_51 : decode cX3_moving 51 = .ok (.l2i, 1) := by decide +kernel
theorem dX3_moving_52 : decode cX3_moving 52 = .ok (.iadd, 1) := by decide +kernel
theorem dX3_moving_53 : decode cX3_moving 53 = .ok (.iload 10, 2) := by decide +kernel
theorem dX3_moving_55 : decode cX3_moving 55 = .ok (.iadd, 1) := by decide +kernel
theorem dX3_moving_56 : decode cX3_moving 56 = .ok (.laload, 1) := by decide +kernel
theorem dX3_moving_57 : decode cX3_moving 57 = .ok (.lastore, 1) := by decide +kernel
theorem dX3_moving_58 : decode cX3_moving 58 = .ok (.iinc 10 1, 3) := by decide +kernel
theorem dX3_moving_61 : decode cX3_moving 61 = .ok (.goto (-34), 3) := by decide +kernel
theorem dX3_moving_64 : decode cX3_moving 64 = .ok (.iconst 0, 1) := by decide +kernel
theorem dX3_moving_65 : decode cX3_moving 65 = .ok (.istore 10, 2) := by decide +kernel
theorem dX3_moving_67 : decode cX3_moving 67 = .ok (.iload 10, 2) := by decide +kernel
theorem dX3_moving_69 : decode cX3_moving 69 = .ok (.i2l, 1) := by decide +kernel
theorem dX3_moving_70 : decode cX3_moving 70 = .ok (.lload 7, 2) := by decide +kernel
theorem dX3_moving_72 : decode cX3_moving 72 = .ok (.lcmp, 1) := by decide +kernel
theorem dX3_moving_73 : decode cX3_moving 73 = .ok (.ifCond .ge 90, 3) := by decide +kernel
theorem dX3_moving_76 : decode cX3_moving 76 = .ok (.iload 9, 2) := by decide +kernel
theorem dX3_moving_78 : decode cX3_moving 78 = .ok (.ifCond .ne 85, 3) := by decide +kernel
theorem dX3_moving_81 : decode cX3_moving 81 = .ok (.aload_n 0, 1) := by decide +kernel
theorem dX3_moving_82 : decode cX3_moving 82 = .ok (.getfield 23, 3) := by decide +kernel
theorem dX3_moving_85 : decode cX3_moving 85 = .ok (.iload 10, 2) := by decide +kernel
theorem dX3_moving_87 : decode cX3_moving 87 = .ok (.laload, 1) := by decide +kernel
theorem dX3_moving_88 : decode cX3_moving 88 = .ok (.lstore 11, 2) := by decide +kernel
theorem dX3_moving_90 : decode cX3_moving 90 = .ok (.aload_n 0, 1) := by decide +kernel
theorem dX3_moving_91 : decode cX3_moving 91 = .ok (.getfield 7, 3) := by decide +kernel
theorem dX3_moving_94 : decode cX3_moving 94 = .ok (.iload 4, 2) := by decide +kernel
theorem dX3_moving_96 : decode cX3_moving 96 = .ok (.iaload, 1) := by decide +kernel
theorem dX3_moving_97 : decode cX3_moving 97 = .ok (.bipush 8, 2) := by decide +kernel
theorem dX3_moving_99 : decode cX3_moving 99 = .ok (.if_icmp .ne 29, 3) := by decide +kernel
theorem dX3_moving_102 : decode cX3_moving 102 = .ok (.lload 11, 2) := by decide +kernel
theorem dX3_moving_104 : decode cX3_moving 104 = .ok (.ldc2_w 53, 3) := by decide +kernel
theorem dX3_moving_107 : decode cX3_moving 107 = .ok (.lcmp, 1) := by decide +kernel
theorem dX3_moving_108 : decode cX3_moving 108 = .ok (.ifCond .eq 20, 3) := by decide +kernel
theorem dX3_moving_111 : decode cX3_moving 111 = .ok (.aload_n 0, 1) := by decide +kernel
theorem dX3_moving_112 : decode cX3_moving 112 = .ok (.getfield 29, 3) := by decide +kernel
theorem dX3_moving_115 : decode cX3_moving 115 = .ok (.lload 11, 2) := by decide +kernel
theorem dX3_moving_117 : decode cX3_moving 117 = .ok (.l2i, 1) := by decide +kernel
theorem dX3_moving_118 : decode cX3_moving 118 = .ok (.baload, 1) := by decide +kernel
theorem dX3_moving_119 : decode cX3_moving 119 = .ok (.ifCond .ne 9, 3) := by decide +kernel
theorem dX3_moving_122 : decode cX3_moving 122 = .ok (.iconst 4, 1) := by decide +kernel
theorem dX3_moving_123 : decode cX3_moving 123 = .ok (.istore 9, 2) := by decide +kernel
theorem dX3_moving_125 : decode cX3_moving 125 = .ok (.goto 32, 3) := by decide +kernel
theorem dX3_moving_128 : decode cX3_moving 128 = .ok (.aload_n 0, 1) := by decide +kernel
theorem dX3_moving_129 : decode cX3_moving 129 = .ok (.getfield 16, 3) := by decide +kernel
theorem dX3_moving_132 : decode cX3_moving 132 = .ok (.bipush 40, 2) := by decide +kernel
theorem dX3_moving_134 : decode cX3_moving 134 = .ok (.iload 4, 2) := by decide +kernel
theorem dX3_moving_136 : decode cX3_moving 136 = .ok (.imul, 1) := by decide +kernel
theorem dX3_moving_137 : decode cX3_moving 137 = .ok (.lload 5, 2) := by decide +kernel
theorem dX3_moving_139 : decode cX3_moving 139 = .ok (.l2i, 1) := by decide +kernel
theorem dX3_moving_140 : decode cX3_moving 140 = .ok (.iadd, 1) := by decide +kernel
theorem dX3_moving_141 : decode cX3_moving 141 = .ok (.iload 10, 2) := by decide +kernel
theorem dX3_moving_143 : decode cX3_moving 143 = .ok (.iadd, 1) := by decide +kernel
theorem dX3_moving_144 : decode cX3_moving 144 = .ok (.lload 11, 2) := by decide +kernel
theorem dX3_moving_146 : decode cX3_moving 146 = .ok (.lastore, 1) := by decide +kernel
theorem dX3_moving_147 : decode cX3_moving 147 = .ok (.aload_n 0, 1) := by decide +kernel
theorem dX3_moving_148 : decode cX3_moving 148 = .ok (.dup, 1) := by decide +kernel
theorem dX3_moving_149 : decode cX3_moving 149 = .ok (.getfield 81, 3) := by decide +kernel
theorem dX3_moving_152 : decode cX3_moving 152 = .ok (.iconst 1, 1) := by decide +kernel
theorem dX3_moving_153 : decode cX3_moving 153 = .ok (.iadd, 1) := by decide +kernel
theorem dX3_moving_154 : decode cX3_moving 154 = .ok (.putfield 81, 3) := by decide +kernel
theorem dX3_moving_157 : decode cX3_moving 157 = .ok (.iinc 10 1, 3) := by decide +kernel
theorem dX3_moving_160 : decode cX3_moving 160 = .ok (.goto (-93), 3) := by decide +kernel
theorem dX3_moving_163 : decode cX3_moving 163 = .ok (.aload_n 0, 1) := by decide +kernel
theorem dX3_moving_164 : decode cX3_moving 164 = .ok (.getfield 36, 3) := by decide +kernel
theorem dX3_moving_167 : decode cX3_moving 167 = .ok (.iload 9, 2) := by decide +kernel
theorem dX3_moving_169 : decode cX3_moving 169 = .ok (.ifCond .ne 7, 3) := by decide +kernel
theorem dX3_moving_172 : decode cX3_moving 172 = .ok (.iconst 5, 1) := by decide +kernel
theorem dX3_moving_173 : decode cX3_moving 173 = .ok (.goto 5, 3) := by decide +kernel
theorem dX3_moving_176 : decode cX3_moving 176 = .ok (.iload 9, 2) := by decide +kernel
theorem dX3_moving_178 : decode cX3_moving 178 = .ok (.dup2, 1) := by decide +kernel
theorem dX3_moving_179 : decode cX3_moving 179 = .ok (.iaload, 1) := by decide +kernel
theorem dX3_moving_180 : decode cX3_moving 180 = .ok (.iconst 1, 1) := by decide +kernel
theorem dX3_moving_181 : decode cX3_moving 181 = .ok (.iadd, 1) := by decide +kernel
theorem dX3_moving_182 : decode cX3_moving 182 = .ok (.iastore, 1) := by decide +kernel
theorem dX3_moving_183 : decode cX3_moving 183 = .ok (.iload 9, 2) := by decide +kernel
theorem dX3_moving_185 : decode cX3_moving 185 = .ok (.ireturn, 1) := by decide +kernel
theorem dX3_move_0 : decode cX3_move 0 = .ok (.iload_n 1, 1) := by decide +kernel
theorem dX3_move_1 : decode cX3_move 1 = .ok (.invokestatic 39, 3) := by decide +kernel
theorem dX3_move_4 : decode cX3_move 4 = .ok (.ifCond .eq 27, 3) := by decide +kernel
theorem dX3_move_7 : decode cX3_move 7 = .ok (.iload_n 3, 1) := by decide +kernel
theorem dX3_move_8 : decode cX3_move 8 = .ok (.invokestatic 39, 3) := by decide +kernel
theorem dX3_move_11 : decode cX3_move 11 = .ok (.ifCond .eq 20, 3) := by decide +kernel
theorem dX3_move_14 : decode cX3_move 14 = .ok (.aload_n 0, 1) := by decide +kernel
theorem dX3_move_15 : decode cX3_move 15 = .ok (.iload_n 1, 1) := by decide +kernel
theorem dX3_move_16 : decode cX3_move 16 = .ok (.iload_n 2, 1) := by decide +kernel
theorem dX3_move_17 : decode cX3_move 17 = .ok (.i2l, 1) := by decide +kernel
theorem dX3_move_18 : decode cX3_move 18 = .ok (.iload_n 3, 1) := by decide +kernel
theorem dX3_move_19 : decode cX3_move 19 = .ok (.iload 4, 2) := by decide +kernel
theorem dX3_move_21 : decode cX3_move 21 = .ok (.i2l, 1) := by decide +kernel
theorem dX3_move_22 : decode cX3_move 22 = .ok (.iload 5, 2) := by decide +kernel
theorem dX3_move_24 : decode cX3_move 24 = .ok (.i2l, 1) := by decide +kernel
theorem dX3_move_25 : decode cX3_move 25 = .ok (.invokevirtual 84, 3) := by decide +kernel
theorem dX3_move_28 : decode cX3_move 28 = .ok (.goto 4, 3) := by decide +kernel
theorem dX3_move_31 : decode cX3_move 31 = .ok (.iconst (-1), 1) := by decide +kernel
theorem dX3_move_32 : decode cX3_move 32 = .ok (.ireturn, 1) := by decide +kernel
theorem dX3_open_0 : decode cX3_open 0 = .ok (.iload_n 1, 1) := by decide +kernel
theorem dX3_open_1 : decode cX3_open 1 = .ok (.invokestatic 39, 3) := by decide +kernel
theorem dX3_open_4 : decode cX3_open 4 = .ok (.ifCond .ne 5, 3) := by decide +kernel
theorem dX3_open_7 : decode cX3_open 7 = .ok (.iconst (-1), 1) := by decide +kernel
theorem dX3_open_8 : decode cX3_open 8 = .ok (.ireturn, 1) := by decide +kernel
theorem dX3_open_9 : decode cX3_open 9 = .ok (.aload_n 0, 1) := by decide +kernel
theorem dX3_open_10 : decode cX3_open 10 = .ok (.iload_n 1, 1) := by decide +kernel
theorem dX3_open_11 : decode cX3_open 11 = .ok (.iload_n 2, 1) := by decide +kernel
theorem dX3_open_12 : decode cX3_open 12 = .ok (.i2l, 1) := by decide +kernel
theorem dX3_open_13 : decode cX3_open 13 = .ok (.iload_n 1, 1) := by decide +kernel
theorem dX3_open_14 : decode cX3_open 14 = .ok (.iload_n 2, 1) := by decide +kernel
theorem dX3_open_15 : decode cX3_open 15 = .ok (.i2l, 1) := by decide +kernel
theorem dX3_open_16 : decode cX3_open 16 = .ok (.lconst 1, 1) := by decide +kernel
theorem dX3_open_17 : decode cX3_open 17 = .ok (.ladd, 1) := by decide +kernel
theorem dX3_open_18 : decode cX3_open 18 = .ok (.aload_n 0, 1) := by decide +kernel
theorem dX3_open_19 : decode cX3_open 19 = .ok (.getfield 13, 3) := by decide +kernel
theorem dX3_open_22 : decode cX3_open 22 = .ok (.iload_n 1, 1) := by decide +kernel
theorem dX3_open_23 : decode cX3_open 23 = .ok (.iaload, 1) := by decide +kernel
theorem dX3_open_24 : decode cX3_open 24 = .ok (.i2l, 1) := by decide +kernel
theorem dX3_open_25 : decode cX3_open 25 = .ok (.lconst 1, 1) := by decide +kernel
theorem dX3_open_26 : decode cX3_open 26 = .ok (.lsub, 1) := by decide +kernel
theorem dX3_open_27 : decode cX3_open 27 = .ok (.iload_n 2, 1) := by decide +kernel
theorem dX3_open_28 : decode cX3_open 28 = .ok (.i2l, 1) := by decide +kernel
theorem dX3_open_29 : decode cX3_open 29 = .ok (.lsub, 1) := by decide +kernel
theorem dX3_open_30 : decode cX3_open 30 = .ok (.invokevirtual 84, 3) := by decide +kernel
theorem dX3_open_33 : decode cX3_open 33 = .ok (.istore_n 3, 1) := by decide +kernel
theorem dX3_open_34 : decode cX3_open 34 = .ok (.iload_n 3, 1) := by decide +kernel
theorem dX3_open_35 : decode cX3_open 35 = .ok (.ifCond .ne 19, 3) := by decide +kernel
theorem dX3_open_38 : decode cX3_open 38 = .ok (.aload_n 0, 1) := by decide +kernel
theorem dX3_open_39 : decode cX3_open 39 = .ok (.getfield 16, 3) := by decide +kernel
theorem dX3_open_42 : decode cX3_open 42 = .ok (.bipush 40, 2) := by decide +kernel
theorem dX3_open_44 : decode cX3_open 44 = .ok (.iload_n 1, 1) := by decide +kernel
theorem dX3_open_45 : decode cX3_open 45 = .ok (.imul, 1) := by decide +kernel
theorem dX3_open_46 : decode cX3_open 46 = .ok (.iload_n 2, 1) := by decide +kernel
theorem dX3_open_47 : decode cX3_open 47 = .ok (.iadd, 1) := by decide +kernel
theorem dX3_open_48 : decode cX3_open 48 = .ok (.aload_n 0, 1) := by decide +kernel
theorem dX3_open_49 : decode cX3_open 49 = .ok (.iload_n 1, 1) := by decide +kernel
theorem dX3_open_50 : decode cX3_open 50 = .ok (.invokevirtual 57, 3) := by decide +kernel
theorem dX3_open_53 : decode cX3_open 53 = .ok (.lastore, 1) := by decide +kernel
theorem dX3_open_54 : decode cX3_open 54 = .ok (.iload_n 3, 1) := by decide +kernel
theorem dX3_open_55 : decode cX3_open 55 = .ok (.ireturn, 1) := by decide +kernel
theorem dX3_close_0 : decode cX3_close 0 = .ok (.iload_n 1, 1) := by decide +kernel
theorem dX3_close_1 : decode cX3_close 1 = .ok (.invokestatic 39, 3) := by decide +kernel
theorem dX3_close_4 : decode cX3_close 4 = .ok (.ifCond .ne 5, 3) := by decide +kernel
theorem dX3_close_7 : decode cX3_close 7 = .ok (.iconst (-1), 1) := by decide +kernel
theorem dX3_close_8 : decode cX3_close 8 = .ok (.ireturn, 1) := by decide +kernel
theorem dX3_close_9 : decode cX3_close 9 = .ok (.aload_n 0, 1) := by decide +kernel
theorem dX3_close_10 : decode cX3_close 10 = .ok (.iload_n 1, 1) := by decide +kernel
theorem dX3_close_11 : decode cX3_close 11 = .ok (.iload_n 2, 1) := by decide +kernel
theorem dX3_close_12 : decode cX3_close 12 = .ok (.i2l, 1) := by decide +kernel
theorem dX3_close_13 : decode cX3_close 13 = .ok (.lconst 1, 1) := by decide +kernel
theorem dX3_close_14 : decode cX3_close 14 = .ok (.ladd, 1) := by decide +kernel
theorem dX3_close_15 : decode cX3_close 15 = .ok (.iload_n 1, 1) := by decide +kernel
theorem dX3_close_16 : decode cX3_close 16 = .ok (.iload_n 2, 1) := by decide +kernel
theorem dX3_close_17 : decode cX3_close 17 = .ok (.i2l, 1) := by decide +kernel
theorem dX3_close_18 : decode cX3_close 18 = .ok (.aload_n 0, 1) := by decide +kernel
theorem dX3_close_19 : decode cX3_close 19 = .ok (.getfield 13, 3) := by decide +kernel
theorem dX3_close_22 : decode cX3_close 22 = .ok (.iload_n 1, 1) := by decide +kernel
theorem dX3_close_23 : decode cX3_close 23 = .ok (.iaload, 1) := by decide +kernel
theorem dX3_close_24 : decode cX3_close 24 = .ok (.i2l, 1) := by decide +kernel
theorem dX3_close_25 : decode cX3_close 25 = .ok (.lconst 1, 1) := by decide +kernel
theorem dX3_close_26 : decode cX3_close 26 = .ok (.lsub, 1) := by decide +kernel
theorem dX3_close_27 : decode cX3_close 27 = .ok (.iload_n 2, 1) := by decide +kernel
theorem dX3_close_28 : decode cX3_close 28 = .ok (.i2l, 1) := by decide +kernel
theorem dX3_close_29 : decode cX3_close 29 = .ok (.lsub, 1) := by decide +kernel
theorem dX3_close_30 : decode cX3_close 30 = .ok (.invokevirtual 84, 3) := by decide +kernel
theorem dX3_close_33 : decode cX3_close 33 = .ok (.istore_n 3, 1) := by decide +kernel
theorem dX3_close_34 : decode cX3_close 34 = .ok (.iload_n 3, 1) := by decide +kernel
theorem dX3_close_35 : decode cX3_close 35 = .ok (.ifCond .ne 26, 3) := by decide +kernel
theorem dX3_close_38 : decode cX3_close 38 = .ok (.aload_n 0, 1) := by decide +kernel
theorem dX3_close_39 : decode cX3_close 39 = .ok (.getfield 16, 3) := by decide +kernel
theorem dX3_close_42 : decode cX3_close 42 = .ok (.bipush 40, 2) := by decide +kernel
theorem dX3_close_44 : decode cX3_close 44 = .ok (.iload_n 1, 1) := by decide +kernel
theorem dX3_close_45 : decode cX3_close 45 = .ok (.imul, 1) := by decide +kernel
theorem dX3_close_46 : decode cX3_close 46 = .ok (.aload_n 0, 1) := by decide +kernel
theorem dX3_close_47 : decode cX3_close 47 = .ok (.getfield 13, 3) := by decide +kernel
theorem dX3_close_50 : decode cX3_close 50 = .ok (.iload_n 1, 1) := by decide +kernel
theorem dX3_close_51 : decode cX3_close 51 = .ok (.iaload, 1) := by decide +kernel
theorem dX3_close_52 : decode cX3_close 52 = .ok (.iadd, 1) := by decide +kernel
theorem dX3_close_53 : decode cX3_close 53 = .ok (.iconst 1, 1) := by decide +kernel
theorem dX3_close_54 : decode cX3_close 54 = .ok (.isub, 1) := by decide +kernel
theorem dX3_close_55 : decode cX3_close 55 = .ok (.aload_n 0, 1) := by decide +kernel
theorem dX3_close_56 : decode cX3_close 56 = .ok (.iload_n 1, 1) := by decide +kernel
theorem dX3_close_57 : decode cX3_close 57 = .ok (.invokevirtual 57, 3) := by decide +kernel
theorem dX3_close_60 : decode cX3_close 60 = .ok (.lastore, 1) := by decide +kernel
theorem dX3_close_61 : decode cX3_close 61 = .ok (.iload_n 3, 1) := by decide +kernel
theorem dX3_close_62 : decode cX3_close 62 = .ok (.ireturn, 1) := by decide +kernel
theorem dX3_turn_0 : decode cX3_turn 0 = .ok (.iload_n 1, 1) := by decide +kernel
theorem dX3_turn_1 : decode cX3_turn 1 = .ok (.invokestatic 39, 3) := by decide +kernel
theorem dX3_turn_4 : decode cX3_turn 4 = .ok (.ifCond .ne 5, 3) := by decide +kernel
theorem dX3_turn_7 : decode cX3_turn 7 = .ok (.iconst (-1), 1) := by decide +kernel
theorem dX3_turn_8 : decode cX3_turn 8 = .ok (.ireturn, 1) := by decide +kernel
theorem dX3_turn_9 : decode cX3_turn 9 = .ok (.aload_n 0, 1) := by decide +kernel
theorem dX3_turn_10 : decode cX3_turn 10 = .ok (.getfield 7, 3) := by decide +kernel
theorem dX3_turn_13 : decode cX3_turn 13 = .ok (.iload_n 1, 1) := by decide +kernel
theorem dX3_turn_14 : decode cX3_turn 14 = .ok (.iaload, 1) := by decide +kernel
theorem dX3_turn_15 : decode cX3_turn 15 = .ok (.ifCond .ne 5, 3) := by decide +kernel
theorem dX3_turn_18 : decode cX3_turn 18 = .ok (.iconst 1, 1) := by decide +kernel
theorem dX3_turn_19 : decode cX3_turn 19 = .ok (.ireturn, 1) := by decide +kernel
theorem dX3_turn_20 : decode cX3_turn 20 = .ok (.aload_n 0, 1) := by decide +kernel
theorem dX3_turn_21 : decode cX3_turn 21 = .ok (.getfield 7, 3) := by decide +kernel
theorem dX3_turn_24 : decode cX3_turn 24 = .ok (.iload_n 1, 1) := by decide +kernel
theorem dX3_turn_25 : decode cX3_turn 25 = .ok (.iaload, 1) := by decide +kernel
theorem dX3_turn_26 : decode cX3_turn 26 = .ok (.bipush 9, 2) := by decide +kernel
theorem dX3_turn_28 : decode cX3_turn 28 = .ok (.if_icmp .ne 5, 3) := by decide +kernel
theorem dX3_turn_31 : decode cX3_turn 31 = .ok (.iconst 2, 1) := by decide +kernel
theorem dX3_turn_32 : decode cX3_turn 32 = .ok (.ireturn, 1) := by decide +kernel
theorem dX3_turn_33 : decode cX3_turn 33 = .ok (.aload_n 0, 1) := by decide +kernel
theorem dX3_turn_34 : decode cX3_turn 34 = .ok (.getfield 13, 3) := by decide +kernel
theorem dX3_turn_37 : decode cX3_turn 37 = .ok (.iload_n 1, 1) := by decide +kernel
theorem dX3_turn_38 : decode cX3_turn 38 = .ok (.iaload, 1) := by decide +kernel
theorem dX3_turn_39 : decode cX3_turn 39 = .ok (.istore_n 3, 1) := by decide +kernel
theorem dX3_turn_40 : decode cX3_turn 40 = .ok (.iconst 0, 1) := by decide +kernel
theorem dX3_turn_41 : decode cX3_turn 41 = .ok (.istore 4, 2) := by decide +kernel
theorem dX3_turn_43 : decode cX3_turn 43 = .ok (.iload 4, 2) := by decide +kernel
theorem dX3_turn_45 : decode cX3_turn 45 = .ok (.iload_n 3, 1) := by decide +kernel
theorem dX3_turn_46 : decode cX3_turn 46 = .ok (.if_icmp .ge 28, 3) := by decide +kernel
theorem dX3_turn_49 : decode cX3_turn 49 = .ok (.aload_n 0, 1) := by decide +kernel
theorem dX3_turn_50 : decode cX3_turn 50 = .ok (.getfield 23, 3) := by decide +kernel
theorem dX3_turn_53 : decode cX3_turn 53 = .ok (.iload 4, 2) := by decide +kernel
theorem dX3_turn_55 : decode cX3_turn 55 = .ok (.aload_n 0, 1) := by decide +kernel
theorem dX3_turn_56 : decode cX3_turn 56 = .ok (.getfield 16, 3) := by decide +kernel
theorem dX3_turn_59 : decode cX3_turn 59 = .ok (.bipush 40, 2) := by decide +kernel
theorem dX3_turn_61 : decode cX3_turn 61 = .ok (.iload_n 1, 1) := by decide +kernel
theorem dX3_turn_62 : decode cX3_turn 62 = .ok (.imul, 1) := by decide +kernel
theorem dX3_turn_63 : decode cX3_turn 63 = .ok (.iload 4, 2) := by decide +kernel
theorem dX3_turn_65 : decode cX3_turn 65 = .ok (.iadd, 1) := by decide +kernel
theorem dX3_turn_66 : decode cX3_turn 66 = .ok (.laload, 1) := by decide +kernel
theorem dX3_turn_67 : decode cX3_turn 67 = .ok (.lastore, 1) := by decide +kernel
theorem dX3_turn_68 : decode cX3_turn 68 = .ok (.iinc 4 1, 3) := by decide +kernel
theorem dX3_turn_71 : decode cX3_turn 71 = .ok (.goto (-28), 3) := by decide +kernel
theorem dX3_turn_74 : decode cX3_turn 74 = .ok (.iconst 0, 1) := by decide +kernel
theorem dX3_turn_75 : decode cX3_turn 75 = .ok (.istore 4, 2) := by decide +kernel
theorem dX3_turn_77 : decode cX3_turn 77 = .ok (.iload 4, 2) := by decide +kernel
theorem dX3_turn_79 : decode cX3_turn 79 = .ok (.iload_n 3, 1) := by decide +kernel
theorem dX3_turn_80 : decode cX3_turn 80 = .ok (.if_icmp .ge 54, 3) := by decide +kernel
theorem dX3_turn_83 : decode cX3_turn 83 = .ok (.iload 4, 2) := by decide +kernel
theorem dX3_turn_85 : decode cX3_turn 85 = .ok (.i2l, 1) := by decide +kernel
theorem dX3_turn_86 : decode cX3_turn 86 = .ok (.iload_n 2, 1) := by decide +kernel
theorem dX3_turn_87 : decode cX3_turn 87 = .ok (.i2l, 1) := by decide +kernel
theorem dX3_turn_88 : decode cX3_turn 88 = .ok (.ladd, 1) := by decide +kernel
theorem dX3_turn_89 : decode cX3_turn 89 = .ok (.iload_n 3, 1) := by decide +kernel
theorem dX3_turn_90 : decode cX3_turn 90 = .ok (.i2l, 1) := by decide +kernel
theorem dX3_turn_91 : decode cX3_turn 91 = .ok (.lrem, 1) := by decide +kernel
theorem dX3_turn_92 : decode cX3_turn 92 = .ok (.lstore 5, 2) := by decide +kernel
theorem dX3_turn_94 : decode cX3_turn 94 = .ok (.lload 5, 2) := by decide +kernel
theorem dX3_turn_96 : decode cX3_turn 96 = .ok (.lconst 0, 1) := by decide +kernel
theorem dX3_turn_97 : decode cX3_turn 97 = .ok (.lcmp, 1) := by decide +kernel
theorem dX3_turn_98 : decode cX3_turn 98 = .ok (.ifCond .ge 10, 3) := by decide +kernel
theorem dX3_turn_101 : decode cX3_turn 101 = .ok (.lload 5, 2) := by decide +kernel
theorem dX3_turn_103 : decode cX3_turn 103 = .ok (.iload_n 3, 1) := by decide +kernel
theorem dX3_turn_104 : decode cX3_turn 104 = .ok (.i2l, 1) := by decide +kernel
theorem dX3_turn_105 : decode cX3_turn 105 = .ok (.ladd, 1) := by decide +kernel
theorem dX3_turn_106 : decode cX3_turn 106 = .ok (.lstore 5, 2) := by decide +kernel
theorem dX3_turn_108 : decode cX3_turn 108 = .ok (.aload_n 0, 1) := by decide +kernel
theorem dX3_turn_109 : decode cX3_turn 109 = .ok (.getfield 16, 3) := by decide +kernel
theorem dX3_turn_112 : decode cX3_turn 112 = .ok (.bipush 40, 2) := by decide +kernel
theorem dX3_turn_114 : decode cX3_turn 114 = .ok (.iload_n 1, 1) := by decide +kernel
theorem dX3_turn_115 : decode cX3_turn 115 = .ok (.imul, 1) := by decide +kernel
theorem dX3_turn_116 : decode cX3_turn 116 = .ok (.lload 5, 2) := by decide +kernel
theorem dX3_turn_118 : decode cX3_turn 118 = .ok (.l2i, 1) := by decide +kernel
theorem dX3_turn_119 : decode cX3_turn 119 = .ok (.iadd, 1) := by decide +kernel
theorem dX3_turn_120 : decode cX3_turn 120 = .ok (.aload_n 0, 1) := by decide +kernel
theorem dX3_turn_121 : decode cX3_turn 121 = .ok (.getfield 23, 3) := by decide +kernel
theorem dX3_turn_124 : decode cX3_turn 124 = .ok (.iload 4, 2) := by decide +kernel
theorem dX3_turn_126 : decode cX3_turn 126 = .ok (.laload, 1) := by decide +kernel
theorem dX3_turn_127 : decode cX3_turn 127 = .ok (.lastore, 1) := by decide +kernel
theorem dX3_turn_128 : decode cX3_turn 128 = .ok (.iinc 4 1, 3) := by decide +kernel
theorem dX3_turn_131 : decode cX3_turn 131 = .ok (.goto (-54), 3) := by decide +kernel
theorem dX3_turn_134 : decode cX3_turn 134 = .ok (.iconst 0, 1) := by decide +kernel
theorem dX3_turn_135 : decode cX3_turn 135 = .ok (.ireturn, 1) := by decide +kernel
theorem dX3_step_0 : decode cX3_step 0 = .ok (.iload_n 1, 1) := by decide +kernel
theorem dX3_step_1 : decode cX3_step 1 = .ok (.invokestatic 39, 3) := by decide +kernel
theorem dX3_step_4 : decode cX3_step 4 = .ok (.ifCond .eq 19, 3) := by decide +kernel
theorem dX3_step_7 : decode cX3_step 7 = .ok (.iload_n 3, 1) := by decide +kernel
theorem dX3_step_8 : decode cX3_step 8 = .ok (.invokestatic 39, 3) := by decide +kernel
theorem dX3_step_11 : decode cX3_step 11 = .ok (.ifCond .eq 12, 3) := by decide +kernel
theorem dX3_step_14 : decode cX3_step 14 = .ok (.aload_n 0, 1) := by decide +kernel
theorem dX3_step_15 : decode cX3_step 15 = .ok (.getfield 87, 3) := by decide +kernel
theorem dX3_step_18 : decode cX3_step 18 = .ok (.bipush 24, 2) := by decide +kernel
theorem dX3_step_20 : decode cX3_step 20 = .ok (.if_icmp .ne 5, 3) := by decide +kernel
theorem dX3_step_23 : decode cX3_step 23 = .ok (.iconst (-1), 1) := by decide +kernel
theorem dX3_step_24 : decode cX3_step 24 = .ok (.ireturn, 1) := by decide +kernel
theorem dX3_step_25 : decode cX3_step 25 = .ok (.iconst 5, 1) := by decide +kernel
theorem dX3_step_26 : decode cX3_step 26 = .ok (.aload_n 0, 1) := by decide +kernel
theorem dX3_step_27 : decode cX3_step 27 = .ok (.getfield 87, 3) := by decide +kernel
theorem dX3_step_30 : decode cX3_step 30 = .ok (.imul, 1) := by decide +kernel
theorem dX3_step_31 : decode cX3_step 31 = .ok (.istore 6, 2) := by decide +kernel
theorem dX3_step_33 : decode cX3_step 33 = .ok (.aload_n 0, 1) := by decide +kernel
theorem dX3_step_34 : decode cX3_step 34 = .ok (.getfield 33, 3) := by decide +kernel
theorem dX3_step_37 : decode cX3_step 37 = .ok (.iload 6, 2) := by decide +kernel
theorem dX3_step_39 : decode cX3_step 39 = .ok (.iload_n 1, 1) := by decide +kernel
theorem dX3_step_40 : decode cX3_step 40 = .ok (.iastore, 1) := by decide +kernel
theorem dX3_step_41 : decode cX3_step 41 = .ok (.aload_n 0, 1) := by decide +kernel
theorem dX3_step_42 : decode cX3_step 42 = .ok (.getfield 33, 3) := by decide +kernel
theorem dX3_step_45 : decode cX3_step 45 = .ok (.iload 6, 2) := by decide +kernel
theorem dX3_step_47 : decode cX3_step 47 = .ok (.iconst 1, 1) := by decide +kernel
theorem dX3_step_48 : decode cX3_step 48 = .ok (.iadd, 1) := by decide +kernel
theorem dX3_step_49 : decode cX3_step 49 = .ok (.iload_n 2, 1) := by decide +kernel
theorem dX3_step_50 : decode cX3_step 50 = .ok (.iastore, 1) := by decide +kernel
theorem dX3_step_51 : decode cX3_step 51 = .ok (.aload_n 0, 1) := by decide +kernel
theorem dX3_step_52 : decode cX3_step 52 = .ok (.getfield 33, 3) := by decide +kernel
theorem dX3_step_55 : decode cX3_step 55 = .ok (.iload 6, 2) := by decide +kernel
theorem dX3_step_57 : decode cX3_step 57 = .ok (.iconst 2, 1) := by decide +kernel
theorem dX3_step_58 : decode cX3_step 58 = .ok (.iadd, 1) := by decide +kernel
theorem dX3_step_59 : decode cX3_step 59 = .ok (.iload_n 3, 1) := by decide +kernel
theorem dX3_step_60 : decode cX3_step 60 = .ok (.iastore, 1) := by decide +kernel
theorem dX3_step_61 : decode cX3_step 61 = .ok (.aload_n 0, 1) := by decide +kernel
theorem dX3_step_62 : decode cX3_step 62 = .ok (.getfield 33, 3) := by decide +kernel
theorem dX3_step_65 : decode cX3_step 65 = .ok (.iload 6, 2) := by decide +kernel
theorem dX3_step_67 : decode cX3_step 67 = .ok (.iconst 3, 1) := by decide +kernel
theorem dX3_step_68 : decode cX3_step 68 = .ok (.iadd, 1) := by decide +kernel
theorem dX3_step_69 : decode cX3_step 69 = .ok (.iload 4, 2) := by decide +kernel
theorem dX3_step_71 : decode cX3_step 71 = .ok (.iastore, 1) := by decide +kernel
theorem dX3_step_72 : decode cX3_step 72 = .ok (.aload_n 0, 1) := by decide +kernel
theorem dX3_step_73 : decode cX3_step 73 = .ok (.getfield 33, 3) := by decide +kernel
theorem dX3_step_76 : decode cX3_step 76 = .ok (.iload 6, 2) := by decide +kernel
theorem dX3_step_78 : decode cX3_step 78 = .ok (.iconst 4, 1) := by decide +kernel
theorem dX3_step_79 : decode cX3_step 79 = .ok (.iadd, 1) := by decide +kernel
theorem dX3_step_80 : decode cX3_step 80 = .ok (.iload 5, 2) := by decide +kernel
theorem dX3_step_82 : decode cX3_step 82 = .ok (.iastore, 1) := by decide +kernel
theorem dX3_step_83 : decode cX3_step 83 = .ok (.aload_n 0, 1) := by decide +kernel
theorem dX3_step_84 : decode cX3_step 84 = .ok (.dup, 1) := by decide +kernel
theorem dX3_step_85 : decode cX3_step 85 = .ok (.getfield 87, 3) := by decide +kernel
theorem dX3_step_88 : decode cX3_step 88 = .ok (.iconst 1, 1) := by decide +kernel
theorem dX3_step_89 : decode cX3_step 89 = .ok (.iadd, 1) := by decide +kernel
theorem dX3_step_90 : decode cX3_step 90 = .ok (.putfield 87, 3) := by decide +kernel
theorem dX3_step_93 : decode cX3_step 93 = .ok (.aload_n 0, 1) := by decide +kernel
theorem dX3_step_94 : decode cX3_step 94 = .ok (.getfield 87, 3) := by decide +kernel
theorem dX3_step_97 : decode cX3_step 97 = .ok (.ireturn, 1) := by decide +kernel
theorem dX3_forget_0 : decode cX3_forget 0 = .ok (.aload_n 0, 1) := by decide +kernel
theorem dX3_forget_1 : decode cX3_forget 1 = .ok (.getfield 87, 3) := by decide +kernel
theorem dX3_forget_4 : decode cX3_forget 4 = .ok (.istore_n 1, 1) := by decide +kernel
theorem dX3_forget_5 : decode cX3_forget 5 = .ok (.aload_n 0, 1) := by decide +kernel
theorem dX3_forget_6 : decode cX3_forget 6 = .ok (.iconst 0, 1) := by decide +kernel
theorem dX3_forget_7 : decode cX3_forget 7 = .ok (.putfield 87, 3) := by decide +kernel
theorem dX3_forget_10 : decode cX3_forget 10 = .ok (.iload_n 1, 1) := by decide +kernel
theorem dX3_forget_11 : decode cX3_forget 11 = .ok (.ireturn, 1) := by decide +kernel
theorem dX3_doStep_0 : decode cX3_doStep 0 = .ok (.iconst 5, 1) := by decide +kernel
theorem dX3_doStep_1 : decode cX3_doStep 1 = .ok (.iload_n 1, 1) := by decide +kernel
theorem dX3_doStep_2 : decode cX3_doStep 2 = .ok (.imul, 1) := by decide +kernel
theorem dX3_doStep_3 : decode cX3_doStep 3 = .ok (.istore_n 2, 1) := by decide +kernel
theorem dX3_doStep_4 : decode cX3_doStep 4 = .ok (.aload_n 0, 1) := by decide +kernel
theorem dX3_doStep_5 : decode cX3_doStep 5 = .ok (.aload_n 0, 1) := by decide +kernel
theorem dX3_doStep_6 : decode cX3_doStep 6 = .ok (.getfield 33, 3) := by decide +kernel
theorem dX3_doStep_9 : decode cX3_doStep 9 = .ok (.iload_n 2, 1) := by decide +kernel
theorem dX3_doStep_10 : decode cX3_doStep 10 = .ok (.iaload, 1) := by decide +kernel
theorem dX3_doStep_11 : decode cX3_doStep 11 = .ok (.aload_n 0, 1) := by decide +kernel
theorem dX3_doStep_12 : decode cX3_doStep 12 = .ok (.getfield 33, 3) := by decide +kernel
theorem dX3_doStep_15 : decode cX3_doStep 15 = .ok (.iload_n 2, 1) := by decide +kernel
theorem dX3_doStep_16 : decode cX3_doStep 16 = .ok (.iconst 1, 1) := by decide +kernel
theorem dX3_doStep_17 : decode cX3_doStep 17 = .ok (.iadd, 1) := by decide +kernel
theorem dX3_doStep_18 : decode cX3_doStep 18 = .ok (.iaload, 1) := by decide +kernel
theorem dX3_doStep_19 : decode cX3_doStep 19 = .ok (.i2l, 1) := by decide +kernel
theorem dX3_doStep_20 : decode cX3_doStep 20 = .ok (.aload_n 0, 1) := by decide +kernel
theorem dX3_doStep_21 : decode cX3_doStep 21 = .ok (.getfield 33, 3) := by decide +kernel
theorem dX3_doStep_24 : decode cX3_doStep 24 = .ok (.iload_n 2, 1) := by decide +kernel
theorem dX3_doStep_25 : decode cX3_doStep 25 = .ok (.iconst 2, 1) := by decide +kernel
theorem dX3_doStep_26 : decode cX3_doStep 26 = .ok (.iadd, 1) := by decide +kernel
theorem dX3_doStep_27 : decode cX3_doStep 27 = .ok (.iaload, 1) := by decide +kernel
theorem dX3_doStep_28 : decode cX3_doStep 28 = .ok (.aload_n 0, 1) := by decide +kernel
theorem dX3_doStep_29 : decode cX3_doStep 29 = .ok (.getfield 33, 3) := by decide +kernel
theorem dX3_doStep_32 : decode cX3_doStep 32 = .ok (.iload_n 2, 1) := by decide +kernel
theorem dX3_doStep_33 : decode cX3_doStep 33 = .ok (.iconst 3, 1) := by decide +kernel
theorem dX3_doStep_34 : decode cX3_doStep 34 = .ok (.iadd, 1) := by decide +kernel
theorem dX3_doStep_35 : decode cX3_doStep 35 = .ok (.iaload, 1) := by decide +kernel
theorem dX3_doStep_36 : decode cX3_doStep 36 = .ok (.i2l, 1) := by decide +kernel
theorem dX3_doStep_37 : decode cX3_doStep 37 = .ok (.aload_n 0, 1) := by decide +kernel
theorem dX3_doStep_38 : decode cX3_doStep 38 = .ok (.getfield 33, 3) := by decide +kernel
theorem dX3_doStep_41 : decode cX3_doStep 41 = .ok (.iload_n 2, 1) := by decide +kernel
theorem dX3_doStep_42 : decode cX3_doStep 42 = .ok (.iconst 4, 1) := by decide +kernel
theorem dX3_doStep_43 : decode cX3_doStep 43 = .ok (.iadd, 1) := by decide +kernel
theorem dX3_doStep_44 : decode cX3_doStep 44 = .ok (.iaload, 1) := by decide +kernel
theorem dX3_doStep_45 : decode cX3_doStep 45 = .ok (.i2l, 1) := by decide +kernel
theorem dX3_doStep_46 : decode cX3_doStep 46 = .ok (.invokevirtual 84, 3) := by decide +kernel
theorem dX3_doStep_49 : decode cX3_doStep 49 = .ok (.ireturn, 1) := by decide +kernel
theorem dX3_weave_0 : decode cX3_weave 0 = .ok (.iload_n 1, 1) := by decide +kernel
theorem dX3_weave_1 : decode cX3_weave 1 = .ok (.iconst 1, 1) := by decide +kernel
theorem dX3_weave_2 : decode cX3_weave 2 = .ok (.if_icmp .lt 16, 3) := by decide +kernel
theorem dX3_weave_5 : decode cX3_weave 5 = .ok (.iload_n 1, 1) := by decide +kernel
theorem dX3_weave_6 : decode cX3_weave 6 = .ok (.bipush 50, 2) := by decide +kernel
theorem dX3_weave_8 : decode cX3_weave 8 = .ok (.if_icmp .gt 10, 3) := by decide +kernel
theorem dX3_weave_11 : decode cX3_weave 11 = .ok (.aload_n 0, 1) := by decide +kernel
theorem dX3_weave_12 : decode cX3_weave 12 = .ok (.getfield 87, 3) := by decide +kernel
theorem dX3_weave_15 : decode cX3_weave 15 = .ok (.ifCond .ne 5, 3) := by decide +kernel
theorem dX3_weave_18 : decode cX3_weave 18 = .ok (.iconst (-1), 1) := by decide +kernel
theorem dX3_weave_19 : decode cX3_weave 19 = .ok (.ireturn, 1) := by decide +kernel
theorem dX3_weave_20 : decode cX3_weave 20 = .ok (.iconst 0, 1) := by decide +kernel
theorem dX3_weave_21 : decode cX3_weave 21 = .ok (.istore_n 3, 1) := by decide +kernel
theorem dX3_weave_22 : decode cX3_weave 22 = .ok (.iconst 0, 1) := by decide +kernel
theorem dX3_weave_23 : decode cX3_weave 23 = .ok (.istore 4, 2) := by decide +kernel
theorem dX3_weave_25 : decode cX3_weave 25 = .ok (.iload 4, 2) := by decide +kernel
theorem dX3_weave_27 : decode cX3_weave 27 = .ok (.iload_n 1, 1) := by decide +kernel
theorem dX3_weave_28 : decode cX3_weave 28 = .ok (.if_icmp .ge 162, 3) := by decide +kernel
theorem dX3_weave_31 : decode cX3_weave 31 = .ok (.iconst 0, 1) := by decide +kernel
theorem dX3_weave_32 : decode cX3_weave 32 = .ok (.istore 5, 2) := by decide +kernel
theorem dX3_weave_34 : decode cX3_weave 34 = .ok (.iload 5, 2) := by decide +kernel
theorem dX3_weave_36 : decode cX3_weave 36 = .ok (.sipush 320, 3) := by decide +kernel
theorem dX3_weave_39 : decode cX3_weave 39 = .ok (.if_icmp .ge 23, 3) := by decide +kernel
theorem dX3_weave_42 : decode cX3_weave 42 = .ok (.aload_n 0, 1) := by decide +kernel
theorem dX3_weave_43 : decode cX3_weave 43 = .ok (.getfield 20, 3) := by decide +kernel
theorem dX3_weave_46 : decode cX3_weave 46 = .ok (.iload 5, 2) := by decide +kernel
theorem dX3_weave_48 : decode cX3_weave 48 = .ok (.aload_n 0, 1) := by decide +kernel
theorem dX3_weave_49 : decode cX3_weave 49 = .ok (.getfield 16, 3) := by decide +kernel
theorem dX3_weave_52 : decode cX3_weave 52 = .ok (.iload 5, 2) := by decide +kernel
theorem dX3_weave_54 : decode cX3_weave 54 = .ok (.laload, 1) := by decide +kernel
theorem dX3_weave_55 : decode cX3_weave 55 = .ok (.lastore, 1) := by decide +kernel
theorem dX3_weave_56 : decode cX3_weave 56 = .ok (.iinc 5 1, 3) := by decide +kernel
theorem dX3_weave_59 : decode cX3_weave 59 = .ok (.goto (-25), 3) := by decide +kernel
theorem dX3_weave_62 : decode cX3_weave 62 = .ok (.iconst 0, 1) := by decide +kernel
theorem dX3_weave_63 : decode cX3_weave 63 = .ok (.istore 5, 2) := by decide +kernel
theorem dX3_weave_65 : decode cX3_weave 65 = .ok (.iconst 0, 1) := by decide +kernel
theorem dX3_weave_66 : decode cX3_weave 66 = .ok (.istore 6, 2) := by decide +kernel
theorem dX3_weave_68 : decode cX3_weave 68 = .ok (.iconst 0, 1) := by decide +kernel
theorem dX3_weave_69 : decode cX3_weave 69 = .ok (.istore 7, 2) := by decide +kernel
theorem dX3_weave_71 : decode cX3_weave 71 = .ok (.iload 7, 2) := by decide +kernel
theorem dX3_weave_73 : decode cX3_weave 73 = .ok (.aload_n 0, 1) := by decide +kernel
theorem dX3_weave_74 : decode cX3_weave 74 = .ok (.getfield 87, 3) := by decide +kernel
theorem dX3_weave_77 : decode cX3_weave 77 = .ok (.if_icmp .ge 45, 3) := by decide +kernel
theorem dX3_weave_80 : decode cX3_weave 80 = .ok (.iload 6, 2) := by decide +kernel
theorem dX3_weave_82 : decode cX3_weave 82 = .ok (.ifCond .ne 40, 3) := by decide +kernel
theorem dX3_weave_85 : decode cX3_weave 85 = .ok (.aload_n 0, 1) := by decide +kernel
theorem dX3_weave_86 : decode cX3_weave 86 = .ok (.iload 7, 2) := by decide +kernel
theorem dX3_weave_88 : decode cX3_weave 88 = .ok (.invokevirtual 90, 3) := by decide +kernel
theorem dX3_weave_91 : decode cX3_weave 91 = .ok (.ifCond .eq 7, 3) := by decide +kernel
theorem dX3_weave_94 : decode cX3_weave 94 = .ok (.iconst 1, 1) := by decide +kernel
theorem dX3_weave_95 : decode cX3_weave 95 = .ok (.goto 4, 3) := by decide +kernel
theorem dX3_weave_98 : decode cX3_weave 98 = .ok (.iconst 0, 1) := by decide +kernel
theorem dX3_weave_99 : decode cX3_weave 99 = .ok (.istore 6, 2) := by decide +kernel
theorem dX3_weave_101 : decode cX3_weave 101 = .ok (.iload 5, 2) := by decide +kernel
theorem dX3_weave_103 : decode cX3_weave 103 = .ok (.iload 6, 2) := by decide +kernel
theorem dX3_weave_105 : decode cX3_weave 105 = .ok (.ifCond .eq 7, 3) := by decide +kernel
theorem dX3_weave_108 : decode cX3_weave 108 = .ok (.iconst 0, 1) := by decide +kernel
theorem dX3_weave_109 : decode cX3_weave 109 = .ok (.goto 4, 3) := by decide +kernel
theorem dX3_weave_112 : decode cX3_weave 112 = .ok (.iconst 1, 1) := by decide +kernel
theorem dX3_weave_113 : decode cX3_weave 113 = .ok (.iadd, 1) := by decide +kernel
theorem dX3_weave_114 : decode cX3_weave 114 = .ok (.istore 5, 2) := by decide +kernel
theorem dX3_weave_116 : decode cX3_weave 116 = .ok (.iinc 7 1, 3) := by decide +kernel
theorem dX3_weave_119 : decode cX3_weave 119 = .ok (.goto (-48), 3) := by decide +kernel
theorem dX3_weave_122 : decode cX3_weave 122 = .ok (.iload 6, 2) := by decide +kernel
theorem dX3_weave_124 : decode cX3_weave 124 = .ok (.ifCond .eq 45, 3) := by decide +kernel
theorem dX3_weave_127 : decode cX3_weave 127 = .ok (.iload_n 2, 1) := by decide +kernel
theorem dX3_weave_128 : decode cX3_weave 128 = .ok (.ifCond .ne 8, 3) := by decide +kernel
theorem dX3_weave_131 : decode cX3_weave 131 = .ok (.iload_n 3, 1) := by decide +kernel
theorem dX3_weave_132 : decode cX3_weave 132 = .ok (.iload 5, 2) := by decide +kernel
theorem dX3_weave_134 : decode cX3_weave 134 = .ok (.iadd, 1) := by decide +kernel
theorem dX3_weave_135 : decode cX3_weave 135 = .ok (.ireturn, 1) := by decide +kernel
theorem dX3_weave_136 : decode cX3_weave 136 = .ok (.iconst 0, 1) := by decide +kernel
theorem dX3_weave_137 : decode cX3_weave 137 = .ok (.istore 7, 2) := by decide +kernel
theorem dX3_weave_139 : decode cX3_weave 139 = .ok (.iload 7, 2) := by decide +kernel
theorem dX3_weave_141 : decode cX3_weave 141 = .ok (.sipush 320, 3) := by decide +kernel
theorem dX3_weave_144 : decode cX3_weave 144 = .ok (.if_icmp .ge 23, 3) := by decide +kernel
theorem dX3_weave_147 : decode cX3_weave 147 = .ok (.aload_n 0, 1) := by decide +kernel
theorem dX3_weave_148 : decode cX3_weave 148 = .ok (.getfield 16, 3) := by decide +kernel
theorem dX3_weave_151 : decode cX3_weave 151 = .ok (.iload 7, 2) := by decide +kernel
theorem dX3_weave_153 : decode cX3_weave 153 = .ok (.aload_n 0, 1) := by decide +kernel
theorem dX3_weave_154 : decode cX3_weave 154 = .ok (.getfield 20, 3) := by decide +kernel
theorem dX3_weave_157 : decode cX3_weave 157 = .ok (.iload 7, 2) := by decide +kernel
theorem dX3_weave_159 : decode cX3_weave 159 = .ok (.laload, 1) := by decide +kernel
theorem dX3_weave_160 : decode cX3_weave 160 = .ok (.lastore, 1) := by decide +kernel
theorem dX3_weave_161 : decode cX3_weave 161 = .ok (.iinc 7 1, 3) := by decide +kernel
theorem dX3_weave_164 : decode cX3_weave 164 = .ok (.goto (-25), 3) := by decide +kernel
theorem dX3_weave_167 : decode cX3_weave 167 = .ok (.iload_n 3, 1) := by decide +kernel
theorem dX3_weave_168 : decode cX3_weave 168 = .ok (.ireturn, 1) := by decide +kernel
theorem dX3_weave_169 : decode cX3_weave 169 = .ok (.iload_n 3, 1) := by decide +kernel
theorem dX3_weave_170 : decode cX3_weave 170 = .ok (.iload 5, 2) := by decide +kernel
theorem dX3_weave_172 : decode cX3_weave 172 = .ok (.iadd, 1) := by decide +kernel
theorem dX3_weave_173 : decode cX3_weave 173 = .ok (.istore_n 3, 1) := by decide +kernel
theorem dX3_weave_174 : decode cX3_weave 174 = .ok (.aload_n 0, 1) := by decide +kernel
theorem dX3_weave_175 : decode cX3_weave 175 = .ok (.dup, 1) := by decide +kernel
theorem dX3_weave_176 : decode cX3_weave 176 = .ok (.getfield 94, 3) := by decide +kernel
theorem dX3_weave_179 : decode cX3_weave 179 = .ok (.iconst 1, 1) := by decide +kernel
theorem dX3_weave_180 : decode cX3_weave 180 = .ok (.iadd, 1) := by decide +kernel
theorem dX3_weave_181 : decode cX3_weave 181 = .ok (.putfield 94, 3) := by decide +kernel
theorem dX3_weave_184 : decode cX3_weave 184 = .ok (.iinc 4 1, 3) := by decide +kernel
theorem dX3_weave_187 : decode cX3_weave 187 = .ok (.goto (-162), 3) := by decide +kernel
theorem dX3_weave_190 : decode cX3_weave 190 = .ok (.iload_n 3, 1) := by decide +kernel
theorem dX3_weave_191 : decode cX3_weave 191 = .ok (.ireturn, 1) := by decide +kernel
theorem dX3_areAlike_0 : decode cX3_areAlike 0 = .ok (.aload_n 0, 1) := by decide +kernel
theorem dX3_areAlike_1 : decode cX3_areAlike 1 = .ok (.iload_n 1, 1) := by decide +kernel
theorem dX3_areAlike_2 : decode cX3_areAlike 2 = .ok (.invokevirtual 97, 3) := by decide +kernel
theorem dX3_areAlike_5 : decode cX3_areAlike 5 = .ok (.ifCond .eq 11, 3) := by decide +kernel
theorem dX3_areAlike_8 : decode cX3_areAlike 8 = .ok (.aload_n 0, 1) := by decide +kernel
theorem dX3_areAlike_9 : decode cX3_areAlike 9 = .ok (.iload_n 2, 1) := by decide +kernel
theorem dX3_areAlike_10 : decode cX3_areAlike 10 = .ok (.invokevirtual 97, 3) := by decide +kernel
theorem dX3_areAlike_13 : decode cX3_areAlike 13 = .ok (.ifCond .ne 41, 3) := by decide +kernel
theorem dX3_areAlike_16 : decode cX3_areAlike 16 = .ok (.aload_n 0, 1) := by decide +kernel
theorem dX3_areAlike_17 : decode cX3_areAlike 17 = .ok (.getfield 7, 3) := by decide +kernel
theorem dX3_areAlike_20 : decode cX3_areAlike 20 = .ok (.iload_n 1, 1) := by decide +kernel
theorem dX3_areAlike_21 : decode cX3_areAlike 21 = .ok (.iaload, 1) := by decide +kernel
theorem dX3_areAlike_22 : decode cX3_areAlike 22 = .ok (.bipush 6, 2) := by decide +kernel
theorem dX3_areAlike_24 : decode cX3_areAlike 24 = .ok (.if_icmp .ne 14, 3) := by decide +kernel
theorem dX3_areAlike_27 : decode cX3_areAlike 27 = .ok (.aload_n 0, 1) := by decide +kernel
theorem dX3_areAlike_28 : decode cX3_areAlike 28 = .ok (.getfield 7, 3) := by decide +kernel
theorem dX3_areAlike_31 : decode cX3_areAlike 31 = .ok (.iload_n 2, 1) := by decide +kernel
theorem dX3_areAlike_32 : decode cX3_areAlike 32 = .ok (.iaload, 1) := by decide +kernel
theorem dX3_areAlike_33 : decode cX3_areAlike 33 = .ok (.bipush 6, 2) := by decide +kernel
theorem dX3_areAlike_35 : decode cX3_areAlike 35 = .ok (.if_icmp .eq 19, 3) := by decide +kernel
theorem dX3_areAlike_38 : decode cX3_areAlike 38 = .ok (.aload_n 0, 1) := by decide +kernel
theorem dX3_areAlike_39 : decode cX3_areAlike 39 = .ok (.iload_n 1, 1) := by decide +kernel
theorem dX3_areAlike_40 : decode cX3_areAlike 40 = .ok (.invokevirtual 50, 3) := by decide +kernel
theorem dX3_areAlike_43 : decode cX3_areAlike 43 = .ok (.ifCond .eq 15, 3) := by decide +kernel
theorem dX3_areAlike_46 : decode cX3_areAlike 46 = .ok (.aload_n 0, 1) := by decide +kernel
theorem dX3_areAlike_47 : decode cX3_areAlike 47 = .ok (.iload_n 2, 1) := by decide +kernel
theorem dX3_areAlike_48 : decode cX3_areAlike 48 = .ok (.invokevirtual 50, 3) := by decide +kernel
theorem dX3_areAlike_51 : decode cX3_areAlike 51 = .ok (.ifCond .eq 7, 3) := by decide +kernel
theorem dX3_areAlike_54 : decode cX3_areAlike 54 = .ok (.iconst 1, 1) := by decide +kernel
theorem dX3_areAlike_55 : decode cX3_areAlike 55 = .ok (.goto 4, 3) := by decide +kernel
theorem dX3_areAlike_58 : decode cX3_areAlike 58 = .ok (.iconst 0, 1) := by decide +kernel
theorem dX3_areAlike_59 : decode cX3_areAlike 59 = .ok (.istore 4, 2) := by decide +kernel
theorem dX3_areAlike_61 : decode cX3_areAlike 61 = .ok (.iload 4, 2) := by decide +kernel
theorem dX3_areAlike_63 : decode cX3_areAlike 63 = .ok (.ifCond .eq 33, 3) := by decide +kernel
theorem dX3_areAlike_66 : decode cX3_areAlike 66 = .ok (.aload_n 0, 1) := by decide +kernel
theorem dX3_areAlike_67 : decode cX3_areAlike 67 = .ok (.getfield 16, 3) := by decide +kernel
theorem dX3_areAlike_70 : decode cX3_areAlike 70 = .ok (.bipush 40, 2) := by decide +kernel
theorem dX3_areAlike_72 : decode cX3_areAlike 72 = .ok (.iload_n 1, 1) := by decide +kernel
theorem dX3_areAlike_73 : decode cX3_areAlike 73 = .ok (.imul, 1) := by decide +kernel
theorem dX3_areAlike_74 : decode cX3_areAlike 74 = .ok (.iload_n 3, 1) := by decide +kernel
theorem dX3_areAlike_75 : decode cX3_areAlike 75 = .ok (.iadd, 1) := by decide +kernel
theorem dX3_areAlike_76 : decode cX3_areAlike 76 = .ok (.laload, 1) := by decide +kernel
theorem dX3_areAlike_77 : decode cX3_areAlike 77 = .ok (.aload_n 0, 1) := by decide +kernel
theorem dX3_areAlike_78 : decode cX3_areAlike 78 = .ok (.getfield 16, 3) := by decide +kernel
theorem dX3_areAlike_81 : decode cX3_areAlike 81 = .ok (.bipush 40, 2) := by decide +kernel
theorem dX3_areAlike_83 : decode cX3_areAlike 83 = .ok (.iload_n 2, 1) := by decide +kernel
theorem dX3_areAlike_84 : decode cX3_areAlike 84 = .ok (.imul, 1) := by decide +kernel
theorem dX3_areAlike_85 : decode cX3_areAlike 85 = .ok (.iload_n 3, 1) := by decide +kernel
theorem dX3_areAlike_86 : decode cX3_areAlike 86 = .ok (.iadd, 1) := by decide +kernel
theorem dX3_areAlike_87 : decode cX3_areAlike 87 = .ok (.laload, 1) := by decide +kernel
theorem dX3_areAlike_88 : decode cX3_areAlike 88 = .ok (.lcmp, 1) := by decide +kernel
theorem dX3_areAlike_89 : decode cX3_areAlike 89 = .ok (.ifCond .ne 7, 3) := by decide +kernel
theorem dX3_areAlike_92 : decode cX3_areAlike 92 = .ok (.iconst 1, 1) := by decide +kernel
theorem dX3_areAlike_93 : decode cX3_areAlike 93 = .ok (.goto 4, 3) := by decide +kernel
theorem dX3_areAlike_96 : decode cX3_areAlike 96 = .ok (.iconst 0, 1) := by decide +kernel
theorem dX3_areAlike_97 : decode cX3_areAlike 97 = .ok (.ireturn, 1) := by decide +kernel
theorem dX3_alike_0 : decode cX3_alike 0 = .ok (.aload_n 0, 1) := by decide +kernel
theorem dX3_alike_1 : decode cX3_alike 1 = .ok (.iload_n 1, 1) := by decide +kernel
theorem dX3_alike_2 : decode cX3_alike 2 = .ok (.invokevirtual 43, 3) := by decide +kernel
theorem dX3_alike_5 : decode cX3_alike 5 = .ok (.ifCond .eq 11, 3) := by decide +kernel
theorem dX3_alike_8 : decode cX3_alike 8 = .ok (.aload_n 0, 1) := by decide +kernel
theorem dX3_alike_9 : decode cX3_alike 9 = .ok (.iload_n 2, 1) := by decide +kernel
theorem dX3_alike_10 : decode cX3_alike 10 = .ok (.invokevirtual 43, 3) := by decide +kernel
theorem dX3_alike_13 : decode cX3_alike 13 = .ok (.ifCond .ne 5, 3) := by decide +kernel
theorem dX3_alike_16 : decode cX3_alike 16 = .ok (.iconst (-1), 1) := by decide +kernel
theorem dX3_alike_17 : decode cX3_alike 17 = .ok (.ireturn, 1) := by decide +kernel
theorem dX3_alike_18 : decode cX3_alike 18 = .ok (.iconst 0, 1) := by decide +kernel
theorem dX3_alike_19 : decode cX3_alike 19 = .ok (.istore_n 3, 1) := by decide +kernel
theorem dX3_alike_20 : decode cX3_alike 20 = .ok (.iload_n 3, 1) := by decide +kernel
theorem dX3_alike_21 : decode cX3_alike 21 = .ok (.aload_n 0, 1) := by decide +kernel
theorem dX3_alike_22 : decode cX3_alike 22 = .ok (.getfield 13, 3) := by decide +kernel
theorem dX3_alike_25 : decode cX3_alike 25 = .ok (.iload_n 1, 1) := by decide +kernel
theorem dX3_alike_26 : decode cX3_alike 26 = .ok (.iaload, 1) := by decide +kernel
theorem dX3_alike_27 : decode cX3_alike 27 = .ok (.if_icmp .ge 29, 3) := by decide +kernel
theorem dX3_alike_30 : decode cX3_alike 30 = .ok (.iload_n 3, 1) := by decide +kernel
theorem dX3_alike_31 : decode cX3_alike 31 = .ok (.aload_n 0, 1) := by decide +kernel
theorem dX3_alike_32 : decode cX3_alike 32 = .ok (.getfield 13, 3) := by decide +kernel
theorem dX3_alike_35 : decode cX3_alike 35 = .ok (.iload_n 2, 1) := by decide +kernel
theorem dX3_alike_36 : decode cX3_alike 36 = .ok (.iaload, 1) := by decide +kernel
theorem dX3_alike_37 : decode cX3_alike 37 = .ok (.if_icmp .ge 19, 3) := by decide +kernel
theorem dX3_alike_40 : decode cX3_alike 40 = .ok (.aload_n 0, 1) := by decide +kernel
theorem dX3_alike_41 : decode cX3_alike 41 = .ok (.iload_n 1, 1) := by decide +kernel
theorem dX3_alike_42 : decode cX3_alike 42 = .ok (.iload_n 2, 1) := by decide +kernel
theorem dX3_alike_43 : decode cX3_alike 43 = .ok (.iload_n 3, 1) := by decide +kernel
theorem dX3_alike_44 : decode cX3_alike 44 = .ok (.invokevirtual 100, 3) := by decide +kernel
theorem dX3_alike_47 : decode cX3_alike 47 = .ok (.ifCond .eq 9, 3) := by decide +kernel
theorem dX3_alike_50 : decode cX3_alike 50 = .ok (.iinc 3 1, 3) := by decide +kernel
theorem dX3_alike_53 : decode cX3_alike 53 = .ok (.goto (-33), 3) := by decide +kernel
theorem dX3_alike_56 : decode cX3_alike 56 = .ok (.iload_n 3, 1) := by decide +kernel
theorem dX3_alike_57 : decode cX3_alike 57 = .ok (.ireturn, 1) := by decide +kernel
theorem dX3_shade_0 : decode cX3_shade 0 = .ok (.aload_n 0, 1) := by decide +kernel
theorem dX3_shade_1 : decode cX3_shade 1 = .ok (.iload_n 1, 1) := by decide +kernel
theorem dX3_shade_2 : decode cX3_shade 2 = .ok (.invokevirtual 43, 3) := by decide +kernel
theorem dX3_shade_5 : decode cX3_shade 5 = .ok (.ifCond .ne 5, 3) := by decide +kernel
theorem dX3_shade_8 : decode cX3_shade 8 = .ok (.lconst 0, 1) := by decide +kernel
theorem dX3_shade_9 : decode cX3_shade 9 = .ok (.lreturn, 1) := by decide +kernel
theorem dX3_shade_10 : decode cX3_shade 10 = .ok (.lconst 0, 1) := by decide +kernel
theorem dX3_shade_11 : decode cX3_shade 11 = .ok (.lstore_n 2, 1) := by decide +kernel
theorem dX3_shade_12 : decode cX3_shade 12 = .ok (.iconst 0, 1) := by decide +kernel
theorem dX3_shade_13 : decode cX3_shade 13 = .ok (.istore 4, 2) := by decide +kernel
theorem dX3_shade_15 : decode cX3_shade 15 = .ok (.iload 4, 2) := by decide +kernel
theorem dX3_shade_17 : decode cX3_shade 17 = .ok (.aload_n 0, 1) := by decide +kernel
theorem dX3_shade_18 : decode cX3_shade 18 = .ok (.getfield 13, 3) := by decide +kernel
theorem dX3_shade_21 : decode cX3_shade 21 = .ok (.iload_n 1, 1) := by decide +kernel
theorem dX3_shade_22 : decode cX3_shade 22 = .ok (.iaload, 1) := by decide +kernel
theorem dX3_shade_23 : decode cX3_shade 23 = .ok (.if_icmp .ge 60, 3) := by decide +kernel
theorem dX3_shade_26 : decode cX3_shade 26 = .ok (.aload_n 0, 1) := by decide +kernel
theorem dX3_shade_27 : decode cX3_shade 27 = .ok (.getfield 16, 3) := by decide +kernel
theorem dX3_shade_30 : decode cX3_shade 30 = .ok (.bipush 40, 2) := by decide +kernel
theorem dX3_shade_32 : decode cX3_shade 32 = .ok (.iload_n 1, 1) := by decide +kernel
theorem dX3_shade_33 : decode cX3_shade 33 = .ok (.imul, 1) := by decide +kernel
theorem dX3_shade_34 : decode cX3_shade 34 = .ok (.iload 4, 2) := by decide +kernel
theorem dX3_shade_36 : decode cX3_shade 36 = .ok (.iadd, 1) := by decide +kernel
theorem dX3_shade_37 : decode cX3_shade 37 = .ok (.laload, 1) := by decide +kernel
theorem dX3_shade_38 : decode cX3_shade 38 = .ok (.lstore 5, 2) := by decide +kernel
theorem dX3_shade_40 : decode cX3_shade 40 = .ok (.aload_n 0, 1) := by decide +kernel
theorem dX3_shade_41 : decode cX3_shade 41 = .ok (.iload_n 1, 1) := by decide +kernel
theorem dX3_shade_42 : decode cX3_shade 42 = .ok (.invokevirtual 50, 3) := by decide +kernel
theorem dX3_shade_45 : decode cX3_shade 45 = .ok (.ifCond .ne 11, 3) := by decide +kernel
theorem dX3_shade_48 : decode cX3_shade 48 = .ok (.lload_n 2, 1) := by decide +kernel
theorem dX3_shade_49 : decode cX3_shade 49 = .ok (.lload 5, 2) := by decide +kernel
theorem dX3_shade_51 : decode cX3_shade 51 = .ok (.ladd, 1) := by decide +kernel
theorem dX3_shade_52 : decode cX3_shade 52 = .ok (.lstore_n 2, 1) := by decide +kernel
theorem dX3_shade_53 : decode cX3_shade 53 = .ok (.goto 24, 3) := by decide +kernel
theorem dX3_shade_56 : decode cX3_shade 56 = .ok (.lload 5, 2) := by decide +kernel
theorem dX3_shade_58 : decode cX3_shade 58 = .ok (.ldc2_w 53, 3) := by decide +kernel
theorem dX3_shade_61 : decode cX3_shade 61 = .ok (.lcmp, 1) := by decide +kernel
theorem dX3_shade_62 : decode cX3_shade 62 = .ok (.ifCond .eq 15, 3) := by decide +kernel
theorem dX3_shade_65 : decode cX3_shade 65 = .ok (.lload_n 2, 1) := by decide +kernel
theorem dX3_shade_66 : decode cX3_shade 66 = .ok (.aload_n 0, 1) := by decide +kernel
theorem dX3_shade_67 : decode cX3_shade 67 = .ok (.getfield 26, 3) := by decide +kernel
theorem dX3_shade_70 : decode cX3_shade 70 = .ok (.lload 5, 2) := by decide +kernel
theorem dX3_shade_72 : decode cX3_shade 72 = .ok (.l2i, 1) := by decide +kernel
theorem dX3_shade_73 : decode cX3_shade 73 = .ok (.iaload, 1) := by decide +kernel
theorem dX3_shade_74 : decode cX3_shade 74 = .ok (.i2l, 1) := by decide +kernel
theorem dX3_shade_75 : decode cX3_shade 75 = .ok (.ladd, 1) := by decide +kernel
theorem dX3_shade_76 : decode cX3_shade 76 = .ok (.lstore_n 2, 1) := by decide +kernel
theorem dX3_shade_77 : decode cX3_shade 77 = .ok (.iinc 4 1, 3) := by decide +kernel
theorem dX3_shade_80 : decode cX3_shade 80 = .ok (.goto (-65), 3) := by decide +kernel
theorem dX3_shade_83 : decode cX3_shade 83 = .ok (.lload_n 2, 1) := by decide +kernel
theorem dX3_shade_84 : decode cX3_shade 84 = .ok (.lreturn, 1) := by decide +kernel
theorem dX3_rack_0 : decode cX3_rack 0 = .ok (.iload_n 1, 1) := by decide +kernel
theorem dX3_rack_1 : decode cX3_rack 1 = .ok (.invokestatic 39, 3) := by decide +kernel
theorem dX3_rack_4 : decode cX3_rack 4 = .ok (.ifCond .ne 5, 3) := by decide +kernel
theorem dX3_rack_7 : decode cX3_rack 7 = .ok (.iconst (-1), 1) := by decide +kernel
theorem dX3_rack_8 : decode cX3_rack 8 = .ok (.ireturn, 1) := by decide +kernel
theorem dX3_rack_9 : decode cX3_rack 9 = .ok (.iload_n 2, 1) := by decide +kernel
theorem dX3_rack_10 : decode cX3_rack 10 = .ok (.ifCond .ne 10, 3) := by decide +kernel
theorem dX3_rack_13 : decode cX3_rack 13 = .ok (.aload_n 0, 1) := by decide +kernel
theorem dX3_rack_14 : decode cX3_rack 14 = .ok (.getfield 7, 3) := by decide +kernel
theorem dX3_rack_17 : decode cX3_rack 17 = .ok (.iload_n 1, 1) := by decide +kernel
theorem dX3_rack_18 : decode cX3_rack 18 = .ok (.iaload, 1) := by decide +kernel
theorem dX3_rack_19 : decode cX3_rack 19 = .ok (.ireturn, 1) := by decide +kernel
theorem dX3_rack_20 : decode cX3_rack 20 = .ok (.iload_n 2, 1) := by decide +kernel
theorem dX3_rack_21 : decode cX3_rack 21 = .ok (.iconst 1, 1) := by decide +kernel
theorem dX3_rack_22 : decode cX3_rack 22 = .ok (.if_icmp .ne 10, 3) := by decide +kernel
theorem dX3_rack_25 : decode cX3_rack 25 = .ok (.aload_n 0, 1) := by decide +kernel
theorem dX3_rack_26 : decode cX3_rack 26 = .ok (.getfield 13, 3) := by decide +kernel
theorem dX3_rack_29 : decode cX3_rack 29 = .ok (.iload_n 1, 1) := by decide +kernel
theorem dX3_rack_30 : decode cX3_rack 30 = .ok (.iaload, 1) := by decide +kernel
theorem dX3_rack_31 : decode cX3_rack 31 = .ok (.ireturn, 1) := by decide +kernel
theorem dX3_rack_32 : decode cX3_rack 32 = .ok (.iconst (-1), 1) := by decide +kernel
theorem dX3_rack_33 : decode cX3_rack 33 = .ok (.ireturn, 1) := by decide +kernel
theorem dX3_about_0 : decode cX3_about 0 = .ok (.iload_n 1, 1) := by decide +kernel
theorem dX3_about_1 : decode cX3_about 1 = .ok (.ifCond .ne 8, 3) := by decide +kernel
theorem dX3_about_4 : decode cX3_about 4 = .ok (.aload_n 0, 1) := by decide +kernel
theorem dX3_about_5 : decode cX3_about 5 = .ok (.getfield 81, 3) := by decide +kernel
theorem dX3_about_8 : decode cX3_about 8 = .ok (.ireturn, 1) := by decide +kernel
theorem dX3_about_9 : decode cX3_about 9 = .ok (.iload_n 1, 1) := by decide +kernel
theorem dX3_about_10 : decode cX3_about 10 = .ok (.iconst 1, 1) := by decide +kernel
theorem dX3_about_11 : decode cX3_about 11 = .ok (.if_icmp .lt 15, 3) := by decide +kernel
theorem dX3_about_14 : decode cX3_about 14 = .ok (.iload_n 1, 1) := by decide +kernel
theorem dX3_about_15 : decode cX3_about 15 = .ok (.iconst 5, 1) := by decide +kernel
theorem dX3_about_16 : decode cX3_about 16 = .ok (.if_icmp .gt 10, 3) := by decide +kernel
theorem dX3_about_19 : decode cX3_about 19 = .ok (.aload_n 0, 1) := by decide +kernel
theorem dX3_about_20 : decode cX3_about 20 = .ok (.getfield 36, 3) := by decide +kernel
theorem dX3_about_23 : decode cX3_about 23 = .ok (.iload_n 1, 1) := by decide +kernel
theorem dX3_about_24 : decode cX3_about 24 = .ok (.iaload, 1) := by decide +kernel
theorem dX3_about_25 : decode cX3_about 25 = .ok (.ireturn, 1) := by decide +kernel
theorem dX3_about_26 : decode cX3_about 26 = .ok (.iload_n 1, 1) := by decide +kernel
theorem dX3_about_27 : decode cX3_about 27 = .ok (.bipush 6, 2) := by decide +kernel
theorem dX3_about_29 : decode cX3_about 29 = .ok (.if_icmp .ne 8, 3) := by decide +kernel
theorem dX3_about_32 : decode cX3_about 32 = .ok (.aload_n 0, 1) := by decide +kernel
theorem dX3_about_33 : decode cX3_about 33 = .ok (.getfield 46, 3) := by decide +kernel
theorem dX3_about_36 : decode cX3_about 36 = .ok (.ireturn, 1) := by decide +kernel
theorem dX3_about_37 : decode cX3_about 37 = .ok (.iload_n 1, 1) := by decide +kernel
theorem dX3_about_38 : decode cX3_about 38 = .ok (.bipush 7, 2) := by decide +kernel
theorem dX3_about_40 : decode cX3_about 40 = .ok (.if_icmp .ne 8, 3) := by decide +kernel
theorem dX3_about_43 : decode cX3_about 43 = .ok (.aload_n 0, 1) := by decide +kernel
theorem dX3_about_44 : decode cX3_about 44 = .ok (.getfield 87, 3) := by decide +kernel
theorem dX3_about_47 : decode cX3_about 47 = .ok (.ireturn, 1) := by decide +kernel
theorem dX3_about_48 : decode cX3_about 48 = .ok (.iload_n 1, 1) := by decide +kernel
theorem dX3_about_49 : decode cX3_about 49 = .ok (.bipush 8, 2) := by decide +kernel
theorem dX3_about_51 : decode cX3_about 51 = .ok (.if_icmp .ne 8, 3) := by decide +kernel
theorem dX3_about_54 : decode cX3_about 54 = .ok (.aload_n 0, 1) := by decide +kernel
theorem dX3_about_55 : decode cX3_about 55 = .ok (.getfield 94, 3) := by decide +kernel
theorem dX3_about_58 : decode cX3_about 58 = .ok (.ireturn, 1) := by decide +kernel
theorem dX3_about_59 : decode cX3_about 59 = .ok (.iconst (-1), 1) := by decide +kernel
theorem dX3_about_60 : decode cX3_about 60 = .ok (.ireturn, 1) := by decide +kernel
theorem dJ9_floorMod_7cf53_0 : decode cJ9_floorMod_7cf53 0 = .ok (.iload_n 0, 1) := by decide +kernel
theorem dJ9_floorMod_7cf53_1 : decode cJ9_floorMod_7cf53 1 = .ok (.iload_n 1, 1) := by decide +kernel
theorem dJ9_floorMod_7cf53_2 : decode cJ9_floorMod_7cf53 2 = .ok (.irem, 1) := by decide +kernel
theorem dJ9_floorMod_7cf53_3 : decode cJ9_floorMod_7cf53 3 = .ok (.istore_n 2, 1) := by decide +kernel
theorem dJ9_floorMod_7cf53_4 : decode cJ9_floorMod_7cf53 4 = .ok (.iload_n 0, 1) := by decide +kernel
theorem dJ9_floorMod_7cf53_5 : decode cJ9_floorMod_7cf53 5 = .ok (.iload_n 1, 1) := by decide +kernel
theorem dJ9_floorMod_7cf53_6 : decode cJ9_floorMod_7cf53 6 = .ok (.ixor, 1) := by decide +kernel
theorem dJ9_floorMod_7cf53_7 : decode cJ9_floorMod_7cf53 7 = .ok (.ifCond .ge 11, 3) := by decide +kernel
theorem dJ9_floorMod_7cf53_10 : decode cJ9_floorMod_7cf53 10 = .ok (.iload_n 2, 1) := by decide +kernel
theorem dJ9_floorMod_7cf53_11 : decode cJ9_floorMod_7cf53 11 = .ok (.ifCond .eq 7, 3) := by decide +kernel
theorem dJ9_floorMod_7cf53_14 : decode cJ9_floorMod_7cf53 14 = .ok (.iload_n 2, 1) := by decide +kernel
theorem dJ9_floorMod_7cf53_15 : decode cJ9_floorMod_7cf53 15 = .ok (.iload_n 1, 1) := by decide +kernel
theorem dJ9_floorMod_7cf53_16 : decode cJ9_floorMod_7cf53 16 = .ok (.iadd, 1) := by decide +kernel
theorem dJ9_floorMod_7cf53_17 : decode cJ9_floorMod_7cf53 17 = .ok (.ireturn, 1) := by decide +kernel
theorem dJ9_floorMod_7cf53_18 : decode cJ9_floorMod_7cf53 18 = .ok (.iload_n 2, 1) := by decide +kernel
theorem dJ9_floorMod_7cf53_19 : decode cJ9_floorMod_7cf53 19 = .ok (.ireturn, 1) := by decide +kernel
theorem dJ9_min_7cf53_0 : decode cJ9_min_7cf53 0 = .ok (.iload_n 0, 1) := by decide +kernel
theorem dJ9_min_7cf53_1 : decode cJ9_min_7cf53 1 = .ok (.iload_n 1, 1) := by decide +kernel
theorem dJ9_min_7cf53_2 : decode cJ9_min_7cf53 2 = .ok (.if_icmp .gt 7, 3) := by decide +kernel
theorem dJ9_min_7cf53_5 : decode cJ9_min_7cf53 5 = .ok (.iload_n 0, 1) := by decide +kernel
theorem dJ9_min_7cf53_6 : decode cJ9_min_7cf53 6 = .ok (.goto 4, 3) := by decide +kernel
theorem dJ9_min_7cf53_9 : decode cJ9_min_7cf53 9 = .ok (.iload_n 1, 1) := by decide +kernel
theorem dJ9_min_7cf53_10 : decode cJ9_min_7cf53 10 = .ok (.ireturn, 1) := by decide +kernel
theorem dL_law_0 : decode cL_law 0 = .ok (.new 7, 3) := by decide +kernel
theorem dL_law_3 : decode cL_law 3 = .ok (.dup, 1) := by decide +kernel
theorem dL_law_4 : decode cL_law 4 = .ok (.invokespecial 9, 3) := by decide +kernel
theorem dL_law_7 : decode cL_law 7 = .ok (.astore_n 1, 1) := by decide +kernel
theorem dL_law_8 : decode cL_law 8 = .ok (.new 10, 3) := by decide +kernel
theorem dL_law_11 : decode cL_law 11 = .ok (.dup, 1) := by decide +kernel
theorem dL_law_12 : decode cL_law 12 = .ok (.invokespecial 12, 3) := by decide +kernel
theorem dL_law_15 : decode cL_law 15 = .ok (.astore_n 2, 1) := by decide +kernel
theorem dL_law_16 : decode cL_law 16 = .ok (.iconst 0, 1) := by decide +kernel
theorem dL_law_17 : decode cL_law 17 = .ok (.istore_n 3, 1) := by decide +kernel
theorem dL_law_18 : decode cL_law 18 = .ok (.iload_n 3, 1) := by decide +kernel
theorem dL_law_19 : decode cL_law 19 = .ok (.aload_n 0, 1) := by decide +kernel
theorem dL_law_20 : decode cL_law 20 = .ok (.arraylength, 1) := by decide +kernel
theorem dL_law_21 : decode cL_law 21 = .ok (.bipush 6, 2) := by decide +kernel
theorem dL_law_23 : decode cL_law 23 = .ok (.isub, 1) := by decide +kernel
theorem dL_law_24 : decode cL_law 24 = .ok (.if_icmp .gt 807, 3) := by decide +kernel
theorem dL_law_27 : decode cL_law 27 = .ok (.aload_n 0, 1) := by decide +kernel
theorem dL_law_28 : decode cL_law 28 = .ok (.iload_n 3, 1) := by decide +kernel
theorem dL_law_29 : decode cL_law 29 = .ok (.iaload, 1) := by decide +kernel
theorem dL_law_30 : decode cL_law 30 = .ok (.bipush 31, 2) := by decide +kernel
theorem dL_law_32 : decode cL_law 32 = .ok (.iand, 1) := by decide +kernel
theorem dL_law_33 : decode cL_law 33 = .ok (.tableswitch 792 0 18 #[91, 134, 157, 180, 229, 262, 285, 358, 392, 455, 488, 521, 554, 617, 630, 679, 712, 736, 769], 91) := by decide +kernel
theorem dL_law_124 : decode cL_law 124 = .ok (.aload_n 1, 1) := by decide +kernel
theorem dL_law_125 : decode cL_law 125 = .ok (.aload_n 0, 1) := by decide +kernel
theorem dL_law_126 : decode cL_law 126 = .ok (.iload_n 3, 1) := by decide +kernel
theorem dL_law_127 : decode cL_law 127 = .ok (.iconst 1, 1) := by decide +kernel
theorem dL_law_128 : decode cL_law 128 = .ok (.iadd, 1) := by decide +kernel
theorem dL_law_129 : decode cL_law 129 = .ok (.iaload, 1) := by decide +kernel
theorem dL_law_130 : decode cL_law 130 = .ok (.aload_n 0, 1) := by decide +kernel
theorem dL_law_131 : decode cL_law 131 = .ok (.iload_n 3, 1) := by decide +kernel
theorem dL_law_132 : decode cL_law 132 = .ok (.iconst 2, 1) := by decide +kernel
theorem dL_law_133 : decode cL_law 133 = .ok (.iadd, 1) := by decide +kernel
theorem dL_law_134 : decode cL_law 134 = .ok (.iaload, 1) := by decide +kernel
theorem dL_law_135 : decode cL_law 135 = .ok (.aload_n 0, 1) := by decide +kernel
theorem dL_law_136 : decode cL_law 136 = .ok (.iload_n 3, 1) := by decide +kernel
theorem dL_law_137 : decode cL_law 137 = .ok (.iconst 3, 1) := by decide +kernel
theorem dL_law_138 : decode cL_law 138 = .ok (.iadd, 1) := by decide +kernel
theorem dL_law_139 : decode cL_law 139 = .ok (.iaload, 1) := by decide +kernel
theorem dL_law_140 : decode cL_law 140 = .ok (.invokevirtual 13, 3) := by decide +kernel
theorem dL_law_143 : decode cL_law 143 = .ok (.aload_n 2, 1) := by decide +kernel
theorem dL_law_144 : decode cL_law 144 = .ok (.aload_n 0, 1) := by decide +kernel
theorem dL_law_145 : decode cL_law 145 = .ok (.iload_n 3, 1) := by decide +kernel
theorem dL_law_146 : decode cL_law 146 = .ok (.iconst 1, 1) := by decide +kernel
theorem dL_law_147 : decode cL_law 147 = .ok (.iadd, 1) := by decide +kernel
theorem dL_law_148 : decode cL_law 148 = .ok (.iaload, 1) := by decide +kernel
theorem dL_law_149 : decode cL_law 149 = .ok (.aload_n 0, 1) := by decide +kernel
theorem dL_law_150 : decode cL_law 150 = .ok (.iload_n 3, 1) := by decide +kernel
theorem dL_law_151 : decode cL_law 151 = .ok (.iconst 2, 1) := by decide +kernel
theorem dL_law_152 : decode cL_law 152 = .ok (.iadd, 1) := by decide +kernel
theorem dL_law_153 : decode cL_law 153 = .ok (.iaload, 1) := by decide +kernel
theorem dL_law_154 : decode cL_law 154 = .ok (.aload_n 0, 1) := by decide +kernel
theorem dL_law_155 : decode cL_law 155 = .ok (.iload_n 3, 1) := by decide +kernel
theorem dL_law_156 : decode cL_law 156 = .ok (.iconst 3, 1) := by decide +kernel
theorem dL_law_157 : decode cL_law 157 = .ok (.iadd, 1) := by decide +kernel
theorem dL_law_158 : decode cL_law 158 = .ok (.iaload, 1) := by decide +kernel
theorem dL_law_159 : decode cL_law 159 = .ok (.invokevirtual 17, 3) := by decide +kernel
theorem dL_law_162 : decode cL_law 162 = .ok (.if_icmp .eq 663, 3) := by decide +kernel
theorem dL_law_165 : decode cL_law 165 = .ok (.iconst 0, 1) := by decide +kernel
theorem dL_law_166 : decode cL_law 166 = .ok (.ireturn, 1) := by decide +kernel
theorem dL_law_167 : decode cL_law 167 = .ok (.aload_n 1, 1) := by decide +kernel
theorem dL_law_168 : decode cL_law 168 = .ok (.aload_n 0, 1) := by decide +kernel
theorem dL_law_169 : decode cL_law 169 = .ok (.iload_n 3, 1) := by decide +kernel
theorem dL_law_170 : decode cL_law 170 = .ok (.iconst 1, 1) := by decide +kernel
theorem dL_law_171 : decode cL_law 171 = .ok (.iadd, 1) := by decide +kernel
theorem dL_law_172 : decode cL_law 172 = .ok (.iaload, 1) := by decide +kernel
theorem dL_law_173 : decode cL_law 173 = .ok (.invokevirtual 18, 3) := by decide +kernel
theorem dL_law_176 : decode cL_law 176 = .ok (.aload_n 2, 1) := by decide +kernel
theorem dL_law_177 : decode cL_law 177 = .ok (.aload_n 0, 1) := by decide +kernel
theorem dL_law_178 : decode cL_law 178 = .ok (.iload_n 3, 1) := by decide +kernel
theorem dL_law_179 : decode cL_law 179 = .ok (.iconst 1, 1) := by decide +kernel
theorem dL_law_180 : decode cL_law 180 = .ok (.iadd, 1) := by decide +kernel
theorem dL_law_181 : decode cL_law 181 = .ok (.iaload, 1) := by decide +kernel
theorem dL_law_182 : decode cL_law 182 = .ok (.invokevirtual 22, 3) := by decide +kernel
theorem dL_law_185 : decode cL_law 185 = .ok (.if_icmp .eq 640, 3) := by decide +kernel
theorem dL_law_188 : decode cL_law 188 = .ok (.iconst 0, 1) := by decide +kernel
theorem dL_law_189 : decode cL_law 189 = .ok (.ireturn, 1) := by decide +kernel
theorem dL_law_190 : decode cL_law 190 = .ok (.aload_n 1, 1) := by decide +kernel
theorem dL_law_191 : decode cL_law 191 = .ok (.aload_n 0, 1) := by decide +kernel
theorem dL_law_192 : decode cL_law 192 = .ok (.iload_n 3, 1) := by decide +kernel
theorem dL_law_193 : decode cL_law 193 = .ok (.iconst 1, 1) := by decide +kernel
theorem dL_law_194 : decode cL_law 194 = .ok (.iadd, 1) := by decide +kernel
theorem dL_law_195 : decode cL_law 195 = .ok (.iaload, 1) := by decide +kernel
theorem dL_law_196 : decode cL_law 196 = .ok (.invokevirtual 23, 3) := by decide +kernel
theorem dL_law_199 : decode cL_law 199 = .ok (.aload_n 2, 1) := by decide +kernel
theorem dL_law_200 : decode cL_law 200 = .ok (.aload_n 0, 1) := by decide +kernel
theorem dL_law_201 : decode cL_law 201 = .ok (.iload_n 3, 1) := by decide +kernel
theorem dL_law_202 : decode cL_law 202 = .ok (.iconst 1, 1) := by decide +kernel
theorem dL_law_203 : decode cL_law 203 = .ok (.iadd, 1) := by decide +kernel
theorem dL_law_204 : decode cL_law 204 = .ok (.iaload, 1) := by decide +kernel
theorem dL_law_205 : decode cL_law 205 = .ok (.invokevirtual 26, 3) := by decide +kernel
theorem dL_law_208 : decode cL_law 208 = .ok (.if_icmp .eq 617, 3) := by decide +kernel
theorem dL_law_211 : decode cL_law 211 = .ok (.iconst 0, 1) := by decide +kernel
theorem dL_law_212 : decode cL_law 212 = .ok (.ireturn, 1) := by decide +kernel
theorem dL_law_213 : decode cL_law 213 = .ok (.aload_n 1, 1) := by decide +kernel
theorem dL_law_214 : decode cL_law 214 = .ok (.aload_n 0, 1) := by decide +kernel
theorem dL_law_215 : decode cL_law 215 = .ok (.iload_n 3, 1) := by decide +kernel
theorem dL_law_216 : decode cL_law 216 = .ok (.iconst 1, 1) := by decide +kernel
theorem dL_law_217 : decode cL_law 217 = .ok (.iadd, 1) := by decide +kernel
theorem dL_law_218 : decode cL_law 218 = .ok (.iaload, 1) := by decide +kernel
theorem dL_law_219 : decode cL_law 219 = .ok (.aload_n 0, 1) := by decide +kernel
theorem dL_law_220 : decode cL_law 220 = .ok (.iload_n 3, 1) := by decide +kernel
theorem dL_law_221 : decode cL_law 221 = .ok (.iconst 2, 1) := by decide +kernel
theorem dL_law_222 : decode cL_law 222 = .ok (.iadd, 1) := by decide +kernel
theorem dL_law_223 : decode cL_law 223 = .ok (.iaload, 1) := by decide +kernel
theorem dL_law_224 : decode cL_law 224 = .ok (.ifCond .eq 7, 3) := by decide +kernel
theorem dL_law_227 : decode cL_law 227 = .ok (.iconst 1, 1) := by decide +kernel
theorem dL_law_228 : decode cL_law 228 = .ok (.goto 4, 3) := by decide +kernel
theorem dL_law_231 : decode cL_law 231 = .ok (.iconst 0, 1) := by decide +kernel
theorem dL_law_232 : decode cL_law 232 = .ok (.invokevirtual 27, 3) := by decide +kernel
theorem dL_law_235 : decode cL_law 235 = .ok (.aload_n 2, 1) := by decide +kernel
theorem dL_law_236 : decode cL_law 236 = .ok (.aload_n 0, 1) := by decide +kernel
theorem dL_law_237 : decode cL_law 237 = .ok (.iload_n 3, 1) := by decide +kernel
theorem dL_law_238 : decode cL_law 238 = .ok (.iconst 1, 1) := by decide +kernel
theorem dL_law_239 : decode cL_law 239 = .ok (.iadd, 1) := by decide +kernel
theorem dL_law_240 : decode cL_law 240 = .ok (.iaload, 1) := by decide +kernel
theorem dL_law_241 : decode cL_law 241 = .ok (.aload_n 0, 1) := by decide +kernel
theorem dL_law_242 : decode cL_law 242 = .ok (.iload_n 3, 1) := by decide +kernel
theorem dL_law_243 : decode cL_law 243 = .ok (.iconst 2, 1) := by decide +kernel
theorem dL_law_244 : decode cL_law 244 = .ok (.iadd, 1) := by decide +kernel
theorem dL_law_245 : decode cL_law 245 = .ok (.iaload, 1) := by decide +kernel
theorem dL_law_246 : decode cL_law 246 = .ok (.ifCond .eq 7, 3) := by decide +kernel
theorem dL_law_249 : decode cL_law 249 = .ok (.iconst 1, 1) := by decide +kernel
theorem dL_law_250 : decode cL_law 250 = .ok (.goto 4, 3) := by decide +kernel
theorem dL_law_253 : decode cL_law 253 = .ok (.iconst 0, 1) := by decide +kernel
theorem dL_law_254 : decode cL_law 254 = .ok (.invokevirtual 31, 3) := by decide +kernel
theorem dL_law_257 : decode cL_law 257 = .ok (.if_icmp .eq 568, 3) := by decide +kernel
theorem dL_law_260 : decode cL_law 260 = .ok (.iconst 0, 1) := by decide +kernel
theorem dL_law_261 : decode cL_law 261 = .ok (.ireturn, 1) := by decide +kernel
theorem dL_law_262 : decode cL_law 262 = .ok (.aload_n 1, 1) := by decide +kernel
theorem dL_law_263 : decode cL_law 263 = .ok (.aload_n 0, 1) := by decide +kernel
theorem dL_law_264 : decode cL_law 264 = .ok (.iload_n 3, 1) := by decide +kernel
theorem dL_law_265 : decode cL_law 265 = .ok (.iconst 1, 1) := by decide +kernel
theorem dL_law_266 : decode cL_law 266 = .ok (.iadd, 1) := by decide +kernel
theorem dL_law_267 : decode cL_law 267 = .ok (.iaload, 1) := by decide +kernel
theorem dL_law_268 : decode cL_law 268 = .ok (.aload_n 0, 1) := by decide +kernel
theorem dL_law_269 : decode cL_law 269 = .ok (.iload_n 3, 1) := by decide +kernel
theorem dL_law_270 : decode cL_law 270 = .ok (.iconst 2, 1) := by decide +kernel
theorem dL_law_271 : decode cL_law 271 = .ok (.iadd, 1) := by decide +kernel
theorem dL_law_272 : decode cL_law 272 = .ok (.iaload, 1) := by decide +kernel
theorem dL_law_273 : decode cL_law 273 = .ok (.invokevirtual 32, 3) := by decide +kernel
theorem dL_law_276 : decode cL_law 276 = .ok (.aload_n 2, 1) := by decide +kernel
theorem dL_law_277 : decode cL_law 277 = .ok (.aload_n 0, 1) := by decide +kernel
theorem dL_law_278 : decode cL_law 278 = .ok (.iload_n 3, 1) := by decide +kernel
theorem dL_law_279 : decode cL_law 279 = .ok (.iconst 1, 1) := by decide +kernel
theorem dL_law_280 : decode cL_law 280 = .ok (.iadd, 1) := by decide +kernel
theorem dL_law_281 : decode cL_law 281 = .ok (.iaload, 1) := by decide +kernel
theorem dL_law_282 : decode cL_law 282 = .ok (.aload_n 0, 1) := by decide +kernel
theorem dL_law_283 : decode cL_law 283 = .ok (.iload_n 3, 1) := by decide +kernel
theorem dL_law_284 : decode cL_law 284 = .ok (.iconst 2, 1) := by decide +kernel
theorem dL_law_285 : decode cL_law 285 = .ok (.iadd, 1) := by decide +kernel
theorem dL_law_286 : decode cL_law 286 = .ok (.iaload, 1) := by decide +kernel
theorem dL_law_287 : decode cL_law 287 = .ok (.invokevirtual 36, 3) := by decide +kernel
theorem dL_law_290 : decode cL_law 290 = .ok (.if_icmp .eq 535, 3) := by decide +kernel
theorem dL_law_293 : decode cL_law 293 = .ok (.iconst 0, 1) := by decide +kernel
theorem dL_law_294 : decode cL_law 294 = .ok (.ireturn, 1) := by decide +kernel
theorem dL_law_295 : decode cL_law 295 = .ok (.aload_n 1, 1) := by decide +kernel
theorem dL_law_296 : decode cL_law 296 = .ok (.aload_n 0, 1) := by decide +kernel
theorem dL_law_297 : decode cL_law 297 = .ok (.iload_n 3, 1) := by decide +kernel
theorem dL_law_298 : decode cL_law 298 = .ok (.iconst 1, 1) := by decide +kernel
theorem dL_law_299 : decode cL_law 299 = .ok (.iadd, 1) := by decide +kernel
theorem dL_law_300 : decode cL_law 300 = .ok (.iaload, 1) := by decide +kernel
theorem dL_law_301 : decode cL_law 301 = .ok (.invokevirtual 37, 3) := by decide +kernel
theorem dL_law_304 : decode cL_law 304 = .ok (.aload_n 2, 1) := by decide +kernel
theorem dL_law_305 : decode cL_law 305 = .ok (.aload_n 0, 1) := by decide +kernel
theorem dL_law_306 : decode cL_law 306 = .ok (.iload_n 3, 1) := by decide +kernel
theorem dL_law_307 : decode cL_law 307 = .ok (.iconst 1, 1) := by decide +kernel
theorem dL_law_308 : decode cL_law 308 = .ok (.iadd, 1) := by decide +kernel
theorem dL_law_309 : decode cL_law 309 = .ok (.iaload, 1) := by decide +kernel
theorem dL_law_310 : decode cL_law 310 = .ok (.invokevirtual 41, 3) := by decide +kernel
theorem dL_law_313 : decode cL_law 313 = .ok (.if_icmp .eq 512, 3) := by decide +kernel
theorem dL_law_316 : decode cL_law 316 = .ok (.iconst 0, 1) := by decide +kernel
theorem dL_law_317 : decode cL_law 317 = .ok (.ireturn, 1) := by decide +kernel
theorem dL_law_318 : decode cL_law 318 = .ok (.aload_n 1, 1) := by decide +kernel
theorem dL_law_319 : decode cL_law 319 = .ok (.aload_n 0, 1) := by decide +kernel
theorem dL_law_320 : decode cL_law 320 = .ok (.iload_n 3, 1) := by decide +kernel
theorem dL_law_321 : decode cL_law 321 = .ok (.iconst 1, 1) := by decide +kernel
theorem dL_law_322 : decode cL_law 322 = .ok (.iadd, 1) := by decide +kernel
theorem dL_law_323 : decode cL_law 323 = .ok (.iaload, 1) := by decide +kernel
theorem dL_law_324 : decode cL_law 324 = .ok (.aload_n 0, 1) := by decide +kernel
theorem dL_law_325 : decode cL_law 325 = .ok (.iload_n 3, 1) := by decide +kernel
theorem dL_law_326 : decode cL_law 326 = .ok (.iconst 2, 1) := by decide +kernel
theorem dL_law_327 : decode cL_law 327 = .ok (.iadd, 1) := by decide +kernel
theorem dL_law_328 : decode cL_law 328 = .ok (.iaload, 1) := by decide +kernel
theorem dL_law_329 : decode cL_law 329 = .ok (.aload_n 0, 1) := by decide +kernel
theorem dL_law_330 : decode cL_law 330 = .ok (.iload_n 3, 1) := by decide +kernel
theorem dL_law_331 : decode cL_law 331 = .ok (.iconst 3, 1) := by decide +kernel
theorem dL_law_332 : decode cL_law 332 = .ok (.iadd, 1) := by decide +kernel
theorem dL_law_333 : decode cL_law 333 = .ok (.iaload, 1) := by decide +kernel
theorem dL_law_334 : decode cL_law 334 = .ok (.i2l, 1) := by decide +kernel
theorem dL_law_335 : decode cL_law 335 = .ok (.bipush 32, 2) := by decide +kernel
theorem dL_law_337 : decode cL_law 337 = .ok (.lshl, 1) := by decide +kernel
theorem dL_law_338 : decode cL_law 338 = .ok (.aload_n 0, 1) := by decide +kernel
theorem dL_law_339 : decode cL_law 339 = .ok (.iload_n 3, 1) := by decide +kernel
theorem dL_law_340 : decode cL_law 340 = .ok (.iconst 4, 1) := by decide +kernel
theorem dL_law_341 : decode cL_law 341 = .ok (.iadd, 1) := by decide +kernel
theorem dL_law_342 : decode cL_law 342 = .ok (.iaload, 1) := by decide +kernel
theorem dL_law_343 : decode cL_law 343 = .ok (.i2l, 1) := by decide +kernel
theorem dL_law_344 : decode cL_law 344 = .ok (.ldc2_w 42, 3) := by decide +kernel
theorem dL_law_347 : decode cL_law 347 = .ok (.land, 1) := by decide +kernel
theorem dL_law_348 : decode cL_law 348 = .ok (.lor, 1) := by decide +kernel
theorem dL_law_349 : decode cL_law 349 = .ok (.invokevirtual 44, 3) := by decide +kernel
theorem dL_law_352 : decode cL_law 352 = .ok (.aload_n 2, 1) := by decide +kernel
theorem dL_law_353 : decode cL_law 353 = .ok (.aload_n 0, 1) := by decide +kernel
theorem dL_law_354 : decode cL_law 354 = .ok (.iload_n 3, 1) := by decide +kernel
theorem dL_law_355 : decode cL_law 355 = .ok (.iconst 1, 1) := by decide +kernel
theorem dL_law_356 : decode cL_law 356 = .ok (.iadd, 1) := by decide +kernel
theorem dL_law_357 : decode cL_law 357 = .ok (.iaload, 1) := by decide +kernel
theorem dL_law_358 : decode cL_law 358 = .ok (.aload_n 0, 1) := by decide +kernel
theorem dL_law_359 : decode cL_law 359 = .ok (.iload_n 3, 1) := by decide +kernel
theorem dL_law_360 : decode cL_law 360 = .ok (.iconst 2, 1) := by decide +kernel
theorem dL_law_361 : decode cL_law 361 = .ok (.iadd, 1) := by decide +kernel
theorem dL_law_362 : decode cL_law 362 = .ok (.iaload, 1) := by decide +kernel
theorem dL_law_363 : decode cL_law 363 = .ok (.aload_n 0, 1) := by decide +kernel
theorem dL_law_364 : decode cL_law 364 = .ok (.iload_n 3, 1) := by decide +kernel
theorem dL_law_365 : decode cL_law 365 = .ok (.iconst 3, 1) := by decide +kernel
theorem dL_law_366 : decode cL_law 366 = .ok (.iadd, 1) := by decide +kernel
theorem dL_law_367 : decode cL_law 367 = .ok (.iaload, 1) := by decide +kernel
theorem dL_law_368 : decode cL_law 368 = .ok (.i2l, 1) := by decide +kernel
theorem dL_law_369 : decode cL_law 369 = .ok (.bipush 32, 2) := by decide +kernel
theorem dL_law_371 : decode cL_law 371 = .ok (.lshl, 1) := by decide +kernel
theorem dL_law_372 : decode cL_law 372 = .ok (.aload_n 0, 1) := by decide +kernel
theorem dL_law_373 : decode cL_law 373 = .ok (.iload_n 3, 1) := by decide +kernel
theorem dL_law_374 : decode cL_law 374 = .ok (.iconst 4, 1) := by decide +kernel
theorem dL_law_375 : decode cL_law 375 = .ok (.iadd, 1) := by decide +kernel
theorem dL_law_376 : decode cL_law 376 = .ok (.iaload, 1) := by decide +kernel
theorem dL_law_377 : decode cL_law 377 = .ok (.i2l, 1) := by decide +kernel
theorem dL_law_378 : decode cL_law 378 = .ok (.ldc2_w 42, 3) := by decide +kernel
theorem dL_law_381 : decode cL_law 381 = .ok (.land, 1) := by decide +kernel
theorem dL_law_382 : decode cL_law 382 = .ok (.lor, 1) := by decide +kernel
theorem dL_law_383 : decode cL_law 383 = .ok (.invokevirtual 48, 3) := by decide +kernel
theorem dL_law_386 : decode cL_law 386 = .ok (.if_icmp .eq 439, 3) := by decide +kernel
theorem dL_law_389 : decode cL_law 389 = .ok (.iconst 0, 1) := by decide +kernel
theorem dL_law_390 : decode cL_law 390 = .ok (.ireturn, 1) := by decide +kernel
theorem dL_law_391 : decode cL_law 391 = .ok (.aload_n 1, 1) := by decide +kernel
theorem dL_law_392 : decode cL_law 392 = .ok (.aload_n 0, 1) := by decide +kernel
theorem dL_law_393 : decode cL_law 393 = .ok (.iload_n 3, 1) := by decide +kernel
theorem dL_law_394 : decode cL_law 394 = .ok (.iconst 1, 1) := by decide +kernel
theorem dL_law_395 : decode cL_law 395 = .ok (.iadd, 1) := by decide +kernel
theorem dL_law_396 : decode cL_law 396 = .ok (.iaload, 1) := by decide +kernel
theorem dL_law_397 : decode cL_law 397 = .ok (.aload_n 0, 1) := by decide +kernel
theorem dL_law_398 : decode cL_law 398 = .ok (.iload_n 3, 1) := by decide +kernel
theorem dL_law_399 : decode cL_law 399 = .ok (.iconst 2, 1) := by decide +kernel
theorem dL_law_400 : decode cL_law 400 = .ok (.iadd, 1) := by decide +kernel
theorem dL_law_401 : decode cL_law 401 = .ok (.iaload, 1) := by decide +kernel
theorem dL_law_402 : decode cL_law 402 = .ok (.invokevirtual 49, 3) := by decide +kernel
theorem dL_law_405 : decode cL_law 405 = .ok (.aload_n 2, 1) := by decide +kernel
theorem dL_law_406 : decode cL_law 406 = .ok (.aload_n 0, 1) := by decide +kernel
theorem dL_law_407 : decode cL_law 407 = .ok (.iload_n 3, 1) := by decide +kernel
theorem dL_law_408 : decode cL_law 408 = .ok (.iconst 1, 1) := by decide +kernel
theorem dL_law_409 : decode cL_law 409 = .ok (.iadd, 1) := by decide +kernel
theorem dL_law_410 : decode cL_law 410 = .ok (.iaload, 1) := by decide +kernel
theorem dL_law_411 : decode cL_law 411 = .ok (.aload_n 0, 1) := by decide +kernel
theorem dL_law_412 : decode cL_law 412 = .ok (.iload_n 3, 1) := by decide +kernel
theorem dL_law_413 : decode cL_law 413 = .ok (.iconst 2, 1) := by decide +kernel
theorem dL_law_414 : decode cL_law 414 = .ok (.iadd, 1) := by decide +kernel
theorem dL_law_415 : decode cL_law 415 = .ok (.iaload, 1) := by decide +kernel
theorem dL_law_416 : decode cL_law 416 = .ok (.invokevirtual 53, 3) := by decide +kernel
theorem dL_law_419 : decode cL_law 419 = .ok (.lcmp, 1) := by decide +kernel
theorem dL_law_420 : decode cL_law 420 = .ok (.ifCond .eq 405, 3) := by decide +kernel
theorem dL_law_423 : decode cL_law 423 = .ok (.iconst 0, 1) := by decide +kernel
theorem dL_law_424 : decode cL_law 424 = .ok (.ireturn, 1) := by decide +kernel
theorem dL_law_425 : decode cL_law 425 = .ok (.aload_n 1, 1) := by decide +kernel
theorem dL_law_426 : decode cL_law 426 = .ok (.aload_n 0, 1) := by decide +kernel
theorem dL_law_427 : decode cL_law 427 = .ok (.iload_n 3, 1) := by decide +kernel
theorem dL_law_428 : decode cL_law 428 = .ok (.iconst 1, 1) := by decide +kernel
theorem dL_law_429 : decode cL_law 429 = .ok (.iadd, 1) := by decide +kernel
theorem dL_law_430 : decode cL_law 430 = .ok (.iaload, 1) := by decide +kernel
theorem dL_law_431 : decode cL_law 431 = .ok (.aload_n 0, 1) := by decide +kernel
theorem dL_law_432 : decode cL_law 432 = .ok (.iload_n 3, 1) := by decide +kernel
theorem dL_law_433 : decode cL_law 433 = .ok (.iconst 2, 1) := by decide +kernel
theorem dL_law_434 : decode cL_law 434 = .ok (.iadd, 1) := by decide +kernel
theorem dL_law_435 : decode cL_law 435 = .ok (.iaload, 1) := by decide +kernel
theorem dL_law_436 : decode cL_law 436 = .ok (.aload_n 0, 1) := by decide +kernel
theorem dL_law_437 : decode cL_law 437 = .ok (.iload_n 3, 1) := by decide +kernel
theorem dL_law_438 : decode cL_law 438 = .ok (.iconst 3, 1) := by decide +kernel
theorem dL_law_439 : decode cL_law 439 = .ok (.iadd, 1) := by decide +kernel
theorem dL_law_440 : decode cL_law 440 = .ok (.iaload, 1) := by decide +kernel
theorem dL_law_441 : decode cL_law 441 = .ok (.aload_n 0, 1) := by decide +kernel
theorem dL_law_442 : decode cL_law 442 = .ok (.iload_n 3, 1) := by decide +kernel
theorem dL_law_443 : decode cL_law 443 = .ok (.iconst 4, 1) := by decide +kernel
theorem dL_law_444 : decode cL_law 444 = .ok (.iadd, 1) := by decide +kernel
theorem dL_law_445 : decode cL_law 445 = .ok (.iaload, 1) := by decide +kernel
theorem dL_law_446 : decode cL_law 446 = .ok (.aload_n 0, 1) := by decide +kernel
theorem dL_law_447 : decode cL_law 447 = .ok (.iload_n 3, 1) := by decide +kernel
theorem dL_law_448 : decode cL_law 448 = .ok (.iconst 5, 1) := by decide +kernel
theorem dL_law_449 : decode cL_law 449 = .ok (.iadd, 1) := by decide +kernel
theorem dL_law_450 : decode cL_law 450 = .ok (.iaload, 1) := by decide +kernel
theorem dL_law_451 : decode cL_law 451 = .ok (.invokevirtual 54, 3) := by decide +kernel
theorem dL_law_454 : decode cL_law 454 = .ok (.aload_n 2, 1) := by decide +kernel
theorem dL_law_455 : decode cL_law 455 = .ok (.aload_n 0, 1) := by decide +kernel
theorem dL_law_456 : decode cL_law 456 = .ok (.iload_n 3, 1) := by decide +kernel
theorem dL_law_457 : decode cL_law 457 = .ok (.iconst 1, 1) := by decide +kernel
theorem dL_law_458 : decode cL_law 458 = .ok (.iadd, 1) := by decide +kernel
theorem dL_law_459 : decode cL_law 459 = .ok (.iaload, 1) := by decide +kernel
theorem dL_law_460 : decode cL_law 460 = .ok (.aload_n 0, 1) := by decide +kernel
theorem dL_law_461 : decode cL_law 461 = .ok (.iload_n 3, 1) := by decide +kernel
theorem dL_law_462 : decode cL_law 462 = .ok (.iconst 2, 1) := by decide +kernel
theorem dL_law_463 : decode cL_law 463 = .ok (.iadd, 1) := by decide +kernel
theorem dL_law_464 : decode cL_law 464 = .ok (.iaload, 1) := by decide +kernel
theorem dL_law_465 : decode cL_law 465 = .ok (.aload_n 0, 1) := by decide +kernel
theorem dL_law_466 : decode cL_law 466 = .ok (.iload_n 3, 1) := by decide +kernel
theorem dL_law_467 : decode cL_law 467 = .ok (.iconst 3, 1) := by decide +kernel
theorem dL_law_468 : decode cL_law 468 = .ok (.iadd, 1) := by decide +kernel
theorem dL_law_469 : decode cL_law 469 = .ok (.iaload, 1) := by decide +kernel
theorem dL_law_470 : decode cL_law 470 = .ok (.aload_n 0, 1) := by decide +kernel
theorem dL_law_471 : decode cL_law 471 = .ok (.iload_n 3, 1) := by decide +kernel
theorem dL_law_472 : decode cL_law 472 = .ok (.iconst 4, 1) := by decide +kernel
theorem dL_law_473 : decode cL_law 473 = .ok (.iadd, 1) := by decide +kernel
theorem dL_law_474 : decode cL_law 474 = .ok (.iaload, 1) := by decide +kernel
theorem dL_law_475 : decode cL_law 475 = .ok (.aload_n 0, 1) := by decide +kernel
theorem dL_law_476 : decode cL_law 476 = .ok (.iload_n 3, 1) := by decide +kernel
theorem dL_law_477 : decode cL_law 477 = .ok (.iconst 5, 1) := by decide +kernel
theorem dL_law_478 : decode cL_law 478 = .ok (.iadd, 1) := by decide +kernel
theorem dL_law_479 : decode cL_law 479 = .ok (.iaload, 1) := by decide +kernel
theorem dL_law_480 : decode cL_law 480 = .ok (.invokevirtual 58, 3) := by decide +kernel
theorem dL_law_483 : decode cL_law 483 = .ok (.if_icmp .eq 342, 3) := by decide +kernel
theorem dL_law_486 : decode cL_law 486 = .ok (.iconst 0, 1) := by decide +kernel
theorem dL_law_487 : decode cL_law 487 = .ok (.ireturn, 1) := by decide +kernel
theorem dL_law_488 : decode cL_law 488 = .ok (.aload_n 1, 1) := by decide +kernel
theorem dL_law_489 : decode cL_law 489 = .ok (.aload_n 0, 1) := by decide +kernel
theorem dL_law_490 : decode cL_law 490 = .ok (.iload_n 3, 1) := by decide +kernel
theorem dL_law_491 : decode cL_law 491 = .ok (.iconst 1, 1) := by decide +kernel
theorem dL_law_492 : decode cL_law 492 = .ok (.iadd, 1) := by decide +kernel
theorem dL_law_493 : decode cL_law 493 = .ok (.iaload, 1) := by decide +kernel
theorem dL_law_494 : decode cL_law 494 = .ok (.aload_n 0, 1) := by decide +kernel
theorem dL_law_495 : decode cL_law 495 = .ok (.iload_n 3, 1) := by decide +kernel
theorem dL_law_496 : decode cL_law 496 = .ok (.iconst 2, 1) := by decide +kernel
theorem dL_law_497 : decode cL_law 497 = .ok (.iadd, 1) := by decide +kernel
theorem dL_law_498 : decode cL_law 498 = .ok (.iaload, 1) := by decide +kernel
theorem dL_law_499 : decode cL_law 499 = .ok (.invokevirtual 59, 3) := by decide +kernel
theorem dL_law_502 : decode cL_law 502 = .ok (.aload_n 2, 1) := by decide +kernel
theorem dL_law_503 : decode cL_law 503 = .ok (.aload_n 0, 1) := by decide +kernel
theorem dL_law_504 : decode cL_law 504 = .ok (.iload_n 3, 1) := by decide +kernel
theorem dL_law_505 : decode cL_law 505 = .ok (.iconst 1, 1) := by decide +kernel
theorem dL_law_506 : decode cL_law 506 = .ok (.iadd, 1) := by decide +kernel
theorem dL_law_507 : decode cL_law 507 = .ok (.iaload, 1) := by decide +kernel
theorem dL_law_508 : decode cL_law 508 = .ok (.aload_n 0, 1) := by decide +kernel
theorem dL_law_509 : decode cL_law 509 = .ok (.iload_n 3, 1) := by decide +kernel
theorem dL_law_510 : decode cL_law 510 = .ok (.iconst 2, 1) := by decide +kernel
theorem dL_law_511 : decode cL_law 511 = .ok (.iadd, 1) := by decide +kernel
theorem dL_law_512 : decode cL_law 512 = .ok (.iaload, 1) := by decide +kernel
theorem dL_law_513 : decode cL_law 513 = .ok (.invokevirtual 63, 3) := by decide +kernel
theorem dL_law_516 : decode cL_law 516 = .ok (.if_icmp .eq 309, 3) := by decide +kernel
theorem dL_law_519 : decode cL_law 519 = .ok (.iconst 0, 1) := by decide +kernel
theorem dL_law_520 : decode cL_law 520 = .ok (.ireturn, 1) := by decide +kernel
theorem dL_law_521 : decode cL_law 521 = .ok (.aload_n 1, 1) := by decide +kernel
theorem dL_law_522 : decode cL_law 522 = .ok (.aload_n 0, 1) := by decide +kernel
theorem dL_law_523 : decode cL_law 523 = .ok (.iload_n 3, 1) := by decide +kernel
theorem dL_law_524 : decode cL_law 524 = .ok (.iconst 1, 1) := by decide +kernel
theorem dL_law_525 : decode cL_law 525 = .ok (.iadd, 1) := by decide +kernel
theorem dL_law_526 : decode cL_law 526 = .ok (.iaload, 1) := by decide +kernel
theorem dL_law_527 : decode cL_law 527 = .ok (.aload_n 0, 1) := by decide +kernel
theorem dL_law_528 : decode cL_law 528 = .ok (.iload_n 3, 1) := by decide +kernel
theorem dL_law_529 : decode cL_law 529 = .ok (.iconst 2, 1) := by decide +kernel
theorem dL_law_530 : decode cL_law 530 = .ok (.iadd, 1) := by decide +kernel
theorem dL_law_531 : decode cL_law 531 = .ok (.iaload, 1) := by decide +kernel
theorem dL_law_532 : decode cL_law 532 = .ok (.invokevirtual 64, 3) := by decide +kernel
theorem dL_law_535 : decode cL_law 535 = .ok (.aload_n 2, 1) := by decide +kernel
theorem dL_law_536 : decode cL_law 536 = .ok (.aload_n 0, 1) := by decide +kernel
theorem dL_law_537 : decode cL_law 537 = .ok (.iload_n 3, 1) := by decide +kernel
theorem dL_law_538 : decode cL_law 538 = .ok (.iconst 1, 1) := by decide +kernel
theorem dL_law_539 : decode cL_law 539 = .ok (.iadd, 1) := by decide +kernel
theorem dL_law_540 : decode cL_law 540 = .ok (.iaload, 1) := by decide +kernel
theorem dL_law_541 : decode cL_law 541 = .ok (.aload_n 0, 1) := by decide +kernel
theorem dL_law_542 : decode cL_law 542 = .ok (.iload_n 3, 1) := by decide +kernel
theorem dL_law_543 : decode cL_law 543 = .ok (.iconst 2, 1) := by decide +kernel
theorem dL_law_544 : decode cL_law 544 = .ok (.iadd, 1) := by decide +kernel
theorem dL_law_545 : decode cL_law 545 = .ok (.iaload, 1) := by decide +kernel
theorem dL_law_546 : decode cL_law 546 = .ok (.invokevirtual 67, 3) := by decide +kernel
theorem dL_law_549 : decode cL_law 549 = .ok (.if_icmp .eq 276, 3) := by decide +kernel
theorem dL_law_552 : decode cL_law 552 = .ok (.iconst 0, 1) := by decide +kernel
theorem dL_law_553 : decode cL_law 553 = .ok (.ireturn, 1) := by decide +kernel
theorem dL_law_554 : decode cL_law 554 = .ok (.aload_n 1, 1) := by decide +kernel
theorem dL_law_555 : decode cL_law 555 = .ok (.aload_n 0, 1) := by decide +kernel
theorem dL_law_556 : decode cL_law 556 = .ok (.iload_n 3, 1) := by decide +kernel
theorem dL_law_557 : decode cL_law 557 = .ok (.iconst 1, 1) := by decide +kernel
theorem dL_law_558 : decode cL_law 558 = .ok (.iadd, 1) := by decide +kernel
theorem dL_law_559 : decode cL_law 559 = .ok (.iaload, 1) := by decide +kernel
theorem dL_law_560 : decode cL_law 560 = .ok (.aload_n 0, 1) := by decide +kernel
theorem dL_law_561 : decode cL_law 561 = .ok (.iload_n 3, 1) := by decide +kernel
theorem dL_law_562 : decode cL_law 562 = .ok (.iconst 2, 1) := by decide +kernel
theorem dL_law_563 : decode cL_law 563 = .ok (.iadd, 1) := by decide +kernel
theorem dL_law_564 : decode cL_law 564 = .ok (.iaload, 1) := by decide +kernel
theorem dL_law_565 : decode cL_law 565 = .ok (.invokevirtual 68, 3) := by decide +kernel
theorem dL_law_568 : decode cL_law 568 = .ok (.aload_n 2, 1) := by decide +kernel
theorem dL_law_569 : decode cL_law 569 = .ok (.aload_n 0, 1) := by decide +kernel
theorem dL_law_570 : decode cL_law 570 = .ok (.iload_n 3, 1) := by decide +kernel
theorem dL_law_571 : decode cL_law 571 = .ok (.iconst 1, 1) := by decide +kernel
theorem dL_law_572 : decode cL_law 572 = .ok (.iadd, 1) := by decide +kernel
theorem dL_law_573 : decode cL_law 573 = .ok (.iaload, 1) := by decide +kernel
theorem dL_law_574 : decode cL_law 574 = .ok (.aload_n 0, 1) := by decide +kernel
theorem dL_law_575 : decode cL_law 575 = .ok (.iload_n 3, 1) := by decide +kernel
theorem dL_law_576 : decode cL_law 576 = .ok (.iconst 2, 1) := by decide +kernel
theorem dL_law_577 : decode cL_law 577 = .ok (.iadd, 1) := by decide +kernel
theorem dL_law_578 : decode cL_law 578 = .ok (.iaload, 1) := by decide +kernel
theorem dL_law_579 : decode cL_law 579 = .ok (.invokevirtual 71, 3) := by decide +kernel
theorem dL_law_582 : decode cL_law 582 = .ok (.if_icmp .eq 243, 3) := by decide +kernel
theorem dL_law_585 : decode cL_law 585 = .ok (.iconst 0, 1) := by decide +kernel
theorem dL_law_586 : decode cL_law 586 = .ok (.ireturn, 1) := by decide +kernel
theorem dL_law_587 : decode cL_law 587 = .ok (.aload_n 1, 1) := by decide +kernel
theorem dL_law_588 : decode cL_law 588 = .ok (.aload_n 0, 1) := by decide +kernel
theorem dL_law_589 : decode cL_law 589 = .ok (.iload_n 3, 1) := by decide +kernel
theorem dL_law_590 : decode cL_law 590 = .ok (.iconst 1, 1) := by decide +kernel
theorem dL_law_591 : decode cL_law 591 = .ok (.iadd, 1) := by decide +kernel
theorem dL_law_592 : decode cL_law 592 = .ok (.iaload, 1) := by decide +kernel
theorem dL_law_593 : decode cL_law 593 = .ok (.aload_n 0, 1) := by decide +kernel
theorem dL_law_594 : decode cL_law 594 = .ok (.iload_n 3, 1) := by decide +kernel
theorem dL_law_595 : decode cL_law 595 = .ok (.iconst 2, 1) := by decide +kernel
theorem dL_law_596 : decode cL_law 596 = .ok (.iadd, 1) := by decide +kernel
theorem dL_law_597 : decode cL_law 597 = .ok (.iaload, 1) := by decide +kernel
theorem dL_law_598 : decode cL_law 598 = .ok (.aload_n 0, 1) := by decide +kernel
theorem dL_law_599 : decode cL_law 599 = .ok (.iload_n 3, 1) := by decide +kernel
theorem dL_law_600 : decode cL_law 600 = .ok (.iconst 3, 1) := by decide +kernel
theorem dL_law_601 : decode cL_law 601 = .ok (.iadd, 1) := by decide +kernel
theorem dL_law_602 : decode cL_law 602 = .ok (.iaload, 1) := by decide +kernel
theorem dL_law_603 : decode cL_law 603 = .ok (.aload_n 0, 1) := by decide +kernel
theorem dL_law_604 : decode cL_law 604 = .ok (.iload_n 3, 1) := by decide +kernel
theorem dL_law_605 : decode cL_law 605 = .ok (.iconst 4, 1) := by decide +kernel
theorem dL_law_606 : decode cL_law 606 = .ok (.iadd, 1) := by decide +kernel
theorem dL_law_607 : decode cL_law 607 = .ok (.iaload, 1) := by decide +kernel
theorem dL_law_608 : decode cL_law 608 = .ok (.aload_n 0, 1) := by decide +kernel
theorem dL_law_609 : decode cL_law 609 = .ok (.iload_n 3, 1) := by decide +kernel
theorem dL_law_610 : decode cL_law 610 = .ok (.iconst 5, 1) := by decide +kernel
theorem dL_law_611 : decode cL_law 611 = .ok (.iadd, 1) := by decide +kernel
theorem dL_law_612 : decode cL_law 612 = .ok (.iaload, 1) := by decide +kernel
theorem dL_law_613 : decode cL_law 613 = .ok (.invokevirtual 72, 3) := by decide +kernel
theorem dL_law_616 : decode cL_law 616 = .ok (.aload_n 2, 1) := by decide +kernel
theorem dL_law_617 : decode cL_law 617 = .ok (.aload_n 0, 1) := by decide +kernel
theorem dL_law_618 : decode cL_law 618 = .ok (.iload_n 3, 1) := by decide +kernel
theorem dL_law_619 : decode cL_law 619 = .ok (.iconst 1, 1) := by decide +kernel
theorem dL_law_620 : decode cL_law 620 = .ok (.iadd, 1) := by decide +kernel
theorem dL_law_621 : decode cL_law 621 = .ok (.iaload, 1) := by decide +kernel
theorem dL_law_622 : decode cL_law 622 = .ok (.aload_n 0, 1) := by decide +kernel
theorem dL_law_623 : decode cL_law 623 = .ok (.iload_n 3, 1) := by decide +kernel
theorem dL_law_624 : decode cL_law 624 = .ok (.iconst 2, 1) := by decide +kernel
theorem dL_law_625 : decode cL_law 625 = .ok (.iadd, 1) := by decide +kernel
theorem dL_law_626 : decode cL_law 626 = .ok (.iaload, 1) := by decide +kernel
theorem dL_law_627 : decode cL_law 627 = .ok (.aload_n 0, 1) := by decide +kernel
theorem dL_law_628 : decode cL_law 628 = .ok (.iload_n 3, 1) := by decide +kernel
theorem dL_law_629 : decode cL_law 629 = .ok (.iconst 3, 1) := by decide +kernel
theorem dL_law_630 : decode cL_law 630 = .ok (.iadd, 1) := by decide +kernel
theorem dL_law_631 : decode cL_law 631 = .ok (.iaload, 1) := by decide +kernel
theorem dL_law_632 : decode cL_law 632 = .ok (.aload_n 0, 1) := by decide +kernel
theorem dL_law_633 : decode cL_law 633 = .ok (.iload_n 3, 1) := by decide +kernel
theorem dL_law_634 : decode cL_law 634 = .ok (.iconst 4, 1) := by decide +kernel
theorem dL_law_635 : decode cL_law 635 = .ok (.iadd, 1) := by decide +kernel
theorem dL_law_636 : decode cL_law 636 = .ok (.iaload, 1) := by decide +kernel
theorem dL_law_637 : decode cL_law 637 = .ok (.aload_n 0, 1) := by decide +kernel
theorem dL_law_638 : decode cL_law 638 = .ok (.iload_n 3, 1) := by decide +kernel
theorem dL_law_639 : decode cL_law 639 = .ok (.iconst 5, 1) := by decide +kernel
theorem dL_law_640 : decode cL_law 640 = .ok (.iadd, 1) := by decide +kernel
theorem dL_law_641 : decode cL_law 641 = .ok (.iaload, 1) := by decide +kernel
theorem dL_law_642 : decode cL_law 642 = .ok (.invokevirtual 75, 3) := by decide +kernel
theorem dL_law_645 : decode cL_law 645 = .ok (.if_icmp .eq 180, 3) := by decide +kernel
theorem dL_law_648 : decode cL_law 648 = .ok (.iconst 0, 1) := by decide +kernel
theorem dL_law_649 : decode cL_law 649 = .ok (.ireturn, 1) := by decide +kernel
theorem dL_law_650 : decode cL_law 650 = .ok (.aload_n 1, 1) := by decide +kernel
theorem dL_law_651 : decode cL_law 651 = .ok (.invokevirtual 76, 3) := by decide +kernel
theorem dL_law_654 : decode cL_law 654 = .ok (.aload_n 2, 1) := by decide +kernel
theorem dL_law_655 : decode cL_law 655 = .ok (.invokevirtual 80, 3) := by decide +kernel
theorem dL_law_658 : decode cL_law 658 = .ok (.if_icmp .eq 167, 3) := by decide +kernel
theorem dL_law_661 : decode cL_law 661 = .ok (.iconst 0, 1) := by decide +kernel
theorem dL_law_662 : decode cL_law 662 = .ok (.ireturn, 1) := by decide +kernel
theorem dL_law_663 : decode cL_law 663 = .ok (.aload_n 1, 1) := by decide +kernel
theorem dL_law_664 : decode cL_law 664 = .ok (.aload_n 0, 1) := by decide +kernel
theorem dL_law_665 : decode cL_law 665 = .ok (.iload_n 3, 1) := by decide +kernel
theorem dL_law_666 : decode cL_law 666 = .ok (.iconst 1, 1) := by decide +kernel
theorem dL_law_667 : decode cL_law 667 = .ok (.iadd, 1) := by decide +kernel
theorem dL_law_668 : decode cL_law 668 = .ok (.iaload, 1) := by decide +kernel
theorem dL_law_669 : decode cL_law 669 = .ok (.aload_n 0, 1) := by decide +kernel
theorem dL_law_670 : decode cL_law 670 = .ok (.iload_n 3, 1) := by decide +kernel
theorem dL_law_671 : decode cL_law 671 = .ok (.iconst 2, 1) := by decide +kernel
theorem dL_law_672 : decode cL_law 672 = .ok (.iadd, 1) := by decide +kernel
theorem dL_law_673 : decode cL_law 673 = .ok (.iaload, 1) := by decide +kernel
theorem dL_law_674 : decode cL_law 674 = .ok (.ifCond .eq 7, 3) := by decide +kernel
theorem dL_law_677 : decode cL_law 677 = .ok (.iconst 1, 1) := by decide +kernel
theorem dL_law_678 : decode cL_law 678 = .ok (.goto 4, 3) := by decide +kernel
theorem dL_law_681 : decode cL_law 681 = .ok (.iconst 0, 1) := by decide +kernel
theorem dL_law_682 : decode cL_law 682 = .ok (.invokevirtual 81, 3) := by decide +kernel
theorem dL_law_685 : decode cL_law 685 = .ok (.aload_n 2, 1) := by decide +kernel
theorem dL_law_686 : decode cL_law 686 = .ok (.aload_n 0, 1) := by decide +kernel
theorem dL_law_687 : decode cL_law 687 = .ok (.iload_n 3, 1) := by decide +kernel
theorem dL_law_688 : decode cL_law 688 = .ok (.iconst 1, 1) := by decide +kernel
theorem dL_law_689 : decode cL_law 689 = .ok (.iadd, 1) := by decide +kernel
theorem dL_law_690 : decode cL_law 690 = .ok (.iaload, 1) := by decide +kernel
theorem dL_law_691 : decode cL_law 691 = .ok (.aload_n 0, 1) := by decide +kernel
theorem dL_law_692 : decode cL_law 692 = .ok (.iload_n 3, 1) := by decide +kernel
theorem dL_law_693 : decode cL_law 693 = .ok (.iconst 2, 1) := by decide +kernel
theorem dL_law_694 : decode cL_law 694 = .ok (.iadd, 1) := by decide +kernel
theorem dL_law_695 : decode cL_law 695 = .ok (.iaload, 1) := by decide +kernel
theorem dL_law_696 : decode cL_law 696 = .ok (.ifCond .eq 7, 3) := by decide +kernel
theorem dL_law_699 : decode cL_law 699 = .ok (.iconst 1, 1) := by decide +kernel
theorem dL_law_700 : decode cL_law 700 = .ok (.goto 4, 3) := by decide +kernel
theorem dL_law_703 : decode cL_law 703 = .ok (.iconst 0, 1) := by decide +kernel
theorem dL_law_704 : decode cL_law 704 = .ok (.invokevirtual 84, 3) := by decide +kernel
theorem dL_law_707 : decode cL_law 707 = .ok (.if_icmp .eq 118, 3) := by decide +kernel
theorem dL_law_710 : decode cL_law 710 = .ok (.iconst 0, 1) := by decide +kernel
theorem dL_law_711 : decode cL_law 711 = .ok (.ireturn, 1) := by decide +kernel
theorem dL_law_712 : decode cL_law 712 = .ok (.aload_n 1, 1) := by decide +kernel
theorem dL_law_713 : decode cL_law 713 = .ok (.aload_n 0, 1) := by decide +kernel
theorem dL_law_714 : decode cL_law 714 = .ok (.iload_n 3, 1) := by decide +kernel
theorem dL_law_715 : decode cL_law 715 = .ok (.iconst 1, 1) := by decide +kernel
theorem dL_law_716 : decode cL_law 716 = .ok (.iadd, 1) := by decide +kernel
theorem dL_law_717 : decode cL_law 717 = .ok (.iaload, 1) := by decide +kernel
theorem dL_law_718 : decode cL_law 718 = .ok (.aload_n 0, 1) := by decide +kernel
theorem dL_law_719 : decode cL_law 719 = .ok (.iload_n 3, 1) := by decide +kernel
theorem dL_law_720 : decode cL_law 720 = .ok (.iconst 2, 1) := by decide +kernel
theorem dL_law_721 : decode cL_law 721 = .ok (.iadd, 1) := by decide +kernel
theorem dL_law_722 : decode cL_law 722 = .ok (.iaload, 1) := by decide +kernel
theorem dL_law_723 : decode cL_law 723 = .ok (.invokevirtual 85, 3) := by decide +kernel
theorem dL_law_726 : decode cL_law 726 = .ok (.aload_n 2, 1) := by decide +kernel
theorem dL_law_727 : decode cL_law 727 = .ok (.aload_n 0, 1) := by decide +kernel
theorem dL_law_728 : decode cL_law 728 = .ok (.iload_n 3, 1) := by decide +kernel
theorem dL_law_729 : decode cL_law 729 = .ok (.iconst 1, 1) := by decide +kernel
theorem dL_law_730 : decode cL_law 730 = .ok (.iadd, 1) := by decide +kernel
theorem dL_law_731 : decode cL_law 731 = .ok (.iaload, 1) := by decide +kernel
theorem dL_law_732 : decode cL_law 732 = .ok (.aload_n 0, 1) := by decide +kernel
theorem dL_law_733 : decode cL_law 733 = .ok (.iload_n 3, 1) := by decide +kernel
theorem dL_law_734 : decode cL_law 734 = .ok (.iconst 2, 1) := by decide +kernel
theorem dL_law_735 : decode cL_law 735 = .ok (.iadd, 1) := by decide +kernel
theorem dL_law_736 : decode cL_law 736 = .ok (.iaload, 1) := by decide +kernel
theorem dL_law_737 : decode cL_law 737 = .ok (.invokevirtual 88, 3) := by decide +kernel
theorem dL_law_740 : decode cL_law 740 = .ok (.if_icmp .eq 85, 3) := by decide +kernel
theorem dL_law_743 : decode cL_law 743 = .ok (.iconst 0, 1) := by decide +kernel
theorem dL_law_744 : decode cL_law 744 = .ok (.ireturn, 1) := by decide +kernel
theorem dL_law_745 : decode cL_law 745 = .ok (.aload_n 1, 1) := by decide +kernel
theorem dL_law_746 : decode cL_law 746 = .ok (.aload_n 0, 1) := by decide +kernel
theorem dL_law_747 : decode cL_law 747 = .ok (.iload_n 3, 1) := by decide +kernel
theorem dL_law_748 : decode cL_law 748 = .ok (.iconst 1, 1) := by decide +kernel
theorem dL_law_749 : decode cL_law 749 = .ok (.iadd, 1) := by decide +kernel
theorem dL_law_750 : decode cL_law 750 = .ok (.iaload, 1) := by decide +kernel
theorem dL_law_751 : decode cL_law 751 = .ok (.invokevirtual 89, 3) := by decide +kernel
theorem dL_law_754 : decode cL_law 754 = .ok (.aload_n 2, 1) := by decide +kernel
theorem dL_law_755 : decode cL_law 755 = .ok (.aload_n 0, 1) := by decide +kernel
theorem dL_law_756 : decode cL_law 756 = .ok (.iload_n 3, 1) := by decide +kernel
theorem dL_law_757 : decode cL_law 757 = .ok (.iconst 1, 1) := by decide +kernel
theorem dL_law_758 : decode cL_law 758 = .ok (.iadd, 1) := by decide +kernel
theorem dL_law_759 : decode cL_law 759 = .ok (.iaload, 1) := by decide +kernel
theorem dL_law_760 : decode cL_law 760 = .ok (.invokevirtual 93, 3) := by decide +kernel
theorem dL_law_763 : decode cL_law 763 = .ok (.lcmp, 1) := by decide +kernel
theorem dL_law_764 : decode cL_law 764 = .ok (.ifCond .eq 61, 3) := by decide +kernel
theorem dL_law_767 : decode cL_law 767 = .ok (.iconst 0, 1) := by decide +kernel
theorem dL_law_768 : decode cL_law 768 = .ok (.ireturn, 1) := by decide +kernel
theorem dL_law_769 : decode cL_law 769 = .ok (.aload_n 1, 1) := by decide +kernel
theorem dL_law_770 : decode cL_law 770 = .ok (.aload_n 0, 1) := by decide +kernel
theorem dL_law_771 : decode cL_law 771 = .ok (.iload_n 3, 1) := by decide +kernel
theorem dL_law_772 : decode cL_law 772 = .ok (.iconst 1, 1) := by decide +kernel
theorem dL_law_773 : decode cL_law 773 = .ok (.iadd, 1) := by decide +kernel
theorem dL_law_774 : decode cL_law 774 = .ok (.iaload, 1) := by decide +kernel
theorem dL_law_775 : decode cL_law 775 = .ok (.aload_n 0, 1) := by decide +kernel
theorem dL_law_776 : decode cL_law 776 = .ok (.iload_n 3, 1) := by decide +kernel
theorem dL_law_777 : decode cL_law 777 = .ok (.iconst 2, 1) := by decide +kernel
theorem dL_law_778 : decode cL_law 778 = .ok (.iadd, 1) := by decide +kernel
theorem dL_law_779 : decode cL_law 779 = .ok (.iaload, 1) := by decide +kernel
theorem dL_law_780 : decode cL_law 780 = .ok (.invokevirtual 94, 3) := by decide +kernel
theorem dL_law_783 : decode cL_law 783 = .ok (.aload_n 2, 1) := by decide +kernel
theorem dL_law_784 : decode cL_law 784 = .ok (.aload_n 0, 1) := by decide +kernel
theorem dL_law_785 : decode cL_law 785 = .ok (.iload_n 3, 1) := by decide +kernel
theorem dL_law_786 : decode cL_law 786 = .ok (.iconst 1, 1) := by decide +kernel
theorem dL_law_787 : decode cL_law 787 = .ok (.iadd, 1) := by decide +kernel
theorem dL_law_788 : decode cL_law 788 = .ok (.iaload, 1) := by decide +kernel
theorem dL_law_789 : decode cL_law 789 = .ok (.aload_n 0, 1) := by decide +kernel
theorem dL_law_790 : decode cL_law 790 = .ok (.iload_n 3, 1) := by decide +kernel
theorem dL_law_791 : decode cL_law 791 = .ok (.iconst 2, 1) := by decide +kernel
theorem dL_law_792 : decode cL_law 792 = .ok (.iadd, 1) := by decide +kernel
theorem dL_law_793 : decode cL_law 793 = .ok (.iaload, 1) := by decide +kernel
theorem dL_law_794 : decode cL_law 794 = .ok (.invokevirtual 97, 3) := by decide +kernel
theorem dL_law_797 : decode cL_law 797 = .ok (.if_icmp .eq 28, 3) := by decide +kernel
theorem dL_law_800 : decode cL_law 800 = .ok (.iconst 0, 1) := by decide +kernel
theorem dL_law_801 : decode cL_law 801 = .ok (.ireturn, 1) := by decide +kernel
theorem dL_law_802 : decode cL_law 802 = .ok (.aload_n 1, 1) := by decide +kernel
theorem dL_law_803 : decode cL_law 803 = .ok (.aload_n 0, 1) := by decide +kernel
theorem dL_law_804 : decode cL_law 804 = .ok (.iload_n 3, 1) := by decide +kernel
theorem dL_law_805 : decode cL_law 805 = .ok (.iconst 1, 1) := by decide +kernel
theorem dL_law_806 : decode cL_law 806 = .ok (.iadd, 1) := by decide +kernel
theorem dL_law_807 : decode cL_law 807 = .ok (.iaload, 1) := by decide +kernel
theorem dL_law_808 : decode cL_law 808 = .ok (.invokevirtual 98, 3) := by decide +kernel
theorem dL_law_811 : decode cL_law 811 = .ok (.aload_n 2, 1) := by decide +kernel
theorem dL_law_812 : decode cL_law 812 = .ok (.aload_n 0, 1) := by decide +kernel
theorem dL_law_813 : decode cL_law 813 = .ok (.iload_n 3, 1) := by decide +kernel
theorem dL_law_814 : decode cL_law 814 = .ok (.iconst 1, 1) := by decide +kernel
theorem dL_law_815 : decode cL_law 815 = .ok (.iadd, 1) := by decide +kernel
theorem dL_law_816 : decode cL_law 816 = .ok (.iaload, 1) := by decide +kernel
theorem dL_law_817 : decode cL_law 817 = .ok (.invokevirtual 101, 3) := by decide +kernel
theorem dL_law_820 : decode cL_law 820 = .ok (.if_icmp .eq 5, 3) := by decide +kernel
theorem dL_law_823 : decode cL_law 823 = .ok (.iconst 0, 1) := by decide +kernel
theorem dL_law_824 : decode cL_law 824 = .ok (.ireturn, 1) := by decide +kernel
theorem dL_law_825 : decode cL_law 825 = .ok (.iinc 3 6, 3) := by decide +kernel
theorem dL_law_828 : decode cL_law 828 = .ok (.goto (-810), 3) := by decide +kernel
theorem dL_law_831 : decode cL_law 831 = .ok (.iconst 1, 1) := by decide +kernel
theorem dL_law_832 : decode cL_law 832 = .ok (.ireturn, 1) := by decide +kernel
abbrev vwCl : List vw_C := [(RX0, TX0, 6), (RX1, TX1, 4), (RX2, TX2, 8), (RX3, TX3, 13)]
end
section
/-! the classes' numbers, and those of the arrays: ints, longs, booleans, racks -/
abbrev Gx : Type := va_G × (Nat → ClassId)
abbrev gTy (G : Gx) : List (ClassId × FieldType) := [(G.2 0, .int), (G.2 1, .long), (G.2 2, .boolean), (G.2 3, .object RX1)]
/-- words of nest mates -/
def nestW : List Cond := [
  .fieldLinkNest RX2 108 "BeadLoom$Pattern" "steps" "I" "BeadLoom",
  .fieldLinkNest RX2 162 "BeadLoom$Pattern" "fromRack" "[I" "BeadLoom",
  .fieldLinkNest RX2 165 "BeadLoom$Pattern" "toRack" "[I" "BeadLoom",
  .fieldLinkNest RX2 168 "BeadLoom$Pattern" "fromPlace" "[I" "BeadLoom",
  .fieldLinkNest RX2 171 "BeadLoom$Pattern" "toPlace" "[I" "BeadLoom",
  .fieldLinkNest RX2 174 "BeadLoom$Pattern" "things" "[I" "BeadLoom",
  .fieldLinkNest RX2 52 "BeadLoom$Rack" "kind" "I" "BeadLoom",
  .fieldLinkNest RX2 74 "BeadLoom$Rack" "cells" "[J" "BeadLoom",
  .fieldLinkNest RX2 94 "BeadLoom$Rack" "places" "I" "BeadLoom",
  .methodLinkNest RX2 100 yX0_isFull "BeadLoom",
  .methodLinkNest RX2 104 yX0_append "BeadLoom",
  .methodLinkNest RX2 134 yX1_hasRow "BeadLoom",
  .methodLinkNest RX2 158 yX1_hasStretch "BeadLoom",
  .methodLinkNest RX2 177 yX1_keepCells "BeadLoom",
  .methodLinkNest RX2 180 yX1_restoreCells "BeadLoom",
  .methodLinkNest RX2 25 yX0_init "BeadLoom",
  .methodLinkNest RX2 43 yX1_init "BeadLoom",
  .methodLinkNest RX2 48 yX1_hold "BeadLoom",
  .methodLinkNest RX2 66 yX1_hasPlace "BeadLoom",
  .methodLinkNest RX2 90 yX1_blankPlace "BeadLoom",
  .methodLinkNest RX2 97 yX1_rotate "BeadLoom",
  .methodLinkNest RX1 25 yX2_blank "BeadLoom"]
def Nest (U : State) : Prop := ∀ w ∈ nestW, va_Nw w U
theorem Nest.warm {s U : State} (hW : s.WarmedH U.vm) (h : Nest s) : Nest U := by
  intro w hw
  have h1 := h w hw
  simp only [nestW, List.mem_cons, List.not_mem_nil, or_false] at hw
  rcases hw with rfl | rfl | rfl | rfl | rfl | rfl | rfl | rfl | rfl | rfl | rfl | rfl | rfl | rfl | rfl | rfl | rfl | rfl | rfl | rfl | rfl | rfl <;> first | exact va_Nw.warmF hW h1 | exact va_Nw.warmM hW h1
theorem Nest.call {U : State} {g : JFrame} {mk : MethodId} {a : Array Value} (h : Nest U) : Nest (U.calling g mk a) := by
  intro w hw
  have h1 := h w hw
  simp only [nestW, List.mem_cons, List.not_mem_nil, or_false] at hw
  rcases hw with rfl | rfl | rfl | rfl | rfl | rfl | rfl | rfl | rfl | rfl | rfl | rfl | rfl | rfl | rfl | rfl | rfl | rfl | rfl | rfl | rfl | rfl <;> exact va_Nw.same rfl rfl h1
/-! worlds of a fixed number of cells -/
def Aw (N : Nat) (a : Nat → Nat) : Nat → Prop := fun q => ∃ k, k < N ∧ a k = q
def wl (N : Nat) (a : Nat → Nat) (E : Nat → va_E) : va_W := (List.range N).map (fun k => (a k, E k))
theorem wl_at {N : Nat} {a : Nat → Nat} {E : Nat → va_E} {k : Nat} (h : k < N) : (wl N a E)[k]? = some (a k, E k) := by
  simp [wl, h]
theorem wl_inv {N : Nat} {a : Nat → Nat} {E : Nat → va_E} {k : Nat} {q : Nat × va_E} (h : (wl N a E)[k]? = some q) : k < N ∧ q = (a k, E k) := by
  by_cases hk : k < N
  · rw [wl_at hk] at h; exact ⟨hk, (Option.some.inj h).symm⟩
  · simp [wl, List.getElem?_eq_none, Nat.not_lt.mp hk] at h
theorem wl_set {N : Nat} {a : Nat → Nat} {E : Nat → va_E} {k : Nat} {e : va_E} : (wl N a E).set k (a k, e) = wl N a (va_up E k e) := by
  apply List.ext_getElem?
  intro i
  by_cases hi : i < N
  · rw [wl_at hi, List.getElem?_set]
    by_cases hk : k = i
    · subst hk
      simp [wl, hi, va_up]
    · rw [if_neg hk, wl_at hi, va_up_ne _ _ (fun h => hk h.symm)]
  · have h1 : (wl N a (va_up E k e))[i]? = none := by simp [wl]; omega
    have h2 : ((wl N a E).set k (a k, e))[i]? = none := by simp [wl]; omega
    rw [h1, h2]
def HW (D : va_G) (N : Nat) (a : Nat → Nat) (E : Nat → va_E) (H : Heap) : Prop := (∀ i j, i < N → j < N → a i = a j → i = j) ∧ va_P D vwCl (wl N a E) H
theorem HW.d {D : va_G} {N : Nat} {a : Nat → Nat} {E : Nat → va_E} {H : Heap} (h : HW D N a E H) : va_D (Aw N a) (wl N a E) := by
  refine ⟨fun i j p q hi hj hpq => ?_, fun k q hk => ?_⟩
  · obtain ⟨h1, rfl⟩ := wl_inv hi
    obtain ⟨h2, rfl⟩ := wl_inv hj
    exact h.1 i j h1 h2 hpq
  · obtain ⟨h1, rfl⟩ := wl_inv hk
    exact ⟨k, h1, rfl⟩
theorem HW.set {D : va_G} {N : Nat} {a : Nat → Nat} {E : Nat → va_E} {H H1 : Heap} {k : Nat} {e : va_E} (h : HW D N a E H) (h1 : va_P D vwCl ((wl N a E).set k (a k, e)) H1) : HW D N a (va_up E k e) H1 := ⟨h.1, by rw [← wl_set]; exact h1⟩
theorem HW.eqv {D : va_G} {N : Nat} {a : Nat → Nat} {E E' : Nat → va_E} {H : Heap} (h : HW D N a E H) (he : ∀ k, k < N → E k = E' k) : HW D N a E' H := by
  refine ⟨h.1, fun k q hk => ?_⟩
  obtain ⟨h1, rfl⟩ := wl_inv hk
  rw [← he k h1]
  exact h.2 k _ (wl_at h1)
theorem HW.eqA {D : va_G} {N : Nat} {a : Nat → Nat} {E E' : Nat → va_E} {H : Heap} (h : HW D N a E H) (he : ∀ k, k < N → va_at D vwCl (a k, E k) H → va_at D vwCl (a k, E' k) H) : HW D N a E' H := by
  refine ⟨h.1, fun k q hk => ?_⟩
  obtain ⟨h1, rfl⟩ := wl_inv hk
  exact he k h1 (h.2 k _ (wl_at h1))
theorem HW.kept {D : va_G} {N : Nat} {a : Nat → Nat} {E : Nat → va_E} {H H1 : Heap} (h : HW D N a E H) (hk : ∀ k, k < N → H1[a k]? = H[a k]?) : HW D N a E H1 := by
  refine ⟨h.1, h.2.kept fun k q hq => ?_⟩
  obtain ⟨h1, rfl⟩ := wl_inv hq
  exact hk k h1
theorem HW.lt {D : va_G} {N : Nat} {a : Nat → Nat} {E : Nat → va_E} {H : Heap} (h : HW D N a E H) {k : Nat} (hk : k < N) : a k < H.size := (h.2 k _ (wl_at hk)).lt
theorem at_l {D : va_G} {x : Nat} {cA : ClassId} {n : Nat} {f g : Nat → Int64} {H : Heap} (he : ∀ j, j < n → f j = g j) (h : va_at D vwCl (x, .inl (cA, n, .inr (.inl f))) H) : va_at D vwCl (x, .inl (cA, n, .inr (.inl g))) H := by
  have e : vp_cell cA (n, .inr (.inl f)) = vp_cell cA (n, .inr (.inl g)) := by
    rw [vp_cell_l, vp_cell_l]
    unfold arrV
    congr 1
    congr 1
    funext j
    exact congrArg Value.long (he j.val j.isLt)
  show H[x]? = some (vp_cell cA (n, .inr (.inl g)))
  rw [← e]; exact h
theorem at_i {D : va_G} {x : Nat} {cA : ClassId} {n : Nat} {f g : Nat → Int32} {H : Heap} (he : ∀ j, j < n → f j = g j) (h : va_at D vwCl (x, .inl (cA, n, .inl f)) H) : va_at D vwCl (x, .inl (cA, n, .inl g)) H := by
  have e : vp_cell cA (n, .inl f) = vp_cell cA (n, .inl g) := by
    rw [vp_cell_i, vp_cell_i]
    unfold arrV
    congr 1
    congr 1
    funext j
    exact congrArg Value.int (he j.val j.isLt)
  show H[x]? = some (vp_cell cA (n, .inl g))
  rw [← e]; exact h
/-! the words of the law are good for every call -/
set_option maxRecDepth 20000 in
theorem law_good : GoodIn wsL_law wsL_law := goodIn_sub (fun _ h => h) (by decide +kernel)
theorem good_code {w0 : Cond} {y : MethodName} {cc : ByteArray} {n : Nat} {ret : Option FieldType} (h : Cond.code y cc n ret ∈ wsL_law) : GoodIn (w0 :: wsL_law) (Cond.code y cc n ret :: wsL_law) := fun w hw => by
  have hm : w ∈ wsL_law := by
    rcases List.mem_cons.mp hw with rfl | h1
    · exact h
    · exact h1
  exact ⟨List.mem_cons_of_mem _ hm, (law_good w hm).2⟩
theorem good_in {w0 w : Cond} (h : w ∈ wsL_law) : w ∈ w0 :: wsL_law ∧ ((w.onTables && w.keeps) = true ∨ ∃ ty, w = .arrayClass ty) := ⟨List.mem_cons_of_mem _ h, (law_good w h).2⟩

/-! what a method's walk stands on -/
def Cx (p : Program) (s : State) (m : MethodId) (args : Array Value) (c : Code) (cc : ByteArray) (own : String) (nL : Nat) (G : Gx) : Prop :=
  p.tables.exec = Jvm.exec ∧ c.code = cc ∧ c.maxLocals = nL ∧ s.vm.findClass own = some m.cls ∧ (∀ w ∈ wsL_law, w.before args s = true) ∧ va_K G.1 vwCl (gTy G) s ∧ Nest s
section GW
variable {p : Program} {l : Launch} {e : Env} {R : Room} {s : State} {m : MethodId} {args : Array Value} {below : List Frame} {meth : Method} {c : Code} {H : Heap} {locs : List Loc} {cells slots : Nat} {Q : State → Prop}
variable {cc : ByteArray} {own : String} {nL : Nat} {G : Gx} {pc : Nat} {ls : Array Slot} {rest : List Value} {N : Nat} {a : Nat → Nat} {E : Nat → va_E} {H0 : Heap}
theorem hw_get (C : Cx p s m args c cc own nL G) (h : HW G.1 N a E H) (k : Nat) (hk : k < N) {ci : Nat} {fs : List Value} (he : E k = .inr (ci, fs)) {Cn : String} {T : u_T} {Nf : Nat} (hin : ∀ w ∈ u_ws Cn T Nf, w ∈ wsL_law) (hc : vwCl[ci]? = some (Cn, T, Nf)) (j : Nat) (hj : j < Nf) {index : Nat} (hlink : Cond.fieldLink own index (T j).1 (T j).2.1 (T j).2.2.1 ∈ wsL_law) {v : Value} (hv : fs[j]? = some v) (hdg : decode cc pc = .ok (.getfield index, 3))
    (kk : W p l e R s m args below meth c H locs cells slots Q (F0 m (pc + 3) ls (v :: rest))) : W p l e R s m args below meth c H locs cells slots Q (F0 m pc ls (.ref (a k) :: rest)) :=
  va_get C.1 C.2.1 C.2.2.2.2.1 hin C.2.2.2.1 C.2.2.2.2.2.1 h.2 k (by rw [wl_at hk, he]) hc j hj (C.2.2.2.2.1 _ hlink) (fun _ x => x) hv hdg kk
theorem hw_getN (C : Cx p s m args c cc own nL G) (h : HW G.1 N a E H) (k : Nat) (hk : k < N) {ci : Nat} {fs : List Value} (he : E k = .inr (ci, fs)) {Cn host : String} {T : u_T} {Nf : Nat} (hin : ∀ w ∈ u_ws Cn T Nf, w ∈ wsL_law) (hc : vwCl[ci]? = some (Cn, T, Nf)) (j : Nat) (hj : j < Nf) {index : Nat} (hlink : Cond.fieldLinkNest own index (T j).1 (T j).2.1 (T j).2.2.1 host ∈ nestW) {v : Value} (hv : fs[j]? = some v) (hdg : decode cc pc = .ok (.getfield index, 3))
    (kk : W p l e R s m args below meth c H locs cells slots Q (F0 m (pc + 3) ls (v :: rest))) : W p l e R s m args below meth c H locs cells slots Q (F0 m pc ls (.ref (a k) :: rest)) :=
  va_getN C.1 C.2.1 C.2.2.2.2.1 hin C.2.2.2.1 C.2.2.2.2.2.1 h.2 k (by rw [wl_at hk, he]) hc j hj (va_Nw.use rfl (C.2.2.2.2.2.2 _ hlink)) (fun _ x => x) hv hdg kk
theorem hw_put (C : Cx p s m args c cc own nL G) (h : HW G.1 N a E H) (hS : va_S (Aw N a) H0 H locs) (k : Nat) (hk : k < N) {ci : Nat} {fs : List Value} (he : E k = .inr (ci, fs)) {Cn : String} {T : u_T} {Nf : Nat} (hin : ∀ w ∈ u_ws Cn T Nf, w ∈ wsL_law) (ty0 : Nat → FieldType) (hty : ∀ k, k < Nf → parseFieldDescriptor (T k).2.2.1 = some (ty0 k)) (hnm : ∀ a, a < Nf → ∀ b, b < Nf → a ≠ b → (T a).2.1 ≠ (T b).2.1) (hc : vwCl[ci]? = some (Cn, T, Nf)) (j : Nat) (hj : j < Nf) {index : Nat} (hlink : Cond.fieldLink own index (T j).1 (T j).2.1 (T j).2.2.1 ∈ wsL_law) (hfin : (T j).2.2.2 = false) (hd : parseFieldDescriptor (T j).2.2.1 = some .int) {v : Int32} (hl : j < fs.length) (hdg : decode cc pc = .ok (.putfield index, 3))
    (kk : ∀ (H1 : Heap) (locs1 : List Loc), HW G.1 N a (va_up E k (.inr (ci, fs.set j (.int v)))) H1 → va_S (Aw N a) H0 H1 locs1 → W p l e R s m args below meth c H1 locs1 cells slots Q (F0 m (pc + 3) ls rest)) : W p l e R s m args below meth c H locs cells slots Q (F0 m pc ls (.int v :: .ref (a k) :: rest)) :=
  va_put C.1 C.2.1 C.2.2.2.2.1 hin ty0 hty hnm C.2.2.2.1 C.2.2.2.2.2.1 h.2 h.d hS k (by rw [wl_at hk, he]) hc j hj (C.2.2.2.2.1 _ hlink) (fun _ x => x) hfin hd rfl rfl hl hdg (fun H1 l1 hP _ hS1 => kk H1 l1 (h.set hP) hS1)
theorem hw_putN (C : Cx p s m args c cc own nL G) (h : HW G.1 N a E H) (hS : va_S (Aw N a) H0 H locs) (k : Nat) (hk : k < N) {ci : Nat} {fs : List Value} (he : E k = .inr (ci, fs)) {Cn host : String} {T : u_T} {Nf : Nat} (hin : ∀ w ∈ u_ws Cn T Nf, w ∈ wsL_law) (ty0 : Nat → FieldType) (hty : ∀ k, k < Nf → parseFieldDescriptor (T k).2.2.1 = some (ty0 k)) (hnm : ∀ a, a < Nf → ∀ b, b < Nf → a ≠ b → (T a).2.1 ≠ (T b).2.1) (hc : vwCl[ci]? = some (Cn, T, Nf)) (j : Nat) (hj : j < Nf) {index : Nat} (hlink : Cond.fieldLinkNest own index (T j).1 (T j).2.1 (T j).2.2.1 host ∈ nestW) (hfin : (T j).2.2.2 = false) (hd : parseFieldDescriptor (T j).2.2.1 = some .int) {v : Int32} (hl : j < fs.length) (hdg : decode cc pc = .ok (.putfield index, 3))
    (kk : ∀ (H1 : Heap) (locs1 : List Loc), HW G.1 N a (va_up E k (.inr (ci, fs.set j (.int v)))) H1 → va_S (Aw N a) H0 H1 locs1 → W p l e R s m args below meth c H1 locs1 cells slots Q (F0 m (pc + 3) ls rest)) : W p l e R s m args below meth c H locs cells slots Q (F0 m pc ls (.int v :: .ref (a k) :: rest)) :=
  va_putN C.1 C.2.1 C.2.2.2.2.1 hin ty0 hty hnm C.2.2.2.1 C.2.2.2.2.2.1 h.2 h.d hS k (by rw [wl_at hk, he]) hc j hj (va_Nw.use rfl (C.2.2.2.2.2.2 _ hlink)) (fun _ x => x) hfin hd rfl rfl hl hdg (fun H1 l1 hP _ hS1 => kk H1 l1 (h.set hP) hS1)
theorem hw_iald (C : Cx p s m args c cc own nL G) (h : HW G.1 N a E H) (k : Nat) (hk : k < N) {n : Nat} {f : Nat → Int32} (he : E k = .inl (G.2 0, n, .inl f)) (i : Nat) (hi : i < n) (hn : n < 2 ^ 31) (hdg : decode cc pc = .ok (.iaload, 1))
    (kk : W p l e R s m args below meth c H locs cells slots Q (F0 m (pc + 1) ls (.int (f i) :: rest))) : W p l e R s m args below meth c H locs cells slots Q (F0 m pc ls (.int (nI i) :: .ref (a k) :: rest)) :=
  va_iald (tys := gTy G) C.1 C.2.1 C.2.2.2.2.2.1 h.2 k 0 (by rw [wl_at hk, he]) rfl (vp_in_nI hi hn) hdg (by rw [nI_clamp (by omega)]; exact kk)
theorem hw_zald (C : Cx p s m args c cc own nL G) (h : HW G.1 N a E H) (k : Nat) (hk : k < N) {n : Nat} {f : Nat → Int32} (he : E k = .inl (G.2 2, n, .inl f)) (i : Nat) (hi : i < n) (hn : n < 2 ^ 31) (hdg : decode cc pc = .ok (.baload, 1))
    (kk : W p l e R s m args below meth c H locs cells slots Q (F0 m (pc + 1) ls (.int (f i) :: rest))) : W p l e R s m args below meth c H locs cells slots Q (F0 m pc ls (.int (nI i) :: .ref (a k) :: rest)) :=
  va_zald (tys := gTy G) C.1 C.2.1 C.2.2.2.2.2.1 h.2 k 2 (by rw [wl_at hk, he]) rfl (vp_in_nI hi hn) hdg (by rw [nI_clamp (by omega)]; exact kk)
theorem hw_lald (C : Cx p s m args c cc own nL G) (h : HW G.1 N a E H) (k : Nat) (hk : k < N) {n : Nat} {f : Nat → Int64} (he : E k = .inl (G.2 1, n, .inr (.inl f))) (i : Nat) (hi : i < n) (hn : n < 2 ^ 31) (hdg : decode cc pc = .ok (.laload, 1))
    (kk : W p l e R s m args below meth c H locs cells slots Q (F0 m (pc + 1) ls (.long (f i) :: rest))) : W p l e R s m args below meth c H locs cells slots Q (F0 m pc ls (.int (nI i) :: .ref (a k) :: rest)) :=
  va_lald (tys := gTy G) C.1 C.2.1 C.2.2.2.2.2.1 h.2 k 1 (by rw [wl_at hk, he]) rfl (vp_in_nI hi hn) hdg (by rw [nI_clamp (by omega)]; exact kk)
theorem hw_aald (C : Cx p s m args c cc own nL G) (h : HW G.1 N a E H) (k : Nat) (hk : k < N) {n : Nat} {f : Nat → Option Nat} (he : E k = .inl (G.2 3, n, .inr (.inr (.inr (.inr f))))) (i : Nat) (hi : i < n) (hn : n < 2 ^ 31) {x : Nat} (hx : f i = some x) (hdg : decode cc pc = .ok (.aaload, 1))
    (kk : W p l e R s m args below meth c H locs cells slots Q (F0 m (pc + 1) ls (.ref x :: rest))) : W p l e R s m args below meth c H locs cells slots Q (F0 m pc ls (.int (nI i) :: .ref (a k) :: rest)) :=
  va_aldq (tys := gTy G) C.1 C.2.1 C.2.2.2.2.2.1 h.2 k 3 (by rw [wl_at hk, he]) rfl (vp_in_nI hi hn) hdg (by rw [nI_clamp (by omega), hx]; exact kk)
theorem hw_iast (C : Cx p s m args c cc own nL G) (h : HW G.1 N a E H) (hS : va_S (Aw N a) H0 H locs) (k : Nat) (hk : k < N) {n : Nat} {f : Nat → Int32} (he : E k = .inl (G.2 0, n, .inl f)) (i : Nat) (hi : i < n) (hn : n < 2 ^ 31) {x : Int32} (hdg : decode cc pc = .ok (.iastore, 1))
    (kk : ∀ (H1 : Heap) (locs1 : List Loc), HW G.1 N a (va_up E k (.inl (G.2 0, n, .inl (upd f i x)))) H1 → va_S (Aw N a) H0 H1 locs1 → W p l e R s m args below meth c H1 locs1 cells slots Q (F0 m (pc + 1) ls rest)) : W p l e R s m args below meth c H locs cells slots Q (F0 m pc ls (.int x :: .int (nI i) :: .ref (a k) :: rest)) :=
  va_iast (tys := gTy G) C.1 C.2.1 C.2.2.2.2.2.1 h.2 h.d hS k 0 (by rw [wl_at hk, he]) rfl (vp_in_nI hi hn) hdg (fun H1 l1 hP _ hS1 => kk H1 l1 (by rw [nI_clamp (by omega)] at hP; exact h.set hP) hS1)
theorem hw_zast (C : Cx p s m args c cc own nL G) (h : HW G.1 N a E H) (hS : va_S (Aw N a) H0 H locs) (k : Nat) (hk : k < N) {n : Nat} {f : Nat → Int32} (he : E k = .inl (G.2 2, n, .inl f)) (i : Nat) (hi : i < n) (hn : n < 2 ^ 31) {x : Int32} (hx : vp_nar .boolean x = x) (hdg : decode cc pc = .ok (.bastore, 1))
    (kk : ∀ (H1 : Heap) (locs1 : List Loc), HW G.1 N a (va_up E k (.inl (G.2 2, n, .inl (upd f i x)))) H1 → va_S (Aw N a) H0 H1 locs1 → W p l e R s m args below meth c H1 locs1 cells slots Q (F0 m (pc + 1) ls rest)) : W p l e R s m args below meth c H locs cells slots Q (F0 m pc ls (.int x :: .int (nI i) :: .ref (a k) :: rest)) :=
  va_zast (tys := gTy G) C.1 C.2.1 C.2.2.2.2.2.1 h.2 h.d hS k 2 (by rw [wl_at hk, he]) rfl (vp_in_nI hi hn) hdg (fun H1 l1 hP _ hS1 => kk H1 l1 (by rw [nI_clamp (by omega), hx] at hP; exact h.set hP) hS1)
theorem hw_last (C : Cx p s m args c cc own nL G) (h : HW G.1 N a E H) (hS : va_S (Aw N a) H0 H locs) (k : Nat) (hk : k < N) {n : Nat} {f : Nat → Int64} (he : E k = .inl (G.2 1, n, .inr (.inl f))) (i : Nat) (hi : i < n) (hn : n < 2 ^ 31) {x : Int64} (hdg : decode cc pc = .ok (.lastore, 1))
    (kk : ∀ (H1 : Heap) (locs1 : List Loc), HW G.1 N a (va_up E k (.inl (G.2 1, n, .inr (.inl (vp_updL f i x))))) H1 → va_S (Aw N a) H0 H1 locs1 → W p l e R s m args below meth c H1 locs1 cells slots Q (F0 m (pc + 1) ls rest)) : W p l e R s m args below meth c H locs cells slots Q (F0 m pc ls (.long x :: .int (nI i) :: .ref (a k) :: rest)) :=
  va_last (tys := gTy G) C.1 C.2.1 C.2.2.2.2.2.1 h.2 h.d hS k 1 (by rw [wl_at hk, he]) rfl (vp_in_nI hi hn) hdg (fun H1 l1 hP _ hS1 => kk H1 l1 (by rw [nI_clamp (by omega)] at hP; exact h.set hP) hS1)
theorem hw_copy (C : Cx p s m args c cc own nL G) (hls : ls.size = nL) (h : HW G.1 N a E H) (hS : va_S (Aw N a) H0 H locs) (k0 k1 : Nat) (hk0 : k0 < N) (hk1 : k1 < N) {n0 n1 : Nat} {f g : Nat → Int64} (he0 : E k0 = .inl (G.2 1, n0, .inr (.inl f))) (he1 : E k1 = .inl (G.2 1, n1, .inr (.inl g))) {index : Nat} (hlink : Cond.methodLink own index arraycopyName ∈ wsL_law) (sp dp n : Nat) (h4 : sp + n ≤ n0) (h5 : dp + n ≤ n1) (hn0 : n0 < 2 ^ 31) (hn1 : n1 < 2 ^ 31)
    (hframes : 1 ≤ R.frames) (hlocals : (rest.map fun v => v.category).sum + (nativeFrameWords "java/lang/System" "arraycopy" 5 + 11) ≤ R.locals) (hdg : decode cc pc = .ok (.invokestatic index, 3))
    (kk : ∀ (H1 : Heap) (locs1 : List Loc), HW G.1 N a (va_up E k1 (.inl (G.2 1, n1, .inr (.inl (va_cpy f g sp dp n))))) H1 → va_S (Aw N a) H0 H1 locs1 → W p l e R s m args below meth c H1 locs1 cells slots Q (F0 m (pc + 3) ls rest)) : W p l e R s m args below meth c H locs cells slots Q (F0 m pc ls (.int (nI n) :: .int (nI dp) :: .ref (a k1) :: .int (nI sp) :: .ref (a k0) :: rest)) :=
  va_copyl (tys := gTy G) (ty := .long) C.1 C.2.1 (C.2.2.1.trans hls.symm) C.2.2.2.1 (C.2.2.2.2.1 _ hlink) (C.2.2.2.2.1 _ (by decide +kernel)) (C.2.2.2.2.1 _ (by decide +kernel)) (C.2.2.2.2.1 _ (by decide +kernel)) C.2.2.2.2.2.1 h.2 h.d hS k0 k1 1 1 (by rw [wl_at hk0, he0]) (by rw [wl_at hk1, he1]) rfl rfl rfl (nI_pos (by omega)) (nI_pos (by omega)) (nI_pos (by omega)) (by rw [nI_clamp (by omega), nI_clamp (by omega)]; exact h4) (by rw [nI_clamp (by omega), nI_clamp (by omega)]; exact h5) (fun _ _ => rfl) hframes hlocals hdg (fun H1 l1 hP _ hS1 => kk H1 l1 (by rw [nI_clamp (by omega), nI_clamp (by omega), nI_clamp (by omega)] at hP; exact h.set hP) hS1)
/-! the top of the stack by another name; a branch whose side is known -/
theorem lw_ti {x y : Int32} (h : x = y) (k : W p l e R s m args below meth c H locs cells slots Q (F0 m pc ls (.int y :: rest))) : W p l e R s m args below meth c H locs cells slots Q (F0 m pc ls (.int x :: rest)) := h ▸ k
theorem lw_tl {x y : Int64} (h : x = y) (k : W p l e R s m args below meth c H locs cells slots Q (F0 m pc ls (.long y :: rest))) : W p l e R s m args below meth c H locs cells slots Q (F0 m pc ls (.long x :: rest)) := h ▸ k
end GW
end
section
/-! the state of the loom: kinds, places, cells, how many beads, colours, pearls, how many steps, the pattern (five rows), CAME, the counts, the rounds woven -/
abbrev St : Type := (Nat → Nat) × (Nat → Nat) × (Nat → Nat → Int64) × Nat × (Nat → Int32) × (Nat → Int32) × Nat × (Nat → Nat → Int32) × Int32 × (Nat → Int32) × Int32
abbrev sKd (S : St) : Nat → Nat := S.1
abbrev sPl (S : St) : Nat → Nat := S.2.1
abbrev sCe (S : St) : Nat → Nat → Int64 := S.2.2.1
abbrev sNb (S : St) : Nat := S.2.2.2.1
abbrev sCo (S : St) : Nat → Int32 := S.2.2.2.2.1
abbrev sPe (S : St) : Nat → Int32 := S.2.2.2.2.2.1
abbrev sNs (S : St) : Nat := S.2.2.2.2.2.2.1
abbrev sPt (S : St) : Nat → Nat → Int32 := S.2.2.2.2.2.2.2.1
abbrev sCm (S : St) : Int32 := S.2.2.2.2.2.2.2.2.1
abbrev sMv (S : St) : Nat → Int32 := S.2.2.2.2.2.2.2.2.2.1
abbrev sWv (S : St) : Int32 := S.2.2.2.2.2.2.2.2.2.2
abbrev uKd (S : St) (x : Nat → Nat) : St := (x, sPl S, sCe S, sNb S, sCo S, sPe S, sNs S, sPt S, sCm S, sMv S, sWv S)
abbrev uPl (S : St) (x : Nat → Nat) : St := (sKd S, x, sCe S, sNb S, sCo S, sPe S, sNs S, sPt S, sCm S, sMv S, sWv S)
abbrev uCe (S : St) (x : Nat → Nat → Int64) : St := (sKd S, sPl S, x, sNb S, sCo S, sPe S, sNs S, sPt S, sCm S, sMv S, sWv S)
abbrev uNb (S : St) (x : Nat) : St := (sKd S, sPl S, sCe S, x, sCo S, sPe S, sNs S, sPt S, sCm S, sMv S, sWv S)
abbrev uCo (S : St) (x : Nat → Int32) : St := (sKd S, sPl S, sCe S, sNb S, x, sPe S, sNs S, sPt S, sCm S, sMv S, sWv S)
abbrev uPe (S : St) (x : Nat → Int32) : St := (sKd S, sPl S, sCe S, sNb S, sCo S, x, sNs S, sPt S, sCm S, sMv S, sWv S)
abbrev uNs (S : St) (x : Nat) : St := (sKd S, sPl S, sCe S, sNb S, sCo S, sPe S, x, sPt S, sCm S, sMv S, sWv S)
abbrev uPt (S : St) (x : Nat → Nat → Int32) : St := (sKd S, sPl S, sCe S, sNb S, sCo S, sPe S, sNs S, x, sCm S, sMv S, sWv S)
abbrev uCm (S : St) (x : Int32) : St := (sKd S, sPl S, sCe S, sNb S, sCo S, sPe S, sNs S, sPt S, x, sMv S, sWv S)
abbrev uMv (S : St) (x : Nat → Int32) : St := (sKd S, sPl S, sCe S, sNb S, sCo S, sPe S, sNs S, sPt S, sCm S, x, sWv S)
abbrev uWv (S : St) (x : Int32) : St := (sKd S, sPl S, sCe S, sNb S, sCo S, sPe S, sNs S, sPt S, sCm S, sMv S, x)
/-! the class's cells: 0 the loom, 1 its racks, 2 colours, 3 pearls, 4 the pattern, 5 to 9 its rows, 10 the counts, from 11 on the racks, from 19 on their cells, from 27 on what they keep -/
abbrev Kt : Type := Nat → Nat → Int64
abbrev BS : Type := St × Kt
def EBr (G : Gx) (a : Nat → Nat) (kd pl : Nat → Nat) (ce K : Nat → Nat → Int64) (k : Nat) : va_E := if k < 8 then .inr (1, [.ref (a (k + 19)), .ref (a (k + 27)), .int (nI (kd k)), .int (nI (pl k))]) else if k < 16 then .inl (G.2 1, 40, .inr (.inl (ce (k - 8)))) else .inl (G.2 1, 40, .inr (.inl (K (k - 16))))
def EB (G : Gx) (a : Nat → Nat) (B : BS) : Nat → va_E := fun k => match k with
  | 0 => .inr (2, [.ref (a 1), .ref (a 2), .ref (a 3), .ref (a 4), .ref (a 10), .int (nI (sNb B.1)), .int (sCm B.1), .int (sWv B.1)])
  | 1 => .inl (G.2 3, 8, .inr (.inr (.inr (.inr (fun r => some (a (r + 11)))))))
  | 2 => .inl (G.2 0, 200, .inl (sCo B.1))
  | 3 => .inl (G.2 2, 200, .inl (sPe B.1))
  | 4 => .inr (0, [.ref (a 5), .ref (a 6), .ref (a 7), .ref (a 8), .ref (a 9), .int (nI (sNs B.1))])
  | 5 => .inl (G.2 0, 24, .inl (sPt B.1 0))
  | 6 => .inl (G.2 0, 24, .inl (sPt B.1 1))
  | 7 => .inl (G.2 0, 24, .inl (sPt B.1 2))
  | 8 => .inl (G.2 0, 24, .inl (sPt B.1 3))
  | 9 => .inl (G.2 0, 24, .inl (sPt B.1 4))
  | 10 => .inl (G.2 0, 5, .inl (sMv B.1))
  | k + 11 => EBr G a (sKd B.1) (sPl B.1) (sCe B.1) B.2 k
theorem EB_r (G : Gx) (a : Nat → Nat) (B : BS) {r : Nat} (h : r < 8) : EB G a B (r + 11) = .inr (1, [.ref (a (r + 19)), .ref (a (r + 27)), .int (nI (sKd B.1 r)), .int (nI (sPl B.1 r))]) := by
  show EBr G a _ _ _ _ r = _
  unfold EBr
  rw [if_pos h]
theorem EB_c (G : Gx) (a : Nat → Nat) (B : BS) {r : Nat} (h : r < 8) : EB G a B (r + 19) = .inl (G.2 1, 40, .inr (.inl (sCe B.1 r))) := by
  show EBr G a _ _ _ _ (r + 8) = _
  unfold EBr
  rw [if_neg (by omega), if_pos (by omega)]
  rfl
theorem EB_k (G : Gx) (a : Nat → Nat) (B : BS) {r : Nat} (h : r < 8) : EB G a B (r + 27) = .inl (G.2 1, 40, .inr (.inl (B.2 r))) := by
  show EBr G a _ _ _ _ (r + 16) = _
  unfold EBr
  rw [if_neg (by omega), if_neg (by omega)]
  rfl
theorem EB_cases {P : Nat → Prop} (h : ∀ k, k < 11 → P k) (hr : ∀ r, r < 8 → P (r + 11)) (hc : ∀ r, r < 8 → P (r + 19)) (hk : ∀ r, r < 8 → P (r + 27)) : ∀ k, k < 35 → P k := by
  intro k hk35
  by_cases h1 : k < 11
  · exact h k h1
  by_cases h2 : k < 19
  · have := hr (k - 11) (by omega); rwa [show k - 11 + 11 = k by omega] at this
  by_cases h3 : k < 27
  · have := hc (k - 19) (by omega); rwa [show k - 19 + 19 = k by omega] at this
  · have := hk (k - 27) (by omega); rwa [show k - 27 + 27 = k by omega] at this
/-- what of the two states the world shows -/
def BEq (B B' : BS) : Prop := (∀ r, r < 8 → sKd B.1 r = sKd B'.1 r ∧ sPl B.1 r = sPl B'.1 r) ∧ (∀ r j, r < 8 → j < 40 → sCe B.1 r j = sCe B'.1 r j) ∧ (∀ r j, r < 8 → j < 40 → B.2 r j = B'.2 r j) ∧ sNb B.1 = sNb B'.1 ∧ (∀ j, j < 200 → sCo B.1 j = sCo B'.1 j) ∧ (∀ j, j < 200 → sPe B.1 j = sPe B'.1 j) ∧ sNs B.1 = sNs B'.1 ∧ (∀ t j, t < 5 → j < 24 → sPt B.1 t j = sPt B'.1 t j) ∧ sCm B.1 = sCm B'.1 ∧ (∀ j, j < 5 → sMv B.1 j = sMv B'.1 j) ∧ sWv B.1 = sWv B'.1
theorem HB_eq {G : Gx} {a : Nat → Nat} {B B' : BS} {H : Heap} (h : HW G.1 35 a (EB G a B) H) (he : BEq B B') : HW G.1 35 a (EB G a B') H := by
  obtain ⟨h1, h2, h3, h4, h5, h6, h7, h8, h9, h10, h11⟩ := he
  refine h.eqA ?_
  refine EB_cases (fun k hk => ?_) (fun r hr => ?_) (fun r hr => ?_) (fun r hr => ?_)
  · match k, hk with
    | 0, _ => intro x; simp only [EB] at x ⊢; rw [← h4, ← h9, ← h11]; exact x
    | 1, _ => intro x; exact x
    | 2, _ => exact at_i h5
    | 3, _ => exact at_i h6
    | 4, _ => intro x; simp only [EB] at x ⊢; rw [← h7]; exact x
    | 5, _ => exact at_i (fun j hj => h8 0 j (by decide) hj)
    | 6, _ => exact at_i (fun j hj => h8 1 j (by decide) hj)
    | 7, _ => exact at_i (fun j hj => h8 2 j (by decide) hj)
    | 8, _ => exact at_i (fun j hj => h8 3 j (by decide) hj)
    | 9, _ => exact at_i (fun j hj => h8 4 j (by decide) hj)
    | 10, _ => exact at_i h10
    | k + 11, hk => omega
  · rw [EB_r G a B hr, EB_r G a B' hr, (h1 r hr).1, (h1 r hr).2]; exact id
  · rw [EB_c G a B hr, EB_c G a B' hr]; exact at_l (fun j hj => h2 r j hr hj)
  · rw [EB_k G a B hr, EB_k G a B' hr]; exact at_l (fun j hj => h3 r j hr hj)
/-! the reference's cells: 0 the object, 1 kind, 2 many, 3 cell, 4 before, 5 aside, 6 colours, 7 pearls, 8 pattern, 9 counts -/
abbrev MS : Type := St × (Nat → Int64) × (Nat → Int64) × (Nat → Int64) × (Nat → Int32) × (Nat → Int32)
abbrev mF (M : MS) : Nat → Int64 := M.2.1
abbrev mB (M : MS) : Nat → Int64 := M.2.2.1
abbrev mA (M : MS) : Nat → Int64 := M.2.2.2.1
abbrev mC (M : MS) : Nat → Int32 := M.2.2.2.2.1
abbrev mP (M : MS) : Nat → Int32 := M.2.2.2.2.2
def EM (G : Gx) (b : Nat → Nat) (M : MS) : Nat → va_E := fun k => match k with
  | 0 => .inr (3, [.ref (b 1), .ref (b 2), .ref (b 3), .ref (b 4), .ref (b 5), .int (nI (sNb M.1)), .ref (b 6), .ref (b 7), .int (nI (sNs M.1)), .ref (b 8), .int (sCm M.1), .ref (b 9), .int (sWv M.1)])
  | 1 => .inl (G.2 0, 8, .inl (fun r => nI (sKd M.1 r)))
  | 2 => .inl (G.2 0, 8, .inl (fun r => nI (sPl M.1 r)))
  | 3 => .inl (G.2 1, 320, .inr (.inl (mF M)))
  | 4 => .inl (G.2 1, 320, .inr (.inl (mB M)))
  | 5 => .inl (G.2 1, 40, .inr (.inl (mA M)))
  | 6 => .inl (G.2 0, 200, .inl (sCo M.1))
  | 7 => .inl (G.2 2, 200, .inl (sPe M.1))
  | 8 => .inl (G.2 0, 120, .inl (mP M))
  | _ => .inl (G.2 0, 6, .inl (mC M))
end
section
/-! contracts over a world of a fixed number of cells -/
abbrev rmB (f lo : Nat) : Room := { frames := f, cells := 0, slots := 0, locals := lo }
def PreW {σ : Type} (G : Gx) (N : Nat) (a : Nat → Nat) (E : σ → Nat → va_E) (u0 : σ) (U : State) : Prop := HW G.1 N a (E u0) U.heap ∧ va_K G.1 vwCl (gTy G) U ∧ Nest U
def CtI {σ : Type} (l : Launch) (G : Gx) (N : Nat) (a : Nat → Nat) (E : σ → Nat → va_E) (y : MethodName) (cc : ByteArray) (n : Nat) (ret : Option FieldType) (f lo : Nat) (As : List Value) (u0 : σ) (post : Int32 → σ → Prop) : Prop :=
  Met l y (.code y cc n ret :: wsL_law) (rmB f lo) (va_Pc As (PreW G N a E u0)) (va_Qi post (fun u t => HW G.1 N a (E u) t.heap) (Aw N a)) 0 0 (Aw N a)
def CtL {σ : Type} (l : Launch) (G : Gx) (N : Nat) (a : Nat → Nat) (E : σ → Nat → va_E) (y : MethodName) (cc : ByteArray) (n : Nat) (ret : Option FieldType) (f lo : Nat) (As : List Value) (u0 : σ) (post : Int64 → σ → Prop) : Prop :=
  Met l y (.code y cc n ret :: wsL_law) (rmB f lo) (va_Pc As (PreW G N a E u0)) (va_Ql post (fun u t => HW G.1 N a (E u) t.heap) (Aw N a)) 0 0 (Aw N a)
def CtV {σ : Type} (l : Launch) (G : Gx) (N : Nat) (a : Nat → Nat) (E : σ → Nat → va_E) (y : MethodName) (cc : ByteArray) (n : Nat) (ret : Option FieldType) (f lo : Nat) (As : List Value) (u0 : σ) (post : σ → Prop) : Prop :=
  Met l y (.code y cc n ret :: wsL_law) (rmB f lo) (va_Pc As (PreW G N a E u0)) (va_Qv post (fun u t => HW G.1 N a (E u) t.heap) (Aw N a)) 0 0 (Aw N a)
def CtQ {σ : Type} (l : Launch) (G : Gx) (N : Nat) (a : Nat → Nat) (E : σ → Nat → va_E) (y : MethodName) (cc : ByteArray) (n : Nat) (ret : Option FieldType) (f lo : Nat) (As : List Value) (u0 : σ) (post : Option Nat → σ → Prop) : Prop :=
  Met l y (.code y cc n ret :: wsL_law) (rmB f lo) (va_Pc As (PreW G N a E u0)) (va_Qq post (fun u t => HW G.1 N a (E u) t.heap) (Aw N a)) 0 0 (Aw N a)
/-- what every walk of such a method begins with -/
def EntW {σ : Type} (p : Program) (s : State) (m : MethodId) (args : Array Value) (c : Code) (cc : ByteArray) (own : String) (n : Nat) (G : Gx) (N : Nat) (a : Nat → Nat) (E : σ → Nat → va_E) (u0 : σ) : Prop := Cx p s m args c cc own n G ∧ HW G.1 N a (E u0) s.heap ∧ va_S (Aw N a) s.heap s.heap []
theorem ent_of {σ : Type} {l : Launch} {G : Gx} {N : Nat} {a : Nat → Nat} {E : σ → Nat → va_E} {y : MethodName} {cc : ByteArray} {n : Nat} {ret : Option FieldType} {f lo : Nat} {As : List Value} {u0 : σ} {Qc : Array Value → State → Outcome → State → Prop}
    (hy : plainName y.cls = true) (hn : (lg_sl As).length ≤ n)
    (body : ∀ (p : Program) (e : Env) (s : State) (m : MethodId) (below : List Frame) (meth : Method) (c : Code) (ls : Array Slot), Cx p s m As.toArray c cc y.cls n G → HW G.1 N a (E u0) s.heap → va_S (Aw N a) s.heap s.heap [] → meth.sig.returnType = ret → meth.locks = false → lv_has ls n (lv_args 0 As) →
      W p l e (rmB f lo) s m As.toArray below meth c s.heap [] 0 0 (MQ below Qc As.toArray s 0 0 (Aw N a)) (F0 m 0 ls [])) : Met l y (.code y cc n ret :: wsL_law) (rmB f lo) (va_Pc As (PreW G N a E u0)) Qc 0 0 (Aw N a) := by
  refine Met.ofW (cc := cc) (maxL := n) (ret := ret) hy rfl ?_
  intro p e s m args below meth c s₁ B hml hv
  obtain ⟨rfl, hH, hK, hN⟩ := hv
  have hts := atoms_spec (ws := .code y cc n ret :: wsL_law) B.pre
  have hown : s.vm.findClass y.cls = some m.cls := findClass_of_methodNamed B.named
  rw [lg_entry_eq]
  exact body p e s m below meth c _ ⟨B.exec, B.bytes, hml, hown, fun w hw => hts w (List.mem_cons_of_mem _ hw), hK, hN⟩ hH va_S.rf B.returns B.notSynchronized (lv_entry As hn)
/-! words that a call needs -/
def LkB (own : String) (index : Nat) (y : MethodName) (cc : ByteArray) (n : Nat) (ret : Option FieldType) (k : Nat) : Prop := Cond.code y cc n ret ∈ wsL_law ∧ Cond.initialized y.cls ∈ wsL_law ∧ (y.cls ≠ "java/lang/invoke/MethodHandle" ∧ y.cls ≠ "java/lang/invoke/VarHandle" ∧ (parseMethodDescriptor y.desc).map (fun d => d.parameters.length) = some k)
def LkV (own : String) (index : Nat) (y : MethodName) (cc : ByteArray) (n : Nat) (ret : Option FieldType) (k : Nat) : Prop := LkB own index y cc n ret k ∧ Cond.methodLink own index y ∈ wsL_law ∧ Cond.instanceMethod y ∈ wsL_law ∧ Cond.selects y.cls y y ∈ wsL_law
def LkS (own : String) (index : Nat) (y : MethodName) (cc : ByteArray) (n : Nat) (ret : Option FieldType) (k : Nat) : Prop := LkB own index y cc n ret k ∧ Cond.methodLink own index y ∈ wsL_law ∧ Cond.static y ∈ wsL_law
def LkVN (own : String) (index : Nat) (y : MethodName) (cc : ByteArray) (n : Nat) (ret : Option FieldType) (k : Nat) : Prop := LkB own index y cc n ret k ∧ Cond.methodLinkNest own index y "BeadLoom" ∈ nestW ∧ Cond.instanceMethod y ∈ wsL_law ∧ Cond.selects y.cls y y ∈ wsL_law
def LkSN (own : String) (index : Nat) (y : MethodName) (cc : ByteArray) (n : Nat) (ret : Option FieldType) (k : Nat) : Prop := LkB own index y cc n ret k ∧ Cond.methodLinkNest own index y "BeadLoom" ∈ nestW ∧ Cond.static y ∈ wsL_law
section CALLS
variable {p : Program} {l : Launch} {e : Env} {R : Room} {s : State} {m : MethodId} {args : Array Value} {below : List Frame} {meth : Method} {c : Code} {H : Heap} {locs : List Loc} {cells slots : Nat} {Q : State → Prop}
variable {cc : ByteArray} {own : String} {nL : Nat} {G : Gx} {pc : Nat} {ls : Array Slot} {rest st : List Value} {N : Nat} {a : Nat → Nat} {H0 : Heap} {σ : Type} {E : σ → Nat → va_E} {u0 : σ}
variable {y : MethodName} {cy : ByteArray} {n : Nat} {ret : Option FieldType} {f lo index k : Nat} {As : List Value}
theorem pre_blind (As : List Value) : FrameBlind (va_Pc As (PreW G N a E u0)) := fun a U g mk q => by
  obtain ⟨q0, qH, qK, qN⟩ := q
  exact ⟨q0, qH, va_K.moved (u := U) (U := U.calling g mk a) (Vm.Alike.refl U.vm) qK, qN.call⟩
theorem pre_S (C : Cx p s m args c cc own nL G) (h : HW G.1 N a (E u0) H) (As : List Value) : PreS s H (va_Pc As (PreW G N a E u0)) As :=
  ⟨pre_blind As, fun U hU hW => ⟨rfl, by rw [hU]; exact h, va_K.moved hW.alike C.2.2.2.2.2.1, Nest.warm hW C.2.2.2.2.2.2⟩⟩
theorem pre_V (C : Cx p s m args c cc own nL G) (h : HW G.1 N a (E u0) H) (j : Nat) (hj : j < N) {ci : Nat} {fs : List Value} {q : vw_C} (he : E u0 j = .inr (ci, fs)) (hc : vwCl[ci]? = some q) (As : List Value) : PreV s H q.1 (a j) (va_Pc (.ref (a j) :: As) (PreW G N a E u0)) As :=
  ⟨pre_blind _, va_recv C.2.2.2.2.2.1 h.2 (q0 := j) hc (by rw [wl_at hj, he]), fun U hU hW => ⟨rfl, by rw [hU]; exact h, va_K.moved hW.alike C.2.2.2.2.2.1, Nest.warm hW C.2.2.2.2.2.2⟩⟩
theorem cB (C : Cx p s m args c cc own nL G) (L : LkB own index y cy n ret k) (hl : Cond.methodLink own index y ∈ wsL_law) (hR : f + 1 ≤ R.frames ∧ 8 + (n + 11) + lo ≤ R.locals) : CallB R s args own index y cy n ret (.code y cy n ret :: wsL_law) (rmB f lo) 0 0 k :=
  callB_of k (Ts := wsL_law) C.2.2.2.2.1 (fun w hw => by
    rcases List.mem_cons.mp hw with rfl | h1
    · exact ⟨L.1, (law_good _ L.1).2⟩
    · exact ⟨h1, (law_good _ h1).2⟩) rfl rfl rfl (C.2.2.2.2.1 _ L.2.1) (C.2.2.2.2.1 _ hl) L.2.2 hR
theorem cN (C : Cx p s m args c cc own nL G) (L : LkB own index y cy n ret k) (hl : Cond.methodLinkNest own index y "BeadLoom" ∈ nestW) (hR : f + 1 ≤ R.frames ∧ 8 + (n + 11) + lo ≤ R.locals) : va_CN R s args own index y "BeadLoom" cy n ret (.code y cy n ret :: wsL_law) (rmB f lo) 0 0 k :=
  va_cnB k (Ts := wsL_law) C.2.2.2.2.1 (fun w hw => by
    rcases List.mem_cons.mp hw with rfl | h1
    · exact ⟨L.1, (law_good _ L.1).2⟩
    · exact ⟨h1, (law_good _ h1).2⟩) rfl rfl rfl (C.2.2.2.2.2.2 _ hl) (C.2.2.2.2.1 _ L.2.1) L.2.2 hR
variable {Qc : Array Value → State → Outcome → State → Prop}
theorem rV (C : Cx p s m args c cc own nL G) (h : HW G.1 N a (E u0) H) (L : LkV own index y cy n ret k) (j : Nat) (hj : j < N) {ci : Nat} {fs : List Value} {q : vw_C} (he : E u0 j = .inr (ci, fs)) (hc : vwCl[ci]? = some q) (hq : y.cls = q.1)
    (hM : Met l y (.code y cy n ret :: wsL_law) (rmB f lo) (va_Pc (.ref (a j) :: As) (PreW G N a E u0)) Qc 0 0 (Aw N a)) (hR : f + 1 ≤ R.frames ∧ 8 + (n + 11) + lo ≤ R.locals) (hls : ls.size = nL) (hn : As.length = k) (hst : st = As.reverse ++ .ref (a j) :: rest) (hW : (rest.map fun v => v.category).sum ≤ 8) (hdg : decode cc pc = .ok (.invokevirtual index, 3)) (hf : cells ≤ R.cells ∧ slots ≤ R.slots) :
    va_Run p l e R s m args below meth c H locs cells slots 0 0 (F0 m pc ls st) rest (Qc (Value.ref (a j) :: As).toArray) (Aw N a) :=
  va_runV (C := y.cls) (n := k) (Ts := wsL_law) ⟨C.1, C.2.1, C.2.2.1, C.2.2.2.1, C.2.2.2.2.1⟩ hM ⟨cB C L.1 L.2.1 hR, C.2.2.2.2.1 _ L.2.2.1, C.2.2.2.2.1 _ L.2.2.2⟩ (by rw [hq]; exact pre_V C h j hj he hc As) rfl hn hls hst (lv_room hW) hdg hf
theorem rS (C : Cx p s m args c cc own nL G) (h : HW G.1 N a (E u0) H) (L : LkS own index y cy n ret k)
    (hM : Met l y (.code y cy n ret :: wsL_law) (rmB f lo) (va_Pc As (PreW G N a E u0)) Qc 0 0 (Aw N a)) (hR : f + 1 ≤ R.frames ∧ 8 + (n + 11) + lo ≤ R.locals) (hls : ls.size = nL) (hn : As.length = k) (hst : st = As.reverse ++ rest) (hW : (rest.map fun v => v.category).sum ≤ 8) (hdg : decode cc pc = .ok (.invokestatic index, 3)) (hf : cells ≤ R.cells ∧ slots ≤ R.slots) :
    va_Run p l e R s m args below meth c H locs cells slots 0 0 (F0 m pc ls st) rest (Qc As.toArray) (Aw N a) :=
  va_runS (n := k) (Ts := wsL_law) ⟨C.1, C.2.1, C.2.2.1, C.2.2.2.1, C.2.2.2.2.1⟩ hM ⟨cB C L.1 L.2.1 hR, C.2.2.2.2.1 _ L.2.2⟩ (pre_S C h As) rfl hn hls hst (lv_room hW) hdg hf
theorem rVN (C : Cx p s m args c cc own nL G) (h : HW G.1 N a (E u0) H) (L : LkVN own index y cy n ret k) (j : Nat) (hj : j < N) {ci : Nat} {fs : List Value} {q : vw_C} (he : E u0 j = .inr (ci, fs)) (hc : vwCl[ci]? = some q) (hq : y.cls = q.1)
    (hM : Met l y (.code y cy n ret :: wsL_law) (rmB f lo) (va_Pc (.ref (a j) :: As) (PreW G N a E u0)) Qc 0 0 (Aw N a)) (hR : f + 1 ≤ R.frames ∧ 8 + (n + 11) + lo ≤ R.locals) (hls : ls.size = nL) (hn : As.length = k) (hst : st = As.reverse ++ .ref (a j) :: rest) (hW : (rest.map fun v => v.category).sum ≤ 8) (hdg : decode cc pc = .ok (.invokevirtual index, 3)) (hf : cells ≤ R.cells ∧ slots ≤ R.slots) :
    va_Run p l e R s m args below meth c H locs cells slots 0 0 (F0 m pc ls st) rest (Qc (Value.ref (a j) :: As).toArray) (Aw N a) :=
  va_runVN (C := y.cls) (n := k) (Ts := wsL_law) ⟨C.1, C.2.1, C.2.2.1, C.2.2.2.1, C.2.2.2.2.1⟩ hM ⟨cN C L.1 L.2.1 hR, C.2.2.2.2.1 _ L.2.2.1, C.2.2.2.2.1 _ L.2.2.2⟩ (by rw [hq]; exact pre_V C h j hj he hc As) rfl hn hls hst (lv_room hW) hdg hf
theorem rSN (C : Cx p s m args c cc own nL G) (h : HW G.1 N a (E u0) H) (L : LkSN own index y cy n ret k)
    (hM : Met l y (.code y cy n ret :: wsL_law) (rmB f lo) (va_Pc As (PreW G N a E u0)) Qc 0 0 (Aw N a)) (hR : f + 1 ≤ R.frames ∧ 8 + (n + 11) + lo ≤ R.locals) (hls : ls.size = nL) (hn : As.length = k) (hst : st = As.reverse ++ rest) (hW : (rest.map fun v => v.category).sum ≤ 8) (hdg : decode cc pc = .ok (.invokestatic index, 3)) (hf : cells ≤ R.cells ∧ slots ≤ R.slots) :
    va_Run p l e R s m args below meth c H locs cells slots 0 0 (F0 m pc ls st) rest (Qc As.toArray) (Aw N a) :=
  va_runSN (n := k) (Ts := wsL_law) ⟨C.1, C.2.1, C.2.2.1, C.2.2.2.1, C.2.2.2.2.1⟩ hM ⟨cN C L.1 L.2.1 hR, C.2.2.2.2.1 _ L.2.2, trivial⟩ (pre_S C h As) rfl hn hls hst (lv_room hW) hdg hf
/-! behind a call -/
theorem kI {aa : Array Value} {post : Int32 → σ → Prop} (hr : va_Run p l e R s m args below meth c H locs cells slots 0 0 (F0 m pc ls st) rest (va_Qi post (fun u t => HW G.1 N a (E u) t.heap) (Aw N a) aa) (Aw N a)) (hS : va_S (Aw N a) H0 H locs)
    (kk : ∀ (r : Int32) (u : σ) (H1 : Heap) (locs1 : List Loc), post r u → HW G.1 N a (E u) H1 → va_S (Aw N a) H0 H1 locs1 → W p l e R s m args below meth c H1 locs1 cells slots Q (F0 m (pc + 3) ls (.int r :: rest))) : W p l e R s m args below meth c H locs cells slots Q (F0 m pc ls st) :=
  va_calli hr hS (fun _ _ h => h) (fun _ h => h) (fun r u t H1 l1 ht _ hp hB _ _ hS1 => kk r u H1 l1 hp (by rw [← ht]; exact hB) hS1)
theorem kL {aa : Array Value} {post : Int64 → σ → Prop} (hr : va_Run p l e R s m args below meth c H locs cells slots 0 0 (F0 m pc ls st) rest (va_Ql post (fun u t => HW G.1 N a (E u) t.heap) (Aw N a) aa) (Aw N a)) (hS : va_S (Aw N a) H0 H locs)
    (kk : ∀ (r : Int64) (u : σ) (H1 : Heap) (locs1 : List Loc), post r u → HW G.1 N a (E u) H1 → va_S (Aw N a) H0 H1 locs1 → W p l e R s m args below meth c H1 locs1 cells slots Q (F0 m (pc + 3) ls (.long r :: rest))) : W p l e R s m args below meth c H locs cells slots Q (F0 m pc ls st) :=
  va_calll hr hS (fun _ _ h => h) (fun _ h => h) (fun r u t H1 l1 ht _ hp hB _ _ hS1 => kk r u H1 l1 hp (by rw [← ht]; exact hB) hS1)
theorem kV {aa : Array Value} {post : σ → Prop} (hr : va_Run p l e R s m args below meth c H locs cells slots 0 0 (F0 m pc ls st) rest (va_Qv post (fun u t => HW G.1 N a (E u) t.heap) (Aw N a) aa) (Aw N a)) (hS : va_S (Aw N a) H0 H locs)
    (kk : ∀ (u : σ) (H1 : Heap) (locs1 : List Loc), post u → HW G.1 N a (E u) H1 → va_S (Aw N a) H0 H1 locs1 → W p l e R s m args below meth c H1 locs1 cells slots Q (F0 m (pc + 3) ls rest)) : W p l e R s m args below meth c H locs cells slots Q (F0 m pc ls st) :=
  va_callv hr hS (fun _ _ h => h) (fun _ h => h) (fun u t H1 l1 ht _ hp hB _ _ hS1 => kk u H1 l1 hp (by rw [← ht]; exact hB) hS1)
theorem kQ {aa : Array Value} {post : Option Nat → σ → Prop} (hr : va_Run p l e R s m args below meth c H locs cells slots 0 0 (F0 m pc ls st) rest (va_Qq post (fun u t => HW G.1 N a (E u) t.heap) (Aw N a) aa) (Aw N a)) (hS : va_S (Aw N a) H0 H locs)
    (kk : ∀ (r : Option Nat) (u : σ) (H1 : Heap) (locs1 : List Loc), post r u → HW G.1 N a (E u) H1 → va_S (Aw N a) H0 H1 locs1 → W p l e R s m args below meth c H1 locs1 cells slots Q (F0 m (pc + 3) ls (va_rf r :: rest))) : W p l e R s m args below meth c H locs cells slots Q (F0 m pc ls st) :=
  va_callq hr hS (fun _ _ h => h) (fun _ h => h) (fun r u t H1 l1 ht _ hp hB _ _ hS1 => kk r u H1 l1 hp (by rw [← ht]; exact hB) hS1)
/-! ends -/
theorem eI {post : Int32 → σ → Prop} {v : Int32} (C : Cx p s m args c cc own nL G) (hr : meth.sig.returnType = some .int) (hlocks : meth.locks = false) (u : σ) (h : HW G.1 N a (E u) H) (hS : va_S (Aw N a) s.heap H locs) (hp : post v u) (hdg : decode cc pc = .ok (.ireturn, 1)) :
    W p l e R s m args below meth c H locs cells slots (MQ below (va_Qi post (fun u t => HW G.1 N a (E u) t.heap) (Aw N a)) args s cells slots (Aw N a)) (F0 m pc ls [.int v]) :=
  W.iret C.1 C.2.1 hr (fun t ht _ => ⟨⟨v, u, rfl, hp, by subst ht; exact h⟩, hS.F ht⟩) hS.2.2 hdg hlocks
theorem eZ {post : Int32 → σ → Prop} {v : Int32} (C : Cx p s m args c cc own nL G) (hr : meth.sig.returnType = some .boolean) (hlocks : meth.locks = false) (u : σ) (h : HW G.1 N a (E u) H) (hS : va_S (Aw N a) s.heap H locs) (hn : narrow .boolean (.int v) = .int v) (hp : post v u) (hdg : decode cc pc = .ok (.ireturn, 1)) :
    W p l e R s m args below meth c H locs cells slots (MQ below (va_Qi post (fun u t => HW G.1 N a (E u) t.heap) (Aw N a)) args s cells slots (Aw N a)) (F0 m pc ls [.int v]) :=
  W.zret C.1 C.2.1 hr hn (fun t ht _ => ⟨⟨v, u, rfl, hp, by subst ht; exact h⟩, hS.F ht⟩) hS.2.2 hdg hlocks
theorem eL {post : Int64 → σ → Prop} {v : Int64} (C : Cx p s m args c cc own nL G) (hr : meth.sig.returnType = some .long) (hlocks : meth.locks = false) (u : σ) (h : HW G.1 N a (E u) H) (hS : va_S (Aw N a) s.heap H locs) (hp : post v u) (hdg : decode cc pc = .ok (.lreturn, 1)) :
    W p l e R s m args below meth c H locs cells slots (MQ below (va_Ql post (fun u t => HW G.1 N a (E u) t.heap) (Aw N a)) args s cells slots (Aw N a)) (F0 m pc ls [.long v]) :=
  W.lret C.1 C.2.1 hr (fun t ht _ => ⟨⟨v, u, rfl, hp, by subst ht; exact h⟩, hS.F ht⟩) hS.2.2 hdg hlocks
theorem eV {post : σ → Prop} (C : Cx p s m args c cc own nL G) (hr : meth.sig.returnType = none) (hlocks : meth.locks = false) (u : σ) (h : HW G.1 N a (E u) H) (hS : va_S (Aw N a) s.heap H locs) (hp : post u) (hdg : decode cc pc = .ok (.return_, 1)) :
    W p l e R s m args below meth c H locs cells slots (MQ below (va_Qv post (fun u t => HW G.1 N a (E u) t.heap) (Aw N a)) args s cells slots (Aw N a)) (F0 m pc ls []) :=
  W.vret C.1 C.2.1 hr (fun t ht _ => ⟨⟨u, rfl, hp, by subst ht; exact h⟩, hS.F ht⟩) hS.2.2 hdg hlocks
theorem eQ {post : Option Nat → σ → Prop} (v : Option Nat) {rt : String} (C : Cx p s m args c cc own nL G) (hr : meth.sig.returnType = some (.object rt)) (hlocks : meth.locks = false) (u : σ) (h : HW G.1 N a (E u) H) (hS : va_S (Aw N a) s.heap H locs) (hp : post v u) (hdg : decode cc pc = .ok (.areturn, 1)) :
    W p l e R s m args below meth c H locs cells slots (MQ below (va_Qq post (fun u t => HW G.1 N a (E u) t.heap) (Aw N a)) args s cells slots (Aw N a)) (F0 m pc ls [va_rf v]) :=
  W.aret C.1 C.2.1 hr (Or.inl ⟨_, rfl⟩) (va_rf_or v) (fun t ht _ => ⟨⟨v, u, rfl, hp, by subst ht; exact h⟩, hS.F ht⟩) hS.2.2 hdg hlocks
end CALLS
end
section
section RW
variable {p : Program} {l : Launch} {e : Env} {R : Room} {s : State} {m : MethodId} {args : Array Value} {below : List Frame} {meth : Method} {c : Code} {H : Heap} {locs : List Loc} {cells slots : Nat} {Q : State → Prop}
variable {cc : ByteArray} {nL : Nat} {G : Gx} {pc : Nat} {ls : Array Slot} {rest : List Value} {a : Nat → Nat} {B : BS} {M : MS} {H0 : Heap}
theorem fg_X2_11 (C : Cx p s m args c cc RX2 nL G) (h : HW G.1 35 a (EB G a B) H) (hdg : decode cc pc = .ok (.getfield 11, 3)) (kk : W p l e R s m args below meth c H locs cells slots Q (F0 m (pc + 3) ls (.ref (a 1) :: rest))) : W p l e R s m args below meth c H locs cells slots Q (F0 m pc ls (.ref (a (0)) :: rest)) :=
  hw_get C h (0) (by decide) rfl inlX2 rfl 0 (by decide) (by decide +kernel) rfl hdg kk
theorem fg_X2_15 (C : Cx p s m args c cc RX2 nL G) (h : HW G.1 35 a (EB G a B) H) (hdg : decode cc pc = .ok (.getfield 15, 3)) (kk : W p l e R s m args below meth c H locs cells slots Q (F0 m (pc + 3) ls (.ref (a 2) :: rest))) : W p l e R s m args below meth c H locs cells slots Q (F0 m pc ls (.ref (a (0)) :: rest)) :=
  hw_get C h (0) (by decide) rfl inlX2 rfl 1 (by decide) (by decide +kernel) rfl hdg kk
theorem fg_X2_19 (C : Cx p s m args c cc RX2 nL G) (h : HW G.1 35 a (EB G a B) H) (hdg : decode cc pc = .ok (.getfield 19, 3)) (kk : W p l e R s m args below meth c H locs cells slots Q (F0 m (pc + 3) ls (.ref (a 3) :: rest))) : W p l e R s m args below meth c H locs cells slots Q (F0 m pc ls (.ref (a (0)) :: rest)) :=
  hw_get C h (0) (by decide) rfl inlX2 rfl 2 (by decide) (by decide +kernel) rfl hdg kk
theorem fg_X2_26 (C : Cx p s m args c cc RX2 nL G) (h : HW G.1 35 a (EB G a B) H) (hdg : decode cc pc = .ok (.getfield 26, 3)) (kk : W p l e R s m args below meth c H locs cells slots Q (F0 m (pc + 3) ls (.ref (a 4) :: rest))) : W p l e R s m args below meth c H locs cells slots Q (F0 m pc ls (.ref (a (0)) :: rest)) :=
  hw_get C h (0) (by decide) rfl inlX2 rfl 3 (by decide) (by decide +kernel) rfl hdg kk
theorem fg_X2_30 (C : Cx p s m args c cc RX2 nL G) (h : HW G.1 35 a (EB G a B) H) (hdg : decode cc pc = .ok (.getfield 30, 3)) (kk : W p l e R s m args below meth c H locs cells slots Q (F0 m (pc + 3) ls (.ref (a 10) :: rest))) : W p l e R s m args below meth c H locs cells slots Q (F0 m pc ls (.ref (a (0)) :: rest)) :=
  hw_get C h (0) (by decide) rfl inlX2 rfl 4 (by decide) (by decide +kernel) rfl hdg kk
theorem fg_X2_33 (C : Cx p s m args c cc RX2 nL G) (h : HW G.1 35 a (EB G a B) H) (hdg : decode cc pc = .ok (.getfield 33, 3)) (kk : W p l e R s m args below meth c H locs cells slots Q (F0 m (pc + 3) ls (.int (nI (sNb B.1)) :: rest))) : W p l e R s m args below meth c H locs cells slots Q (F0 m pc ls (.ref (a (0)) :: rest)) :=
  hw_get C h (0) (by decide) rfl inlX2 rfl 5 (by decide) (by decide +kernel) rfl hdg kk
theorem fg_X2_37 (C : Cx p s m args c cc RX2 nL G) (h : HW G.1 35 a (EB G a B) H) (hdg : decode cc pc = .ok (.getfield 37, 3)) (kk : W p l e R s m args below meth c H locs cells slots Q (F0 m (pc + 3) ls (.int (sCm B.1) :: rest))) : W p l e R s m args below meth c H locs cells slots Q (F0 m pc ls (.ref (a (0)) :: rest)) :=
  hw_get C h (0) (by decide) rfl inlX2 rfl 6 (by decide) (by decide +kernel) rfl hdg kk
theorem fg_X2_40 (C : Cx p s m args c cc RX2 nL G) (h : HW G.1 35 a (EB G a B) H) (hdg : decode cc pc = .ok (.getfield 40, 3)) (kk : W p l e R s m args below meth c H locs cells slots Q (F0 m (pc + 3) ls (.int (sWv B.1) :: rest))) : W p l e R s m args below meth c H locs cells slots Q (F0 m pc ls (.ref (a (0)) :: rest)) :=
  hw_get C h (0) (by decide) rfl inlX2 rfl 7 (by decide) (by decide +kernel) rfl hdg kk
theorem fg_X2_52 (C : Cx p s m args c cc RX2 nL G) (h : HW G.1 35 a (EB G a B) H) {r : Nat} (hr : r < 8) (hdg : decode cc pc = .ok (.getfield 52, 3)) (kk : W p l e R s m args below meth c H locs cells slots Q (F0 m (pc + 3) ls (.int (nI (sKd B.1 r)) :: rest))) : W p l e R s m args below meth c H locs cells slots Q (F0 m pc ls (.ref (a (r + 11)) :: rest)) :=
  hw_getN (host := "BeadLoom") C h (r + 11) (by omega) (EB_r _ _ _ hr) inlX1 rfl 2 (by decide) (by decide +kernel) rfl hdg kk
theorem fg_X2_74 (C : Cx p s m args c cc RX2 nL G) (h : HW G.1 35 a (EB G a B) H) {r : Nat} (hr : r < 8) (hdg : decode cc pc = .ok (.getfield 74, 3)) (kk : W p l e R s m args below meth c H locs cells slots Q (F0 m (pc + 3) ls (.ref (a (r + 19)) :: rest))) : W p l e R s m args below meth c H locs cells slots Q (F0 m pc ls (.ref (a (r + 11)) :: rest)) :=
  hw_getN (host := "BeadLoom") C h (r + 11) (by omega) (EB_r _ _ _ hr) inlX1 rfl 0 (by decide) (by decide +kernel) rfl hdg kk
theorem fg_X2_94 (C : Cx p s m args c cc RX2 nL G) (h : HW G.1 35 a (EB G a B) H) {r : Nat} (hr : r < 8) (hdg : decode cc pc = .ok (.getfield 94, 3)) (kk : W p l e R s m args below meth c H locs cells slots Q (F0 m (pc + 3) ls (.int (nI (sPl B.1 r)) :: rest))) : W p l e R s m args below meth c H locs cells slots Q (F0 m pc ls (.ref (a (r + 11)) :: rest)) :=
  hw_getN (host := "BeadLoom") C h (r + 11) (by omega) (EB_r _ _ _ hr) inlX1 rfl 3 (by decide) (by decide +kernel) rfl hdg kk
theorem fg_X2_108 (C : Cx p s m args c cc RX2 nL G) (h : HW G.1 35 a (EB G a B) H) (hdg : decode cc pc = .ok (.getfield 108, 3)) (kk : W p l e R s m args below meth c H locs cells slots Q (F0 m (pc + 3) ls (.int (nI (sNs B.1)) :: rest))) : W p l e R s m args below meth c H locs cells slots Q (F0 m pc ls (.ref (a (4)) :: rest)) :=
  hw_getN (host := "BeadLoom") C h (4) (by decide) rfl inlX0 rfl 5 (by decide) (by decide +kernel) rfl hdg kk
theorem fg_X2_162 (C : Cx p s m args c cc RX2 nL G) (h : HW G.1 35 a (EB G a B) H) (hdg : decode cc pc = .ok (.getfield 162, 3)) (kk : W p l e R s m args below meth c H locs cells slots Q (F0 m (pc + 3) ls (.ref (a 5) :: rest))) : W p l e R s m args below meth c H locs cells slots Q (F0 m pc ls (.ref (a (4)) :: rest)) :=
  hw_getN (host := "BeadLoom") C h (4) (by decide) rfl inlX0 rfl 0 (by decide) (by decide +kernel) rfl hdg kk
theorem fg_X2_165 (C : Cx p s m args c cc RX2 nL G) (h : HW G.1 35 a (EB G a B) H) (hdg : decode cc pc = .ok (.getfield 165, 3)) (kk : W p l e R s m args below meth c H locs cells slots Q (F0 m (pc + 3) ls (.ref (a 7) :: rest))) : W p l e R s m args below meth c H locs cells slots Q (F0 m pc ls (.ref (a (4)) :: rest)) :=
  hw_getN (host := "BeadLoom") C h (4) (by decide) rfl inlX0 rfl 2 (by decide) (by decide +kernel) rfl hdg kk
theorem fg_X2_168 (C : Cx p s m args c cc RX2 nL G) (h : HW G.1 35 a (EB G a B) H) (hdg : decode cc pc = .ok (.getfield 168, 3)) (kk : W p l e R s m args below meth c H locs cells slots Q (F0 m (pc + 3) ls (.ref (a 6) :: rest))) : W p l e R s m args below meth c H locs cells slots Q (F0 m pc ls (.ref (a (4)) :: rest)) :=
  hw_getN (host := "BeadLoom") C h (4) (by decide) rfl inlX0 rfl 1 (by decide) (by decide +kernel) rfl hdg kk
theorem fg_X2_171 (C : Cx p s m args c cc RX2 nL G) (h : HW G.1 35 a (EB G a B) H) (hdg : decode cc pc = .ok (.getfield 171, 3)) (kk : W p l e R s m args below meth c H locs cells slots Q (F0 m (pc + 3) ls (.ref (a 8) :: rest))) : W p l e R s m args below meth c H locs cells slots Q (F0 m pc ls (.ref (a (4)) :: rest)) :=
  hw_getN (host := "BeadLoom") C h (4) (by decide) rfl inlX0 rfl 3 (by decide) (by decide +kernel) rfl hdg kk
theorem fg_X2_174 (C : Cx p s m args c cc RX2 nL G) (h : HW G.1 35 a (EB G a B) H) (hdg : decode cc pc = .ok (.getfield 174, 3)) (kk : W p l e R s m args below meth c H locs cells slots Q (F0 m (pc + 3) ls (.ref (a 9) :: rest))) : W p l e R s m args below meth c H locs cells slots Q (F0 m pc ls (.ref (a (4)) :: rest)) :=
  hw_getN (host := "BeadLoom") C h (4) (by decide) rfl inlX0 rfl 4 (by decide) (by decide +kernel) rfl hdg kk
theorem fg_X1_9 (C : Cx p s m args c cc RX1 nL G) (h : HW G.1 35 a (EB G a B) H) {r : Nat} (hr : r < 8) (hdg : decode cc pc = .ok (.getfield 9, 3)) (kk : W p l e R s m args below meth c H locs cells slots Q (F0 m (pc + 3) ls (.ref (a (r + 19)) :: rest))) : W p l e R s m args below meth c H locs cells slots Q (F0 m pc ls (.ref (a (r + 11)) :: rest)) :=
  hw_get C h (r + 11) (by omega) (EB_r _ _ _ hr) inlX1 rfl 0 (by decide) (by decide +kernel) rfl hdg kk
theorem fg_X1_15 (C : Cx p s m args c cc RX1 nL G) (h : HW G.1 35 a (EB G a B) H) {r : Nat} (hr : r < 8) (hdg : decode cc pc = .ok (.getfield 15, 3)) (kk : W p l e R s m args below meth c H locs cells slots Q (F0 m (pc + 3) ls (.ref (a (r + 27)) :: rest))) : W p l e R s m args below meth c H locs cells slots Q (F0 m pc ls (.ref (a (r + 11)) :: rest)) :=
  hw_get C h (r + 11) (by omega) (EB_r _ _ _ hr) inlX1 rfl 1 (by decide) (by decide +kernel) rfl hdg kk
theorem fg_X1_18 (C : Cx p s m args c cc RX1 nL G) (h : HW G.1 35 a (EB G a B) H) {r : Nat} (hr : r < 8) (hdg : decode cc pc = .ok (.getfield 18, 3)) (kk : W p l e R s m args below meth c H locs cells slots Q (F0 m (pc + 3) ls (.int (nI (sKd B.1 r)) :: rest))) : W p l e R s m args below meth c H locs cells slots Q (F0 m pc ls (.ref (a (r + 11)) :: rest)) :=
  hw_get C h (r + 11) (by omega) (EB_r _ _ _ hr) inlX1 rfl 2 (by decide) (by decide +kernel) rfl hdg kk
theorem fg_X1_22 (C : Cx p s m args c cc RX1 nL G) (h : HW G.1 35 a (EB G a B) H) {r : Nat} (hr : r < 8) (hdg : decode cc pc = .ok (.getfield 22, 3)) (kk : W p l e R s m args below meth c H locs cells slots Q (F0 m (pc + 3) ls (.int (nI (sPl B.1 r)) :: rest))) : W p l e R s m args below meth c H locs cells slots Q (F0 m pc ls (.ref (a (r + 11)) :: rest)) :=
  hw_get C h (r + 11) (by omega) (EB_r _ _ _ hr) inlX1 rfl 3 (by decide) (by decide +kernel) rfl hdg kk
theorem fg_X0_9 (C : Cx p s m args c cc RX0 nL G) (h : HW G.1 35 a (EB G a B) H) (hdg : decode cc pc = .ok (.getfield 9, 3)) (kk : W p l e R s m args below meth c H locs cells slots Q (F0 m (pc + 3) ls (.ref (a 5) :: rest))) : W p l e R s m args below meth c H locs cells slots Q (F0 m pc ls (.ref (a (4)) :: rest)) :=
  hw_get C h (4) (by decide) rfl inlX0 rfl 0 (by decide) (by decide +kernel) rfl hdg kk
theorem fg_X0_15 (C : Cx p s m args c cc RX0 nL G) (h : HW G.1 35 a (EB G a B) H) (hdg : decode cc pc = .ok (.getfield 15, 3)) (kk : W p l e R s m args below meth c H locs cells slots Q (F0 m (pc + 3) ls (.ref (a 6) :: rest))) : W p l e R s m args below meth c H locs cells slots Q (F0 m pc ls (.ref (a (4)) :: rest)) :=
  hw_get C h (4) (by decide) rfl inlX0 rfl 1 (by decide) (by decide +kernel) rfl hdg kk
theorem fg_X0_18 (C : Cx p s m args c cc RX0 nL G) (h : HW G.1 35 a (EB G a B) H) (hdg : decode cc pc = .ok (.getfield 18, 3)) (kk : W p l e R s m args below meth c H locs cells slots Q (F0 m (pc + 3) ls (.ref (a 7) :: rest))) : W p l e R s m args below meth c H locs cells slots Q (F0 m pc ls (.ref (a (4)) :: rest)) :=
  hw_get C h (4) (by decide) rfl inlX0 rfl 2 (by decide) (by decide +kernel) rfl hdg kk
theorem fg_X0_21 (C : Cx p s m args c cc RX0 nL G) (h : HW G.1 35 a (EB G a B) H) (hdg : decode cc pc = .ok (.getfield 21, 3)) (kk : W p l e R s m args below meth c H locs cells slots Q (F0 m (pc + 3) ls (.ref (a 8) :: rest))) : W p l e R s m args below meth c H locs cells slots Q (F0 m pc ls (.ref (a (4)) :: rest)) :=
  hw_get C h (4) (by decide) rfl inlX0 rfl 3 (by decide) (by decide +kernel) rfl hdg kk
theorem fg_X0_24 (C : Cx p s m args c cc RX0 nL G) (h : HW G.1 35 a (EB G a B) H) (hdg : decode cc pc = .ok (.getfield 24, 3)) (kk : W p l e R s m args below meth c H locs cells slots Q (F0 m (pc + 3) ls (.ref (a 9) :: rest))) : W p l e R s m args below meth c H locs cells slots Q (F0 m pc ls (.ref (a (4)) :: rest)) :=
  hw_get C h (4) (by decide) rfl inlX0 rfl 4 (by decide) (by decide +kernel) rfl hdg kk
theorem fg_X0_27 (C : Cx p s m args c cc RX0 nL G) (h : HW G.1 35 a (EB G a B) H) (hdg : decode cc pc = .ok (.getfield 27, 3)) (kk : W p l e R s m args below meth c H locs cells slots Q (F0 m (pc + 3) ls (.int (nI (sNs B.1)) :: rest))) : W p l e R s m args below meth c H locs cells slots Q (F0 m pc ls (.ref (a (4)) :: rest)) :=
  hw_get C h (4) (by decide) rfl inlX0 rfl 5 (by decide) (by decide +kernel) rfl hdg kk
theorem fp_X2_33 (C : Cx p s m args c cc RX2 nL G) (h : HW G.1 35 a (EB G a B) H) (hS : va_S (Aw 35 a) H0 H locs) {v : Nat} (hdg : decode cc pc = .ok (.putfield 33, 3)) (kk : ∀ (H1 : Heap) (locs1 : List Loc), HW G.1 35 a (EB G a ((uNb B.1 v, B.2))) H1 → va_S (Aw 35 a) H0 H1 locs1 → W p l e R s m args below meth c H1 locs1 cells slots Q (F0 m (pc + 3) ls (rest))) : W p l e R s m args below meth c H locs cells slots Q (F0 m pc ls (.int (nI v) :: .ref (a (0)) :: rest)) :=
  hw_put C h hS (0) (by decide) rfl inlX2 tyX2 tyX2_ok nmX2 rfl 5 (by decide) (by decide +kernel) rfl (by decide +kernel) (Nat.le_of_ble_eq_true rfl) hdg (fun H1 l1 g1 g2 => kk H1 l1 (g1.eqv (EB_cases (fun k hk => by match k, hk with | 0, _ => rfl | 1, _ => rfl | 2, _ => rfl | 3, _ => rfl | 4, _ => rfl | 5, _ => rfl | 6, _ => rfl | 7, _ => rfl | 8, _ => rfl | 9, _ => rfl | 10, _ => rfl | k + 11, h => exact absurd h (by omega)) (fun r hr => by rw [va_up_ne _ _ (by omega)]; rfl) (fun r hr => by rw [va_up_ne _ _ (by omega)]; rfl) (fun r hr => by rw [va_up_ne _ _ (by omega)]; rfl))) g2)
theorem fp_X2_37 (C : Cx p s m args c cc RX2 nL G) (h : HW G.1 35 a (EB G a B) H) (hS : va_S (Aw 35 a) H0 H locs) {v : Int32} (hdg : decode cc pc = .ok (.putfield 37, 3)) (kk : ∀ (H1 : Heap) (locs1 : List Loc), HW G.1 35 a (EB G a ((uCm B.1 v, B.2))) H1 → va_S (Aw 35 a) H0 H1 locs1 → W p l e R s m args below meth c H1 locs1 cells slots Q (F0 m (pc + 3) ls (rest))) : W p l e R s m args below meth c H locs cells slots Q (F0 m pc ls (.int v :: .ref (a (0)) :: rest)) :=
  hw_put C h hS (0) (by decide) rfl inlX2 tyX2 tyX2_ok nmX2 rfl 6 (by decide) (by decide +kernel) rfl (by decide +kernel) (Nat.le_of_ble_eq_true rfl) hdg (fun H1 l1 g1 g2 => kk H1 l1 (g1.eqv (EB_cases (fun k hk => by match k, hk with | 0, _ => rfl | 1, _ => rfl | 2, _ => rfl | 3, _ => rfl | 4, _ => rfl | 5, _ => rfl | 6, _ => rfl | 7, _ => rfl | 8, _ => rfl | 9, _ => rfl | 10, _ => rfl | k + 11, h => exact absurd h (by omega)) (fun r hr => by rw [va_up_ne _ _ (by omega)]; rfl) (fun r hr => by rw [va_up_ne _ _ (by omega)]; rfl) (fun r hr => by rw [va_up_ne _ _ (by omega)]; rfl))) g2)
theorem fp_X2_40 (C : Cx p s m args c cc RX2 nL G) (h : HW G.1 35 a (EB G a B) H) (hS : va_S (Aw 35 a) H0 H locs) {v : Int32} (hdg : decode cc pc = .ok (.putfield 40, 3)) (kk : ∀ (H1 : Heap) (locs1 : List Loc), HW G.1 35 a (EB G a ((uWv B.1 v, B.2))) H1 → va_S (Aw 35 a) H0 H1 locs1 → W p l e R s m args below meth c H1 locs1 cells slots Q (F0 m (pc + 3) ls (rest))) : W p l e R s m args below meth c H locs cells slots Q (F0 m pc ls (.int v :: .ref (a (0)) :: rest)) :=
  hw_put C h hS (0) (by decide) rfl inlX2 tyX2 tyX2_ok nmX2 rfl 7 (by decide) (by decide +kernel) rfl (by decide +kernel) (Nat.le_of_ble_eq_true rfl) hdg (fun H1 l1 g1 g2 => kk H1 l1 (g1.eqv (EB_cases (fun k hk => by match k, hk with | 0, _ => rfl | 1, _ => rfl | 2, _ => rfl | 3, _ => rfl | 4, _ => rfl | 5, _ => rfl | 6, _ => rfl | 7, _ => rfl | 8, _ => rfl | 9, _ => rfl | 10, _ => rfl | k + 11, h => exact absurd h (by omega)) (fun r hr => by rw [va_up_ne _ _ (by omega)]; rfl) (fun r hr => by rw [va_up_ne _ _ (by omega)]; rfl) (fun r hr => by rw [va_up_ne _ _ (by omega)]; rfl))) g2)
theorem fp_X2_108 (C : Cx p s m args c cc RX2 nL G) (h : HW G.1 35 a (EB G a B) H) (hS : va_S (Aw 35 a) H0 H locs) {v : Nat} (hdg : decode cc pc = .ok (.putfield 108, 3)) (kk : ∀ (H1 : Heap) (locs1 : List Loc), HW G.1 35 a (EB G a ((uNs B.1 v, B.2))) H1 → va_S (Aw 35 a) H0 H1 locs1 → W p l e R s m args below meth c H1 locs1 cells slots Q (F0 m (pc + 3) ls (rest))) : W p l e R s m args below meth c H locs cells slots Q (F0 m pc ls (.int (nI v) :: .ref (a (4)) :: rest)) :=
  hw_putN (host := "BeadLoom") C h hS (4) (by decide) rfl inlX0 tyX0 tyX0_ok nmX0 rfl 5 (by decide) (by decide +kernel) rfl (by decide +kernel) (Nat.le_of_ble_eq_true rfl) hdg (fun H1 l1 g1 g2 => kk H1 l1 (g1.eqv (EB_cases (fun k hk => by match k, hk with | 0, _ => rfl | 1, _ => rfl | 2, _ => rfl | 3, _ => rfl | 4, _ => rfl | 5, _ => rfl | 6, _ => rfl | 7, _ => rfl | 8, _ => rfl | 9, _ => rfl | 10, _ => rfl | k + 11, h => exact absurd h (by omega)) (fun r hr => by rw [va_up_ne _ _ (by omega)]; rfl) (fun r hr => by rw [va_up_ne _ _ (by omega)]; rfl) (fun r hr => by rw [va_up_ne _ _ (by omega)]; rfl))) g2)
theorem fp_X0_27 (C : Cx p s m args c cc RX0 nL G) (h : HW G.1 35 a (EB G a B) H) (hS : va_S (Aw 35 a) H0 H locs) {v : Nat} (hdg : decode cc pc = .ok (.putfield 27, 3)) (kk : ∀ (H1 : Heap) (locs1 : List Loc), HW G.1 35 a (EB G a ((uNs B.1 v, B.2))) H1 → va_S (Aw 35 a) H0 H1 locs1 → W p l e R s m args below meth c H1 locs1 cells slots Q (F0 m (pc + 3) ls (rest))) : W p l e R s m args below meth c H locs cells slots Q (F0 m pc ls (.int (nI v) :: .ref (a (4)) :: rest)) :=
  hw_put C h hS (4) (by decide) rfl inlX0 tyX0 tyX0_ok nmX0 rfl 5 (by decide) (by decide +kernel) rfl (by decide +kernel) (Nat.le_of_ble_eq_true rfl) hdg (fun H1 l1 g1 g2 => kk H1 l1 (g1.eqv (EB_cases (fun k hk => by match k, hk with | 0, _ => rfl | 1, _ => rfl | 2, _ => rfl | 3, _ => rfl | 4, _ => rfl | 5, _ => rfl | 6, _ => rfl | 7, _ => rfl | 8, _ => rfl | 9, _ => rfl | 10, _ => rfl | k + 11, h => exact absurd h (by omega)) (fun r hr => by rw [va_up_ne _ _ (by omega)]; rfl) (fun r hr => by rw [va_up_ne _ _ (by omega)]; rfl) (fun r hr => by rw [va_up_ne _ _ (by omega)]; rfl))) g2)
theorem fp_X1_18 (C : Cx p s m args c cc RX1 nL G) (h : HW G.1 35 a (EB G a B) H) (hS : va_S (Aw 35 a) H0 H locs) {r : Nat} (hr : r < 8) {v : Nat} (hdg : decode cc pc = .ok (.putfield 18, 3)) (kk : ∀ (H1 : Heap) (locs1 : List Loc), HW G.1 35 a (EB G a ((uKd B.1 (va_up (sKd B.1) r v), B.2))) H1 → va_S (Aw 35 a) H0 H1 locs1 → W p l e R s m args below meth c H1 locs1 cells slots Q (F0 m (pc + 3) ls (rest))) : W p l e R s m args below meth c H locs cells slots Q (F0 m pc ls (.int (nI v) :: .ref (a (r + 11)) :: rest)) :=
  hw_put C h hS (r + 11) (by omega) (EB_r _ _ _ hr) inlX1 tyX1 tyX1_ok nmX1 rfl 2 (by decide) (by decide +kernel) rfl (by decide +kernel) (Nat.le_of_ble_eq_true rfl) hdg (fun H1 l1 g1 g2 => kk H1 l1 (g1.eqv (EB_cases (fun k hk => by rw [va_up_ne _ _ (by omega)]; match k, hk with | 0, _ => rfl | 1, _ => rfl | 2, _ => rfl | 3, _ => rfl | 4, _ => rfl | 5, _ => rfl | 6, _ => rfl | 7, _ => rfl | 8, _ => rfl | 9, _ => rfl | 10, _ => rfl | k + 11, h => exact absurd h (by omega))
  (fun t ht => by
    by_cases htr : t = r
    · subst htr
      rw [va_up_self, EB_r _ _ _ ht]
      simp [va_up, sKd, uKd, sPl, uPl, sCe, uCe]
    · rw [va_up_ne _ _ (by omega), EB_r _ _ _ ht, EB_r _ _ _ ht]
      simp [va_up, htr, sKd, uKd, sPl, uPl, sCe, uCe])
  (fun t ht => by
    rw [va_up_ne _ _ (by omega), EB_c _ _ _ ht, EB_c _ _ _ ht])
  (fun t ht => by
    rw [va_up_ne _ _ (by omega), EB_k _ _ _ ht, EB_k _ _ _ ht]))) g2)
theorem fp_X1_22 (C : Cx p s m args c cc RX1 nL G) (h : HW G.1 35 a (EB G a B) H) (hS : va_S (Aw 35 a) H0 H locs) {r : Nat} (hr : r < 8) {v : Nat} (hdg : decode cc pc = .ok (.putfield 22, 3)) (kk : ∀ (H1 : Heap) (locs1 : List Loc), HW G.1 35 a (EB G a ((uPl B.1 (va_up (sPl B.1) r v), B.2))) H1 → va_S (Aw 35 a) H0 H1 locs1 → W p l e R s m args below meth c H1 locs1 cells slots Q (F0 m (pc + 3) ls (rest))) : W p l e R s m args below meth c H locs cells slots Q (F0 m pc ls (.int (nI v) :: .ref (a (r + 11)) :: rest)) :=
  hw_put C h hS (r + 11) (by omega) (EB_r _ _ _ hr) inlX1 tyX1 tyX1_ok nmX1 rfl 3 (by decide) (by decide +kernel) rfl (by decide +kernel) (Nat.le_of_ble_eq_true rfl) hdg (fun H1 l1 g1 g2 => kk H1 l1 (g1.eqv (EB_cases (fun k hk => by rw [va_up_ne _ _ (by omega)]; match k, hk with | 0, _ => rfl | 1, _ => rfl | 2, _ => rfl | 3, _ => rfl | 4, _ => rfl | 5, _ => rfl | 6, _ => rfl | 7, _ => rfl | 8, _ => rfl | 9, _ => rfl | 10, _ => rfl | k + 11, h => exact absurd h (by omega))
  (fun t ht => by
    by_cases htr : t = r
    · subst htr
      rw [va_up_self, EB_r _ _ _ ht]
      simp [va_up, sKd, uKd, sPl, uPl, sCe, uCe]
    · rw [va_up_ne _ _ (by omega), EB_r _ _ _ ht, EB_r _ _ _ ht]
      simp [va_up, htr, sKd, uKd, sPl, uPl, sCe, uCe])
  (fun t ht => by
    rw [va_up_ne _ _ (by omega), EB_c _ _ _ ht, EB_c _ _ _ ht])
  (fun t ht => by
    rw [va_up_ne _ _ (by omega), EB_k _ _ _ ht, EB_k _ _ _ ht]))) g2)
theorem al_co {own : String} (C : Cx p s m args c cc own nL G) (h : HW G.1 35 a (EB G a B) H) {i : Nat} (hi : i < 200) (hdg : decode cc pc = .ok (.iaload, 1)) (kk : W p l e R s m args below meth c H locs cells slots Q (F0 m (pc + 1) ls (.int (sCo B.1 i) :: rest))) : W p l e R s m args below meth c H locs cells slots Q (F0 m pc ls (.int (nI i) :: .ref (a (2)) :: rest)) :=
  hw_iald C h (2) (by decide) rfl i hi (by decide) hdg kk
theorem al_pe {own : String} (C : Cx p s m args c cc own nL G) (h : HW G.1 35 a (EB G a B) H) {i : Nat} (hi : i < 200) (hdg : decode cc pc = .ok (.baload, 1)) (kk : W p l e R s m args below meth c H locs cells slots Q (F0 m (pc + 1) ls (.int (sPe B.1 i) :: rest))) : W p l e R s m args below meth c H locs cells slots Q (F0 m pc ls (.int (nI i) :: .ref (a (3)) :: rest)) :=
  hw_zald C h (3) (by decide) rfl i hi (by decide) hdg kk
theorem al_pt0 {own : String} (C : Cx p s m args c cc own nL G) (h : HW G.1 35 a (EB G a B) H) {i : Nat} (hi : i < 24) (hdg : decode cc pc = .ok (.iaload, 1)) (kk : W p l e R s m args below meth c H locs cells slots Q (F0 m (pc + 1) ls (.int (sPt B.1 0 i) :: rest))) : W p l e R s m args below meth c H locs cells slots Q (F0 m pc ls (.int (nI i) :: .ref (a (5)) :: rest)) :=
  hw_iald C h (5) (by decide) rfl i hi (by decide) hdg kk
theorem al_pt1 {own : String} (C : Cx p s m args c cc own nL G) (h : HW G.1 35 a (EB G a B) H) {i : Nat} (hi : i < 24) (hdg : decode cc pc = .ok (.iaload, 1)) (kk : W p l e R s m args below meth c H locs cells slots Q (F0 m (pc + 1) ls (.int (sPt B.1 1 i) :: rest))) : W p l e R s m args below meth c H locs cells slots Q (F0 m pc ls (.int (nI i) :: .ref (a (6)) :: rest)) :=
  hw_iald C h (6) (by decide) rfl i hi (by decide) hdg kk
theorem al_pt2 {own : String} (C : Cx p s m args c cc own nL G) (h : HW G.1 35 a (EB G a B) H) {i : Nat} (hi : i < 24) (hdg : decode cc pc = .ok (.iaload, 1)) (kk : W p l e R s m args below meth c H locs cells slots Q (F0 m (pc + 1) ls (.int (sPt B.1 2 i) :: rest))) : W p l e R s m args below meth c H locs cells slots Q (F0 m pc ls (.int (nI i) :: .ref (a (7)) :: rest)) :=
  hw_iald C h (7) (by decide) rfl i hi (by decide) hdg kk
theorem al_pt3 {own : String} (C : Cx p s m args c cc own nL G) (h : HW G.1 35 a (EB G a B) H) {i : Nat} (hi : i < 24) (hdg : decode cc pc = .ok (.iaload, 1)) (kk : W p l e R s m args below meth c H locs cells slots Q (F0 m (pc + 1) ls (.int (sPt B.1 3 i) :: rest))) : W p l e R s m args below meth c H locs cells slots Q (F0 m pc ls (.int (nI i) :: .ref (a (8)) :: rest)) :=
  hw_iald C h (8) (by decide) rfl i hi (by decide) hdg kk
theorem al_pt4 {own : String} (C : Cx p s m args c cc own nL G) (h : HW G.1 35 a (EB G a B) H) {i : Nat} (hi : i < 24) (hdg : decode cc pc = .ok (.iaload, 1)) (kk : W p l e R s m args below meth c H locs cells slots Q (F0 m (pc + 1) ls (.int (sPt B.1 4 i) :: rest))) : W p l e R s m args below meth c H locs cells slots Q (F0 m pc ls (.int (nI i) :: .ref (a (9)) :: rest)) :=
  hw_iald C h (9) (by decide) rfl i hi (by decide) hdg kk
theorem al_mv {own : String} (C : Cx p s m args c cc own nL G) (h : HW G.1 35 a (EB G a B) H) {i : Nat} (hi : i < 5) (hdg : decode cc pc = .ok (.iaload, 1)) (kk : W p l e R s m args below meth c H locs cells slots Q (F0 m (pc + 1) ls (.int (sMv B.1 i) :: rest))) : W p l e R s m args below meth c H locs cells slots Q (F0 m pc ls (.int (nI i) :: .ref (a (10)) :: rest)) :=
  hw_iald C h (10) (by decide) rfl i hi (by decide) hdg kk
theorem al_ce {own : String} (C : Cx p s m args c cc own nL G) (h : HW G.1 35 a (EB G a B) H) {r : Nat} (hr : r < 8) {i : Nat} (hi : i < 40) (hdg : decode cc pc = .ok (.laload, 1)) (kk : W p l e R s m args below meth c H locs cells slots Q (F0 m (pc + 1) ls (.long (sCe B.1 r i) :: rest))) : W p l e R s m args below meth c H locs cells slots Q (F0 m pc ls (.int (nI i) :: .ref (a (r + 19)) :: rest)) :=
  hw_lald C h (r + 19) (by omega) (EB_c _ _ _ hr) i hi (by decide) hdg kk
theorem al_ke {own : String} (C : Cx p s m args c cc own nL G) (h : HW G.1 35 a (EB G a B) H) {r : Nat} (hr : r < 8) {i : Nat} (hi : i < 40) (hdg : decode cc pc = .ok (.laload, 1)) (kk : W p l e R s m args below meth c H locs cells slots Q (F0 m (pc + 1) ls (.long (B.2 r i) :: rest))) : W p l e R s m args below meth c H locs cells slots Q (F0 m pc ls (.int (nI i) :: .ref (a (r + 27)) :: rest)) :=
  hw_lald C h (r + 27) (by omega) (EB_k _ _ _ hr) i hi (by decide) hdg kk
theorem al_rk {own : String} (C : Cx p s m args c cc own nL G) (h : HW G.1 35 a (EB G a B) H) {i : Nat} (hi : i < 8) (hdg : decode cc pc = .ok (.aaload, 1)) (kk : W p l e R s m args below meth c H locs cells slots Q (F0 m (pc + 1) ls (.ref (a (i + 11)) :: rest))) : W p l e R s m args below meth c H locs cells slots Q (F0 m pc ls (.int (nI i) :: .ref (a 1) :: rest)) :=
  hw_aald C h 1 (by decide) rfl i hi (by decide) rfl hdg kk
theorem as_co {own : String} (C : Cx p s m args c cc own nL G) (h : HW G.1 35 a (EB G a B) H) (hS : va_S (Aw 35 a) H0 H locs) {i : Nat} (hi : i < 200) {x : Int32} (hdg : decode cc pc = .ok (.iastore, 1)) (kk : ∀ (H1 : Heap) (locs1 : List Loc), HW G.1 35 a (EB G a ((uCo B.1 (upd (sCo B.1) i x), B.2))) H1 → va_S (Aw 35 a) H0 H1 locs1 → W p l e R s m args below meth c H1 locs1 cells slots Q (F0 m (pc + 1) ls (rest))) : W p l e R s m args below meth c H locs cells slots Q (F0 m pc ls (.int x :: .int (nI i) :: .ref (a (2)) :: rest)) :=
  hw_iast C h hS (2) (by decide) rfl i hi (by decide) hdg (fun H1 l1 g1 g2 => kk H1 l1 (g1.eqv (EB_cases (fun k hk => by match k, hk with | 0, _ => rfl | 1, _ => rfl | 2, _ => rfl | 3, _ => rfl | 4, _ => rfl | 5, _ => rfl | 6, _ => rfl | 7, _ => rfl | 8, _ => rfl | 9, _ => rfl | 10, _ => rfl | k + 11, h => exact absurd h (by omega)) (fun r hr => by rw [va_up_ne _ _ (by omega)]; rfl) (fun r hr => by rw [va_up_ne _ _ (by omega)]; rfl) (fun r hr => by rw [va_up_ne _ _ (by omega)]; rfl))) g2)
theorem as_pe {own : String} (C : Cx p s m args c cc own nL G) (h : HW G.1 35 a (EB G a B) H) (hS : va_S (Aw 35 a) H0 H locs) {i : Nat} (hi : i < 200) {x : Int32} (hx : vp_nar .boolean x = x) (hdg : decode cc pc = .ok (.bastore, 1)) (kk : ∀ (H1 : Heap) (locs1 : List Loc), HW G.1 35 a (EB G a ((uPe B.1 (upd (sPe B.1) i x), B.2))) H1 → va_S (Aw 35 a) H0 H1 locs1 → W p l e R s m args below meth c H1 locs1 cells slots Q (F0 m (pc + 1) ls (rest))) : W p l e R s m args below meth c H locs cells slots Q (F0 m pc ls (.int x :: .int (nI i) :: .ref (a (3)) :: rest)) :=
  hw_zast C h hS (3) (by decide) rfl i hi (by decide) hx hdg (fun H1 l1 g1 g2 => kk H1 l1 (g1.eqv (EB_cases (fun k hk => by match k, hk with | 0, _ => rfl | 1, _ => rfl | 2, _ => rfl | 3, _ => rfl | 4, _ => rfl | 5, _ => rfl | 6, _ => rfl | 7, _ => rfl | 8, _ => rfl | 9, _ => rfl | 10, _ => rfl | k + 11, h => exact absurd h (by omega)) (fun r hr => by rw [va_up_ne _ _ (by omega)]; rfl) (fun r hr => by rw [va_up_ne _ _ (by omega)]; rfl) (fun r hr => by rw [va_up_ne _ _ (by omega)]; rfl))) g2)
theorem as_pt0 {own : String} (C : Cx p s m args c cc own nL G) (h : HW G.1 35 a (EB G a B) H) (hS : va_S (Aw 35 a) H0 H locs) {i : Nat} (hi : i < 24) {x : Int32} (hdg : decode cc pc = .ok (.iastore, 1)) (kk : ∀ (H1 : Heap) (locs1 : List Loc), HW G.1 35 a (EB G a ((uPt B.1 (va_up (sPt B.1) 0 (upd (sPt B.1 0) i x)), B.2))) H1 → va_S (Aw 35 a) H0 H1 locs1 → W p l e R s m args below meth c H1 locs1 cells slots Q (F0 m (pc + 1) ls (rest))) : W p l e R s m args below meth c H locs cells slots Q (F0 m pc ls (.int x :: .int (nI i) :: .ref (a (5)) :: rest)) :=
  hw_iast C h hS (5) (by decide) rfl i hi (by decide) hdg (fun H1 l1 g1 g2 => kk H1 l1 (g1.eqv (EB_cases (fun k hk => by match k, hk with | 0, _ => rfl | 1, _ => rfl | 2, _ => rfl | 3, _ => rfl | 4, _ => rfl | 5, _ => rfl | 6, _ => rfl | 7, _ => rfl | 8, _ => rfl | 9, _ => rfl | 10, _ => rfl | k + 11, h => exact absurd h (by omega)) (fun r hr => by rw [va_up_ne _ _ (by omega)]; rfl) (fun r hr => by rw [va_up_ne _ _ (by omega)]; rfl) (fun r hr => by rw [va_up_ne _ _ (by omega)]; rfl))) g2)
theorem as_pt1 {own : String} (C : Cx p s m args c cc own nL G) (h : HW G.1 35 a (EB G a B) H) (hS : va_S (Aw 35 a) H0 H locs) {i : Nat} (hi : i < 24) {x : Int32} (hdg : decode cc pc = .ok (.iastore, 1)) (kk : ∀ (H1 : Heap) (locs1 : List Loc), HW G.1 35 a (EB G a ((uPt B.1 (va_up (sPt B.1) 1 (upd (sPt B.1 1) i x)), B.2))) H1 → va_S (Aw 35 a) H0 H1 locs1 → W p l e R s m args below meth c H1 locs1 cells slots Q (F0 m (pc + 1) ls (rest))) : W p l e R s m args below meth c H locs cells slots Q (F0 m pc ls (.int x :: .int (nI i) :: .ref (a (6)) :: rest)) :=
  hw_iast C h hS (6) (by decide) rfl i hi (by decide) hdg (fun H1 l1 g1 g2 => kk H1 l1 (g1.eqv (EB_cases (fun k hk => by match k, hk with | 0, _ => rfl | 1, _ => rfl | 2, _ => rfl | 3, _ => rfl | 4, _ => rfl | 5, _ => rfl | 6, _ => rfl | 7, _ => rfl | 8, _ => rfl | 9, _ => rfl | 10, _ => rfl | k + 11, h => exact absurd h (by omega)) (fun r hr => by rw [va_up_ne _ _ (by omega)]; rfl) (fun r hr => by rw [va_up_ne _ _ (by omega)]; rfl) (fun r hr => by rw [va_up_ne _ _ (by omega)]; rfl))) g2)
theorem as_pt2 {own : String} (C : Cx p s m args c cc own nL G) (h : HW G.1 35 a (EB G a B) H) (hS : va_S (Aw 35 a) H0 H locs) {i : Nat} (hi : i < 24) {x : Int32} (hdg : decode cc pc = .ok (.iastore, 1)) (kk : ∀ (H1 : Heap) (locs1 : List Loc), HW G.1 35 a (EB G a ((uPt B.1 (va_up (sPt B.1) 2 (upd (sPt B.1 2) i x)), B.2))) H1 → va_S (Aw 35 a) H0 H1 locs1 → W p l e R s m args below meth c H1 locs1 cells slots Q (F0 m (pc + 1) ls (rest))) : W p l e R s m args below meth c H locs cells slots Q (F0 m pc ls (.int x :: .int (nI i) :: .ref (a (7)) :: rest)) :=
  hw_iast C h hS (7) (by decide) rfl i hi (by decide) hdg (fun H1 l1 g1 g2 => kk H1 l1 (g1.eqv (EB_cases (fun k hk => by match k, hk with | 0, _ => rfl | 1, _ => rfl | 2, _ => rfl | 3, _ => rfl | 4, _ => rfl | 5, _ => rfl | 6, _ => rfl | 7, _ => rfl | 8, _ => rfl | 9, _ => rfl | 10, _ => rfl | k + 11, h => exact absurd h (by omega)) (fun r hr => by rw [va_up_ne _ _ (by omega)]; rfl) (fun r hr => by rw [va_up_ne _ _ (by omega)]; rfl) (fun r hr => by rw [va_up_ne _ _ (by omega)]; rfl))) g2)
theorem as_pt3 {own : String} (C : Cx p s m args c cc own nL G) (h : HW G.1 35 a (EB G a B) H) (hS : va_S (Aw 35 a) H0 H locs) {i : Nat} (hi : i < 24) {x : Int32} (hdg : decode cc pc = .ok (.iastore, 1)) (kk : ∀ (H1 : Heap) (locs1 : List Loc), HW G.1 35 a (EB G a ((uPt B.1 (va_up (sPt B.1) 3 (upd (sPt B.1 3) i x)), B.2))) H1 → va_S (Aw 35 a) H0 H1 locs1 → W p l e R s m args below meth c H1 locs1 cells slots Q (F0 m (pc + 1) ls (rest))) : W p l e R s m args below meth c H locs cells slots Q (F0 m pc ls (.int x :: .int (nI i) :: .ref (a (8)) :: rest)) :=
  hw_iast C h hS (8) (by decide) rfl i hi (by decide) hdg (fun H1 l1 g1 g2 => kk H1 l1 (g1.eqv (EB_cases (fun k hk => by match k, hk with | 0, _ => rfl | 1, _ => rfl | 2, _ => rfl | 3, _ => rfl | 4, _ => rfl | 5, _ => rfl | 6, _ => rfl | 7, _ => rfl | 8, _ => rfl | 9, _ => rfl | 10, _ => rfl | k + 11, h => exact absurd h (by omega)) (fun r hr => by rw [va_up_ne _ _ (by omega)]; rfl) (fun r hr => by rw [va_up_ne _ _ (by omega)]; rfl) (fun r hr => by rw [va_up_ne _ _ (by omega)]; rfl))) g2)
theorem as_pt4 {own : String} (C : Cx p s m args c cc own nL G) (h : HW G.1 35 a (EB G a B) H) (hS : va_S (Aw 35 a) H0 H locs) {i : Nat} (hi : i < 24) {x : Int32} (hdg : decode cc pc = .ok (.iastore, 1)) (kk : ∀ (H1 : Heap) (locs1 : List Loc), HW G.1 35 a (EB G a ((uPt B.1 (va_up (sPt B.1) 4 (upd (sPt B.1 4) i x)), B.2))) H1 → va_S (Aw 35 a) H0 H1 locs1 → W p l e R s m args below meth c H1 locs1 cells slots Q (F0 m (pc + 1) ls (rest))) : W p l e R s m args below meth c H locs cells slots Q (F0 m pc ls (.int x :: .int (nI i) :: .ref (a (9)) :: rest)) :=
  hw_iast C h hS (9) (by decide) rfl i hi (by decide) hdg (fun H1 l1 g1 g2 => kk H1 l1 (g1.eqv (EB_cases (fun k hk => by match k, hk with | 0, _ => rfl | 1, _ => rfl | 2, _ => rfl | 3, _ => rfl | 4, _ => rfl | 5, _ => rfl | 6, _ => rfl | 7, _ => rfl | 8, _ => rfl | 9, _ => rfl | 10, _ => rfl | k + 11, h => exact absurd h (by omega)) (fun r hr => by rw [va_up_ne _ _ (by omega)]; rfl) (fun r hr => by rw [va_up_ne _ _ (by omega)]; rfl) (fun r hr => by rw [va_up_ne _ _ (by omega)]; rfl))) g2)
theorem as_mv {own : String} (C : Cx p s m args c cc own nL G) (h : HW G.1 35 a (EB G a B) H) (hS : va_S (Aw 35 a) H0 H locs) {i : Nat} (hi : i < 5) {x : Int32} (hdg : decode cc pc = .ok (.iastore, 1)) (kk : ∀ (H1 : Heap) (locs1 : List Loc), HW G.1 35 a (EB G a ((uMv B.1 (upd (sMv B.1) i x), B.2))) H1 → va_S (Aw 35 a) H0 H1 locs1 → W p l e R s m args below meth c H1 locs1 cells slots Q (F0 m (pc + 1) ls (rest))) : W p l e R s m args below meth c H locs cells slots Q (F0 m pc ls (.int x :: .int (nI i) :: .ref (a (10)) :: rest)) :=
  hw_iast C h hS (10) (by decide) rfl i hi (by decide) hdg (fun H1 l1 g1 g2 => kk H1 l1 (g1.eqv (EB_cases (fun k hk => by match k, hk with | 0, _ => rfl | 1, _ => rfl | 2, _ => rfl | 3, _ => rfl | 4, _ => rfl | 5, _ => rfl | 6, _ => rfl | 7, _ => rfl | 8, _ => rfl | 9, _ => rfl | 10, _ => rfl | k + 11, h => exact absurd h (by omega)) (fun r hr => by rw [va_up_ne _ _ (by omega)]; rfl) (fun r hr => by rw [va_up_ne _ _ (by omega)]; rfl) (fun r hr => by rw [va_up_ne _ _ (by omega)]; rfl))) g2)
theorem as_ce {own : String} (C : Cx p s m args c cc own nL G) (h : HW G.1 35 a (EB G a B) H) (hS : va_S (Aw 35 a) H0 H locs) {r : Nat} (hr : r < 8) {i : Nat} (hi : i < 40) {x : Int64} (hdg : decode cc pc = .ok (.lastore, 1)) (kk : ∀ (H1 : Heap) (locs1 : List Loc), HW G.1 35 a (EB G a ((uCe B.1 (va_up (sCe B.1) r (vp_updL (sCe B.1 r) i x)), B.2))) H1 → va_S (Aw 35 a) H0 H1 locs1 → W p l e R s m args below meth c H1 locs1 cells slots Q (F0 m (pc + 1) ls (rest))) : W p l e R s m args below meth c H locs cells slots Q (F0 m pc ls (.long x :: .int (nI i) :: .ref (a (r + 19)) :: rest)) :=
  hw_last C h hS (r + 19) (by omega) (EB_c _ _ _ hr) i hi (by decide) hdg (fun H1 l1 g1 g2 => kk H1 l1 (g1.eqv (EB_cases (fun k hk => by rw [va_up_ne _ _ (by omega)]; match k, hk with | 0, _ => rfl | 1, _ => rfl | 2, _ => rfl | 3, _ => rfl | 4, _ => rfl | 5, _ => rfl | 6, _ => rfl | 7, _ => rfl | 8, _ => rfl | 9, _ => rfl | 10, _ => rfl | k + 11, h => exact absurd h (by omega))
  (fun t ht => by
    rw [va_up_ne _ _ (by omega), EB_r _ _ _ ht, EB_r _ _ _ ht])
  (fun t ht => by
    by_cases htr : t = r
    · subst htr
      rw [va_up_self, EB_c _ _ _ ht]
      simp [va_up, sKd, uKd, sPl, uPl, sCe, uCe]
    · rw [va_up_ne _ _ (by omega), EB_c _ _ _ ht, EB_c _ _ _ ht]
      simp [va_up, htr, sKd, uKd, sPl, uPl, sCe, uCe])
  (fun t ht => by
    rw [va_up_ne _ _ (by omega), EB_k _ _ _ ht, EB_k _ _ _ ht]))) g2)
theorem cp_keep (C : Cx p s m args c cc RX1 nL G) (hls : ls.size = nL) (h : HW G.1 35 a (EB G a B) H) (hS : va_S (Aw 35 a) H0 H locs) {r : Nat} (hr : r < 8) (hframes : 1 ≤ R.frames) (hlocals : (rest.map fun v => v.category).sum + (nativeFrameWords "java/lang/System" "arraycopy" 5 + 11) ≤ R.locals) (hdg : decode cc pc = .ok (.invokestatic 33, 3)) (kk : ∀ (H1 : Heap) (locs1 : List Loc), HW G.1 35 a (EB G a ((B.1, va_up B.2 r (va_cpy (sCe B.1 r) (B.2 r) 0 0 40)))) H1 → va_S (Aw 35 a) H0 H1 locs1 → W p l e R s m args below meth c H1 locs1 cells slots Q (F0 m (pc + 3) ls (rest))) : W p l e R s m args below meth c H locs cells slots Q (F0 m pc ls (.int (nI (40)) :: .int (nI (0)) :: .ref (a (r + 27)) :: .int (nI (0)) :: .ref (a (r + 19)) :: rest)) :=
  hw_copy C hls h hS (r + 19) (r + 27) (by omega) (by omega) (EB_c _ _ _ hr) (EB_k _ _ _ hr) (by decide +kernel) (0) (0) (40) (by omega) (by omega) (by decide) (by decide) hframes hlocals hdg (fun H1 l1 g1 g2 => kk H1 l1 (g1.eqv (EB_cases (fun k hk => by rw [va_up_ne _ _ (by omega)]; match k, hk with | 0, _ => rfl | 1, _ => rfl | 2, _ => rfl | 3, _ => rfl | 4, _ => rfl | 5, _ => rfl | 6, _ => rfl | 7, _ => rfl | 8, _ => rfl | 9, _ => rfl | 10, _ => rfl | k + 11, h => exact absurd h (by omega))
  (fun t ht => by
    rw [va_up_ne _ _ (by omega), EB_r _ _ _ ht, EB_r _ _ _ ht])
  (fun t ht => by
    rw [va_up_ne _ _ (by omega), EB_c _ _ _ ht, EB_c _ _ _ ht])
  (fun t ht => by
    by_cases htr : t = r
    · subst htr
      rw [va_up_self, EB_k _ _ _ ht]
      simp [va_up, sKd, uKd, sPl, uPl, sCe, uCe]
    · rw [va_up_ne _ _ (by omega), EB_k _ _ _ ht, EB_k _ _ _ ht]
      simp [va_up, htr, sKd, uKd, sPl, uPl, sCe, uCe]))) g2)
theorem cp_back (C : Cx p s m args c cc RX1 nL G) (hls : ls.size = nL) (h : HW G.1 35 a (EB G a B) H) (hS : va_S (Aw 35 a) H0 H locs) {r : Nat} (hr : r < 8) (hframes : 1 ≤ R.frames) (hlocals : (rest.map fun v => v.category).sum + (nativeFrameWords "java/lang/System" "arraycopy" 5 + 11) ≤ R.locals) (hdg : decode cc pc = .ok (.invokestatic 33, 3)) (kk : ∀ (H1 : Heap) (locs1 : List Loc), HW G.1 35 a (EB G a ((uCe B.1 (va_up (sCe B.1) r (va_cpy (B.2 r) (sCe B.1 r) 0 0 40)), B.2))) H1 → va_S (Aw 35 a) H0 H1 locs1 → W p l e R s m args below meth c H1 locs1 cells slots Q (F0 m (pc + 3) ls (rest))) : W p l e R s m args below meth c H locs cells slots Q (F0 m pc ls (.int (nI (40)) :: .int (nI (0)) :: .ref (a (r + 19)) :: .int (nI (0)) :: .ref (a (r + 27)) :: rest)) :=
  hw_copy C hls h hS (r + 27) (r + 19) (by omega) (by omega) (EB_k _ _ _ hr) (EB_c _ _ _ hr) (by decide +kernel) (0) (0) (40) (by omega) (by omega) (by decide) (by decide) hframes hlocals hdg (fun H1 l1 g1 g2 => kk H1 l1 (g1.eqv (EB_cases (fun k hk => by rw [va_up_ne _ _ (by omega)]; match k, hk with | 0, _ => rfl | 1, _ => rfl | 2, _ => rfl | 3, _ => rfl | 4, _ => rfl | 5, _ => rfl | 6, _ => rfl | 7, _ => rfl | 8, _ => rfl | 9, _ => rfl | 10, _ => rfl | k + 11, h => exact absurd h (by omega))
  (fun t ht => by
    rw [va_up_ne _ _ (by omega), EB_r _ _ _ ht, EB_r _ _ _ ht])
  (fun t ht => by
    by_cases htr : t = r
    · subst htr
      rw [va_up_self, EB_c _ _ _ ht]
      simp [va_up, sKd, uKd, sPl, uPl, sCe, uCe]
    · rw [va_up_ne _ _ (by omega), EB_c _ _ _ ht, EB_c _ _ _ ht]
      simp [va_up, htr, sKd, uKd, sPl, uPl, sCe, uCe])
  (fun t ht => by
    rw [va_up_ne _ _ (by omega), EB_k _ _ _ ht, EB_k _ _ _ ht]))) g2)
theorem cp_move (C : Cx p s m args c cc RX2 nL G) (hls : ls.size = nL) (h : HW G.1 35 a (EB G a B) H) (hS : va_S (Aw 35 a) H0 H locs) {q r sp dp n : Nat} (hq : q < 8) (hr : r < 8) (h4 : sp + n ≤ 40) (h5 : dp + n ≤ 40) (hframes : 1 ≤ R.frames) (hlocals : (rest.map fun v => v.category).sum + (nativeFrameWords "java/lang/System" "arraycopy" 5 + 11) ≤ R.locals) (hdg : decode cc pc = .ok (.invokestatic 152, 3)) (kk : ∀ (H1 : Heap) (locs1 : List Loc), HW G.1 35 a (EB G a ((uCe B.1 (va_up (sCe B.1) r (va_cpy (sCe B.1 q) (sCe B.1 r) sp dp n)), B.2))) H1 → va_S (Aw 35 a) H0 H1 locs1 → W p l e R s m args below meth c H1 locs1 cells slots Q (F0 m (pc + 3) ls (rest))) : W p l e R s m args below meth c H locs cells slots Q (F0 m pc ls (.int (nI (n)) :: .int (nI (dp)) :: .ref (a (r + 19)) :: .int (nI (sp)) :: .ref (a (q + 19)) :: rest)) :=
  hw_copy C hls h hS (q + 19) (r + 19) (by omega) (by omega) (EB_c _ _ _ hq) (EB_c _ _ _ hr) (by decide +kernel) (sp) (dp) (n) (by omega) (by omega) (by decide) (by decide) hframes hlocals hdg (fun H1 l1 g1 g2 => kk H1 l1 (g1.eqv (EB_cases (fun k hk => by rw [va_up_ne _ _ (by omega)]; match k, hk with | 0, _ => rfl | 1, _ => rfl | 2, _ => rfl | 3, _ => rfl | 4, _ => rfl | 5, _ => rfl | 6, _ => rfl | 7, _ => rfl | 8, _ => rfl | 9, _ => rfl | 10, _ => rfl | k + 11, h => exact absurd h (by omega))
  (fun t ht => by
    rw [va_up_ne _ _ (by omega), EB_r _ _ _ ht, EB_r _ _ _ ht])
  (fun t ht => by
    by_cases htr : t = r
    · subst htr
      rw [va_up_self, EB_c _ _ _ ht]
      simp [va_up, sKd, uKd, sPl, uPl, sCe, uCe]
    · rw [va_up_ne _ _ (by omega), EB_c _ _ _ ht, EB_c _ _ _ ht]
      simp [va_up, htr, sKd, uKd, sPl, uPl, sCe, uCe])
  (fun t ht => by
    rw [va_up_ne _ _ (by omega), EB_k _ _ _ ht, EB_k _ _ _ ht]))) g2)
theorem fg_X3_7 (C : Cx p s m args c cc RX3 nL G) (h : HW G.1 10 a (EM G a M) H) (hdg : decode cc pc = .ok (.getfield 7, 3)) (kk : W p l e R s m args below meth c H locs cells slots Q (F0 m (pc + 3) ls (.ref (a 1) :: rest))) : W p l e R s m args below meth c H locs cells slots Q (F0 m pc ls (.ref (a (0)) :: rest)) :=
  hw_get C h (0) (by decide) rfl inlX3 rfl 0 (by decide) (by decide +kernel) rfl hdg kk
theorem fg_X3_13 (C : Cx p s m args c cc RX3 nL G) (h : HW G.1 10 a (EM G a M) H) (hdg : decode cc pc = .ok (.getfield 13, 3)) (kk : W p l e R s m args below meth c H locs cells slots Q (F0 m (pc + 3) ls (.ref (a 2) :: rest))) : W p l e R s m args below meth c H locs cells slots Q (F0 m pc ls (.ref (a (0)) :: rest)) :=
  hw_get C h (0) (by decide) rfl inlX3 rfl 1 (by decide) (by decide +kernel) rfl hdg kk
theorem fg_X3_16 (C : Cx p s m args c cc RX3 nL G) (h : HW G.1 10 a (EM G a M) H) (hdg : decode cc pc = .ok (.getfield 16, 3)) (kk : W p l e R s m args below meth c H locs cells slots Q (F0 m (pc + 3) ls (.ref (a 3) :: rest))) : W p l e R s m args below meth c H locs cells slots Q (F0 m pc ls (.ref (a (0)) :: rest)) :=
  hw_get C h (0) (by decide) rfl inlX3 rfl 2 (by decide) (by decide +kernel) rfl hdg kk
theorem fg_X3_20 (C : Cx p s m args c cc RX3 nL G) (h : HW G.1 10 a (EM G a M) H) (hdg : decode cc pc = .ok (.getfield 20, 3)) (kk : W p l e R s m args below meth c H locs cells slots Q (F0 m (pc + 3) ls (.ref (a 4) :: rest))) : W p l e R s m args below meth c H locs cells slots Q (F0 m pc ls (.ref (a (0)) :: rest)) :=
  hw_get C h (0) (by decide) rfl inlX3 rfl 3 (by decide) (by decide +kernel) rfl hdg kk
theorem fg_X3_23 (C : Cx p s m args c cc RX3 nL G) (h : HW G.1 10 a (EM G a M) H) (hdg : decode cc pc = .ok (.getfield 23, 3)) (kk : W p l e R s m args below meth c H locs cells slots Q (F0 m (pc + 3) ls (.ref (a 5) :: rest))) : W p l e R s m args below meth c H locs cells slots Q (F0 m pc ls (.ref (a (0)) :: rest)) :=
  hw_get C h (0) (by decide) rfl inlX3 rfl 4 (by decide) (by decide +kernel) rfl hdg kk
theorem fg_X3_46 (C : Cx p s m args c cc RX3 nL G) (h : HW G.1 10 a (EM G a M) H) (hdg : decode cc pc = .ok (.getfield 46, 3)) (kk : W p l e R s m args below meth c H locs cells slots Q (F0 m (pc + 3) ls (.int (nI (sNb M.1)) :: rest))) : W p l e R s m args below meth c H locs cells slots Q (F0 m pc ls (.ref (a (0)) :: rest)) :=
  hw_get C h (0) (by decide) rfl inlX3 rfl 5 (by decide) (by decide +kernel) rfl hdg kk
theorem fg_X3_26 (C : Cx p s m args c cc RX3 nL G) (h : HW G.1 10 a (EM G a M) H) (hdg : decode cc pc = .ok (.getfield 26, 3)) (kk : W p l e R s m args below meth c H locs cells slots Q (F0 m (pc + 3) ls (.ref (a 6) :: rest))) : W p l e R s m args below meth c H locs cells slots Q (F0 m pc ls (.ref (a (0)) :: rest)) :=
  hw_get C h (0) (by decide) rfl inlX3 rfl 6 (by decide) (by decide +kernel) rfl hdg kk
theorem fg_X3_29 (C : Cx p s m args c cc RX3 nL G) (h : HW G.1 10 a (EM G a M) H) (hdg : decode cc pc = .ok (.getfield 29, 3)) (kk : W p l e R s m args below meth c H locs cells slots Q (F0 m (pc + 3) ls (.ref (a 7) :: rest))) : W p l e R s m args below meth c H locs cells slots Q (F0 m pc ls (.ref (a (0)) :: rest)) :=
  hw_get C h (0) (by decide) rfl inlX3 rfl 7 (by decide) (by decide +kernel) rfl hdg kk
theorem fg_X3_87 (C : Cx p s m args c cc RX3 nL G) (h : HW G.1 10 a (EM G a M) H) (hdg : decode cc pc = .ok (.getfield 87, 3)) (kk : W p l e R s m args below meth c H locs cells slots Q (F0 m (pc + 3) ls (.int (nI (sNs M.1)) :: rest))) : W p l e R s m args below meth c H locs cells slots Q (F0 m pc ls (.ref (a (0)) :: rest)) :=
  hw_get C h (0) (by decide) rfl inlX3 rfl 8 (by decide) (by decide +kernel) rfl hdg kk
theorem fg_X3_33 (C : Cx p s m args c cc RX3 nL G) (h : HW G.1 10 a (EM G a M) H) (hdg : decode cc pc = .ok (.getfield 33, 3)) (kk : W p l e R s m args below meth c H locs cells slots Q (F0 m (pc + 3) ls (.ref (a 8) :: rest))) : W p l e R s m args below meth c H locs cells slots Q (F0 m pc ls (.ref (a (0)) :: rest)) :=
  hw_get C h (0) (by decide) rfl inlX3 rfl 9 (by decide) (by decide +kernel) rfl hdg kk
theorem fg_X3_81 (C : Cx p s m args c cc RX3 nL G) (h : HW G.1 10 a (EM G a M) H) (hdg : decode cc pc = .ok (.getfield 81, 3)) (kk : W p l e R s m args below meth c H locs cells slots Q (F0 m (pc + 3) ls (.int (sCm M.1) :: rest))) : W p l e R s m args below meth c H locs cells slots Q (F0 m pc ls (.ref (a (0)) :: rest)) :=
  hw_get C h (0) (by decide) rfl inlX3 rfl 10 (by decide) (by decide +kernel) rfl hdg kk
theorem fg_X3_36 (C : Cx p s m args c cc RX3 nL G) (h : HW G.1 10 a (EM G a M) H) (hdg : decode cc pc = .ok (.getfield 36, 3)) (kk : W p l e R s m args below meth c H locs cells slots Q (F0 m (pc + 3) ls (.ref (a 9) :: rest))) : W p l e R s m args below meth c H locs cells slots Q (F0 m pc ls (.ref (a (0)) :: rest)) :=
  hw_get C h (0) (by decide) rfl inlX3 rfl 11 (by decide) (by decide +kernel) rfl hdg kk
theorem fg_X3_94 (C : Cx p s m args c cc RX3 nL G) (h : HW G.1 10 a (EM G a M) H) (hdg : decode cc pc = .ok (.getfield 94, 3)) (kk : W p l e R s m args below meth c H locs cells slots Q (F0 m (pc + 3) ls (.int (sWv M.1) :: rest))) : W p l e R s m args below meth c H locs cells slots Q (F0 m pc ls (.ref (a (0)) :: rest)) :=
  hw_get C h (0) (by decide) rfl inlX3 rfl 12 (by decide) (by decide +kernel) rfl hdg kk
theorem fp_X3_46 (C : Cx p s m args c cc RX3 nL G) (h : HW G.1 10 a (EM G a M) H) (hS : va_S (Aw 10 a) H0 H locs) {v : Nat} (hdg : decode cc pc = .ok (.putfield 46, 3)) (kk : ∀ (H1 : Heap) (locs1 : List Loc), HW G.1 10 a (EM G a ((uNb M.1 v, mF M, mB M, mA M, mC M, mP M))) H1 → va_S (Aw 10 a) H0 H1 locs1 → W p l e R s m args below meth c H1 locs1 cells slots Q (F0 m (pc + 3) ls (rest))) : W p l e R s m args below meth c H locs cells slots Q (F0 m pc ls (.int (nI v) :: .ref (a (0)) :: rest)) :=
  hw_put C h hS (0) (by decide) rfl inlX3 tyX3 tyX3_ok nmX3 rfl 5 (by decide) (by decide +kernel) rfl (by decide +kernel) (Nat.le_of_ble_eq_true rfl) hdg (fun H1 l1 g1 g2 => kk H1 l1 (g1.eqv (fun k hk => by match k, hk with | 0, _ => rfl | 1, _ => rfl | 2, _ => rfl | 3, _ => rfl | 4, _ => rfl | 5, _ => rfl | 6, _ => rfl | 7, _ => rfl | 8, _ => rfl | 9, _ => rfl | k + 10, h => exact absurd h (by omega))) g2)
theorem fp_X3_87 (C : Cx p s m args c cc RX3 nL G) (h : HW G.1 10 a (EM G a M) H) (hS : va_S (Aw 10 a) H0 H locs) {v : Nat} (hdg : decode cc pc = .ok (.putfield 87, 3)) (kk : ∀ (H1 : Heap) (locs1 : List Loc), HW G.1 10 a (EM G a ((uNs M.1 v, mF M, mB M, mA M, mC M, mP M))) H1 → va_S (Aw 10 a) H0 H1 locs1 → W p l e R s m args below meth c H1 locs1 cells slots Q (F0 m (pc + 3) ls (rest))) : W p l e R s m args below meth c H locs cells slots Q (F0 m pc ls (.int (nI v) :: .ref (a (0)) :: rest)) :=
  hw_put C h hS (0) (by decide) rfl inlX3 tyX3 tyX3_ok nmX3 rfl 8 (by decide) (by decide +kernel) rfl (by decide +kernel) (Nat.le_of_ble_eq_true rfl) hdg (fun H1 l1 g1 g2 => kk H1 l1 (g1.eqv (fun k hk => by match k, hk with | 0, _ => rfl | 1, _ => rfl | 2, _ => rfl | 3, _ => rfl | 4, _ => rfl | 5, _ => rfl | 6, _ => rfl | 7, _ => rfl | 8, _ => rfl | 9, _ => rfl | k + 10, h => exact absurd h (by omega))) g2)
theorem fp_X3_81 (C : Cx p s m args c cc RX3 nL G) (h : HW G.1 10 a (EM G a M) H) (hS : va_S (Aw 10 a) H0 H locs) {v : Int32} (hdg : decode cc pc = .ok (.putfield 81, 3)) (kk : ∀ (H1 : Heap) (locs1 : List Loc), HW G.1 10 a (EM G a ((uCm M.1 v, mF M, mB M, mA M, mC M, mP M))) H1 → va_S (Aw 10 a) H0 H1 locs1 → W p l e R s m args below meth c H1 locs1 cells slots Q (F0 m (pc + 3) ls (rest))) : W p l e R s m args below meth c H locs cells slots Q (F0 m pc ls (.int v :: .ref (a (0)) :: rest)) :=
  hw_put C h hS (0) (by decide) rfl inlX3 tyX3 tyX3_ok nmX3 rfl 10 (by decide) (by decide +kernel) rfl (by decide +kernel) (Nat.le_of_ble_eq_true rfl) hdg (fun H1 l1 g1 g2 => kk H1 l1 (g1.eqv (fun k hk => by match k, hk with | 0, _ => rfl | 1, _ => rfl | 2, _ => rfl | 3, _ => rfl | 4, _ => rfl | 5, _ => rfl | 6, _ => rfl | 7, _ => rfl | 8, _ => rfl | 9, _ => rfl | k + 10, h => exact absurd h (by omega))) g2)
theorem fp_X3_94 (C : Cx p s m args c cc RX3 nL G) (h : HW G.1 10 a (EM G a M) H) (hS : va_S (Aw 10 a) H0 H locs) {v : Int32} (hdg : decode cc pc = .ok (.putfield 94, 3)) (kk : ∀ (H1 : Heap) (locs1 : List Loc), HW G.1 10 a (EM G a ((uWv M.1 v, mF M, mB M, mA M, mC M, mP M))) H1 → va_S (Aw 10 a) H0 H1 locs1 → W p l e R s m args below meth c H1 locs1 cells slots Q (F0 m (pc + 3) ls (rest))) : W p l e R s m args below meth c H locs cells slots Q (F0 m pc ls (.int v :: .ref (a (0)) :: rest)) :=
  hw_put C h hS (0) (by decide) rfl inlX3 tyX3 tyX3_ok nmX3 rfl 12 (by decide) (by decide +kernel) rfl (by decide +kernel) (Nat.le_of_ble_eq_true rfl) hdg (fun H1 l1 g1 g2 => kk H1 l1 (g1.eqv (fun k hk => by match k, hk with | 0, _ => rfl | 1, _ => rfl | 2, _ => rfl | 3, _ => rfl | 4, _ => rfl | 5, _ => rfl | 6, _ => rfl | 7, _ => rfl | 8, _ => rfl | 9, _ => rfl | k + 10, h => exact absurd h (by omega))) g2)
theorem ml_kd {own : String} (C : Cx p s m args c cc own nL G) (h : HW G.1 10 a (EM G a M) H) {i : Nat} (hi : i < 8) (hdg : decode cc pc = .ok (.iaload, 1)) (kk : W p l e R s m args below meth c H locs cells slots Q (F0 m (pc + 1) ls (.int (nI (sKd M.1 i)) :: rest))) : W p l e R s m args below meth c H locs cells slots Q (F0 m pc ls (.int (nI i) :: .ref (a (1)) :: rest)) :=
  hw_iald C h (1) (by decide) rfl i hi (by decide) hdg kk
theorem ml_pl {own : String} (C : Cx p s m args c cc own nL G) (h : HW G.1 10 a (EM G a M) H) {i : Nat} (hi : i < 8) (hdg : decode cc pc = .ok (.iaload, 1)) (kk : W p l e R s m args below meth c H locs cells slots Q (F0 m (pc + 1) ls (.int (nI (sPl M.1 i)) :: rest))) : W p l e R s m args below meth c H locs cells slots Q (F0 m pc ls (.int (nI i) :: .ref (a (2)) :: rest)) :=
  hw_iald C h (2) (by decide) rfl i hi (by decide) hdg kk
theorem ml_ce {own : String} (C : Cx p s m args c cc own nL G) (h : HW G.1 10 a (EM G a M) H) {i : Nat} (hi : i < 320) (hdg : decode cc pc = .ok (.laload, 1)) (kk : W p l e R s m args below meth c H locs cells slots Q (F0 m (pc + 1) ls (.long (mF M i) :: rest))) : W p l e R s m args below meth c H locs cells slots Q (F0 m pc ls (.int (nI i) :: .ref (a (3)) :: rest)) :=
  hw_lald C h (3) (by decide) rfl i hi (by decide) hdg kk
theorem ml_be {own : String} (C : Cx p s m args c cc own nL G) (h : HW G.1 10 a (EM G a M) H) {i : Nat} (hi : i < 320) (hdg : decode cc pc = .ok (.laload, 1)) (kk : W p l e R s m args below meth c H locs cells slots Q (F0 m (pc + 1) ls (.long (mB M i) :: rest))) : W p l e R s m args below meth c H locs cells slots Q (F0 m pc ls (.int (nI i) :: .ref (a (4)) :: rest)) :=
  hw_lald C h (4) (by decide) rfl i hi (by decide) hdg kk
theorem ml_as {own : String} (C : Cx p s m args c cc own nL G) (h : HW G.1 10 a (EM G a M) H) {i : Nat} (hi : i < 40) (hdg : decode cc pc = .ok (.laload, 1)) (kk : W p l e R s m args below meth c H locs cells slots Q (F0 m (pc + 1) ls (.long (mA M i) :: rest))) : W p l e R s m args below meth c H locs cells slots Q (F0 m pc ls (.int (nI i) :: .ref (a (5)) :: rest)) :=
  hw_lald C h (5) (by decide) rfl i hi (by decide) hdg kk
theorem ml_co {own : String} (C : Cx p s m args c cc own nL G) (h : HW G.1 10 a (EM G a M) H) {i : Nat} (hi : i < 200) (hdg : decode cc pc = .ok (.iaload, 1)) (kk : W p l e R s m args below meth c H locs cells slots Q (F0 m (pc + 1) ls (.int (sCo M.1 i) :: rest))) : W p l e R s m args below meth c H locs cells slots Q (F0 m pc ls (.int (nI i) :: .ref (a (6)) :: rest)) :=
  hw_iald C h (6) (by decide) rfl i hi (by decide) hdg kk
theorem ml_pe {own : String} (C : Cx p s m args c cc own nL G) (h : HW G.1 10 a (EM G a M) H) {i : Nat} (hi : i < 200) (hdg : decode cc pc = .ok (.baload, 1)) (kk : W p l e R s m args below meth c H locs cells slots Q (F0 m (pc + 1) ls (.int (sPe M.1 i) :: rest))) : W p l e R s m args below meth c H locs cells slots Q (F0 m pc ls (.int (nI i) :: .ref (a (7)) :: rest)) :=
  hw_zald C h (7) (by decide) rfl i hi (by decide) hdg kk
theorem ml_pt {own : String} (C : Cx p s m args c cc own nL G) (h : HW G.1 10 a (EM G a M) H) {i : Nat} (hi : i < 120) (hdg : decode cc pc = .ok (.iaload, 1)) (kk : W p l e R s m args below meth c H locs cells slots Q (F0 m (pc + 1) ls (.int (mP M i) :: rest))) : W p l e R s m args below meth c H locs cells slots Q (F0 m pc ls (.int (nI i) :: .ref (a (8)) :: rest)) :=
  hw_iald C h (8) (by decide) rfl i hi (by decide) hdg kk
theorem ml_ct {own : String} (C : Cx p s m args c cc own nL G) (h : HW G.1 10 a (EM G a M) H) {i : Nat} (hi : i < 6) (hdg : decode cc pc = .ok (.iaload, 1)) (kk : W p l e R s m args below meth c H locs cells slots Q (F0 m (pc + 1) ls (.int (mC M i) :: rest))) : W p l e R s m args below meth c H locs cells slots Q (F0 m pc ls (.int (nI i) :: .ref (a (9)) :: rest)) :=
  hw_iald C h (9) (by decide) rfl i hi (by decide) hdg kk
theorem ms_kd {own : String} (C : Cx p s m args c cc own nL G) (h : HW G.1 10 a (EM G a M) H) (hS : va_S (Aw 10 a) H0 H locs) {i : Nat} (hi : i < 8) {x : Nat} (hdg : decode cc pc = .ok (.iastore, 1)) (kk : ∀ (H1 : Heap) (locs1 : List Loc), HW G.1 10 a (EM G a ((uKd M.1 (va_up (sKd M.1) i x), mF M, mB M, mA M, mC M, mP M))) H1 → va_S (Aw 10 a) H0 H1 locs1 → W p l e R s m args below meth c H1 locs1 cells slots Q (F0 m (pc + 1) ls (rest))) : W p l e R s m args below meth c H locs cells slots Q (F0 m pc ls (.int (nI x) :: .int (nI i) :: .ref (a (1)) :: rest)) :=
  hw_iast C h hS (1) (by decide) rfl i hi (by decide) hdg (fun H1 l1 g1 g2 => kk H1 l1 (g1.eqv (fun k hk => by
    match k, hk with
    | 0, _ => rfl
    | 1, _ => exact congrArg (fun z => Sum.inl (G.2 0, 8, Sum.inl z)) (by funext j; by_cases hj : j = i <;> simp [upd, va_up, hj, sKd, uKd, sPl, uPl])
    | 2, _ => rfl
    | 3, _ => rfl
    | 4, _ => rfl
    | 5, _ => rfl
    | 6, _ => rfl
    | 7, _ => rfl
    | 8, _ => rfl
    | 9, _ => rfl
    | k + 10, h => exact absurd h (by omega))) g2)
theorem ms_pl {own : String} (C : Cx p s m args c cc own nL G) (h : HW G.1 10 a (EM G a M) H) (hS : va_S (Aw 10 a) H0 H locs) {i : Nat} (hi : i < 8) {x : Nat} (hdg : decode cc pc = .ok (.iastore, 1)) (kk : ∀ (H1 : Heap) (locs1 : List Loc), HW G.1 10 a (EM G a ((uPl M.1 (va_up (sPl M.1) i x), mF M, mB M, mA M, mC M, mP M))) H1 → va_S (Aw 10 a) H0 H1 locs1 → W p l e R s m args below meth c H1 locs1 cells slots Q (F0 m (pc + 1) ls (rest))) : W p l e R s m args below meth c H locs cells slots Q (F0 m pc ls (.int (nI x) :: .int (nI i) :: .ref (a (2)) :: rest)) :=
  hw_iast C h hS (2) (by decide) rfl i hi (by decide) hdg (fun H1 l1 g1 g2 => kk H1 l1 (g1.eqv (fun k hk => by
    match k, hk with
    | 0, _ => rfl
    | 1, _ => rfl
    | 2, _ => exact congrArg (fun z => Sum.inl (G.2 0, 8, Sum.inl z)) (by funext j; by_cases hj : j = i <;> simp [upd, va_up, hj, sKd, uKd, sPl, uPl])
    | 3, _ => rfl
    | 4, _ => rfl
    | 5, _ => rfl
    | 6, _ => rfl
    | 7, _ => rfl
    | 8, _ => rfl
    | 9, _ => rfl
    | k + 10, h => exact absurd h (by omega))) g2)
theorem ms_ce {own : String} (C : Cx p s m args c cc own nL G) (h : HW G.1 10 a (EM G a M) H) (hS : va_S (Aw 10 a) H0 H locs) {i : Nat} (hi : i < 320) {x : Int64} (hdg : decode cc pc = .ok (.lastore, 1)) (kk : ∀ (H1 : Heap) (locs1 : List Loc), HW G.1 10 a (EM G a ((M.1, vp_updL (mF M) i x, mB M, mA M, mC M, mP M))) H1 → va_S (Aw 10 a) H0 H1 locs1 → W p l e R s m args below meth c H1 locs1 cells slots Q (F0 m (pc + 1) ls (rest))) : W p l e R s m args below meth c H locs cells slots Q (F0 m pc ls (.long x :: .int (nI i) :: .ref (a (3)) :: rest)) :=
  hw_last C h hS (3) (by decide) rfl i hi (by decide) hdg (fun H1 l1 g1 g2 => kk H1 l1 (g1.eqv (fun k hk => by match k, hk with | 0, _ => rfl | 1, _ => rfl | 2, _ => rfl | 3, _ => rfl | 4, _ => rfl | 5, _ => rfl | 6, _ => rfl | 7, _ => rfl | 8, _ => rfl | 9, _ => rfl | k + 10, h => exact absurd h (by omega))) g2)
theorem ms_be {own : String} (C : Cx p s m args c cc own nL G) (h : HW G.1 10 a (EM G a M) H) (hS : va_S (Aw 10 a) H0 H locs) {i : Nat} (hi : i < 320) {x : Int64} (hdg : decode cc pc = .ok (.lastore, 1)) (kk : ∀ (H1 : Heap) (locs1 : List Loc), HW G.1 10 a (EM G a ((M.1, mF M, vp_updL (mB M) i x, mA M, mC M, mP M))) H1 → va_S (Aw 10 a) H0 H1 locs1 → W p l e R s m args below meth c H1 locs1 cells slots Q (F0 m (pc + 1) ls (rest))) : W p l e R s m args below meth c H locs cells slots Q (F0 m pc ls (.long x :: .int (nI i) :: .ref (a (4)) :: rest)) :=
  hw_last C h hS (4) (by decide) rfl i hi (by decide) hdg (fun H1 l1 g1 g2 => kk H1 l1 (g1.eqv (fun k hk => by match k, hk with | 0, _ => rfl | 1, _ => rfl | 2, _ => rfl | 3, _ => rfl | 4, _ => rfl | 5, _ => rfl | 6, _ => rfl | 7, _ => rfl | 8, _ => rfl | 9, _ => rfl | k + 10, h => exact absurd h (by omega))) g2)
theorem ms_as {own : String} (C : Cx p s m args c cc own nL G) (h : HW G.1 10 a (EM G a M) H) (hS : va_S (Aw 10 a) H0 H locs) {i : Nat} (hi : i < 40) {x : Int64} (hdg : decode cc pc = .ok (.lastore, 1)) (kk : ∀ (H1 : Heap) (locs1 : List Loc), HW G.1 10 a (EM G a ((M.1, mF M, mB M, vp_updL (mA M) i x, mC M, mP M))) H1 → va_S (Aw 10 a) H0 H1 locs1 → W p l e R s m args below meth c H1 locs1 cells slots Q (F0 m (pc + 1) ls (rest))) : W p l e R s m args below meth c H locs cells slots Q (F0 m pc ls (.long x :: .int (nI i) :: .ref (a (5)) :: rest)) :=
  hw_last C h hS (5) (by decide) rfl i hi (by decide) hdg (fun H1 l1 g1 g2 => kk H1 l1 (g1.eqv (fun k hk => by match k, hk with | 0, _ => rfl | 1, _ => rfl | 2, _ => rfl | 3, _ => rfl | 4, _ => rfl | 5, _ => rfl | 6, _ => rfl | 7, _ => rfl | 8, _ => rfl | 9, _ => rfl | k + 10, h => exact absurd h (by omega))) g2)
theorem ms_co {own : String} (C : Cx p s m args c cc own nL G) (h : HW G.1 10 a (EM G a M) H) (hS : va_S (Aw 10 a) H0 H locs) {i : Nat} (hi : i < 200) {x : Int32} (hdg : decode cc pc = .ok (.iastore, 1)) (kk : ∀ (H1 : Heap) (locs1 : List Loc), HW G.1 10 a (EM G a ((uCo M.1 (upd (sCo M.1) i x), mF M, mB M, mA M, mC M, mP M))) H1 → va_S (Aw 10 a) H0 H1 locs1 → W p l e R s m args below meth c H1 locs1 cells slots Q (F0 m (pc + 1) ls (rest))) : W p l e R s m args below meth c H locs cells slots Q (F0 m pc ls (.int x :: .int (nI i) :: .ref (a (6)) :: rest)) :=
  hw_iast C h hS (6) (by decide) rfl i hi (by decide) hdg (fun H1 l1 g1 g2 => kk H1 l1 (g1.eqv (fun k hk => by match k, hk with | 0, _ => rfl | 1, _ => rfl | 2, _ => rfl | 3, _ => rfl | 4, _ => rfl | 5, _ => rfl | 6, _ => rfl | 7, _ => rfl | 8, _ => rfl | 9, _ => rfl | k + 10, h => exact absurd h (by omega))) g2)
theorem ms_pe {own : String} (C : Cx p s m args c cc own nL G) (h : HW G.1 10 a (EM G a M) H) (hS : va_S (Aw 10 a) H0 H locs) {i : Nat} (hi : i < 200) {x : Int32} (hx : vp_nar .boolean x = x) (hdg : decode cc pc = .ok (.bastore, 1)) (kk : ∀ (H1 : Heap) (locs1 : List Loc), HW G.1 10 a (EM G a ((uPe M.1 (upd (sPe M.1) i x), mF M, mB M, mA M, mC M, mP M))) H1 → va_S (Aw 10 a) H0 H1 locs1 → W p l e R s m args below meth c H1 locs1 cells slots Q (F0 m (pc + 1) ls (rest))) : W p l e R s m args below meth c H locs cells slots Q (F0 m pc ls (.int x :: .int (nI i) :: .ref (a (7)) :: rest)) :=
  hw_zast C h hS (7) (by decide) rfl i hi (by decide) hx hdg (fun H1 l1 g1 g2 => kk H1 l1 (g1.eqv (fun k hk => by match k, hk with | 0, _ => rfl | 1, _ => rfl | 2, _ => rfl | 3, _ => rfl | 4, _ => rfl | 5, _ => rfl | 6, _ => rfl | 7, _ => rfl | 8, _ => rfl | 9, _ => rfl | k + 10, h => exact absurd h (by omega))) g2)
theorem ms_pt {own : String} (C : Cx p s m args c cc own nL G) (h : HW G.1 10 a (EM G a M) H) (hS : va_S (Aw 10 a) H0 H locs) {i : Nat} (hi : i < 120) {x : Int32} (hdg : decode cc pc = .ok (.iastore, 1)) (kk : ∀ (H1 : Heap) (locs1 : List Loc), HW G.1 10 a (EM G a ((M.1, mF M, mB M, mA M, mC M, upd (mP M) i x))) H1 → va_S (Aw 10 a) H0 H1 locs1 → W p l e R s m args below meth c H1 locs1 cells slots Q (F0 m (pc + 1) ls (rest))) : W p l e R s m args below meth c H locs cells slots Q (F0 m pc ls (.int x :: .int (nI i) :: .ref (a (8)) :: rest)) :=
  hw_iast C h hS (8) (by decide) rfl i hi (by decide) hdg (fun H1 l1 g1 g2 => kk H1 l1 (g1.eqv (fun k hk => by match k, hk with | 0, _ => rfl | 1, _ => rfl | 2, _ => rfl | 3, _ => rfl | 4, _ => rfl | 5, _ => rfl | 6, _ => rfl | 7, _ => rfl | 8, _ => rfl | 9, _ => rfl | k + 10, h => exact absurd h (by omega))) g2)
theorem ms_ct {own : String} (C : Cx p s m args c cc own nL G) (h : HW G.1 10 a (EM G a M) H) (hS : va_S (Aw 10 a) H0 H locs) {i : Nat} (hi : i < 6) {x : Int32} (hdg : decode cc pc = .ok (.iastore, 1)) (kk : ∀ (H1 : Heap) (locs1 : List Loc), HW G.1 10 a (EM G a ((M.1, mF M, mB M, mA M, upd (mC M) i x, mP M))) H1 → va_S (Aw 10 a) H0 H1 locs1 → W p l e R s m args below meth c H1 locs1 cells slots Q (F0 m (pc + 1) ls (rest))) : W p l e R s m args below meth c H locs cells slots Q (F0 m pc ls (.int x :: .int (nI i) :: .ref (a (9)) :: rest)) :=
  hw_iast C h hS (9) (by decide) rfl i hi (by decide) hdg (fun H1 l1 g1 g2 => kk H1 l1 (g1.eqv (fun k hk => by match k, hk with | 0, _ => rfl | 1, _ => rfl | 2, _ => rfl | 3, _ => rfl | 4, _ => rfl | 5, _ => rfl | 6, _ => rfl | 7, _ => rfl | 8, _ => rfl | 9, _ => rfl | k + 10, h => exact absurd h (by omega))) g2)
end RW
end
section
set_option maxRecDepth 20000 in
theorem lk_L_13 : LkV RL 13 yX2_make cX2_make 5 (some .boolean) 3 := ⟨⟨List.mem_of_getElem? (i := 62) rfl, List.mem_of_getElem? (i := 2) rfl, by decide +kernel⟩, List.mem_of_getElem? (i := 59) rfl, List.mem_of_getElem? (i := 60) rfl, List.mem_of_getElem? (i := 61) rfl⟩
set_option maxRecDepth 20000 in
theorem lk_L_17 : LkV RL 17 yX3_make cX3_make 4 (some .boolean) 3 := ⟨⟨List.mem_of_getElem? (i := 79) rfl, List.mem_of_getElem? (i := 5) rfl, by decide +kernel⟩, List.mem_of_getElem? (i := 76) rfl, List.mem_of_getElem? (i := 77) rfl, List.mem_of_getElem? (i := 78) rfl⟩
set_option maxRecDepth 20000 in
theorem lk_L_18 : LkV RL 18 yX2_lamp cX2_lamp 3 (some .boolean) 1 := ⟨⟨List.mem_of_getElem? (i := 99) rfl, List.mem_of_getElem? (i := 2) rfl, by decide +kernel⟩, List.mem_of_getElem? (i := 96) rfl, List.mem_of_getElem? (i := 97) rfl, List.mem_of_getElem? (i := 98) rfl⟩
set_option maxRecDepth 20000 in
theorem lk_L_22 : LkV RL 22 yX3_lamp cX3_lamp 2 (some .boolean) 1 := ⟨⟨List.mem_of_getElem? (i := 103) rfl, List.mem_of_getElem? (i := 5) rfl, by decide +kernel⟩, List.mem_of_getElem? (i := 100) rfl, List.mem_of_getElem? (i := 101) rfl, List.mem_of_getElem? (i := 102) rfl⟩
set_option maxRecDepth 20000 in
theorem lk_L_23 : LkV RL 23 yX2_empty cX2_empty 3 (some .boolean) 1 := ⟨⟨List.mem_of_getElem? (i := 107) rfl, List.mem_of_getElem? (i := 2) rfl, by decide +kernel⟩, List.mem_of_getElem? (i := 104) rfl, List.mem_of_getElem? (i := 105) rfl, List.mem_of_getElem? (i := 106) rfl⟩
set_option maxRecDepth 20000 in
theorem lk_L_26 : LkV RL 26 yX3_empty cX3_empty 2 (some .boolean) 1 := ⟨⟨List.mem_of_getElem? (i := 111) rfl, List.mem_of_getElem? (i := 5) rfl, by decide +kernel⟩, List.mem_of_getElem? (i := 108) rfl, List.mem_of_getElem? (i := 109) rfl, List.mem_of_getElem? (i := 110) rfl⟩
set_option maxRecDepth 20000 in
theorem lk_L_27 : LkV RL 27 yX2_bead cX2_bead 3 (some .int) 2 := ⟨⟨List.mem_of_getElem? (i := 115) rfl, List.mem_of_getElem? (i := 2) rfl, by decide +kernel⟩, List.mem_of_getElem? (i := 112) rfl, List.mem_of_getElem? (i := 113) rfl, List.mem_of_getElem? (i := 114) rfl⟩
set_option maxRecDepth 20000 in
theorem lk_L_31 : LkV RL 31 yX3_bead cX3_bead 3 (some .int) 2 := ⟨⟨List.mem_of_getElem? (i := 119) rfl, List.mem_of_getElem? (i := 5) rfl, by decide +kernel⟩, List.mem_of_getElem? (i := 116) rfl, List.mem_of_getElem? (i := 117) rfl, List.mem_of_getElem? (i := 118) rfl⟩
set_option maxRecDepth 20000 in
theorem lk_L_32 : LkV RL 32 yX2_paint cX2_paint 3 (some .boolean) 2 := ⟨⟨List.mem_of_getElem? (i := 124) rfl, List.mem_of_getElem? (i := 2) rfl, by decide +kernel⟩, List.mem_of_getElem? (i := 121) rfl, List.mem_of_getElem? (i := 122) rfl, List.mem_of_getElem? (i := 123) rfl⟩
set_option maxRecDepth 20000 in
theorem lk_L_36 : LkV RL 36 yX3_paint cX3_paint 3 (some .boolean) 2 := ⟨⟨List.mem_of_getElem? (i := 132) rfl, List.mem_of_getElem? (i := 5) rfl, by decide +kernel⟩, List.mem_of_getElem? (i := 129) rfl, List.mem_of_getElem? (i := 130) rfl, List.mem_of_getElem? (i := 131) rfl⟩
set_option maxRecDepth 20000 in
theorem lk_L_37 : LkV RL 37 yX2_colour cX2_colour 2 (some .int) 1 := ⟨⟨List.mem_of_getElem? (i := 140) rfl, List.mem_of_getElem? (i := 2) rfl, by decide +kernel⟩, List.mem_of_getElem? (i := 137) rfl, List.mem_of_getElem? (i := 138) rfl, List.mem_of_getElem? (i := 139) rfl⟩
set_option maxRecDepth 20000 in
theorem lk_L_41 : LkV RL 41 yX3_colour cX3_colour 2 (some .int) 1 := ⟨⟨List.mem_of_getElem? (i := 148) rfl, List.mem_of_getElem? (i := 5) rfl, by decide +kernel⟩, List.mem_of_getElem? (i := 145) rfl, List.mem_of_getElem? (i := 146) rfl, List.mem_of_getElem? (i := 147) rfl⟩
set_option maxRecDepth 20000 in
theorem lk_L_44 : LkV RL 44 yX2_put cX2_put 6 (some .boolean) 3 := ⟨⟨List.mem_of_getElem? (i := 152) rfl, List.mem_of_getElem? (i := 2) rfl, by decide +kernel⟩, List.mem_of_getElem? (i := 149) rfl, List.mem_of_getElem? (i := 150) rfl, List.mem_of_getElem? (i := 151) rfl⟩
set_option maxRecDepth 20000 in
theorem lk_L_48 : LkV RL 48 yX3_put cX3_put 5 (some .boolean) 3 := ⟨⟨List.mem_of_getElem? (i := 173) rfl, List.mem_of_getElem? (i := 5) rfl, by decide +kernel⟩, List.mem_of_getElem? (i := 170) rfl, List.mem_of_getElem? (i := 171) rfl, List.mem_of_getElem? (i := 172) rfl⟩
set_option maxRecDepth 20000 in
theorem lk_L_49 : LkV RL 49 yX2_look cX2_look 4 (some .long) 2 := ⟨⟨List.mem_of_getElem? (i := 189) rfl, List.mem_of_getElem? (i := 2) rfl, by decide +kernel⟩, List.mem_of_getElem? (i := 186) rfl, List.mem_of_getElem? (i := 187) rfl, List.mem_of_getElem? (i := 188) rfl⟩
set_option maxRecDepth 20000 in
theorem lk_L_53 : LkV RL 53 yX3_look cX3_look 3 (some .long) 2 := ⟨⟨List.mem_of_getElem? (i := 193) rfl, List.mem_of_getElem? (i := 5) rfl, by decide +kernel⟩, List.mem_of_getElem? (i := 190) rfl, List.mem_of_getElem? (i := 191) rfl, List.mem_of_getElem? (i := 192) rfl⟩
set_option maxRecDepth 20000 in
theorem lk_L_54 : LkV RL 54 yX2_move cX2_move 6 (some .int) 5 := ⟨⟨List.mem_of_getElem? (i := 197) rfl, List.mem_of_getElem? (i := 2) rfl, by decide +kernel⟩, List.mem_of_getElem? (i := 194) rfl, List.mem_of_getElem? (i := 195) rfl, List.mem_of_getElem? (i := 196) rfl⟩
set_option maxRecDepth 20000 in
theorem lk_L_58 : LkV RL 58 yX3_move cX3_move 6 (some .int) 5 := ⟨⟨List.mem_of_getElem? (i := 222) rfl, List.mem_of_getElem? (i := 5) rfl, by decide +kernel⟩, List.mem_of_getElem? (i := 219) rfl, List.mem_of_getElem? (i := 220) rfl, List.mem_of_getElem? (i := 221) rfl⟩
set_option maxRecDepth 20000 in
theorem lk_L_59 : LkV RL 59 yX2_open cX2_open 5 (some .int) 2 := ⟨⟨List.mem_of_getElem? (i := 235) rfl, List.mem_of_getElem? (i := 2) rfl, by decide +kernel⟩, List.mem_of_getElem? (i := 232) rfl, List.mem_of_getElem? (i := 233) rfl, List.mem_of_getElem? (i := 234) rfl⟩
set_option maxRecDepth 20000 in
theorem lk_L_63 : LkV RL 63 yX3_open cX3_open 4 (some .int) 2 := ⟨⟨List.mem_of_getElem? (i := 246) rfl, List.mem_of_getElem? (i := 5) rfl, by decide +kernel⟩, List.mem_of_getElem? (i := 243) rfl, List.mem_of_getElem? (i := 244) rfl, List.mem_of_getElem? (i := 245) rfl⟩
set_option maxRecDepth 20000 in
theorem lk_L_64 : LkV RL 64 yX2_close cX2_close 5 (some .int) 2 := ⟨⟨List.mem_of_getElem? (i := 250) rfl, List.mem_of_getElem? (i := 2) rfl, by decide +kernel⟩, List.mem_of_getElem? (i := 247) rfl, List.mem_of_getElem? (i := 248) rfl, List.mem_of_getElem? (i := 249) rfl⟩
set_option maxRecDepth 20000 in
theorem lk_L_67 : LkV RL 67 yX3_close cX3_close 4 (some .int) 2 := ⟨⟨List.mem_of_getElem? (i := 254) rfl, List.mem_of_getElem? (i := 5) rfl, by decide +kernel⟩, List.mem_of_getElem? (i := 251) rfl, List.mem_of_getElem? (i := 252) rfl, List.mem_of_getElem? (i := 253) rfl⟩
set_option maxRecDepth 20000 in
theorem lk_L_68 : LkV RL 68 yX2_turn cX2_turn 4 (some .int) 2 := ⟨⟨List.mem_of_getElem? (i := 258) rfl, List.mem_of_getElem? (i := 2) rfl, by decide +kernel⟩, List.mem_of_getElem? (i := 255) rfl, List.mem_of_getElem? (i := 256) rfl, List.mem_of_getElem? (i := 257) rfl⟩
set_option maxRecDepth 20000 in
theorem lk_L_71 : LkV RL 71 yX3_turn cX3_turn 7 (some .int) 2 := ⟨⟨List.mem_of_getElem? (i := 274) rfl, List.mem_of_getElem? (i := 5) rfl, by decide +kernel⟩, List.mem_of_getElem? (i := 271) rfl, List.mem_of_getElem? (i := 272) rfl, List.mem_of_getElem? (i := 273) rfl⟩
set_option maxRecDepth 20000 in
theorem lk_L_72 : LkV RL 72 yX2_step cX2_step 6 (some .int) 5 := ⟨⟨List.mem_of_getElem? (i := 278) rfl, List.mem_of_getElem? (i := 2) rfl, by decide +kernel⟩, List.mem_of_getElem? (i := 275) rfl, List.mem_of_getElem? (i := 276) rfl, List.mem_of_getElem? (i := 277) rfl⟩
set_option maxRecDepth 20000 in
theorem lk_L_75 : LkV RL 75 yX3_step cX3_step 7 (some .int) 5 := ⟨⟨List.mem_of_getElem? (i := 289) rfl, List.mem_of_getElem? (i := 5) rfl, by decide +kernel⟩, List.mem_of_getElem? (i := 286) rfl, List.mem_of_getElem? (i := 287) rfl, List.mem_of_getElem? (i := 288) rfl⟩
set_option maxRecDepth 20000 in
theorem lk_L_76 : LkV RL 76 yX2_forget cX2_forget 2 (some .int) 0 := ⟨⟨List.mem_of_getElem? (i := 294) rfl, List.mem_of_getElem? (i := 2) rfl, by decide +kernel⟩, List.mem_of_getElem? (i := 291) rfl, List.mem_of_getElem? (i := 292) rfl, List.mem_of_getElem? (i := 293) rfl⟩
set_option maxRecDepth 20000 in
theorem lk_L_80 : LkV RL 80 yX3_forget cX3_forget 2 (some .int) 0 := ⟨⟨List.mem_of_getElem? (i := 298) rfl, List.mem_of_getElem? (i := 5) rfl, by decide +kernel⟩, List.mem_of_getElem? (i := 295) rfl, List.mem_of_getElem? (i := 296) rfl, List.mem_of_getElem? (i := 297) rfl⟩
set_option maxRecDepth 20000 in
theorem lk_L_81 : LkV RL 81 yX2_weave cX2_weave 7 (some .int) 2 := ⟨⟨List.mem_of_getElem? (i := 302) rfl, List.mem_of_getElem? (i := 2) rfl, by decide +kernel⟩, List.mem_of_getElem? (i := 299) rfl, List.mem_of_getElem? (i := 300) rfl, List.mem_of_getElem? (i := 301) rfl⟩
set_option maxRecDepth 20000 in
theorem lk_L_84 : LkV RL 84 yX3_weave cX3_weave 8 (some .int) 2 := ⟨⟨List.mem_of_getElem? (i := 321) rfl, List.mem_of_getElem? (i := 5) rfl, by decide +kernel⟩, List.mem_of_getElem? (i := 318) rfl, List.mem_of_getElem? (i := 319) rfl, List.mem_of_getElem? (i := 320) rfl⟩
set_option maxRecDepth 20000 in
theorem lk_L_85 : LkV RL 85 yX2_alike cX2_alike 7 (some .int) 2 := ⟨⟨List.mem_of_getElem? (i := 330) rfl, List.mem_of_getElem? (i := 2) rfl, by decide +kernel⟩, List.mem_of_getElem? (i := 327) rfl, List.mem_of_getElem? (i := 328) rfl, List.mem_of_getElem? (i := 329) rfl⟩
set_option maxRecDepth 20000 in
theorem lk_L_88 : LkV RL 88 yX3_alike cX3_alike 4 (some .int) 2 := ⟨⟨List.mem_of_getElem? (i := 344) rfl, List.mem_of_getElem? (i := 5) rfl, by decide +kernel⟩, List.mem_of_getElem? (i := 341) rfl, List.mem_of_getElem? (i := 342) rfl, List.mem_of_getElem? (i := 343) rfl⟩
set_option maxRecDepth 20000 in
theorem lk_L_89 : LkV RL 89 yX2_shade cX2_shade 7 (some .long) 1 := ⟨⟨List.mem_of_getElem? (i := 356) rfl, List.mem_of_getElem? (i := 2) rfl, by decide +kernel⟩, List.mem_of_getElem? (i := 353) rfl, List.mem_of_getElem? (i := 354) rfl, List.mem_of_getElem? (i := 355) rfl⟩
set_option maxRecDepth 20000 in
theorem lk_L_93 : LkV RL 93 yX3_shade cX3_shade 7 (some .long) 1 := ⟨⟨List.mem_of_getElem? (i := 360) rfl, List.mem_of_getElem? (i := 5) rfl, by decide +kernel⟩, List.mem_of_getElem? (i := 357) rfl, List.mem_of_getElem? (i := 358) rfl, List.mem_of_getElem? (i := 359) rfl⟩
set_option maxRecDepth 20000 in
theorem lk_L_94 : LkV RL 94 yX2_rack cX2_rack 4 (some .int) 2 := ⟨⟨List.mem_of_getElem? (i := 364) rfl, List.mem_of_getElem? (i := 2) rfl, by decide +kernel⟩, List.mem_of_getElem? (i := 361) rfl, List.mem_of_getElem? (i := 362) rfl, List.mem_of_getElem? (i := 363) rfl⟩
set_option maxRecDepth 20000 in
theorem lk_L_97 : LkV RL 97 yX3_rack cX3_rack 3 (some .int) 2 := ⟨⟨List.mem_of_getElem? (i := 368) rfl, List.mem_of_getElem? (i := 5) rfl, by decide +kernel⟩, List.mem_of_getElem? (i := 365) rfl, List.mem_of_getElem? (i := 366) rfl, List.mem_of_getElem? (i := 367) rfl⟩
set_option maxRecDepth 20000 in
theorem lk_L_98 : LkV RL 98 yX2_about cX2_about 2 (some .int) 1 := ⟨⟨List.mem_of_getElem? (i := 372) rfl, List.mem_of_getElem? (i := 2) rfl, by decide +kernel⟩, List.mem_of_getElem? (i := 369) rfl, List.mem_of_getElem? (i := 370) rfl, List.mem_of_getElem? (i := 371) rfl⟩
set_option maxRecDepth 20000 in
theorem lk_L_101 : LkV RL 101 yX3_about cX3_about 2 (some .int) 1 := ⟨⟨List.mem_of_getElem? (i := 376) rfl, List.mem_of_getElem? (i := 5) rfl, by decide +kernel⟩, List.mem_of_getElem? (i := 373) rfl, List.mem_of_getElem? (i := 374) rfl, List.mem_of_getElem? (i := 375) rfl⟩
set_option maxRecDepth 20000 in
theorem lk_X0_31 : LkV RX0 31 yX0_isFull cX0_isFull 1 (some .boolean) 0 := ⟨⟨List.mem_of_getElem? (i := 281) rfl, List.mem_of_getElem? (i := 21) rfl, by decide +kernel⟩, List.mem_of_getElem? (i := 285) rfl, List.mem_of_getElem? (i := 279) rfl, List.mem_of_getElem? (i := 280) rfl⟩
set_option maxRecDepth 20000 in
theorem lk_X1_25 : LkSN RX1 25 yX2_blank cX2_blank 1 (some .long) 1 := ⟨⟨List.mem_of_getElem? (i := 71) rfl, List.mem_of_getElem? (i := 2) rfl, by decide +kernel⟩, List.mem_of_getElem? (i := 21) rfl, List.mem_of_getElem? (i := 70) rfl⟩
set_option maxRecDepth 20000 in
theorem lk_X1_29 : LkV RX1 29 yX1_hasPlace cX1_hasPlace 2 (some .boolean) 1 := ⟨⟨List.mem_of_getElem? (i := 162) rfl, List.mem_of_getElem? (i := 28) rfl, by decide +kernel⟩, List.mem_of_getElem? (i := 242) rfl, List.mem_of_getElem? (i := 160) rfl, List.mem_of_getElem? (i := 161) rfl⟩
set_option maxRecDepth 20000 in
theorem lk_X1_39 : LkV RX1 39 yX1_keepCells cX1_keepCells 1 none 0 := ⟨⟨List.mem_of_getElem? (i := 265) rfl, List.mem_of_getElem? (i := 28) rfl, by decide +kernel⟩, List.mem_of_getElem? (i := 262) rfl, List.mem_of_getElem? (i := 263) rfl, List.mem_of_getElem? (i := 264) rfl⟩
set_option maxRecDepth 20000 in
theorem lk_X1_42 : LkS RX1 42 yJ9_floorMod_7cf53 cJ9_floorMod_7cf53 3 (some .int) 2 := ⟨⟨List.mem_of_getElem? (i := 270) rfl, List.mem_of_getElem? (i := 269) rfl, by decide +kernel⟩, List.mem_of_getElem? (i := 267) rfl, List.mem_of_getElem? (i := 268) rfl⟩
set_option maxRecDepth 20000 in
theorem lk_X2_44 : LkV RX2 44 yX2_rackAt cX2_rackAt 2 (some (.object "BeadLoom$Rack")) 1 := ⟨⟨List.mem_of_getElem? (i := 66) rfl, List.mem_of_getElem? (i := 2) rfl, by decide +kernel⟩, List.mem_of_getElem? (i := 63) rfl, List.mem_of_getElem? (i := 64) rfl, List.mem_of_getElem? (i := 65) rfl⟩
set_option maxRecDepth 20000 in
theorem lk_X2_48 : LkVN RX2 48 yX1_hold cX1_hold 4 none 2 := ⟨⟨List.mem_of_getElem? (i := 69) rfl, List.mem_of_getElem? (i := 28) rfl, by decide +kernel⟩, List.mem_of_getElem? (i := 17) rfl, List.mem_of_getElem? (i := 67) rfl, List.mem_of_getElem? (i := 68) rfl⟩
set_option maxRecDepth 20000 in
theorem lk_X2_55 : LkV RX2 55 yX2_isBead cX2_isBead 3 (some .boolean) 1 := ⟨⟨List.mem_of_getElem? (i := 128) rfl, List.mem_of_getElem? (i := 2) rfl, by decide +kernel⟩, List.mem_of_getElem? (i := 125) rfl, List.mem_of_getElem? (i := 126) rfl, List.mem_of_getElem? (i := 127) rfl⟩
set_option maxRecDepth 20000 in
theorem lk_X2_59 : LkV RX2 59 yX2_colourOf cX2_colourOf 3 (some .int) 1 := ⟨⟨List.mem_of_getElem? (i := 144) rfl, List.mem_of_getElem? (i := 2) rfl, by decide +kernel⟩, List.mem_of_getElem? (i := 141) rfl, List.mem_of_getElem? (i := 142) rfl, List.mem_of_getElem? (i := 143) rfl⟩
set_option maxRecDepth 20000 in
theorem lk_X2_63 : LkV RX2 63 yX2_rowAt cX2_rowAt 3 (some (.object "BeadLoom$Rack")) 1 := ⟨⟨List.mem_of_getElem? (i := 156) rfl, List.mem_of_getElem? (i := 2) rfl, by decide +kernel⟩, List.mem_of_getElem? (i := 153) rfl, List.mem_of_getElem? (i := 154) rfl, List.mem_of_getElem? (i := 155) rfl⟩
set_option maxRecDepth 20000 in
theorem lk_X2_66 : LkVN RX2 66 yX1_hasPlace cX1_hasPlace 2 (some .boolean) 1 := ⟨⟨List.mem_of_getElem? (i := 162) rfl, List.mem_of_getElem? (i := 28) rfl, by decide +kernel⟩, List.mem_of_getElem? (i := 18) rfl, List.mem_of_getElem? (i := 160) rfl, List.mem_of_getElem? (i := 161) rfl⟩
set_option maxRecDepth 20000 in
theorem lk_X2_70 : LkV RX2 70 yX2_mayLie cX2_mayLie 4 (some .boolean) 2 := ⟨⟨List.mem_of_getElem? (i := 166) rfl, List.mem_of_getElem? (i := 2) rfl, by decide +kernel⟩, List.mem_of_getElem? (i := 163) rfl, List.mem_of_getElem? (i := 164) rfl, List.mem_of_getElem? (i := 165) rfl⟩
set_option maxRecDepth 20000 in
theorem lk_X2_78 : LkS RX2 78 yX2_fitted cX2_fitted 3 (some .long) 2 := ⟨⟨List.mem_of_getElem? (i := 169) rfl, List.mem_of_getElem? (i := 2) rfl, by decide +kernel⟩, List.mem_of_getElem? (i := 167) rfl, List.mem_of_getElem? (i := 168) rfl⟩
set_option maxRecDepth 20000 in
theorem lk_X2_82 : LkV RX2 82 yX2_moving cX2_moving 10 (some .int) 5 := ⟨⟨List.mem_of_getElem? (i := 201) rfl, List.mem_of_getElem? (i := 2) rfl, by decide +kernel⟩, List.mem_of_getElem? (i := 198) rfl, List.mem_of_getElem? (i := 199) rfl, List.mem_of_getElem? (i := 200) rfl⟩
set_option maxRecDepth 20000 in
theorem lk_X2_86 : LkS RX2 86 yX2_thingsBehind cX2_thingsBehind 2 (some .long) 2 := ⟨⟨List.mem_of_getElem? (i := 238) rfl, List.mem_of_getElem? (i := 2) rfl, by decide +kernel⟩, List.mem_of_getElem? (i := 236) rfl, List.mem_of_getElem? (i := 237) rfl⟩
set_option maxRecDepth 20000 in
theorem lk_X2_90 : LkVN RX2 90 yX1_blankPlace cX1_blankPlace 2 none 1 := ⟨⟨List.mem_of_getElem? (i := 241) rfl, List.mem_of_getElem? (i := 28) rfl, by decide +kernel⟩, List.mem_of_getElem? (i := 19) rfl, List.mem_of_getElem? (i := 239) rfl, List.mem_of_getElem? (i := 240) rfl⟩
set_option maxRecDepth 20000 in
theorem lk_X2_97 : LkVN RX2 97 yX1_rotate cX1_rotate 4 none 1 := ⟨⟨List.mem_of_getElem? (i := 261) rfl, List.mem_of_getElem? (i := 28) rfl, by decide +kernel⟩, List.mem_of_getElem? (i := 20) rfl, List.mem_of_getElem? (i := 259) rfl, List.mem_of_getElem? (i := 260) rfl⟩
set_option maxRecDepth 20000 in
theorem lk_X2_100 : LkVN RX2 100 yX0_isFull cX0_isFull 1 (some .boolean) 0 := ⟨⟨List.mem_of_getElem? (i := 281) rfl, List.mem_of_getElem? (i := 21) rfl, by decide +kernel⟩, List.mem_of_getElem? (i := 9) rfl, List.mem_of_getElem? (i := 279) rfl, List.mem_of_getElem? (i := 280) rfl⟩
set_option maxRecDepth 20000 in
theorem lk_X2_104 : LkVN RX2 104 yX0_append cX0_append 6 none 5 := ⟨⟨List.mem_of_getElem? (i := 284) rfl, List.mem_of_getElem? (i := 21) rfl, by decide +kernel⟩, List.mem_of_getElem? (i := 10) rfl, List.mem_of_getElem? (i := 282) rfl, List.mem_of_getElem? (i := 283) rfl⟩
set_option maxRecDepth 20000 in
theorem lk_X2_111 : LkV RX2 111 yX2_keepAllRows cX2_keepAllRows 2 none 0 := ⟨⟨List.mem_of_getElem? (i := 306) rfl, List.mem_of_getElem? (i := 2) rfl, by decide +kernel⟩, List.mem_of_getElem? (i := 303) rfl, List.mem_of_getElem? (i := 304) rfl, List.mem_of_getElem? (i := 305) rfl⟩
set_option maxRecDepth 20000 in
theorem lk_X2_114 : LkV RX2 114 yX2_weaveRound cX2_weaveRound 5 (some .int) 0 := ⟨⟨List.mem_of_getElem? (i := 310) rfl, List.mem_of_getElem? (i := 2) rfl, by decide +kernel⟩, List.mem_of_getElem? (i := 307) rfl, List.mem_of_getElem? (i := 308) rfl, List.mem_of_getElem? (i := 309) rfl⟩
set_option maxRecDepth 20000 in
theorem lk_X2_118 : LkV RX2 118 yX2_restoreAllRows cX2_restoreAllRows 2 none 0 := ⟨⟨List.mem_of_getElem? (i := 314) rfl, List.mem_of_getElem? (i := 2) rfl, by decide +kernel⟩, List.mem_of_getElem? (i := 311) rfl, List.mem_of_getElem? (i := 312) rfl, List.mem_of_getElem? (i := 313) rfl⟩
set_option maxRecDepth 20000 in
theorem lk_X2_121 : LkS RX2 121 yX2_mayCompare cX2_mayCompare 2 (some .boolean) 2 := ⟨⟨List.mem_of_getElem? (i := 337) rfl, List.mem_of_getElem? (i := 2) rfl, by decide +kernel⟩, List.mem_of_getElem? (i := 335) rfl, List.mem_of_getElem? (i := 336) rfl⟩
set_option maxRecDepth 20000 in
theorem lk_X2_131 : LkS RX2 131 yX2_holdsBeads cX2_holdsBeads 1 (some .boolean) 1 := ⟨⟨List.mem_of_getElem? (i := 75) rfl, List.mem_of_getElem? (i := 2) rfl, by decide +kernel⟩, List.mem_of_getElem? (i := 73) rfl, List.mem_of_getElem? (i := 74) rfl⟩
set_option maxRecDepth 20000 in
theorem lk_X2_134 : LkVN RX2 134 yX1_hasRow cX1_hasRow 1 (some .boolean) 0 := ⟨⟨List.mem_of_getElem? (i := 159) rfl, List.mem_of_getElem? (i := 28) rfl, by decide +kernel⟩, List.mem_of_getElem? (i := 11) rfl, List.mem_of_getElem? (i := 157) rfl, List.mem_of_getElem? (i := 158) rfl⟩
set_option maxRecDepth 20000 in
theorem lk_X2_139 : LkS RX2 139 yX2_mayExchange cX2_mayExchange 2 (some .boolean) 2 := ⟨⟨List.mem_of_getElem? (i := 211) rfl, List.mem_of_getElem? (i := 2) rfl, by decide +kernel⟩, List.mem_of_getElem? (i := 209) rfl, List.mem_of_getElem? (i := 210) rfl⟩
set_option maxRecDepth 20000 in
theorem lk_X2_142 : LkS RX2 142 yX2_holdsNumbers cX2_holdsNumbers 1 (some .boolean) 1 := ⟨⟨List.mem_of_getElem? (i := 340) rfl, List.mem_of_getElem? (i := 2) rfl, by decide +kernel⟩, List.mem_of_getElem? (i := 338) rfl, List.mem_of_getElem? (i := 339) rfl⟩
set_option maxRecDepth 20000 in
theorem lk_X2_145 : LkS RX2 145 yX2_hindrance cX2_hindrance 8 (some .int) 5 := ⟨⟨List.mem_of_getElem? (i := 208) rfl, List.mem_of_getElem? (i := 2) rfl, by decide +kernel⟩, List.mem_of_getElem? (i := 206) rfl, List.mem_of_getElem? (i := 207) rfl⟩
set_option maxRecDepth 20000 in
theorem lk_X2_148 : LkV RX2 148 yX2_mayCome cX2_mayCome 6 (some .int) 4 := ⟨⟨List.mem_of_getElem? (i := 218) rfl, List.mem_of_getElem? (i := 2) rfl, by decide +kernel⟩, List.mem_of_getElem? (i := 215) rfl, List.mem_of_getElem? (i := 216) rfl, List.mem_of_getElem? (i := 217) rfl⟩
set_option maxRecDepth 20000 in
theorem lk_X2_158 : LkVN RX2 158 yX1_hasStretch cX1_hasStretch 5 (some .boolean) 2 := ⟨⟨List.mem_of_getElem? (i := 214) rfl, List.mem_of_getElem? (i := 28) rfl, by decide +kernel⟩, List.mem_of_getElem? (i := 12) rfl, List.mem_of_getElem? (i := 212) rfl, List.mem_of_getElem? (i := 213) rfl⟩
set_option maxRecDepth 20000 in
theorem lk_X2_177 : LkVN RX2 177 yX1_keepCells cX1_keepCells 1 none 0 := ⟨⟨List.mem_of_getElem? (i := 265) rfl, List.mem_of_getElem? (i := 28) rfl, by decide +kernel⟩, List.mem_of_getElem? (i := 13) rfl, List.mem_of_getElem? (i := 263) rfl, List.mem_of_getElem? (i := 264) rfl⟩
set_option maxRecDepth 20000 in
theorem lk_X2_180 : LkVN RX2 180 yX1_restoreCells cX1_restoreCells 1 none 0 := ⟨⟨List.mem_of_getElem? (i := 317) rfl, List.mem_of_getElem? (i := 28) rfl, by decide +kernel⟩, List.mem_of_getElem? (i := 14) rfl, List.mem_of_getElem? (i := 315) rfl, List.mem_of_getElem? (i := 316) rfl⟩
set_option maxRecDepth 20000 in
theorem lk_X3_39 : LkS RX3 39 yX3_isRack cX3_isRack 1 (some .boolean) 1 := ⟨⟨List.mem_of_getElem? (i := 82) rfl, List.mem_of_getElem? (i := 5) rfl, by decide +kernel⟩, List.mem_of_getElem? (i := 80) rfl, List.mem_of_getElem? (i := 81) rfl⟩
set_option maxRecDepth 20000 in
theorem lk_X3_43 : LkV RX3 43 yX3_hasRow cX3_hasRow 2 (some .boolean) 1 := ⟨⟨List.mem_of_getElem? (i := 181) rfl, List.mem_of_getElem? (i := 5) rfl, by decide +kernel⟩, List.mem_of_getElem? (i := 178) rfl, List.mem_of_getElem? (i := 179) rfl, List.mem_of_getElem? (i := 180) rfl⟩
set_option maxRecDepth 20000 in
theorem lk_X3_50 : LkV RX3 50 yX3_isBeads cX3_isBeads 2 (some .boolean) 1 := ⟨⟨List.mem_of_getElem? (i := 95) rfl, List.mem_of_getElem? (i := 5) rfl, by decide +kernel⟩, List.mem_of_getElem? (i := 92) rfl, List.mem_of_getElem? (i := 93) rfl, List.mem_of_getElem? (i := 94) rfl⟩
set_option maxRecDepth 20000 in
theorem lk_X3_57 : LkV RX3 57 yX3_nothing cX3_nothing 2 (some .long) 1 := ⟨⟨List.mem_of_getElem? (i := 90) rfl, List.mem_of_getElem? (i := 5) rfl, by decide +kernel⟩, List.mem_of_getElem? (i := 87) rfl, List.mem_of_getElem? (i := 88) rfl, List.mem_of_getElem? (i := 89) rfl⟩
set_option maxRecDepth 20000 in
theorem lk_X3_61 : LkV RX3 61 yX3_become cX3_become 5 none 3 := ⟨⟨List.mem_of_getElem? (i := 86) rfl, List.mem_of_getElem? (i := 5) rfl, by decide +kernel⟩, List.mem_of_getElem? (i := 83) rfl, List.mem_of_getElem? (i := 84) rfl, List.mem_of_getElem? (i := 85) rfl⟩
set_option maxRecDepth 20000 in
theorem lk_X3_65 : LkV RX3 65 yX3_isBead cX3_isBead 3 (some .boolean) 1 := ⟨⟨List.mem_of_getElem? (i := 136) rfl, List.mem_of_getElem? (i := 5) rfl, by decide +kernel⟩, List.mem_of_getElem? (i := 133) rfl, List.mem_of_getElem? (i := 134) rfl, List.mem_of_getElem? (i := 135) rfl⟩
set_option maxRecDepth 20000 in
theorem lk_X3_69 : LkV RX3 69 yX3_isPlace cX3_isPlace 3 (some .boolean) 2 := ⟨⟨List.mem_of_getElem? (i := 177) rfl, List.mem_of_getElem? (i := 5) rfl, by decide +kernel⟩, List.mem_of_getElem? (i := 174) rfl, List.mem_of_getElem? (i := 175) rfl, List.mem_of_getElem? (i := 176) rfl⟩
set_option maxRecDepth 20000 in
theorem lk_X3_73 : LkS RX3 73 yX3_kept cX3_kept 3 (some .long) 2 := ⟨⟨List.mem_of_getElem? (i := 184) rfl, List.mem_of_getElem? (i := 5) rfl, by decide +kernel⟩, List.mem_of_getElem? (i := 182) rfl, List.mem_of_getElem? (i := 183) rfl⟩
set_option maxRecDepth 20000 in
theorem lk_X3_77 : LkV RX3 77 yX3_reason cX3_reason 9 (some .int) 5 := ⟨⟨List.mem_of_getElem? (i := 231) rfl, List.mem_of_getElem? (i := 5) rfl, by decide +kernel⟩, List.mem_of_getElem? (i := 228) rfl, List.mem_of_getElem? (i := 229) rfl, List.mem_of_getElem? (i := 230) rfl⟩
set_option maxRecDepth 20000 in
theorem lk_X3_84 : LkV RX3 84 yX3_moving cX3_moving 13 (some .int) 5 := ⟨⟨List.mem_of_getElem? (i := 226) rfl, List.mem_of_getElem? (i := 5) rfl, by decide +kernel⟩, List.mem_of_getElem? (i := 223) rfl, List.mem_of_getElem? (i := 224) rfl, List.mem_of_getElem? (i := 225) rfl⟩
set_option maxRecDepth 20000 in
theorem lk_X3_90 : LkV RX3 90 yX3_doStep cX3_doStep 3 (some .int) 1 := ⟨⟨List.mem_of_getElem? (i := 326) rfl, List.mem_of_getElem? (i := 5) rfl, by decide +kernel⟩, List.mem_of_getElem? (i := 323) rfl, List.mem_of_getElem? (i := 324) rfl, List.mem_of_getElem? (i := 325) rfl⟩
set_option maxRecDepth 20000 in
theorem lk_X3_97 : LkV RX3 97 yX3_isNumbers cX3_isNumbers 2 (some .boolean) 1 := ⟨⟨List.mem_of_getElem? (i := 352) rfl, List.mem_of_getElem? (i := 5) rfl, by decide +kernel⟩, List.mem_of_getElem? (i := 349) rfl, List.mem_of_getElem? (i := 350) rfl, List.mem_of_getElem? (i := 351) rfl⟩
set_option maxRecDepth 20000 in
theorem lk_X3_100 : LkV RX3 100 yX3_areAlike cX3_areAlike 5 (some .boolean) 3 := ⟨⟨List.mem_of_getElem? (i := 348) rfl, List.mem_of_getElem? (i := 5) rfl, by decide +kernel⟩, List.mem_of_getElem? (i := 345) rfl, List.mem_of_getElem? (i := 346) rfl, List.mem_of_getElem? (i := 347) rfl⟩
end
section
/-! numbers -/
noncomputable def b2i (P : Prop) : Int32 := @ite _ P (Classical.propDecidable P) (nI 1) (nI 0)
theorem b2i_t {P : Prop} (h : P) : b2i P = nI 1 := if_pos h
theorem b2i_f {P : Prop} (h : ¬ P) : b2i P = nI 0 := if_neg h
theorem b2i_n (P : Prop) : narrow .boolean (.int (b2i P)) = .int (b2i P) := by
  by_cases h : P
  · rw [b2i_t h]; rfl
  · rw [b2i_f h]; rfl
/-- a place among n, if it is one -/
def ix (x : Int32) (n : Nat) : Option Nat := if x < 0 ∨ nI n ≤ x then none else some x.toNatClampNeg
theorem ix_neg {x : Int32} {n : Nat} (h : x < 0) : ix x n = none := if_pos (Or.inl h)
theorem ix_ge {x : Int32} {n : Nat} (h : nI n ≤ x) : ix x n = none := if_pos (Or.inr h)
theorem ix_nI {j n : Nat} (h : j < n) (hn : n < 2 ^ 31) : ix (nI j) n = some j := by
  unfold ix
  rw [if_neg (by
    rintro (h1 | h1)
    · exact nI_pos (by omega) h1
    · rw [nI_leI (by omega) (by omega)] at h1; omega), nI_clamp (by omega)]
theorem ix_of {x : Int32} {n : Nat} (hn : n < 2 ^ 31) (h1 : ¬ x < 0) (h2 : ¬ nI n ≤ x) : ∃ r, r < n ∧ x = nI r ∧ ix x n = some r := by
  obtain ⟨j, hj, rfl⟩ := nI_of h1
  have h3 : j < n := by
    rw [nI_leI (by omega) (by omega)] at h2; omega
  exact ⟨j, h3, rfl, ix_nI h3 hn⟩
theorem ix_cases (x : Int32) {n : Nat} (hn : n < 2 ^ 31) : ix x n = none ∨ ∃ r, r < n ∧ x = nI r ∧ ix x n = some r := by
  by_cases h1 : x < 0
  · exact Or.inl (ix_neg h1)
  · by_cases h2 : nI n ≤ x
    · exact Or.inl (ix_ge h2)
    · exact Or.inr (ix_of hn h1 h2)
/-- a bead's number, if there is such a bead -/
def ixl (v : Int64) (n : Nat) : Option Nat := if v < 0 ∨ lN n ≤ v then none else some v.toNatClampNeg
theorem lN_clamp {n : Nat} (h : n < 2 ^ 63) : (lN n).toNatClampNeg = n := by
  have := pk_lT h
  unfold Int64.toNatClampNeg
  rw [this]; rfl
theorem lN_pos {n : Nat} (h : n < 2 ^ 63) : ¬ lN n < 0 := by
  rw [show (0 : Int64) = lN 0 from rfl, pk_lLT h (by decide)]; omega
theorem ixl_neg {x : Int64} {n : Nat} (h : x < 0) : ixl x n = none := if_pos (Or.inl h)
theorem ixl_ge {x : Int64} {n : Nat} (h : lN n ≤ x) : ixl x n = none := if_pos (Or.inr h)
theorem ixl_lN {j n : Nat} (h : j < n) (hn : n < 2 ^ 31) : ixl (lN j) n = some j := by
  unfold ixl
  rw [if_neg (by
    rintro (h1 | h1)
    · exact lN_pos (by omega) h1
    · rw [lN_le (by omega) (by omega)] at h1; omega), lN_clamp (by omega)]
theorem ixl_of {x : Int64} {n : Nat} (hn : n < 2 ^ 31) (h1 : ¬ x < 0) (h2 : ¬ lN n ≤ x) : ∃ r, r < n ∧ x = lN r ∧ ixl x n = some r := by
  obtain ⟨j, hj, rfl⟩ := pk_lOf h1
  have h3 : j < n := by
    rw [pk_lLE (by omega) (by omega)] at h2; omega
  exact ⟨j, h3, rfl, ixl_lN h3 hn⟩
theorem ixl_cases (x : Int64) {n : Nat} (hn : n < 2 ^ 31) : ixl x n = none ∨ ∃ r, r < n ∧ x = lN r ∧ ixl x n = some r := by
  by_cases h1 : x < 0
  · exact Or.inl (ixl_neg h1)
  · by_cases h2 : lN n ≤ x
    · exact Or.inl (ixl_ge h2)
    · exact Or.inr (ixl_of hn h1 h2)
/-- a number from lo to hi, if it is one -/
def rng (x : Int32) (lo hi : Nat) : Option Nat := if x < nI lo ∨ nI hi < x then none else some x.toNatClampNeg
theorem rng_lo {x : Int32} {lo hi : Nat} (h : x < nI lo) : rng x lo hi = none := if_pos (Or.inl h)
theorem rng_hi {x : Int32} {lo hi : Nat} (h : nI hi < x) : rng x lo hi = none := if_pos (Or.inr h)
theorem rng_of {x : Int32} {lo hi : Nat} (hh : hi < 2 ^ 31) (hl : lo < 2 ^ 31) (h1 : ¬ x < nI lo) (h2 : ¬ nI hi < x) : ∃ r, lo ≤ r ∧ r ≤ hi ∧ x = nI r ∧ rng x lo hi = some r := by
  have h0 : ¬ x < 0 := by
    intro h
    have a1 := Int32.not_lt.mp h1
    exact h1 (Int32.lt_of_lt_of_le h (nI_pos' hl))
  obtain ⟨j, hj, rfl⟩ := nI_of h0
  rw [nI_ltI (by omega) (by omega)] at h1 h2
  refine ⟨j, by omega, by omega, rfl, ?_⟩
  unfold rng
  rw [if_neg (by rw [nI_ltI (by omega) (by omega), nI_ltI (by omega) (by omega)]; omega), nI_clamp (by omega)]
theorem nI_inj {a b : Nat} (ha : a < 2 ^ 31) (hb : b < 2 ^ 31) (h : nI a = nI b) : a = b := (nI_eq ha hb).mp h
theorem nI_z {a : Nat} (ha : a < 2 ^ 31) : nI a = 0 ↔ a = 0 := by rw [show (0 : Int32) = nI 0 from rfl, nI_eq ha (by decide)]
/-! what the state must keep -/
def isBd (k : Nat) : Prop := k = 7 ∨ k = 8
def Inv (S : St) : Prop := (∀ r, r < 8 → sKd S r ≤ 9 ∧ sPl S r ≤ 40) ∧ sNb S ≤ 200 ∧ sNs S ≤ 24 ∧ (∀ j, j < sNs S → (∃ r, r < 8 ∧ sPt S 0 j = nI r) ∧ ∃ r, r < 8 ∧ sPt S 2 j = nI r) ∧ (∀ r, r < 8 → (sKd S r = 7 ∨ sKd S r = 8) → ∀ q, q < sPl S r → sCe S r q = -1 ∨ ∃ j, j < sNb S ∧ sCe S r q = lN j)
/-! the answers and what becomes of the state -/
def blk (k : Nat) : Int64 := if k = 7 ∨ k = 8 then -1 else lN 0
def row (S : St) (x : Int32) : Option Nat := match ix x 8 with
  | none => none
  | some r => if sKd S r = 0 ∨ sKd S r = 9 then none else some r
def holdS (S : St) (r k n : Nat) : St := uCe (uPl (uKd S (va_up (sKd S) r k)) (va_up (sPl S) r n)) (va_up (sCe S) r (fun _ => blk k))
def spMake (S : St) (x k n : Int32) : Int32 × St := match ix x 8, rng k 1 8, rng n 0 40 with
  | some r, some k, some n => (nI 1, holdS S r k n)
  | _, _, _ => (nI 0, S)
def spLamp (S : St) (x : Int32) : Int32 × St := match ix x 8 with
  | some r => (nI 1, holdS S r 9 0)
  | none => (nI 0, S)
def spEmpty (S : St) (x : Int32) : Int32 × St := match ix x 8 with
  | some r => if sKd S r = 0 then (nI 0, S) else (nI 1, holdS S r 0 0)
  | none => (nI 0, S)
def spBead (S : St) (x z : Int32) : Int32 × St := if 200 ≤ sNb S then (-1, S) else (nI (sNb S), uNb (uPe (uCo S (upd (sCo S) (sNb S) x)) (upd (sPe S) (sNb S) z)) (sNb S + 1))
def spPaint (S : St) (x y : Int32) : Int32 × St := match ix x (sNb S) with
  | some j => (nI 1, uCo S (upd (sCo S) j y))
  | none => (nI 0, S)
def spColour (S : St) (x : Int32) : Int32 := match ix x (sNb S) with
  | some j => sCo S j
  | none => nI 0
def colO (S : St) (v : Int64) : Int32 := match ixl v (sNb S) with
  | some j => sCo S j
  | none => nI 0
/-- what may lie in a place of a kind -/
def mayL (S : St) (k : Nat) (v : Int64) : Prop := (¬ (k = 7 ∨ k = 8)) ∨ v = -1 ∨ ∃ j, ixl v (sNb S) = some j ∧ (k = 7 ∨ ¬ sPe S j = 0)
def fit (k : Nat) (v : Int64) : Int64 := match k with
  | 1 => v.toInt32.toInt8.toInt32.toInt64
  | 2 => v.toInt32.toInt16.toInt32.toInt64
  | 3 => ((v.toInt32.toUInt32 % 65536).toInt32).toInt64
  | 4 => v.toInt32.toInt64
  | 6 => if v = 0 then lN 0 else lN 1
  | _ => v
def strP (S : St) (r : Nat) (x n : Int64) : Prop := ¬ x < lN 0 ∧ ¬ n < lN 0 ∧ ¬ lN (sPl S r) < x + n
def exchP (k q : Nat) : Prop := k = q ∨ ((k = 7 ∨ k = 8) ∧ (q = 7 ∨ q = 8))
def cmpP (k q : Nat) : Prop := exchP k q ∨ ((1 ≤ k ∧ k ≤ 5) ∧ (1 ≤ q ∧ q ≤ 5))
def ptA (S : St) (x0 x1 x2 x3 x4 : Int32) : Nat → Nat → Int32 := fun t j => if j = sNs S then (match t with | 0 => x0 | 1 => x1 | 2 => x2 | 3 => x3 | _ => x4) else sPt S t j
def appS (S : St) (x0 x1 x2 x3 x4 : Int32) : St := uNs (uPt S (ptA S x0 x1 x2 x3 x4)) (sNs S + 1)
theorem BEq.rf (B : BS) : BEq B B := ⟨fun _ _ => ⟨rfl, rfl⟩, fun _ _ _ _ => rfl, fun _ _ _ _ => rfl, rfl, fun _ _ => rfl, fun _ _ => rfl, rfl, fun _ _ _ _ => rfl, rfl, fun _ _ => rfl, rfl⟩
end
section
/-! a choice by any claim -/
noncomputable def cif {α : Type} (P : Prop) (x y : α) : α := @ite _ P (Classical.propDecidable P) x y
theorem cif_t {α : Type} {P : Prop} {x y : α} (h : P) : cif P x y = x := if_pos h
theorem cif_f {α : Type} {P : Prop} {x y : α} (h : ¬ P) : cif P x y = y := if_neg h
/-! MOVING -/
noncomputable def hind (S : St) (q r : Nat) (i j n : Int64) : Nat :=
  if sKd S q = 0 ∨ sKd S r = 0 then 1 else cif (sKd S q = 9 ∨ sKd S r = 9 ∨ ¬ exchP (sKd S q) (sKd S r)) 2 (cif (strP S q i n ∧ strP S r j n) 0 3)
noncomputable def cmn (S : St) (f : Nat → Int64) (i : Nat) : Nat → Nat → Nat
  | 0, k => k
  | n + 1, k => cif (mayL S 8 (f (i + k))) (cmn S f i n (k + 1)) k
noncomputable def comeC (S : St) (q r i n : Nat) : Nat := if sKd S r = 8 then cmn S (sCe S q) i n 0 else n
theorem cmn_le (S : St) (f : Nat → Int64) (i : Nat) : ∀ n k, k ≤ cmn S f i n k ∧ cmn S f i n k ≤ k + n
  | 0, k => ⟨Nat.le_refl _, Nat.le_refl _⟩
  | n + 1, k => by
    unfold cmn
    by_cases h : mayL S 8 (f (i + k))
    · rw [cif_t h]
      have := cmn_le S f i n (k + 1)
      omega
    · rw [cif_f h]; omega
theorem come_le (S : St) (q r i n : Nat) : comeC S q r i n ≤ n := by
  unfold comeC
  split
  · have := (cmn_le S (sCe S q) i n 0).2; omega
  · exact Nat.le_refl _
/-- the state behind a MOVING that wasn't hindered, c of n things having come -/
def movD (S : St) (q r i j c n : Nat) : Nat × St := (if c < n then 4 else 0, uMv (uCm (uCe S (va_up (sCe S) r (va_cpy (sCe S q) (sCe S r) i j c))) (nI c)) (upd (sMv S) (if c < n then 4 else 0) (sMv S (if c < n then 4 else 0) + nI 1)))
def movN (S : St) (w : Nat) : Nat × St := (w, uMv (uCm S (nI 0)) (upd (sMv S) w (sMv S w + nI 1)))
noncomputable def movS (S : St) (q r : Nat) (i j n : Int64) : Nat × St := cif (hind S q r i j n = 0) (movD S q r i.toNatClampNeg j.toNatClampNeg (comeC S q r i.toNatClampNeg n.toNatClampNeg) n.toNatClampNeg) (movN S (hind S q r i j n))
noncomputable def spMove (S : St) (x i y j n : Int32) : Int32 × St := match ix x 8, ix y 8 with
  | some q, some r => (nI (movS S q r i.toInt64 j.toInt64 n.toInt64).1, (movS S q r i.toInt64 j.toInt64 n.toInt64).2)
  | _, _ => (-1, S)
def putC (S : St) (r q : Nat) (v : Int64) : St := uCe S (va_up (sCe S) r (vp_updL (sCe S r) q v))
noncomputable def opM (S : St) (r : Nat) (p : Int32) : Nat × St := movS S r r p.toInt64 (p.toInt64 + lN 1) (lN (sPl S r) - lN 1 - p.toInt64)
noncomputable def clM (S : St) (r : Nat) (p : Int32) : Nat × St := movS S r r (p.toInt64 + lN 1) p.toInt64 (lN (sPl S r) - lN 1 - p.toInt64)
noncomputable def spOpen (S : St) (x p : Int32) : Int32 × St := match ix x 8 with
  | some r => (nI (opM S r p).1, if (opM S r p).1 = 0 then putC (opM S r p).2 r p.toNatClampNeg (blk (sKd S r)) else (opM S r p).2)
  | none => (-1, S)
noncomputable def spClose (S : St) (x p : Int32) : Int32 × St := match ix x 8 with
  | some r => (nI (clM S r p).1, if (clM S r p).1 = 0 then putC (clM S r p).2 r (sPl S r - 1) (blk (sKd S r)) else (clM S r p).2)
  | none => (-1, S)
/-! put, look -/
noncomputable def spPut (S : St) (x p : Int32) (v : Int64) : Int32 × St := match row S x with
  | some r => (match ix p (sPl S r) with
    | some q => cif (mayL S (sKd S r) v) (nI 1, putC S r q (fit (sKd S r) v)) (nI 0, S)
    | none => (nI 0, S))
  | none => (nI 0, S)
def spLook (S : St) (x p : Int32) : Int64 := match row S x with
  | some r => (match ix p (sPl S r) with
    | some q => sCe S r q
    | none => lN 0)
  | none => lN 0
/-! TURNING -/
def rotF (f : Nat → Int64) (n : Nat) (d : Int32) : Nat → Int64 := fun q => if q < n then f ((((q : Int) - d.toInt) % (n : Int)).toNat) else f q
def rotS (S : St) (r : Nat) (d : Int32) : St := uCe S (va_up (sCe S) r (rotF (sCe S r) (sPl S r) d))
def spTurn (S : St) (x d : Int32) : Int32 × St := match ix x 8 with
  | some r => if sKd S r = 0 then (nI 1, S) else if sKd S r = 9 then (nI 2, S) else (nI 0, rotS S r d)
  | none => (-1, S)
/-! STEPS, WEAVING -/
def spStep (S : St) (x i y j n : Int32) : Int32 × St := match ix x 8, ix y 8 with
  | some _, some _ => if 24 ≤ sNs S then (-1, S) else (nI (sNs S + 1), appS S x i y j n)
  | _, _ => (-1, S)
def spForget (S : St) : Int32 × St := (nI (sNs S), uNs S 0)
noncomputable def stp (S : St) (j : Nat) : Nat × St := movS S (sPt S 0 j).toNatClampNeg (sPt S 2 j).toNatClampNeg (sPt S 1 j).toInt64 (sPt S 3 j).toInt64 (sPt S 4 j).toInt64
noncomputable def wrd : Nat → Nat → St → Nat × St
  | 0, j, S => (j, S)
  | n + 1, j, S => if (stp S j).1 = 0 then wrd n (j + 1) (stp S j).2 else (j, (stp S j).2)
noncomputable def rnd (S : St) : Nat × St := wrd (sNs S) 0 S
noncomputable def wvs (w : Prop) : Nat → Nat → St → Nat × St
  | 0, d, S => (d, S)
  | n + 1, d, S => if (rnd S).1 = sNs S then wvs w n (d + (rnd S).1) (uWv (rnd S).2 (sWv (rnd S).2 + nI 1)) else cif w (d, uCe (rnd S).2 (sCe S)) (d + (rnd S).1, (rnd S).2)
noncomputable def spWeave (S : St) (x w : Int32) : Int32 × St := match rng x 1 50 with
  | some n => if sNs S = 0 then (-1, S) else (nI (wvs (¬ w = 0) n 0 S).1, (wvs (¬ w = 0) n 0 S).2)
  | none => (-1, S)
/-! ALIKE, SHADE, and what is told -/
def pfx (f g : Nat → Int64) : Nat → Nat → Nat
  | 0, p => p
  | n + 1, p => if f p = g p then pfx f g n (p + 1) else p
noncomputable def spAlike (S : St) (x y : Int32) : Int32 := match row S x, row S y with
  | some q, some r => cif (cmpP (sKd S q) (sKd S r)) (nI (pfx (sCe S q) (sCe S r) (min (sPl S q) (sPl S r)) 0)) (nI 0)
  | _, _ => -1
def shg (S : St) (r p : Nat) : Int64 := if sKd S r = 7 ∨ sKd S r = 8 then (colO S (sCe S r p)).toInt64 else sCe S r p
def shs (S : St) (r : Nat) : Nat → Nat → Int64 → Int64
  | 0, _, z => z
  | n + 1, p, z => shs S r n (p + 1) (z + shg S r p)
def spShade (S : St) (x : Int32) : Int64 := match row S x with
  | some r => shs S r (sPl S r) 0 (lN 0)
  | none => lN 0
def spRack (S : St) (x y : Int32) : Int32 := match ix x 8 with
  | some r => if y = nI 0 then nI (sKd S r) else if y = nI 1 then nI (sPl S r) else -1
  | none => -1
def spAbout (S : St) (y : Int32) : Int32 := match ix y 9 with
  | some 0 => sCm S
  | some 1 => sMv S 1
  | some 2 => sMv S 2
  | some 3 => sMv S 3
  | some 4 => sMv S 4
  | some 5 => sMv S 0
  | some 6 => nI (sNb S)
  | some 7 => nI (sNs S)
  | some 8 => sWv S
  | _ => -1
/-! numbers small enough that no sum wraps -/
def sml (x : Int64) : Prop := -(2 ^ 40 : Int) ≤ x.toInt ∧ x.toInt ≤ 2 ^ 40
theorem sml_i (x : Int32) : sml x.toInt64 := by
  have h1 := Int32.toInt_lt x
  have h2 := Int32.le_toInt x
  unfold sml
  rw [Int32.toInt_toInt64]
  constructor <;> omega
theorem l_addT {x y : Int64} (hx : -(2 ^ 62 : Int) ≤ x.toInt ∧ x.toInt ≤ 2 ^ 61) (hy : -(2 ^ 62 : Int) ≤ y.toInt ∧ y.toInt ≤ 2 ^ 61) : (x + y).toInt = x.toInt + y.toInt := by
  rw [Int64.toInt_add]
  apply Int.bmod_eq_of_le <;> omega
theorem l_subT {x y : Int64} (hx : -(2 ^ 61 : Int) ≤ x.toInt ∧ x.toInt ≤ 2 ^ 61) (hy : -(2 ^ 61 : Int) ≤ y.toInt ∧ y.toInt ≤ 2 ^ 61) : (x - y).toInt = x.toInt - y.toInt := by
  rw [Int64.toInt_sub]
  apply Int.bmod_eq_of_le <;> omega
theorem lN_of {x : Int64} {n : Nat} (h : x.toInt = (n : Int)) : x = lN n := by
  have h2 := Int64.toInt_lt x
  apply Int64.toInt_inj.mp
  rw [h, pk_lT (by omega)]
theorem strP_nat {S : St} {r : Nat} {x n : Int64} (h : strP S r x n) (hx : sml x) (hn : sml n) (hp : sPl S r ≤ 40) : ∃ i k : Nat, x = lN i ∧ n = lN k ∧ i + k ≤ sPl S r := by
  obtain ⟨h1, h2, h3⟩ := h
  rw [Int64.lt_iff_toInt_lt] at h1 h2 h3
  have e0 : (lN 0).toInt = 0 := rfl
  have ep : (lN (sPl S r)).toInt = (sPl S r : Int) := pk_lT (by omega)
  have es := l_addT (x := x) (y := n) (by unfold sml at hx; omega) (by unfold sml at hn; omega)
  rw [e0] at h1 h2
  rw [ep, es] at h3
  refine ⟨x.toInt.toNat, n.toInt.toNat, lN_of (by omega), lN_of (by omega), by omega⟩
end
section
set_option maxHeartbeats 4000000 in
set_option maxRecDepth 100000 in
theorem c_rackAt (l : Launch) (G : Gx) (a : Nat → Nat) (Bz : BS) (xz : Int32) : CtQ l G 35 a (EB G a) yX2_rackAt cX2_rackAt 2 (some (.object "BeadLoom$Rack")) 0 0 [.ref (a 0), .int xz] Bz (fun o u => Bz = u ∧ ((ix xz 8 = none ∧ o = none) ∨ ∃ r, r < 8 ∧ xz = nI r ∧ ix xz 8 = some r ∧ o = some (a (r + 11)))) := by
  refine ent_of (by decide) (Nat.le_of_ble_eq_true rfl) ?_
  intro p e s m below meth c ls C h hS hret hlk hl
  have C : Cx p s m _ c cX2_rackAt RX2 2 G := C
  have hx := C.1
  have hb := C.2.1
  have hl : lv_has ls 2 [(0, .ref (a 0)), (1, .int xz)] := hl
  refine lv_iload_n hx hb dX2_rackAt_0 rfl (lv_at hl 1 rfl) ?_
  refine lv_if_lt (tgt := 19) hx hb dX2_rackAt_1 (by decide) (fun c1 => ?_) (fun c1 => ?_)
  · skip
    refine lv_null hx hb dX2_rackAt_19 ?_
    exact eQ (none) C hret hlk (Bz) h hS (⟨rfl, Or.inl ⟨ix_neg c1, rfl⟩⟩) dX2_rackAt_20
  · skip
    refine lv_iload_n hx hb dX2_rackAt_4 rfl (lv_at hl 1 rfl) ?_
    refine lv_bipush (v := nI 8) hx hb dX2_rackAt_5 (by decide) ?_
    refine lv_icmp_ge (tgt := 19) hx hb dX2_rackAt_7 (by decide) (fun c7 => ?_) (fun c7 => ?_)
    · skip
      refine lv_null hx hb dX2_rackAt_19 ?_
      exact eQ (none) C hret hlk (Bz) h hS (⟨rfl, Or.inl ⟨ix_ge c7, rfl⟩⟩) dX2_rackAt_20
    · skip
      obtain ⟨r, hr, hxr, hrk⟩ := ix_of (by decide) c1 c7
      subst hxr
      refine lv_aload_n hx hb dX2_rackAt_10 rfl (lv_at hl 0 rfl) ?_
      refine fg_X2_11 C h dX2_rackAt_11 ?_
      refine lv_iload_n hx hb dX2_rackAt_14 rfl (lv_at hl 1 rfl) ?_
      refine al_rk C h (by first | assumption | omega) dX2_rackAt_15 ?_
      refine lv_goto (tgt := 20) hx hb dX2_rackAt_16 (by decide) ?_
      exact eQ (some (a (r + 11))) C hret hlk (Bz) h hS (⟨rfl, Or.inr ⟨r, hr, rfl, hrk, rfl⟩⟩) dX2_rackAt_20

set_option maxHeartbeats 4000000 in
set_option maxRecDepth 100000 in
theorem c_hasRow (l : Launch) (G : Gx) (a : Nat → Nat) (Bz : BS) (r : Nat) (hr : r < 8) (hk : sKd Bz.1 r ≤ 9) : CtI l G 35 a (EB G a) yX1_hasRow cX1_hasRow 1 (some .boolean) 0 0 [.ref (a (r + 11))] Bz (fun v u => Bz = u ∧ v = b2i (¬ (sKd Bz.1 r = 0 ∨ sKd Bz.1 r = 9))) := by
  refine ent_of (by decide) (Nat.le_of_ble_eq_true rfl) ?_
  intro p e s m below meth c ls C h hS hret hlk hl
  have C : Cx p s m _ c cX1_hasRow RX1 1 G := C
  have hx := C.1
  have hb := C.2.1
  have hl : lv_has ls 1 [(0, .ref (a (r + 11)))] := hl
  refine lv_aload_n hx hb dX1_hasRow_0 rfl (lv_at hl 0 rfl) ?_
  refine fg_X1_18 C h (by first | assumption | omega) dX1_hasRow_1 ?_
  refine lv_if_eq (tgt := 20) hx hb dX1_hasRow_4 (by decide) (fun c4 => ?_) (fun c4 => ?_)
  · skip
    refine lv_iconst (v := nI 0) hx hb dX1_hasRow_20 (by decide) ?_
    exact eZ C hret hlk (Bz) h hS (rfl) (⟨rfl, (b2i_f (by rw [nI_z (by omega)] at c4; omega)).symm⟩) dX1_hasRow_21
  · skip
    refine lv_aload_n hx hb dX1_hasRow_7 rfl (lv_at hl 0 rfl) ?_
    refine fg_X1_18 C h (by first | assumption | omega) dX1_hasRow_8 ?_
    refine lv_bipush (v := nI 9) hx hb dX1_hasRow_11 (by decide) ?_
    refine lv_icmp_eq (tgt := 20) hx hb dX1_hasRow_13 (by decide) (fun c13 => ?_) (fun c13 => ?_)
    · skip
      refine lv_iconst (v := nI 0) hx hb dX1_hasRow_20 (by decide) ?_
      exact eZ C hret hlk (Bz) h hS (rfl) (⟨rfl, (b2i_f (by rw [nI_eq (by omega) (by decide)] at c13; omega)).symm⟩) dX1_hasRow_21
    · skip
      refine lv_iconst (v := nI 1) hx hb dX1_hasRow_16 (by decide) ?_
      refine lv_goto (tgt := 21) hx hb dX1_hasRow_17 (by decide) ?_
      exact eZ C hret hlk (Bz) h hS (rfl) (⟨rfl, (b2i_t (by rw [nI_z (by omega)] at c4; rw [nI_eq (by omega) (by decide)] at c13; omega)).symm⟩) dX1_hasRow_21

set_option maxHeartbeats 4000000 in
set_option maxRecDepth 100000 in
theorem c_hasPlace (l : Launch) (G : Gx) (a : Nat → Nat) (Bz : BS) (r : Nat) (hr : r < 8) (hk : sPl Bz.1 r ≤ 40) (xz : Int32) : CtI l G 35 a (EB G a) yX1_hasPlace cX1_hasPlace 2 (some .boolean) 0 0 [.ref (a (r + 11)), .int xz] Bz (fun v u => Bz = u ∧ v = b2i (¬ ix xz (sPl Bz.1 r) = none)) := by
  refine ent_of (by decide) (Nat.le_of_ble_eq_true rfl) ?_
  intro p e s m below meth c ls C h hS hret hlk hl
  have C : Cx p s m _ c cX1_hasPlace RX1 2 G := C
  have hx := C.1
  have hb := C.2.1
  have hl : lv_has ls 2 [(0, .ref (a (r + 11))), (1, .int xz)] := hl
  refine lv_iload_n hx hb dX1_hasPlace_0 rfl (lv_at hl 1 rfl) ?_
  refine lv_if_lt (tgt := 16) hx hb dX1_hasPlace_1 (by decide) (fun c1 => ?_) (fun c1 => ?_)
  · skip
    refine lv_iconst (v := nI 0) hx hb dX1_hasPlace_16 (by decide) ?_
    exact eZ C hret hlk (Bz) h hS (rfl) (⟨rfl, (b2i_f (fun q => q (ix_neg c1))).symm⟩) dX1_hasPlace_17
  · skip
    refine lv_iload_n hx hb dX1_hasPlace_4 rfl (lv_at hl 1 rfl) ?_
    refine lv_aload_n hx hb dX1_hasPlace_5 rfl (lv_at hl 0 rfl) ?_
    refine fg_X1_22 C h (by first | assumption | omega) dX1_hasPlace_6 ?_
    refine lv_icmp_ge (tgt := 16) hx hb dX1_hasPlace_9 (by decide) (fun c9 => ?_) (fun c9 => ?_)
    · skip
      refine lv_iconst (v := nI 0) hx hb dX1_hasPlace_16 (by decide) ?_
      exact eZ C hret hlk (Bz) h hS (rfl) (⟨rfl, (b2i_f (fun q => q (ix_ge c9))).symm⟩) dX1_hasPlace_17
    · skip
      refine lv_iconst (v := nI 1) hx hb dX1_hasPlace_12 (by decide) ?_
      refine lv_goto (tgt := 17) hx hb dX1_hasPlace_13 (by decide) ?_
      exact eZ C hret hlk (Bz) h hS (rfl) (⟨rfl, (b2i_t (by obtain ⟨j, _, _, hj⟩ := ix_of (by omega) c1 c9; rw [hj]; exact fun q => by cases q)).symm⟩) dX1_hasPlace_17

set_option maxHeartbeats 4000000 in
set_option maxRecDepth 100000 in
theorem c_hasStretch (l : Launch) (G : Gx) (a : Nat → Nat) (Bz : BS) (r : Nat) (hr : r < 8) (hk : sPl Bz.1 r ≤ 40) (xz nz : Int64) : CtI l G 35 a (EB G a) yX1_hasStretch cX1_hasStretch 5 (some .boolean) 0 0 [.ref (a (r + 11)), .long xz, .long nz] Bz (fun v u => Bz = u ∧ v = b2i (strP Bz.1 r xz nz)) := by
  refine ent_of (by decide) (Nat.le_of_ble_eq_true rfl) ?_
  intro p e s m below meth c ls C h hS hret hlk hl
  have C : Cx p s m _ c cX1_hasStretch RX1 5 G := C
  have hx := C.1
  have hb := C.2.1
  have hl : lv_has ls 5 [(0, .ref (a (r + 11))), (1, .long xz), (3, .long nz)] := hl
  refine lv_lload_n hx hb dX1_hasStretch_0 rfl (lv_at hl 1 rfl) ?_
  refine lv_lconst (v := lN 0) hx hb dX1_hasStretch_1 rfl ?_
  refine W.lcmp hx hb dX1_hasStretch_2 ?_
  refine lv_if_lt (tgt := 28) hx hb dX1_hasStretch_3 (by decide) (fun c3 => ?_) (fun c3 => ?_)
  · have c3 := (lg_cmp_lt _ _).mp c3
    refine lv_iconst (v := nI 0) hx hb dX1_hasStretch_28 (by decide) ?_
    exact eZ C hret hlk (Bz) h hS (rfl) (⟨rfl, (b2i_f (fun q => q.1 c3)).symm⟩) dX1_hasStretch_29
  · have c3 : ¬ xz < (lN 0) := fun q => c3 ((lg_cmp_lt _ _).mpr q)
    refine lv_lload_n hx hb dX1_hasStretch_6 rfl (lv_at hl 2 rfl) ?_
    refine lv_lconst (v := lN 0) hx hb dX1_hasStretch_7 rfl ?_
    refine W.lcmp hx hb dX1_hasStretch_8 ?_
    refine lv_if_lt (tgt := 28) hx hb dX1_hasStretch_9 (by decide) (fun c9 => ?_) (fun c9 => ?_)
    · have c9 := (lg_cmp_lt _ _).mp c9
      refine lv_iconst (v := nI 0) hx hb dX1_hasStretch_28 (by decide) ?_
      exact eZ C hret hlk (Bz) h hS (rfl) (⟨rfl, (b2i_f (fun q => q.2.1 c9)).symm⟩) dX1_hasStretch_29
    · have c9 : ¬ nz < (lN 0) := fun q => c9 ((lg_cmp_lt _ _).mpr q)
      refine lv_lload_n hx hb dX1_hasStretch_12 rfl (lv_at hl 1 rfl) ?_
      refine lv_lload_n hx hb dX1_hasStretch_13 rfl (lv_at hl 2 rfl) ?_
      refine lv_ladd hx hb dX1_hasStretch_14 ?_
      refine lv_aload_n hx hb dX1_hasStretch_15 rfl (lv_at hl 0 rfl) ?_
      refine fg_X1_22 C h (by first | assumption | omega) dX1_hasStretch_16 ?_
      refine lv_i2l hx hb dX1_hasStretch_19 rfl ?_
      refine lw_tl (nI_l (by omega)) ?_
      refine W.lcmp hx hb dX1_hasStretch_20 ?_
      refine lv_if_gt (tgt := 28) hx hb dX1_hasStretch_21 (by decide) (fun c21 => ?_) (fun c21 => ?_)
      · have c21 := (lg_cmp_gt _ _).mp c21
        refine lv_iconst (v := nI 0) hx hb dX1_hasStretch_28 (by decide) ?_
        exact eZ C hret hlk (Bz) h hS (rfl) (⟨rfl, (b2i_f (fun q => q.2.2 c21)).symm⟩) dX1_hasStretch_29
      · have c21 : ¬ (lN (sPl Bz.1 r)) < (xz + nz) := fun q => c21 ((lg_cmp_gt _ _).mpr q)
        refine lv_iconst (v := nI 1) hx hb dX1_hasStretch_24 (by decide) ?_
        refine lv_goto (tgt := 29) hx hb dX1_hasStretch_25 (by decide) ?_
        exact eZ C hret hlk (Bz) h hS (rfl) (⟨rfl, (b2i_t (⟨c3, c9, c21⟩)).symm⟩) dX1_hasStretch_29

set_option maxHeartbeats 4000000 in
set_option maxRecDepth 100000 in
theorem c_isFull (l : Launch) (G : Gx) (a : Nat → Nat) (Bz : BS) (hk : sNs Bz.1 ≤ 24) : CtI l G 35 a (EB G a) yX0_isFull cX0_isFull 1 (some .boolean) 0 0 [.ref (a 4)] Bz (fun v u => Bz = u ∧ v = b2i (24 ≤ sNs Bz.1)) := by
  refine ent_of (by decide) (Nat.le_of_ble_eq_true rfl) ?_
  intro p e s m below meth c ls C h hS hret hlk hl
  have C : Cx p s m _ c cX0_isFull RX0 1 G := C
  have hx := C.1
  have hb := C.2.1
  have hl : lv_has ls 1 [(0, .ref (a 4))] := hl
  refine lv_aload_n hx hb dX0_isFull_0 rfl (lv_at hl 0 rfl) ?_
  refine fg_X0_27 C h dX0_isFull_1 ?_
  refine lv_bipush (v := nI 24) hx hb dX0_isFull_4 (by decide) ?_
  refine lv_icmp_lt (tgt := 13) hx hb dX0_isFull_6 (by decide) (fun c6 => ?_) (fun c6 => ?_)
  · skip
    refine lv_iconst (v := nI 0) hx hb dX0_isFull_13 (by decide) ?_
    exact eZ C hret hlk (Bz) h hS (rfl) (⟨rfl, (b2i_f (by rw [nI_ltI (by omega) (by decide)] at c6; omega)).symm⟩) dX0_isFull_14
  · skip
    refine lv_iconst (v := nI 1) hx hb dX0_isFull_9 (by decide) ?_
    refine lv_goto (tgt := 14) hx hb dX0_isFull_10 (by decide) ?_
    exact eZ C hret hlk (Bz) h hS (rfl) (⟨rfl, (b2i_t (by rw [nI_ltI (by omega) (by decide)] at c6; omega)).symm⟩) dX0_isFull_14

set_option maxHeartbeats 4000000 in
set_option maxRecDepth 100000 in
theorem c_isBead (l : Launch) (G : Gx) (a : Nat → Nat) (Bz : BS) (hk : sNb Bz.1 ≤ 200) (xz : Int64) : CtI l G 35 a (EB G a) yX2_isBead cX2_isBead 3 (some .boolean) 0 0 [.ref (a 0), .long xz] Bz (fun v u => Bz = u ∧ v = b2i (¬ ixl xz (sNb Bz.1) = none)) := by
  refine ent_of (by decide) (Nat.le_of_ble_eq_true rfl) ?_
  intro p e s m below meth c ls C h hS hret hlk hl
  have C : Cx p s m _ c cX2_isBead RX2 3 G := C
  have hx := C.1
  have hb := C.2.1
  have hl : lv_has ls 3 [(0, .ref (a 0)), (1, .long xz)] := hl
  refine lv_lload_n hx hb dX2_isBead_0 rfl (lv_at hl 1 rfl) ?_
  refine lv_lconst (v := lN 0) hx hb dX2_isBead_1 rfl ?_
  refine W.lcmp hx hb dX2_isBead_2 ?_
  refine lv_if_lt (tgt := 20) hx hb dX2_isBead_3 (by decide) (fun c3 => ?_) (fun c3 => ?_)
  · have c3 := (lg_cmp_lt _ _).mp c3
    refine lv_iconst (v := nI 0) hx hb dX2_isBead_20 (by decide) ?_
    exact eZ C hret hlk (Bz) h hS (rfl) (⟨rfl, (b2i_f (fun q => q (ixl_neg c3))).symm⟩) dX2_isBead_21
  · have c3 : ¬ xz < (lN 0) := fun q => c3 ((lg_cmp_lt _ _).mpr q)
    refine lv_lload_n hx hb dX2_isBead_6 rfl (lv_at hl 1 rfl) ?_
    refine lv_aload_n hx hb dX2_isBead_7 rfl (lv_at hl 0 rfl) ?_
    refine fg_X2_33 C h dX2_isBead_8 ?_
    refine lv_i2l hx hb dX2_isBead_11 rfl ?_
    refine lw_tl (nI_l (by omega)) ?_
    refine W.lcmp hx hb dX2_isBead_12 ?_
    refine lv_if_ge (tgt := 20) hx hb dX2_isBead_13 (by decide) (fun c13 => ?_) (fun c13 => ?_)
    · have c13 := (lg_cmp_ge _ _).mp c13
      refine lv_iconst (v := nI 0) hx hb dX2_isBead_20 (by decide) ?_
      exact eZ C hret hlk (Bz) h hS (rfl) (⟨rfl, (b2i_f (fun q => q (ixl_ge c13))).symm⟩) dX2_isBead_21
    · have c13 : ¬ (lN (sNb Bz.1)) ≤ xz := fun q => c13 ((lg_cmp_ge _ _).mpr q)
      refine lv_iconst (v := nI 1) hx hb dX2_isBead_16 (by decide) ?_
      refine lv_goto (tgt := 21) hx hb dX2_isBead_17 (by decide) ?_
      exact eZ C hret hlk (Bz) h hS (rfl) (⟨rfl, (b2i_t (by obtain ⟨j, _, _, hj⟩ := ixl_of (by omega) c3 c13; rw [hj]; exact fun q => by cases q)).symm⟩) dX2_isBead_21

set_option maxHeartbeats 4000000 in
set_option maxRecDepth 100000 in
theorem c_holdsBeads (l : Launch) (G : Gx) (a : Nat → Nat) (Bz : BS) (k : Nat) (hk : k ≤ 9) : CtI l G 35 a (EB G a) yX2_holdsBeads cX2_holdsBeads 1 (some .boolean) 0 0 [.int (nI k)] Bz (fun v u => Bz = u ∧ v = b2i (k = 7 ∨ k = 8)) := by
  refine ent_of (by decide) (Nat.le_of_ble_eq_true rfl) ?_
  intro p e s m below meth c ls C h hS hret hlk hl
  have C : Cx p s m _ c cX2_holdsBeads RX2 1 G := C
  have hx := C.1
  have hb := C.2.1
  have hl : lv_has ls 1 [(0, .int (nI k))] := hl
  refine lv_iload_n hx hb dX2_holdsBeads_0 rfl (lv_at hl 0 rfl) ?_
  refine lv_bipush (v := nI 7) hx hb dX2_holdsBeads_1 (by decide) ?_
  refine lv_icmp_eq (tgt := 12) hx hb dX2_holdsBeads_3 (by decide) (fun c3 => ?_) (fun c3 => ?_)
  · skip
    refine lv_iconst (v := nI 1) hx hb dX2_holdsBeads_12 (by decide) ?_
    refine lv_goto (tgt := 17) hx hb dX2_holdsBeads_13 (by decide) ?_
    exact eZ C hret hlk (Bz) h hS (rfl) (⟨rfl, (b2i_t (by rw [nI_eq (by omega) (by decide)] at c3; omega)).symm⟩) dX2_holdsBeads_17
  · skip
    refine lv_iload_n hx hb dX2_holdsBeads_6 rfl (lv_at hl 0 rfl) ?_
    refine lv_bipush (v := nI 8) hx hb dX2_holdsBeads_7 (by decide) ?_
    refine lv_icmp_ne (tgt := 16) hx hb dX2_holdsBeads_9 (by decide) (fun c9 => ?_) (fun c9 => ?_)
    · skip
      refine lv_iconst (v := nI 0) hx hb dX2_holdsBeads_16 (by decide) ?_
      exact eZ C hret hlk (Bz) h hS (rfl) (⟨rfl, (b2i_f (by rw [nI_eq (by omega) (by decide)] at c3; rw [nI_eq (by omega) (by decide)] at c9; omega)).symm⟩) dX2_holdsBeads_17
    · skip
      refine lv_iconst (v := nI 1) hx hb dX2_holdsBeads_12 (by decide) ?_
      refine lv_goto (tgt := 17) hx hb dX2_holdsBeads_13 (by decide) ?_
      exact eZ C hret hlk (Bz) h hS (rfl) (⟨rfl, (b2i_t (by rw [nI_eq (by omega) (by decide)] at c3; rw [nI_eq (by omega) (by decide)] at c9; omega)).symm⟩) dX2_holdsBeads_17

set_option maxHeartbeats 4000000 in
set_option maxRecDepth 100000 in
theorem c_holdsNumbers (l : Launch) (G : Gx) (a : Nat → Nat) (Bz : BS) (k : Nat) (hk : k ≤ 9) : CtI l G 35 a (EB G a) yX2_holdsNumbers cX2_holdsNumbers 1 (some .boolean) 0 0 [.int (nI k)] Bz (fun v u => Bz = u ∧ v = b2i (1 ≤ k ∧ k ≤ 5)) := by
  refine ent_of (by decide) (Nat.le_of_ble_eq_true rfl) ?_
  intro p e s m below meth c ls C h hS hret hlk hl
  have C : Cx p s m _ c cX2_holdsNumbers RX2 1 G := C
  have hx := C.1
  have hb := C.2.1
  have hl : lv_has ls 1 [(0, .int (nI k))] := hl
  refine lv_iload_n hx hb dX2_holdsNumbers_0 rfl (lv_at hl 0 rfl) ?_
  refine lv_iconst (v := nI 1) hx hb dX2_holdsNumbers_1 (by decide) ?_
  refine lv_icmp_lt (tgt := 14) hx hb dX2_holdsNumbers_2 (by decide) (fun c2 => ?_) (fun c2 => ?_)
  · skip
    refine lv_iconst (v := nI 0) hx hb dX2_holdsNumbers_14 (by decide) ?_
    exact eZ C hret hlk (Bz) h hS (rfl) (⟨rfl, (b2i_f (by rw [nI_ltI (by omega) (by omega)] at c2; omega)).symm⟩) dX2_holdsNumbers_15
  · skip
    refine lv_iload_n hx hb dX2_holdsNumbers_5 rfl (lv_at hl 0 rfl) ?_
    refine lv_iconst (v := nI 5) hx hb dX2_holdsNumbers_6 (by decide) ?_
    refine lv_icmp_gt (tgt := 14) hx hb dX2_holdsNumbers_7 (by decide) (fun c7 => ?_) (fun c7 => ?_)
    · skip
      refine lv_iconst (v := nI 0) hx hb dX2_holdsNumbers_14 (by decide) ?_
      exact eZ C hret hlk (Bz) h hS (rfl) (⟨rfl, (b2i_f (by rw [nI_ltI (by omega) (by omega)] at c2; rw [nI_ltI (by omega) (by omega)] at c7; omega)).symm⟩) dX2_holdsNumbers_15
    · skip
      refine lv_iconst (v := nI 1) hx hb dX2_holdsNumbers_10 (by decide) ?_
      refine lv_goto (tgt := 15) hx hb dX2_holdsNumbers_11 (by decide) ?_
      exact eZ C hret hlk (Bz) h hS (rfl) (⟨rfl, (b2i_t (by rw [nI_ltI (by omega) (by omega)] at c2; rw [nI_ltI (by omega) (by omega)] at c7; omega)).symm⟩) dX2_holdsNumbers_15

set_option maxHeartbeats 4000000 in
set_option maxRecDepth 100000 in
theorem c_blank (l : Launch) (G : Gx) (a : Nat → Nat) (Bz : BS) (k : Nat) (hk : k ≤ 9) : CtL l G 35 a (EB G a) yX2_blank cX2_blank 1 (some .long) 1 20 [.int (nI k)] Bz (fun v u => Bz = u ∧ v = blk k) := by
  refine ent_of (by decide) (Nat.le_of_ble_eq_true rfl) ?_
  intro p e s m below meth c ls C h hS hret hlk hl
  have C : Cx p s m _ c cX2_blank RX2 1 G := C
  have hx := C.1
  have hb := C.2.1
  have hl : lv_has ls 1 [(0, .int (nI k))] := hl
  refine lv_iload_n hx hb dX2_blank_0 rfl (lv_at hl 0 rfl) ?_
  refine kI (rS (As := [.int (nI k)]) (rest := []) C h lk_X2_131 (c_holdsBeads l G a Bz k hk) ⟨Nat.le_of_ble_eq_true rfl, Nat.le_of_ble_eq_true rfl⟩ hl.1 rfl rfl (Nat.le_of_ble_eq_true rfl) dX2_blank_1 ⟨Nat.zero_le _, Nat.zero_le _⟩) hS (fun rv u H locs hp h hS => ?_)
  obtain ⟨rfl, rfl⟩ := hp
  by_cases hP : k = 7 ∨ k = 8
  · refine lw_ti (b2i_t hP) ?_
    refine lv_if_eq (tgt := 13) hx hb dX2_blank_4 (by decide) (fun c0 => absurd c0 (by decide)) (fun _ => ?_)
    refine lv_ldc2 (v := -1) hx hb C.2.2.2.1 (C.2.2.2.2.1 _ (by decide +kernel)) dX2_blank_7 ?_
    refine lv_goto (tgt := 14) hx hb dX2_blank_10 (by decide) ?_
    exact eL C hret hlk (Bz) h hS (⟨rfl, (if_pos hP).symm⟩) dX2_blank_14
  · refine lw_ti (b2i_f hP) ?_
    refine lv_if_eq (tgt := 13) hx hb dX2_blank_4 (by decide) (fun _ => ?_) (fun c0 => absurd c0 (by decide))
    refine lv_lconst (v := lN 0) hx hb dX2_blank_13 rfl ?_
    exact eL C hret hlk (Bz) h hS (⟨rfl, (if_neg hP).symm⟩) dX2_blank_14

set_option maxHeartbeats 4000000 in
set_option maxRecDepth 100000 in
theorem c_thingsBehind (l : Launch) (G : Gx) (a : Nat → Nat) (Bz : BS) (r : Nat) (hr : r < 8) (hk : sPl Bz.1 r ≤ 40) (xz : Int32) : CtL l G 35 a (EB G a) yX2_thingsBehind cX2_thingsBehind 2 (some .long) 0 0 [.ref (a (r + 11)), .int xz] Bz (fun v u => Bz = u ∧ v = lN (sPl Bz.1 r) - lN 1 - xz.toInt64) := by
  refine ent_of (by decide) (Nat.le_of_ble_eq_true rfl) ?_
  intro p e s m below meth c ls C h hS hret hlk hl
  have C : Cx p s m _ c cX2_thingsBehind RX2 2 G := C
  have hx := C.1
  have hb := C.2.1
  have hl : lv_has ls 2 [(0, .ref (a (r + 11))), (1, .int xz)] := hl
  refine lv_aload_n hx hb dX2_thingsBehind_0 rfl (lv_at hl 0 rfl) ?_
  refine fg_X2_94 C h (by first | assumption | omega) dX2_thingsBehind_1 ?_
  refine lv_i2l hx hb dX2_thingsBehind_4 rfl ?_
  refine lw_tl (nI_l (by omega)) ?_
  refine lv_lconst (v := lN 1) hx hb dX2_thingsBehind_5 rfl ?_
  refine lv_lsub hx hb dX2_thingsBehind_6 ?_
  refine lv_iload_n hx hb dX2_thingsBehind_7 rfl (lv_at hl 1 rfl) ?_
  refine lv_i2l hx hb dX2_thingsBehind_8 rfl ?_
  refine lv_lsub hx hb dX2_thingsBehind_9 ?_
  exact eL C hret hlk (Bz) h hS (⟨rfl, rfl⟩) dX2_thingsBehind_10

set_option maxHeartbeats 4000000 in
set_option maxRecDepth 100000 in
theorem c_keepCells (l : Launch) (G : Gx) (a : Nat → Nat) (Bz : BS) (r : Nat) (hr : r < 8) : CtV l G 35 a (EB G a) yX1_keepCells cX1_keepCells 1 none 1 40 [.ref (a (r + 11))] Bz (fun u => u = (Bz.1, va_up Bz.2 r (va_cpy (sCe Bz.1 r) (Bz.2 r) 0 0 40))) := by
  refine ent_of (by decide) (Nat.le_of_ble_eq_true rfl) ?_
  intro p e s m below meth c ls C h hS hret hlk hl
  have C : Cx p s m _ c cX1_keepCells RX1 1 G := C
  have hx := C.1
  have hb := C.2.1
  have hl : lv_has ls 1 [(0, .ref (a (r + 11)))] := hl
  refine lv_aload_n hx hb dX1_keepCells_0 rfl (lv_at hl 0 rfl) ?_
  refine fg_X1_9 C h (by first | assumption | omega) dX1_keepCells_1 ?_
  refine lv_iconst (v := nI 0) hx hb dX1_keepCells_4 (by decide) ?_
  refine lv_aload_n hx hb dX1_keepCells_5 rfl (lv_at hl 0 rfl) ?_
  refine fg_X1_15 C h (by first | assumption | omega) dX1_keepCells_6 ?_
  refine lv_iconst (v := nI 0) hx hb dX1_keepCells_9 (by decide) ?_
  refine lv_bipush (v := nI 40) hx hb dX1_keepCells_10 (by decide) ?_
  refine cp_keep C hl.1 h hS (by first | assumption | omega) (Nat.le_of_ble_eq_true rfl) (Nat.le_of_ble_eq_true rfl) dX1_keepCells_12 (fun H locs h hS => ?_)
  exact eV C hret hlk ((Bz.1, va_up Bz.2 r (va_cpy (sCe Bz.1 r) (Bz.2 r) 0 0 40))) h hS (rfl) dX1_keepCells_15

set_option maxHeartbeats 4000000 in
set_option maxRecDepth 100000 in
theorem c_restoreCells (l : Launch) (G : Gx) (a : Nat → Nat) (Bz : BS) (r : Nat) (hr : r < 8) : CtV l G 35 a (EB G a) yX1_restoreCells cX1_restoreCells 1 none 1 40 [.ref (a (r + 11))] Bz (fun u => u = (uCe Bz.1 (va_up (sCe Bz.1) r (va_cpy (Bz.2 r) (sCe Bz.1 r) 0 0 40)), Bz.2)) := by
  refine ent_of (by decide) (Nat.le_of_ble_eq_true rfl) ?_
  intro p e s m below meth c ls C h hS hret hlk hl
  have C : Cx p s m _ c cX1_restoreCells RX1 1 G := C
  have hx := C.1
  have hb := C.2.1
  have hl : lv_has ls 1 [(0, .ref (a (r + 11)))] := hl
  refine lv_aload_n hx hb dX1_restoreCells_0 rfl (lv_at hl 0 rfl) ?_
  refine fg_X1_15 C h (by first | assumption | omega) dX1_restoreCells_1 ?_
  refine lv_iconst (v := nI 0) hx hb dX1_restoreCells_4 (by decide) ?_
  refine lv_aload_n hx hb dX1_restoreCells_5 rfl (lv_at hl 0 rfl) ?_
  refine fg_X1_9 C h (by first | assumption | omega) dX1_restoreCells_6 ?_
  refine lv_iconst (v := nI 0) hx hb dX1_restoreCells_9 (by decide) ?_
  refine lv_bipush (v := nI 40) hx hb dX1_restoreCells_10 (by decide) ?_
  refine cp_back C hl.1 h hS (by first | assumption | omega) (Nat.le_of_ble_eq_true rfl) (Nat.le_of_ble_eq_true rfl) dX1_restoreCells_12 (fun H locs h hS => ?_)
  exact eV C hret hlk ((uCe Bz.1 (va_up (sCe Bz.1) r (va_cpy (Bz.2 r) (sCe Bz.1 r) 0 0 40)), Bz.2)) h hS (rfl) dX1_restoreCells_15
end
section
set_option maxHeartbeats 4000000 in
set_option maxRecDepth 100000 in
theorem c_fitted1 (l : Launch) (G : Gx) (a : Nat → Nat) (Bz : BS) (vz : Int64) : CtL l G 35 a (EB G a) yX2_fitted cX2_fitted 3 (some .long) 0 0 [.int (nI 1), .long vz] Bz (fun v u => Bz = u ∧ v = fit 1 vz) := by
  refine ent_of (by decide) (Nat.le_of_ble_eq_true rfl) ?_
  intro p e s m below meth c ls C h hS hret hlk hl
  have C : Cx p s m _ c cX2_fitted RX2 3 G := C
  have hx := C.1
  have hb := C.2.1
  have hl : lv_has ls 3 [(0, .int (nI 1)), (1, .long vz)] := hl
  refine lv_iload_n hx hb dX2_fitted_0 rfl (lv_at hl 0 rfl) ?_
  refine lv_tableIn (off := 39) (tgt := 40) hx hb dX2_fitted_1 (by decide) (by decide) (by decide) (by decide) ?_
  refine lv_lload_n hx hb dX2_fitted_40 rfl (lv_at hl 1 rfl) ?_
  refine lv_l2i hx hb dX2_fitted_41 rfl ?_
  refine lv_i2b hx hb dX2_fitted_42 rfl ?_
  refine lv_i2l hx hb dX2_fitted_43 rfl ?_
  exact eL C hret hlk (Bz) h hS (⟨rfl, rfl⟩) dX2_fitted_44

set_option maxHeartbeats 4000000 in
set_option maxRecDepth 100000 in
theorem c_fitted2 (l : Launch) (G : Gx) (a : Nat → Nat) (Bz : BS) (vz : Int64) : CtL l G 35 a (EB G a) yX2_fitted cX2_fitted 3 (some .long) 0 0 [.int (nI 2), .long vz] Bz (fun v u => Bz = u ∧ v = fit 2 vz) := by
  refine ent_of (by decide) (Nat.le_of_ble_eq_true rfl) ?_
  intro p e s m below meth c ls C h hS hret hlk hl
  have C : Cx p s m _ c cX2_fitted RX2 3 G := C
  have hx := C.1
  have hb := C.2.1
  have hl : lv_has ls 3 [(0, .int (nI 2)), (1, .long vz)] := hl
  refine lv_iload_n hx hb dX2_fitted_0 rfl (lv_at hl 0 rfl) ?_
  refine lv_tableIn (off := 44) (tgt := 45) hx hb dX2_fitted_1 (by decide) (by decide) (by decide) (by decide) ?_
  refine lv_lload_n hx hb dX2_fitted_45 rfl (lv_at hl 1 rfl) ?_
  refine lv_l2i hx hb dX2_fitted_46 rfl ?_
  refine lv_i2s hx hb dX2_fitted_47 rfl ?_
  refine lv_i2l hx hb dX2_fitted_48 rfl ?_
  exact eL C hret hlk (Bz) h hS (⟨rfl, rfl⟩) dX2_fitted_49

set_option maxHeartbeats 4000000 in
set_option maxRecDepth 100000 in
theorem c_fitted3 (l : Launch) (G : Gx) (a : Nat → Nat) (Bz : BS) (vz : Int64) : CtL l G 35 a (EB G a) yX2_fitted cX2_fitted 3 (some .long) 0 0 [.int (nI 3), .long vz] Bz (fun v u => Bz = u ∧ v = fit 3 vz) := by
  refine ent_of (by decide) (Nat.le_of_ble_eq_true rfl) ?_
  intro p e s m below meth c ls C h hS hret hlk hl
  have C : Cx p s m _ c cX2_fitted RX2 3 G := C
  have hx := C.1
  have hb := C.2.1
  have hl : lv_has ls 3 [(0, .int (nI 3)), (1, .long vz)] := hl
  refine lv_iload_n hx hb dX2_fitted_0 rfl (lv_at hl 0 rfl) ?_
  refine lv_tableIn (off := 49) (tgt := 50) hx hb dX2_fitted_1 (by decide) (by decide) (by decide) (by decide) ?_
  refine lv_lload_n hx hb dX2_fitted_50 rfl (lv_at hl 1 rfl) ?_
  refine lv_l2i hx hb dX2_fitted_51 rfl ?_
  refine lv_i2c hx hb dX2_fitted_52 rfl ?_
  refine lv_i2l hx hb dX2_fitted_53 rfl ?_
  exact eL C hret hlk (Bz) h hS (⟨rfl, rfl⟩) dX2_fitted_54

set_option maxHeartbeats 4000000 in
set_option maxRecDepth 100000 in
theorem c_fitted4 (l : Launch) (G : Gx) (a : Nat → Nat) (Bz : BS) (vz : Int64) : CtL l G 35 a (EB G a) yX2_fitted cX2_fitted 3 (some .long) 0 0 [.int (nI 4), .long vz] Bz (fun v u => Bz = u ∧ v = fit 4 vz) := by
  refine ent_of (by decide) (Nat.le_of_ble_eq_true rfl) ?_
  intro p e s m below meth c ls C h hS hret hlk hl
  have C : Cx p s m _ c cX2_fitted RX2 3 G := C
  have hx := C.1
  have hb := C.2.1
  have hl : lv_has ls 3 [(0, .int (nI 4)), (1, .long vz)] := hl
  refine lv_iload_n hx hb dX2_fitted_0 rfl (lv_at hl 0 rfl) ?_
  refine lv_tableIn (off := 54) (tgt := 55) hx hb dX2_fitted_1 (by decide) (by decide) (by decide) (by decide) ?_
  refine lv_lload_n hx hb dX2_fitted_55 rfl (lv_at hl 1 rfl) ?_
  refine lv_l2i hx hb dX2_fitted_56 rfl ?_
  refine lv_i2l hx hb dX2_fitted_57 rfl ?_
  exact eL C hret hlk (Bz) h hS (⟨rfl, rfl⟩) dX2_fitted_58

set_option maxHeartbeats 4000000 in
set_option maxRecDepth 100000 in
theorem c_fitted5 (l : Launch) (G : Gx) (a : Nat → Nat) (Bz : BS) (vz : Int64) : CtL l G 35 a (EB G a) yX2_fitted cX2_fitted 3 (some .long) 0 0 [.int (nI 5), .long vz] Bz (fun v u => Bz = u ∧ v = fit 5 vz) := by
  refine ent_of (by decide) (Nat.le_of_ble_eq_true rfl) ?_
  intro p e s m below meth c ls C h hS hret hlk hl
  have C : Cx p s m _ c cX2_fitted RX2 3 G := C
  have hx := C.1
  have hb := C.2.1
  have hl : lv_has ls 3 [(0, .int (nI 5)), (1, .long vz)] := hl
  refine lv_iload_n hx hb dX2_fitted_0 rfl (lv_at hl 0 rfl) ?_
  refine lv_tableIn (off := 70) (tgt := 71) hx hb dX2_fitted_1 (by decide) (by decide) (by decide) (by decide) ?_
  refine lv_lload_n hx hb dX2_fitted_71 rfl (lv_at hl 1 rfl) ?_
  exact eL C hret hlk (Bz) h hS (⟨rfl, rfl⟩) dX2_fitted_72

set_option maxHeartbeats 4000000 in
set_option maxRecDepth 100000 in
theorem c_fitted6 (l : Launch) (G : Gx) (a : Nat → Nat) (Bz : BS) (vz : Int64) : CtL l G 35 a (EB G a) yX2_fitted cX2_fitted 3 (some .long) 0 0 [.int (nI 6), .long vz] Bz (fun v u => Bz = u ∧ v = fit 6 vz) := by
  refine ent_of (by decide) (Nat.le_of_ble_eq_true rfl) ?_
  intro p e s m below meth c ls C h hS hret hlk hl
  have C : Cx p s m _ c cX2_fitted RX2 3 G := C
  have hx := C.1
  have hb := C.2.1
  have hl : lv_has ls 3 [(0, .int (nI 6)), (1, .long vz)] := hl
  refine lv_iload_n hx hb dX2_fitted_0 rfl (lv_at hl 0 rfl) ?_
  refine lv_tableIn (off := 58) (tgt := 59) hx hb dX2_fitted_1 (by decide) (by decide) (by decide) (by decide) ?_
  refine lv_lload_n hx hb dX2_fitted_59 rfl (lv_at hl 1 rfl) ?_
  refine lv_lconst (v := lN 0) hx hb dX2_fitted_60 rfl ?_
  refine W.lcmp hx hb dX2_fitted_61 ?_
  refine lv_if_ne (tgt := 69) hx hb dX2_fitted_62 (by decide) (fun c62 => ?_) (fun c62 => ?_)
  · have c62 : ¬ vz = (lN 0) := fun q => c62 ((lg_cmp_eq _ _).mpr q)
    refine lv_lconst (v := lN 1) hx hb dX2_fitted_69 rfl ?_
    exact eL C hret hlk (Bz) h hS (⟨rfl, (if_neg c62).symm⟩) dX2_fitted_70
  · have c62 : vz = (lN 0) := (lg_cmp_eq _ _).mp c62
    refine lv_lconst (v := lN 0) hx hb dX2_fitted_65 rfl ?_
    refine lv_goto (tgt := 70) hx hb dX2_fitted_66 (by decide) ?_
    exact eL C hret hlk (Bz) h hS (⟨rfl, (if_pos c62).symm⟩) dX2_fitted_70

set_option maxHeartbeats 4000000 in
set_option maxRecDepth 100000 in
theorem c_fitted7 (l : Launch) (G : Gx) (a : Nat → Nat) (Bz : BS) (vz : Int64) : CtL l G 35 a (EB G a) yX2_fitted cX2_fitted 3 (some .long) 0 0 [.int (nI 7), .long vz] Bz (fun v u => Bz = u ∧ v = fit 7 vz) := by
  refine ent_of (by decide) (Nat.le_of_ble_eq_true rfl) ?_
  intro p e s m below meth c ls C h hS hret hlk hl
  have C : Cx p s m _ c cX2_fitted RX2 3 G := C
  have hx := C.1
  have hb := C.2.1
  have hl : lv_has ls 3 [(0, .int (nI 7)), (1, .long vz)] := hl
  refine lv_iload_n hx hb dX2_fitted_0 rfl (lv_at hl 0 rfl) ?_
  refine lv_tableOut (tgt := 71) hx hb dX2_fitted_1 (by decide) (by decide) ?_
  refine lv_lload_n hx hb dX2_fitted_71 rfl (lv_at hl 1 rfl) ?_
  exact eL C hret hlk (Bz) h hS (⟨rfl, rfl⟩) dX2_fitted_72

set_option maxHeartbeats 4000000 in
set_option maxRecDepth 100000 in
theorem c_fitted8 (l : Launch) (G : Gx) (a : Nat → Nat) (Bz : BS) (vz : Int64) : CtL l G 35 a (EB G a) yX2_fitted cX2_fitted 3 (some .long) 0 0 [.int (nI 8), .long vz] Bz (fun v u => Bz = u ∧ v = fit 8 vz) := by
  refine ent_of (by decide) (Nat.le_of_ble_eq_true rfl) ?_
  intro p e s m below meth c ls C h hS hret hlk hl
  have C : Cx p s m _ c cX2_fitted RX2 3 G := C
  have hx := C.1
  have hb := C.2.1
  have hl : lv_has ls 3 [(0, .int (nI 8)), (1, .long vz)] := hl
  refine lv_iload_n hx hb dX2_fitted_0 rfl (lv_at hl 0 rfl) ?_
  refine lv_tableOut (tgt := 71) hx hb dX2_fitted_1 (by decide) (by decide) ?_
  refine lv_lload_n hx hb dX2_fitted_71 rfl (lv_at hl 1 rfl) ?_
  exact eL C hret hlk (Bz) h hS (⟨rfl, rfl⟩) dX2_fitted_72

theorem c_fitted (l : Launch) (G : Gx) (a : Nat → Nat) (Bz : BS) (k : Nat) (h1 : 1 ≤ k) (h8 : k ≤ 8) (vz : Int64) : CtL l G 35 a (EB G a) yX2_fitted cX2_fitted 3 (some .long) 0 0 [.int (nI k), .long vz] Bz (fun v u => Bz = u ∧ v = fit k vz) := by
  match k, h1, h8 with
  | 1, _, _ => exact c_fitted1 l G a Bz vz
  | 2, _, _ => exact c_fitted2 l G a Bz vz
  | 3, _, _ => exact c_fitted3 l G a Bz vz
  | 4, _, _ => exact c_fitted4 l G a Bz vz
  | 5, _, _ => exact c_fitted5 l G a Bz vz
  | 6, _, _ => exact c_fitted6 l G a Bz vz
  | 7, _, _ => exact c_fitted7 l G a Bz vz
  | 8, _, _ => exact c_fitted8 l G a Bz vz

theorem va_up_id {α : Type} (f : Nat → α) (k : Nat) : va_up f k (f k) = f := by
  funext j
  by_cases h : j = k
  · rw [h, va_up_self]
  · rw [va_up_ne _ _ h]

set_option maxHeartbeats 4000000 in
set_option maxRecDepth 100000 in
theorem c_hold (l : Launch) (G : Gx) (a : Nat → Nat) (Bz : BS) (r : Nat) (hr : r < 8) (k nz : Nat) (hk : k ≤ 9) (hnz : nz ≤ 40) : CtV l G 35 a (EB G a) yX1_hold cX1_hold 4 none 2 40 [.ref (a (r + 11)), .int (nI k), .int (nI nz)] Bz (fun u => (holdS Bz.1 r k nz, Bz.2) = u) := by
  refine ent_of (by decide) (Nat.le_of_ble_eq_true rfl) ?_
  intro p e s m below meth c ls C h hS hret hlk hl
  have C : Cx p s m _ c cX1_hold RX1 4 G := C
  have hx := C.1
  have hb := C.2.1
  have hl : lv_has ls 4 [(0, .ref (a (r + 11))), (1, .int (nI k)), (2, .int (nI nz))] := hl
  have lp : ∀ (n : Nat) (j : Nat) (g : Nat → Int64) (H : Heap) (locs : List Loc) (ls : Array Slot), (j ≤ 40) → (40 < j + n) → (∀ t, t < j → g t = blk k) →  HW G.1 35 a (EB G a ((uCe (uPl (uKd Bz.1 (va_up (sKd Bz.1) r k)) (va_up (sPl Bz.1) r nz)) (va_up (sCe Bz.1) r g), Bz.2))) H → va_S (Aw 35 a) s.heap H locs → lv_has ls 4 [(0, .ref (a (r + 11))), (1, .int (nI k)), (2, .int (nI nz)), (3, .int (nI j))] → W p l e (rmB 2 40) s m ([.ref (a (r + 11)), .int (nI k), .int (nI nz)].toArray) below meth c H locs 0 0 (MQ below (va_Qv (fun u => (holdS Bz.1 r k nz, Bz.2) = u) (fun u t => HW G.1 35 a (EB G a u) t.heap) (Aw 35 a)) ([.ref (a (r + 11)), .int (nI k), .int (nI nz)].toArray) s 0 0 (Aw 35 a)) (F0 m 12 ls []) := by
    intro n
    induction n with
    | zero =>
      intro j g H locs ls hj hn hg
      exact absurd hn (by omega)
    | succ n ih =>
      intro j g H locs ls hj hn hg h hS hl
      refine lv_iload_n hx hb dX1_hold_12 rfl (lv_at hl 3 rfl) ?_
      refine lv_bipush (v := nI 40) hx hb dX1_hold_13 (by decide) ?_
      refine lv_icmp_ge (tgt := 34) hx hb dX1_hold_15 (by decide) (fun c15 => ?_) (fun c15 => ?_)
      · skip
        have hj40 : j = 40 := by rw [nI_leI (by omega) (by omega)] at c15; omega
        subst hj40
        exact eV C hret hlk (holdS Bz.1 r k nz, Bz.2) (HB_eq h ⟨fun _ _ => ⟨rfl, rfl⟩, fun t q _ hq => by show va_up (sCe Bz.1) r g t q = va_up (sCe Bz.1) r (fun _ => blk k) t q; by_cases ht : t = r; (rw [ht, va_up_self, va_up_self]; exact hg q hq); (rw [va_up_ne _ _ ht, va_up_ne _ _ ht]), fun _ _ _ _ => rfl, rfl, fun _ _ => rfl, fun _ _ => rfl, rfl, fun _ _ _ _ => rfl, rfl, fun _ _ => rfl, rfl⟩) hS rfl dX1_hold_34
      · skip
        have hj40 : j < 40 := by rw [nI_leI (by omega) (by omega)] at c15; omega
        refine lv_aload_n hx hb dX1_hold_18 rfl (lv_at hl 0 rfl) ?_
        refine fg_X1_9 C h (by first | assumption | omega) dX1_hold_19 ?_
        refine lv_iload_n hx hb dX1_hold_22 rfl (lv_at hl 3 rfl) ?_
        refine lv_iload_n hx hb dX1_hold_23 rfl (lv_at hl 1 rfl) ?_
        refine kL (rSN (As := [.int (nI k)]) (rest := [.int (nI j), .ref (a (r + 19))]) C h lk_X1_25 (c_blank l G a _ k hk) ⟨Nat.le_of_ble_eq_true rfl, Nat.le_of_ble_eq_true rfl⟩ hl.1 rfl rfl (Nat.le_of_ble_eq_true rfl) dX1_hold_24 ⟨Nat.zero_le _, Nat.zero_le _⟩) hS (fun rv u H locs hp h hS => ?_)
        obtain ⟨rfl, rfl⟩ := hp
        refine as_ce C h hS (by first | assumption | omega) (by first | assumption | omega) dX1_hold_27 (fun H locs h hS => ?_)
        refine lv_iinc (v := nI (j + 1)) (lv' := [(3, .int (nI (j + 1))), (0, .ref (a (r + 11))), (1, .int (nI k)), (2, .int (nI nz))]) hx hb dX1_hold_28 hl (k := 3) rfl (nI_1 j) (by decide) rfl (fun ls hl => ?_)
        refine lv_goto (tgt := 12) hx hb dX1_hold_31 (by decide) ?_
        exact ih (j + 1) (vp_updL g j (blk k)) _ _ _ (by omega) (by omega) (fun t ht => by by_cases hh : t = j <;> simp [vp_updL, hh]; exact hg t (by omega)) (by simpa only [sKd, sPl, sCe, sNb, sCo, sPe, sNs, sPt, sCm, sMv, sWv, uKd, uPl, uCe, uNb, uCo, uPe, uNs, uPt, uCm, uMv, uWv, bx_uu, va_up_self, va_up_id] using h) hS (lv_sub hl [1, 2, 3, 0] rfl)
  refine lv_aload_n hx hb dX1_hold_0 rfl (lv_at hl 0 rfl) ?_
  refine lv_iload_n hx hb dX1_hold_1 rfl (lv_at hl 1 rfl) ?_
  refine fp_X1_18 C h hS (by first | assumption | omega) dX1_hold_2 (fun H locs h hS => ?_)
  refine lv_aload_n hx hb dX1_hold_5 rfl (lv_at hl 0 rfl) ?_
  refine lv_iload_n hx hb dX1_hold_6 rfl (lv_at hl 2 rfl) ?_
  refine fp_X1_22 C h hS (by first | assumption | omega) dX1_hold_7 (fun H locs h hS => ?_)
  refine lv_iconst (v := nI 0) hx hb dX1_hold_10 (by decide) ?_
  refine lv_istore_n (lv' := [(3, .int (nI 0)), (0, .ref (a (r + 11))), (1, .int (nI k)), (2, .int (nI nz))]) hx hb dX1_hold_11 rfl hl (by decide) rfl (fun ls hl => ?_)
  exact lp 41 0 (sCe Bz.1 r) _ _ _ (by omega) (by omega) (fun t ht => absurd ht (by omega)) (by simpa only [sKd, sPl, sCe, sNb, sCo, sPe, sNs, sPt, sCm, sMv, sWv, uKd, uPl, uCe, uNb, uCo, uPe, uNs, uPt, uCm, uMv, uWv, bx_uu, va_up_self, va_up_id] using h) hS (lv_sub hl [1, 2, 3, 0] rfl)


set_option maxHeartbeats 4000000 in
set_option maxRecDepth 100000 in
theorem c_rowAt (l : Launch) (G : Gx) (a : Nat → Nat) (Bz : BS) (hI : Inv Bz.1) (xz : Int32) : CtQ l G 35 a (EB G a) yX2_rowAt cX2_rowAt 3 (some (.object "BeadLoom$Rack")) 1 21 [.ref (a 0), .int xz] Bz (fun o u => Bz = u ∧ ((row Bz.1 xz = none ∧ o = none) ∨ ∃ r, r < 8 ∧ xz = nI r ∧ row Bz.1 xz = some r ∧ ¬ sKd Bz.1 r = 0 ∧ ¬ sKd Bz.1 r = 9 ∧ o = some (a (r + 11)))) := by
  refine ent_of (by decide) (Nat.le_of_ble_eq_true rfl) ?_
  intro p e s m below meth c ls C h hS hret hlk hl
  have C : Cx p s m _ c cX2_rowAt RX2 3 G := C
  have hx := C.1
  have hb := C.2.1
  have hl : lv_has ls 3 [(0, .ref (a 0)), (1, .int xz)] := hl
  refine lv_aload_n hx hb dX2_rowAt_0 rfl (lv_at hl 0 rfl) ?_
  refine lv_iload_n hx hb dX2_rowAt_1 rfl (lv_at hl 1 rfl) ?_
  refine kQ (rV (As := [.int xz]) (rest := []) C h lk_X2_44 0 (by decide) rfl rfl rfl (c_rackAt l G a _ xz) ⟨Nat.le_of_ble_eq_true rfl, Nat.le_of_ble_eq_true rfl⟩ hl.1 rfl rfl (Nat.le_of_ble_eq_true rfl) dX2_rowAt_2 ⟨Nat.zero_le _, Nat.zero_le _⟩) hS (fun rv u H locs hp h hS => ?_)
  obtain ⟨rfl, ⟨hrk, rfl⟩ | ⟨r, hr, rfl, hrk, rfl⟩⟩ := hp
  · skip
    refine lv_astore_nN (lv' := [(2, .null), (0, .ref (a 0)), (1, .int xz)]) hx hb dX2_rowAt_5 rfl hl (by decide) rfl (fun ls hl => ?_)
    refine lv_aload_nN hx hb dX2_rowAt_6 rfl (lv_at hl 0 rfl) ?_
    refine lv_ifnullN (tgt := 21) hx hb dX2_rowAt_7 (by decide) ?_
    refine lv_null hx hb dX2_rowAt_21 ?_
    exact eQ (none) C hret hlk (Bz) h hS (⟨rfl, Or.inl ⟨by simp [row, hrk], rfl⟩⟩) dX2_rowAt_22
  · skip
    refine lv_astore_n (lv' := [(2, .ref (a (r + 11))), (0, .ref (a 0)), (1, .int (nI r))]) hx hb dX2_rowAt_5 rfl hl (by decide) rfl (fun ls hl => ?_)
    refine lv_aload_n hx hb dX2_rowAt_6 rfl (lv_at hl 0 rfl) ?_
    refine lv_ifnull hx hb dX2_rowAt_7 ?_
    refine lv_aload_n hx hb dX2_rowAt_10 rfl (lv_at hl 0 rfl) ?_
    refine kI (rVN (As := []) (rest := []) C h lk_X2_134 (r + 11) (by omega) (EB_r _ _ _ (by first | assumption | omega)) rfl rfl (c_hasRow l G a _ r hr (hI.1 r hr).1) ⟨Nat.le_of_ble_eq_true rfl, Nat.le_of_ble_eq_true rfl⟩ hl.1 rfl rfl (Nat.le_of_ble_eq_true rfl) dX2_rowAt_11 ⟨Nat.zero_le _, Nat.zero_le _⟩) hS (fun rv u H locs hp h hS => ?_)
    obtain ⟨rfl, rfl⟩ := hp
    by_cases hP : ¬ (sKd Bz.1 r = 0 ∨ sKd Bz.1 r = 9)
    · refine lw_ti (b2i_t hP) ?_
      refine lv_if_eq (tgt := 21) hx hb dX2_rowAt_14 (by decide) (fun c0 => absurd c0 (by decide)) (fun _ => ?_)
      refine lv_aload_n hx hb dX2_rowAt_17 rfl (lv_at hl 0 rfl) ?_
      refine lv_goto (tgt := 22) hx hb dX2_rowAt_18 (by decide) ?_
      exact eQ (some (a (r + 11))) C hret hlk (Bz) h hS (⟨rfl, Or.inr ⟨r, hr, rfl, by simp [row, hrk, hP], fun q => hP (Or.inl q), fun q => hP (Or.inr q), rfl⟩⟩) dX2_rowAt_22
    · refine lw_ti (b2i_f hP) ?_
      refine lv_if_eq (tgt := 21) hx hb dX2_rowAt_14 (by decide) (fun _ => ?_) (fun c0 => absurd c0 (by decide))
      refine lv_null hx hb dX2_rowAt_21 ?_
      exact eQ (none) C hret hlk (Bz) h hS (⟨rfl, Or.inl ⟨by simp [row, hrk, Classical.not_not.mp hP], rfl⟩⟩) dX2_rowAt_22

set_option maxHeartbeats 4000000 in
set_option maxRecDepth 100000 in
theorem c_append (l : Launch) (G : Gx) (a : Nat → Nat) (Bz : BS) (hk : sNs Bz.1 < 24) (x0 x1 x2 x3 x4 : Int32) : CtV l G 35 a (EB G a) yX0_append cX0_append 6 none 1 20 [.ref (a 4), .int x0, .int x1, .int x2, .int x3, .int x4] Bz (fun u => (appS Bz.1 x0 x1 x2 x3 x4, Bz.2) = u) := by
  refine ent_of (by decide) (Nat.le_of_ble_eq_true rfl) ?_
  intro p e s m below meth c ls C h hS hret hlk hl
  have C : Cx p s m _ c cX0_append RX0 6 G := C
  have hx := C.1
  have hb := C.2.1
  have hl : lv_has ls 6 [(0, .ref (a 4)), (1, .int x0), (2, .int x1), (3, .int x2), (4, .int x3), (5, .int x4)] := hl
  refine lv_aload_n hx hb dX0_append_0 rfl (lv_at hl 0 rfl) ?_
  refine kI (rV (As := []) (rest := []) C h lk_X0_31 4 (by decide) rfl rfl rfl (c_isFull l G a _ (by omega)) ⟨Nat.le_of_ble_eq_true rfl, Nat.le_of_ble_eq_true rfl⟩ hl.1 rfl rfl (Nat.le_of_ble_eq_true rfl) dX0_append_1 ⟨Nat.zero_le _, Nat.zero_le _⟩) hS (fun rv u H locs hp h hS => ?_)
  obtain ⟨rfl, rfl⟩ := hp
  refine lw_ti (b2i_f (by omega)) ?_
  refine lv_if_eq (tgt := 8) hx hb dX0_append_4 (by decide) (fun _ => ?_) (fun c0 => absurd c0 (by decide))
  refine lv_aload_n hx hb dX0_append_8 rfl (lv_at hl 0 rfl) ?_
  refine fg_X0_9 C h dX0_append_9 ?_
  refine lv_aload_n hx hb dX0_append_12 rfl (lv_at hl 0 rfl) ?_
  refine fg_X0_27 C h dX0_append_13 ?_
  refine lv_iload_n hx hb dX0_append_16 rfl (lv_at hl 1 rfl) ?_
  refine as_pt0 C h hS (by first | assumption | omega) dX0_append_17 (fun H locs h hS => ?_)
  refine lv_aload_n hx hb dX0_append_18 rfl (lv_at hl 0 rfl) ?_
  refine fg_X0_15 C h dX0_append_19 ?_
  refine lv_aload_n hx hb dX0_append_22 rfl (lv_at hl 0 rfl) ?_
  refine fg_X0_27 C h dX0_append_23 ?_
  refine lw_ti (show (nI (sNs ((uPt Bz.1 (va_up (sPt Bz.1) 0 (upd (sPt Bz.1 0) (sNs Bz.1) x0)), Bz.2)).1) : Int32) = nI ((sNs Bz.1)) from rfl) ?_
  refine lv_iload_n hx hb dX0_append_26 rfl (lv_at hl 2 rfl) ?_
  refine as_pt1 C h hS (by first | assumption | omega) dX0_append_27 (fun H locs h hS => ?_)
  refine lv_aload_n hx hb dX0_append_28 rfl (lv_at hl 0 rfl) ?_
  refine fg_X0_18 C h dX0_append_29 ?_
  refine lv_aload_n hx hb dX0_append_32 rfl (lv_at hl 0 rfl) ?_
  refine fg_X0_27 C h dX0_append_33 ?_
  refine lw_ti (show (nI (sNs ((uPt ((uPt Bz.1 (va_up (sPt Bz.1) 0 (upd (sPt Bz.1 0) (sNs Bz.1) x0)), Bz.2)).1 (va_up (sPt ((uPt Bz.1 (va_up (sPt Bz.1) 0 (upd (sPt Bz.1 0) (sNs Bz.1) x0)), Bz.2)).1) 1 (upd (sPt ((uPt Bz.1 (va_up (sPt Bz.1) 0 (upd (sPt Bz.1 0) (sNs Bz.1) x0)), Bz.2)).1 1) ((sNs Bz.1)) x1)), ((uPt Bz.1 (va_up (sPt Bz.1) 0 (upd (sPt Bz.1 0) (sNs Bz.1) x0)), Bz.2)).2)).1) : Int32) = nI ((sNs Bz.1)) from rfl) ?_
  refine lv_iload_n hx hb dX0_append_36 rfl (lv_at hl 3 rfl) ?_
  refine as_pt2 C h hS (by first | assumption | omega) dX0_append_37 (fun H locs h hS => ?_)
  refine lv_aload_n hx hb dX0_append_38 rfl (lv_at hl 0 rfl) ?_
  refine fg_X0_21 C h dX0_append_39 ?_
  refine lv_aload_n hx hb dX0_append_42 rfl (lv_at hl 0 rfl) ?_
  refine fg_X0_27 C h dX0_append_43 ?_
  refine lw_ti (show (nI (sNs ((uPt ((uPt ((uPt Bz.1 (va_up (sPt Bz.1) 0 (upd (sPt Bz.1 0) (sNs Bz.1) x0)), Bz.2)).1 (va_up (sPt ((uPt Bz.1 (va_up (sPt Bz.1) 0 (upd (sPt Bz.1 0) (sNs Bz.1) x0)), Bz.2)).1) 1 (upd (sPt ((uPt Bz.1 (va_up (sPt Bz.1) 0 (upd (sPt Bz.1 0) (sNs Bz.1) x0)), Bz.2)).1 1) ((sNs Bz.1)) x1)), ((uPt Bz.1 (va_up (sPt Bz.1) 0 (upd (sPt Bz.1 0) (sNs Bz.1) x0)), Bz.2)).2)).1 (va_up (sPt ((uPt ((uPt Bz.1 (va_up (sPt Bz.1) 0 (upd (sPt Bz.1 0) (sNs Bz.1) x0)), Bz.2)).1 (va_up (sPt ((uPt Bz.1 (va_up (sPt Bz.1) 0 (upd (sPt Bz.1 0) (sNs Bz.1) x0)), Bz.2)).1) 1 (upd (sPt ((uPt Bz.1 (va_up (sPt Bz.1) 0 (upd (sPt Bz.1 0) (sNs Bz.1) x0)), Bz.2)).1 1) ((sNs Bz.1)) x1)), ((uPt Bz.1 (va_up (sPt Bz.1) 0 (upd (sPt Bz.1 0) (sNs Bz.1) x0)), Bz.2)).2)).1) 2 (upd (sPt ((uPt ((uPt Bz.1 (va_up (sPt Bz.1) 0 (upd (sPt Bz.1 0) (sNs Bz.1) x0)), Bz.2)).1 (va_up (sPt ((uPt Bz.1 (va_up (sPt Bz.1) 0 (upd (sPt Bz.1 0) (sNs Bz.1) x0)), Bz.2)).1) 1 (upd (sPt ((uPt Bz.1 (va_up (sPt Bz.1) 0 (upd (sPt Bz.1 0) (sNs Bz.1) x0)), Bz.2)).1 1) ((sNs Bz.1)) x1)), ((uPt Bz.1 (va_up (sPt Bz.1) 0 (upd (sPt Bz.1 0) (sNs Bz.1) x0)), Bz.2)).2)).1 2) ((sNs Bz.1)) x2)), ((uPt ((uPt Bz.1 (va_up (sPt Bz.1) 0 (upd (sPt Bz.1 0) (sNs Bz.1) x0)), Bz.2)).1 (va_up (sPt ((uPt Bz.1 (va_up (sPt Bz.1) 0 (upd (sPt Bz.1 0) (sNs Bz.1) x0)), Bz.2)).1) 1 (upd (sPt ((uPt Bz.1 (va_up (sPt Bz.1) 0 (upd (sPt Bz.1 0) (sNs Bz.1) x0)), Bz.2)).1 1) ((sNs Bz.1)) x1)), ((uPt Bz.1 (va_up (sPt Bz.1) 0 (upd (sPt Bz.1 0) (sNs Bz.1) x0)), Bz.2)).2)).2)).1) : Int32) = nI ((sNs Bz.1)) from rfl) ?_
  refine lv_iload hx hb dX0_append_46 (lv_at hl 4 rfl) ?_
  refine as_pt3 C h hS (by first | assumption | omega) dX0_append_48 (fun H locs h hS => ?_)
  refine lv_aload_n hx hb dX0_append_49 rfl (lv_at hl 0 rfl) ?_
  refine fg_X0_24 C h dX0_append_50 ?_
  refine lv_aload_n hx hb dX0_append_53 rfl (lv_at hl 0 rfl) ?_
  refine fg_X0_27 C h dX0_append_54 ?_
  refine lw_ti (show (nI (sNs ((uPt ((uPt ((uPt ((uPt Bz.1 (va_up (sPt Bz.1) 0 (upd (sPt Bz.1 0) (sNs Bz.1) x0)), Bz.2)).1 (va_up (sPt ((uPt Bz.1 (va_up (sPt Bz.1) 0 (upd (sPt Bz.1 0) (sNs Bz.1) x0)), Bz.2)).1) 1 (upd (sPt ((uPt Bz.1 (va_up (sPt Bz.1) 0 (upd (sPt Bz.1 0) (sNs Bz.1) x0)), Bz.2)).1 1) ((sNs Bz.1)) x1)), ((uPt Bz.1 (va_up (sPt Bz.1) 0 (upd (sPt Bz.1 0) (sNs Bz.1) x0)), Bz.2)).2)).1 (va_up (sPt ((uPt ((uPt Bz.1 (va_up (sPt Bz.1) 0 (upd (sPt Bz.1 0) (sNs Bz.1) x0)), Bz.2)).1 (va_up (sPt ((uPt Bz.1 (va_up (sPt Bz.1) 0 (upd (sPt Bz.1 0) (sNs Bz.1) x0)), Bz.2)).1) 1 (upd (sPt ((uPt Bz.1 (va_up (sPt Bz.1) 0 (upd (sPt Bz.1 0) (sNs Bz.1) x0)), Bz.2)).1 1) ((sNs Bz.1)) x1)), ((uPt Bz.1 (va_up (sPt Bz.1) 0 (upd (sPt Bz.1 0) (sNs Bz.1) x0)), Bz.2)).2)).1) 2 (upd (sPt ((uPt ((uPt Bz.1 (va_up (sPt Bz.1) 0 (upd (sPt Bz.1 0) (sNs Bz.1) x0)), Bz.2)).1 (va_up (sPt ((uPt Bz.1 (va_up (sPt Bz.1) 0 (upd (sPt Bz.1 0) (sNs Bz.1) x0)), Bz.2)).1) 1 (upd (sPt ((uPt Bz.1 (va_up (sPt Bz.1) 0 (upd (sPt Bz.1 0) (sNs Bz.1) x0)), Bz.2)).1 1) ((sNs Bz.1)) x1)), ((uPt Bz.1 (va_up (sPt Bz.1) 0 (upd (sPt Bz.1 0) (sNs Bz.1) x0)), Bz.2)).2)).1 2) ((sNs Bz.1)) x2)), ((uPt ((uPt Bz.1 (va_up (sPt Bz.1) 0 (upd (sPt Bz.1 0) (sNs Bz.1) x0)), Bz.2)).1 (va_up (sPt ((uPt Bz.1 (va_up (sPt Bz.1) 0 (upd (sPt Bz.1 0) (sNs Bz.1) x0)), Bz.2)).1) 1 (upd (sPt ((uPt Bz.1 (va_up (sPt Bz.1) 0 (upd (sPt Bz.1 0) (sNs Bz.1) x0)), Bz.2)).1 1) ((sNs Bz.1)) x1)), ((uPt Bz.1 (va_up (sPt Bz.1) 0 (upd (sPt Bz.1 0) (sNs Bz.1) x0)), Bz.2)).2)).2)).1 (va_up (sPt ((uPt ((uPt ((uPt Bz.1 (va_up (sPt Bz.1) 0 (upd (sPt Bz.1 0) (sNs Bz.1) x0)), Bz.2)).1 (va_up (sPt ((uPt Bz.1 (va_up (sPt Bz.1) 0 (upd (sPt Bz.1 0) (sNs Bz.1) x0)), Bz.2)).1) 1 (upd (sPt ((uPt Bz.1 (va_up (sPt Bz.1) 0 (upd (sPt Bz.1 0) (sNs Bz.1) x0)), Bz.2)).1 1) ((sNs Bz.1)) x1)), ((uPt Bz.1 (va_up (sPt Bz.1) 0 (upd (sPt Bz.1 0) (sNs Bz.1) x0)), Bz.2)).2)).1 (va_up (sPt ((uPt ((uPt Bz.1 (va_up (sPt Bz.1) 0 (upd (sPt Bz.1 0) (sNs Bz.1) x0)), Bz.2)).1 (va_up (sPt ((uPt Bz.1 (va_up (sPt Bz.1) 0 (upd (sPt Bz.1 0) (sNs Bz.1) x0)), Bz.2)).1) 1 (upd (sPt ((uPt Bz.1 (va_up (sPt Bz.1) 0 (upd (sPt Bz.1 0) (sNs Bz.1) x0)), Bz.2)).1 1) ((sNs Bz.1)) x1)), ((uPt Bz.1 (va_up (sPt Bz.1) 0 (upd (sPt Bz.1 0) (sNs Bz.1) x0)), Bz.2)).2)).1) 2 (upd (sPt ((uPt ((uPt Bz.1 (va_up (sPt Bz.1) 0 (upd (sPt Bz.1 0) (sNs Bz.1) x0)), Bz.2)).1 (va_up (sPt ((uPt Bz.1 (va_up (sPt Bz.1) 0 (upd (sPt Bz.1 0) (sNs Bz.1) x0)), Bz.2)).1) 1 (upd (sPt ((uPt Bz.1 (va_up (sPt Bz.1) 0 (upd (sPt Bz.1 0) (sNs Bz.1) x0)), Bz.2)).1 1) ((sNs Bz.1)) x1)), ((uPt Bz.1 (va_up (sPt Bz.1) 0 (upd (sPt Bz.1 0) (sNs Bz.1) x0)), Bz.2)).2)).1 2) ((sNs Bz.1)) x2)), ((uPt ((uPt Bz.1 (va_up (sPt Bz.1) 0 (upd (sPt Bz.1 0) (sNs Bz.1) x0)), Bz.2)).1 (va_up (sPt ((uPt Bz.1 (va_up (sPt Bz.1) 0 (upd (sPt Bz.1 0) (sNs Bz.1) x0)), Bz.2)).1) 1 (upd (sPt ((uPt Bz.1 (va_up (sPt Bz.1) 0 (upd (sPt Bz.1 0) (sNs Bz.1) x0)), Bz.2)).1 1) ((sNs Bz.1)) x1)), ((uPt Bz.1 (va_up (sPt Bz.1) 0 (upd (sPt Bz.1 0) (sNs Bz.1) x0)), Bz.2)).2)).2)).1) 3 (upd (sPt ((uPt ((uPt ((uPt Bz.1 (va_up (sPt Bz.1) 0 (upd (sPt Bz.1 0) (sNs Bz.1) x0)), Bz.2)).1 (va_up (sPt ((uPt Bz.1 (va_up (sPt Bz.1) 0 (upd (sPt Bz.1 0) (sNs Bz.1) x0)), Bz.2)).1) 1 (upd (sPt ((uPt Bz.1 (va_up (sPt Bz.1) 0 (upd (sPt Bz.1 0) (sNs Bz.1) x0)), Bz.2)).1 1) ((sNs Bz.1)) x1)), ((uPt Bz.1 (va_up (sPt Bz.1) 0 (upd (sPt Bz.1 0) (sNs Bz.1) x0)), Bz.2)).2)).1 (va_up (sPt ((uPt ((uPt Bz.1 (va_up (sPt Bz.1) 0 (upd (sPt Bz.1 0) (sNs Bz.1) x0)), Bz.2)).1 (va_up (sPt ((uPt Bz.1 (va_up (sPt Bz.1) 0 (upd (sPt Bz.1 0) (sNs Bz.1) x0)), Bz.2)).1) 1 (upd (sPt ((uPt Bz.1 (va_up (sPt Bz.1) 0 (upd (sPt Bz.1 0) (sNs Bz.1) x0)), Bz.2)).1 1) ((sNs Bz.1)) x1)), ((uPt Bz.1 (va_up (sPt Bz.1) 0 (upd (sPt Bz.1 0) (sNs Bz.1) x0)), Bz.2)).2)).1) 2 (upd (sPt ((uPt ((uPt Bz.1 (va_up (sPt Bz.1) 0 (upd (sPt Bz.1 0) (sNs Bz.1) x0)), Bz.2)).1 (va_up (sPt ((uPt Bz.1 (va_up (sPt Bz.1) 0 (upd (sPt Bz.1 0) (sNs Bz.1) x0)), Bz.2)).1) 1 (upd (sPt ((uPt Bz.1 (va_up (sPt Bz.1) 0 (upd (sPt Bz.1 0) (sNs Bz.1) x0)), Bz.2)).1 1) ((sNs Bz.1)) x1)), ((uPt Bz.1 (va_up (sPt Bz.1) 0 (upd (sPt Bz.1 0) (sNs Bz.1) x0)), Bz.2)).2)).1 2) ((sNs Bz.1)) x2)), ((uPt ((uPt Bz.1 (va_up (sPt Bz.1) 0 (upd (sPt Bz.1 0) (sNs Bz.1) x0)), Bz.2)).1 (va_up (sPt ((uPt Bz.1 (va_up (sPt Bz.1) 0 (upd (sPt Bz.1 0) (sNs Bz.1) x0)), Bz.2)).1) 1 (upd (sPt ((uPt Bz.1 (va_up (sPt Bz.1) 0 (upd (sPt Bz.1 0) (sNs Bz.1) x0)), Bz.2)).1 1) ((sNs Bz.1)) x1)), ((uPt Bz.1 (va_up (sPt Bz.1) 0 (upd (sPt Bz.1 0) (sNs Bz.1) x0)), Bz.2)).2)).2)).1 3) ((sNs Bz.1)) x3)), ((uPt ((uPt ((uPt Bz.1 (va_up (sPt Bz.1) 0 (upd (sPt Bz.1 0) (sNs Bz.1) x0)), Bz.2)).1 (va_up (sPt ((uPt Bz.1 (va_up (sPt Bz.1) 0 (upd (sPt Bz.1 0) (sNs Bz.1) x0)), Bz.2)).1) 1 (upd (sPt ((uPt Bz.1 (va_up (sPt Bz.1) 0 (upd (sPt Bz.1 0) (sNs Bz.1) x0)), Bz.2)).1 1) ((sNs Bz.1)) x1)), ((uPt Bz.1 (va_up (sPt Bz.1) 0 (upd (sPt Bz.1 0) (sNs Bz.1) x0)), Bz.2)).2)).1 (va_up (sPt ((uPt ((uPt Bz.1 (va_up (sPt Bz.1) 0 (upd (sPt Bz.1 0) (sNs Bz.1) x0)), Bz.2)).1 (va_up (sPt ((uPt Bz.1 (va_up (sPt Bz.1) 0 (upd (sPt Bz.1 0) (sNs Bz.1) x0)), Bz.2)).1) 1 (upd (sPt ((uPt Bz.1 (va_up (sPt Bz.1) 0 (upd (sPt Bz.1 0) (sNs Bz.1) x0)), Bz.2)).1 1) ((sNs Bz.1)) x1)), ((uPt Bz.1 (va_up (sPt Bz.1) 0 (upd (sPt Bz.1 0) (sNs Bz.1) x0)), Bz.2)).2)).1) 2 (upd (sPt ((uPt ((uPt Bz.1 (va_up (sPt Bz.1) 0 (upd (sPt Bz.1 0) (sNs Bz.1) x0)), Bz.2)).1 (va_up (sPt ((uPt Bz.1 (va_up (sPt Bz.1) 0 (upd (sPt Bz.1 0) (sNs Bz.1) x0)), Bz.2)).1) 1 (upd (sPt ((uPt Bz.1 (va_up (sPt Bz.1) 0 (upd (sPt Bz.1 0) (sNs Bz.1) x0)), Bz.2)).1 1) ((sNs Bz.1)) x1)), ((uPt Bz.1 (va_up (sPt Bz.1) 0 (upd (sPt Bz.1 0) (sNs Bz.1) x0)), Bz.2)).2)).1 2) ((sNs Bz.1)) x2)), ((uPt ((uPt Bz.1 (va_up (sPt Bz.1) 0 (upd (sPt Bz.1 0) (sNs Bz.1) x0)), Bz.2)).1 (va_up (sPt ((uPt Bz.1 (va_up (sPt Bz.1) 0 (upd (sPt Bz.1 0) (sNs Bz.1) x0)), Bz.2)).1) 1 (upd (sPt ((uPt Bz.1 (va_up (sPt Bz.1) 0 (upd (sPt Bz.1 0) (sNs Bz.1) x0)), Bz.2)).1 1) ((sNs Bz.1)) x1)), ((uPt Bz.1 (va_up (sPt Bz.1) 0 (upd (sPt Bz.1 0) (sNs Bz.1) x0)), Bz.2)).2)).2)).2)).1) : Int32) = nI ((sNs Bz.1)) from rfl) ?_
  refine lv_iload hx hb dX0_append_57 (lv_at hl 5 rfl) ?_
  refine as_pt4 C h hS (by first | assumption | omega) dX0_append_59 (fun H locs h hS => ?_)
  refine lv_aload_n hx hb dX0_append_60 rfl (lv_at hl 0 rfl) ?_
  refine lv_dup hx hb dX0_append_61 rfl ?_
  refine fg_X0_27 C h dX0_append_62 ?_
  refine lw_ti (show (nI (sNs ((uPt ((uPt ((uPt ((uPt ((uPt Bz.1 (va_up (sPt Bz.1) 0 (upd (sPt Bz.1 0) (sNs Bz.1) x0)), Bz.2)).1 (va_up (sPt ((uPt Bz.1 (va_up (sPt Bz.1) 0 (upd (sPt Bz.1 0) (sNs Bz.1) x0)), Bz.2)).1) 1 (upd (sPt ((uPt Bz.1 (va_up (sPt Bz.1) 0 (upd (sPt Bz.1 0) (sNs Bz.1) x0)), Bz.2)).1 1) ((sNs Bz.1)) x1)), ((uPt Bz.1 (va_up (sPt Bz.1) 0 (upd (sPt Bz.1 0) (sNs Bz.1) x0)), Bz.2)).2)).1 (va_up (sPt ((uPt ((uPt Bz.1 (va_up (sPt Bz.1) 0 (upd (sPt Bz.1 0) (sNs Bz.1) x0)), Bz.2)).1 (va_up (sPt ((uPt Bz.1 (va_up (sPt Bz.1) 0 (upd (sPt Bz.1 0) (sNs Bz.1) x0)), Bz.2)).1) 1 (upd (sPt ((uPt Bz.1 (va_up (sPt Bz.1) 0 (upd (sPt Bz.1 0) (sNs Bz.1) x0)), Bz.2)).1 1) ((sNs Bz.1)) x1)), ((uPt Bz.1 (va_up (sPt Bz.1) 0 (upd (sPt Bz.1 0) (sNs Bz.1) x0)), Bz.2)).2)).1) 2 (upd (sPt ((uPt ((uPt Bz.1 (va_up (sPt Bz.1) 0 (upd (sPt Bz.1 0) (sNs Bz.1) x0)), Bz.2)).1 (va_up (sPt ((uPt Bz.1 (va_up (sPt Bz.1) 0 (upd (sPt Bz.1 0) (sNs Bz.1) x0)), Bz.2)).1) 1 (upd (sPt ((uPt Bz.1 (va_up (sPt Bz.1) 0 (upd (sPt Bz.1 0) (sNs Bz.1) x0)), Bz.2)).1 1) ((sNs Bz.1)) x1)), ((uPt Bz.1 (va_up (sPt Bz.1) 0 (upd (sPt Bz.1 0) (sNs Bz.1) x0)), Bz.2)).2)).1 2) ((sNs Bz.1)) x2)), ((uPt ((uPt Bz.1 (va_up (sPt Bz.1) 0 (upd (sPt Bz.1 0) (sNs Bz.1) x0)), Bz.2)).1 (va_up (sPt ((uPt Bz.1 (va_up (sPt Bz.1) 0 (upd (sPt Bz.1 0) (sNs Bz.1) x0)), Bz.2)).1) 1 (upd (sPt ((uPt Bz.1 (va_up (sPt Bz.1) 0 (upd (sPt Bz.1 0) (sNs Bz.1) x0)), Bz.2)).1 1) ((sNs Bz.1)) x1)), ((uPt Bz.1 (va_up (sPt Bz.1) 0 (upd (sPt Bz.1 0) (sNs Bz.1) x0)), Bz.2)).2)).2)).1 (va_up (sPt ((uPt ((uPt ((uPt Bz.1 (va_up (sPt Bz.1) 0 (upd (sPt Bz.1 0) (sNs Bz.1) x0)), Bz.2)).1 (va_up (sPt ((uPt Bz.1 (va_up (sPt Bz.1) 0 (upd (sPt Bz.1 0) (sNs Bz.1) x0)), Bz.2)).1) 1 (upd (sPt ((uPt Bz.1 (va_up (sPt Bz.1) 0 (upd (sPt Bz.1 0) (sNs Bz.1) x0)), Bz.2)).1 1) ((sNs Bz.1)) x1)), ((uPt Bz.1 (va_up (sPt Bz.1) 0 (upd (sPt Bz.1 0) (sNs Bz.1) x0)), Bz.2)).2)).1 (va_up (sPt ((uPt ((uPt Bz.1 (va_up (sPt Bz.1) 0 (upd (sPt Bz.1 0) (sNs Bz.1) x0)), Bz.2)).1 (va_up (sPt ((uPt Bz.1 (va_up (sPt Bz.1) 0 (upd (sPt Bz.1 0) (sNs Bz.1) x0)), Bz.2)).1) 1 (upd (sPt ((uPt Bz.1 (va_up (sPt Bz.1) 0 (upd (sPt Bz.1 0) (sNs Bz.1) x0)), Bz.2)).1 1) ((sNs Bz.1)) x1)), ((uPt Bz.1 (va_up (sPt Bz.1) 0 (upd (sPt Bz.1 0) (sNs Bz.1) x0)), Bz.2)).2)).1) 2 (upd (sPt ((uPt ((uPt Bz.1 (va_up (sPt Bz.1) 0 (upd (sPt Bz.1 0) (sNs Bz.1) x0)), Bz.2)).1 (va_up (sPt ((uPt Bz.1 (va_up (sPt Bz.1) 0 (upd (sPt Bz.1 0) (sNs Bz.1) x0)), Bz.2)).1) 1 (upd (sPt ((uPt Bz.1 (va_up (sPt Bz.1) 0 (upd (sPt Bz.1 0) (sNs Bz.1) x0)), Bz.2)).1 1) ((sNs Bz.1)) x1)), ((uPt Bz.1 (va_up (sPt Bz.1) 0 (upd (sPt Bz.1 0) (sNs Bz.1) x0)), Bz.2)).2)).1 2) ((sNs Bz.1)) x2)), ((uPt ((uPt Bz.1 (va_up (sPt Bz.1) 0 (upd (sPt Bz.1 0) (sNs Bz.1) x0)), Bz.2)).1 (va_up (sPt ((uPt Bz.1 (va_up (sPt Bz.1) 0 (upd (sPt Bz.1 0) (sNs Bz.1) x0)), Bz.2)).1) 1 (upd (sPt ((uPt Bz.1 (va_up (sPt Bz.1) 0 (upd (sPt Bz.1 0) (sNs Bz.1) x0)), Bz.2)).1 1) ((sNs Bz.1)) x1)), ((uPt Bz.1 (va_up (sPt Bz.1) 0 (upd (sPt Bz.1 0) (sNs Bz.1) x0)), Bz.2)).2)).2)).1) 3 (upd (sPt ((uPt ((uPt ((uPt Bz.1 (va_up (sPt Bz.1) 0 (upd (sPt Bz.1 0) (sNs Bz.1) x0)), Bz.2)).1 (va_up (sPt ((uPt Bz.1 (va_up (sPt Bz.1) 0 (upd (sPt Bz.1 0) (sNs Bz.1) x0)), Bz.2)).1) 1 (upd (sPt ((uPt Bz.1 (va_up (sPt Bz.1) 0 (upd (sPt Bz.1 0) (sNs Bz.1) x0)), Bz.2)).1 1) ((sNs Bz.1)) x1)), ((uPt Bz.1 (va_up (sPt Bz.1) 0 (upd (sPt Bz.1 0) (sNs Bz.1) x0)), Bz.2)).2)).1 (va_up (sPt ((uPt ((uPt Bz.1 (va_up (sPt Bz.1) 0 (upd (sPt Bz.1 0) (sNs Bz.1) x0)), Bz.2)).1 (va_up (sPt ((uPt Bz.1 (va_up (sPt Bz.1) 0 (upd (sPt Bz.1 0) (sNs Bz.1) x0)), Bz.2)).1) 1 (upd (sPt ((uPt Bz.1 (va_up (sPt Bz.1) 0 (upd (sPt Bz.1 0) (sNs Bz.1) x0)), Bz.2)).1 1) ((sNs Bz.1)) x1)), ((uPt Bz.1 (va_up (sPt Bz.1) 0 (upd (sPt Bz.1 0) (sNs Bz.1) x0)), Bz.2)).2)).1) 2 (upd (sPt ((uPt ((uPt Bz.1 (va_up (sPt Bz.1) 0 (upd (sPt Bz.1 0) (sNs Bz.1) x0)), Bz.2)).1 (va_up (sPt ((uPt Bz.1 (va_up (sPt Bz.1) 0 (upd (sPt Bz.1 0) (sNs Bz.1) x0)), Bz.2)).1) 1 (upd (sPt ((uPt Bz.1 (va_up (sPt Bz.1) 0 (upd (sPt Bz.1 0) (sNs Bz.1) x0)), Bz.2)).1 1) ((sNs Bz.1)) x1)), ((uPt Bz.1 (va_up (sPt Bz.1) 0 (upd (sPt Bz.1 0) (sNs Bz.1) x0)), Bz.2)).2)).1 2) ((sNs Bz.1)) x2)), ((uPt ((uPt Bz.1 (va_up (sPt Bz.1) 0 (upd (sPt Bz.1 0) (sNs Bz.1) x0)), Bz.2)).1 (va_up (sPt ((uPt Bz.1 (va_up (sPt Bz.1) 0 (upd (sPt Bz.1 0) (sNs Bz.1) x0)), Bz.2)).1) 1 (upd (sPt ((uPt Bz.1 (va_up (sPt Bz.1) 0 (upd (sPt Bz.1 0) (sNs Bz.1) x0)), Bz.2)).1 1) ((sNs Bz.1)) x1)), ((uPt Bz.1 (va_up (sPt Bz.1) 0 (upd (sPt Bz.1 0) (sNs Bz.1) x0)), Bz.2)).2)).2)).1 3) ((sNs Bz.1)) x3)), ((uPt ((uPt ((uPt Bz.1 (va_up (sPt Bz.1) 0 (upd (sPt Bz.1 0) (sNs Bz.1) x0)), Bz.2)).1 (va_up (sPt ((uPt Bz.1 (va_up (sPt Bz.1) 0 (upd (sPt Bz.1 0) (sNs Bz.1) x0)), Bz.2)).1) 1 (upd (sPt ((uPt Bz.1 (va_up (sPt Bz.1) 0 (upd (sPt Bz.1 0) (sNs Bz.1) x0)), Bz.2)).1 1) ((sNs Bz.1)) x1)), ((uPt Bz.1 (va_up (sPt Bz.1) 0 (upd (sPt Bz.1 0) (sNs Bz.1) x0)), Bz.2)).2)).1 (va_up (sPt ((uPt ((uPt Bz.1 (va_up (sPt Bz.1) 0 (upd (sPt Bz.1 0) (sNs Bz.1) x0)), Bz.2)).1 (va_up (sPt ((uPt Bz.1 (va_up (sPt Bz.1) 0 (upd (sPt Bz.1 0) (sNs Bz.1) x0)), Bz.2)).1) 1 (upd (sPt ((uPt Bz.1 (va_up (sPt Bz.1) 0 (upd (sPt Bz.1 0) (sNs Bz.1) x0)), Bz.2)).1 1) ((sNs Bz.1)) x1)), ((uPt Bz.1 (va_up (sPt Bz.1) 0 (upd (sPt Bz.1 0) (sNs Bz.1) x0)), Bz.2)).2)).1) 2 (upd (sPt ((uPt ((uPt Bz.1 (va_up (sPt Bz.1) 0 (upd (sPt Bz.1 0) (sNs Bz.1) x0)), Bz.2)).1 (va_up (sPt ((uPt Bz.1 (va_up (sPt Bz.1) 0 (upd (sPt Bz.1 0) (sNs Bz.1) x0)), Bz.2)).1) 1 (upd (sPt ((uPt Bz.1 (va_up (sPt Bz.1) 0 (upd (sPt Bz.1 0) (sNs Bz.1) x0)), Bz.2)).1 1) ((sNs Bz.1)) x1)), ((uPt Bz.1 (va_up (sPt Bz.1) 0 (upd (sPt Bz.1 0) (sNs Bz.1) x0)), Bz.2)).2)).1 2) ((sNs Bz.1)) x2)), ((uPt ((uPt Bz.1 (va_up (sPt Bz.1) 0 (upd (sPt Bz.1 0) (sNs Bz.1) x0)), Bz.2)).1 (va_up (sPt ((uPt Bz.1 (va_up (sPt Bz.1) 0 (upd (sPt Bz.1 0) (sNs Bz.1) x0)), Bz.2)).1) 1 (upd (sPt ((uPt Bz.1 (va_up (sPt Bz.1) 0 (upd (sPt Bz.1 0) (sNs Bz.1) x0)), Bz.2)).1 1) ((sNs Bz.1)) x1)), ((uPt Bz.1 (va_up (sPt Bz.1) 0 (upd (sPt Bz.1 0) (sNs Bz.1) x0)), Bz.2)).2)).2)).2)).1 (va_up (sPt ((uPt ((uPt ((uPt ((uPt Bz.1 (va_up (sPt Bz.1) 0 (upd (sPt Bz.1 0) (sNs Bz.1) x0)), Bz.2)).1 (va_up (sPt ((uPt Bz.1 (va_up (sPt Bz.1) 0 (upd (sPt Bz.1 0) (sNs Bz.1) x0)), Bz.2)).1) 1 (upd (sPt ((uPt Bz.1 (va_up (sPt Bz.1) 0 (upd (sPt Bz.1 0) (sNs Bz.1) x0)), Bz.2)).1 1) ((sNs Bz.1)) x1)), ((uPt Bz.1 (va_up (sPt Bz.1) 0 (upd (sPt Bz.1 0) (sNs Bz.1) x0)), Bz.2)).2)).1 (va_up (sPt ((uPt ((uPt Bz.1 (va_up (sPt Bz.1) 0 (upd (sPt Bz.1 0) (sNs Bz.1) x0)), Bz.2)).1 (va_up (sPt ((uPt Bz.1 (va_up (sPt Bz.1) 0 (upd (sPt Bz.1 0) (sNs Bz.1) x0)), Bz.2)).1) 1 (upd (sPt ((uPt Bz.1 (va_up (sPt Bz.1) 0 (upd (sPt Bz.1 0) (sNs Bz.1) x0)), Bz.2)).1 1) ((sNs Bz.1)) x1)), ((uPt Bz.1 (va_up (sPt Bz.1) 0 (upd (sPt Bz.1 0) (sNs Bz.1) x0)), Bz.2)).2)).1) 2 (upd (sPt ((uPt ((uPt Bz.1 (va_up (sPt Bz.1) 0 (upd (sPt Bz.1 0) (sNs Bz.1) x0)), Bz.2)).1 (va_up (sPt ((uPt Bz.1 (va_up (sPt Bz.1) 0 (upd (sPt Bz.1 0) (sNs Bz.1) x0)), Bz.2)).1) 1 (upd (sPt ((uPt Bz.1 (va_up (sPt Bz.1) 0 (upd (sPt Bz.1 0) (sNs Bz.1) x0)), Bz.2)).1 1) ((sNs Bz.1)) x1)), ((uPt Bz.1 (va_up (sPt Bz.1) 0 (upd (sPt Bz.1 0) (sNs Bz.1) x0)), Bz.2)).2)).1 2) ((sNs Bz.1)) x2)), ((uPt ((uPt Bz.1 (va_up (sPt Bz.1) 0 (upd (sPt Bz.1 0) (sNs Bz.1) x0)), Bz.2)).1 (va_up (sPt ((uPt Bz.1 (va_up (sPt Bz.1) 0 (upd (sPt Bz.1 0) (sNs Bz.1) x0)), Bz.2)).1) 1 (upd (sPt ((uPt Bz.1 (va_up (sPt Bz.1) 0 (upd (sPt Bz.1 0) (sNs Bz.1) x0)), Bz.2)).1 1) ((sNs Bz.1)) x1)), ((uPt Bz.1 (va_up (sPt Bz.1) 0 (upd (sPt Bz.1 0) (sNs Bz.1) x0)), Bz.2)).2)).2)).1 (va_up (sPt ((uPt ((uPt ((uPt Bz.1 (va_up (sPt Bz.1) 0 (upd (sPt Bz.1 0) (sNs Bz.1) x0)), Bz.2)).1 (va_up (sPt ((uPt Bz.1 (va_up (sPt Bz.1) 0 (upd (sPt Bz.1 0) (sNs Bz.1) x0)), Bz.2)).1) 1 (upd (sPt ((uPt Bz.1 (va_up (sPt Bz.1) 0 (upd (sPt Bz.1 0) (sNs Bz.1) x0)), Bz.2)).1 1) ((sNs Bz.1)) x1)), ((uPt Bz.1 (va_up (sPt Bz.1) 0 (upd (sPt Bz.1 0) (sNs Bz.1) x0)), Bz.2)).2)).1 (va_up (sPt ((uPt ((uPt Bz.1 (va_up (sPt Bz.1) 0 (upd (sPt Bz.1 0) (sNs Bz.1) x0)), Bz.2)).1 (va_up (sPt ((uPt Bz.1 (va_up (sPt Bz.1) 0 (upd (sPt Bz.1 0) (sNs Bz.1) x0)), Bz.2)).1) 1 (upd (sPt ((uPt Bz.1 (va_up (sPt Bz.1) 0 (upd (sPt Bz.1 0) (sNs Bz.1) x0)), Bz.2)).1 1) ((sNs Bz.1)) x1)), ((uPt Bz.1 (va_up (sPt Bz.1) 0 (upd (sPt Bz.1 0) (sNs Bz.1) x0)), Bz.2)).2)).1) 2 (upd (sPt ((uPt ((uPt Bz.1 (va_up (sPt Bz.1) 0 (upd (sPt Bz.1 0) (sNs Bz.1) x0)), Bz.2)).1 (va_up (sPt ((uPt Bz.1 (va_up (sPt Bz.1) 0 (upd (sPt Bz.1 0) (sNs Bz.1) x0)), Bz.2)).1) 1 (upd (sPt ((uPt Bz.1 (va_up (sPt Bz.1) 0 (upd (sPt Bz.1 0) (sNs Bz.1) x0)), Bz.2)).1 1) ((sNs Bz.1)) x1)), ((uPt Bz.1 (va_up (sPt Bz.1) 0 (upd (sPt Bz.1 0) (sNs Bz.1) x0)), Bz.2)).2)).1 2) ((sNs Bz.1)) x2)), ((uPt ((uPt Bz.1 (va_up (sPt Bz.1) 0 (upd (sPt Bz.1 0) (sNs Bz.1) x0)), Bz.2)).1 (va_up (sPt ((uPt Bz.1 (va_up (sPt Bz.1) 0 (upd (sPt Bz.1 0) (sNs Bz.1) x0)), Bz.2)).1) 1 (upd (sPt ((uPt Bz.1 (va_up (sPt Bz.1) 0 (upd (sPt Bz.1 0) (sNs Bz.1) x0)), Bz.2)).1 1) ((sNs Bz.1)) x1)), ((uPt Bz.1 (va_up (sPt Bz.1) 0 (upd (sPt Bz.1 0) (sNs Bz.1) x0)), Bz.2)).2)).2)).1) 3 (upd (sPt ((uPt ((uPt ((uPt Bz.1 (va_up (sPt Bz.1) 0 (upd (sPt Bz.1 0) (sNs Bz.1) x0)), Bz.2)).1 (va_up (sPt ((uPt Bz.1 (va_up (sPt Bz.1) 0 (upd (sPt Bz.1 0) (sNs Bz.1) x0)), Bz.2)).1) 1 (upd (sPt ((uPt Bz.1 (va_up (sPt Bz.1) 0 (upd (sPt Bz.1 0) (sNs Bz.1) x0)), Bz.2)).1 1) ((sNs Bz.1)) x1)), ((uPt Bz.1 (va_up (sPt Bz.1) 0 (upd (sPt Bz.1 0) (sNs Bz.1) x0)), Bz.2)).2)).1 (va_up (sPt ((uPt ((uPt Bz.1 (va_up (sPt Bz.1) 0 (upd (sPt Bz.1 0) (sNs Bz.1) x0)), Bz.2)).1 (va_up (sPt ((uPt Bz.1 (va_up (sPt Bz.1) 0 (upd (sPt Bz.1 0) (sNs Bz.1) x0)), Bz.2)).1) 1 (upd (sPt ((uPt Bz.1 (va_up (sPt Bz.1) 0 (upd (sPt Bz.1 0) (sNs Bz.1) x0)), Bz.2)).1 1) ((sNs Bz.1)) x1)), ((uPt Bz.1 (va_up (sPt Bz.1) 0 (upd (sPt Bz.1 0) (sNs Bz.1) x0)), Bz.2)).2)).1) 2 (upd (sPt ((uPt ((uPt Bz.1 (va_up (sPt Bz.1) 0 (upd (sPt Bz.1 0) (sNs Bz.1) x0)), Bz.2)).1 (va_up (sPt ((uPt Bz.1 (va_up (sPt Bz.1) 0 (upd (sPt Bz.1 0) (sNs Bz.1) x0)), Bz.2)).1) 1 (upd (sPt ((uPt Bz.1 (va_up (sPt Bz.1) 0 (upd (sPt Bz.1 0) (sNs Bz.1) x0)), Bz.2)).1 1) ((sNs Bz.1)) x1)), ((uPt Bz.1 (va_up (sPt Bz.1) 0 (upd (sPt Bz.1 0) (sNs Bz.1) x0)), Bz.2)).2)).1 2) ((sNs Bz.1)) x2)), ((uPt ((uPt Bz.1 (va_up (sPt Bz.1) 0 (upd (sPt Bz.1 0) (sNs Bz.1) x0)), Bz.2)).1 (va_up (sPt ((uPt Bz.1 (va_up (sPt Bz.1) 0 (upd (sPt Bz.1 0) (sNs Bz.1) x0)), Bz.2)).1) 1 (upd (sPt ((uPt Bz.1 (va_up (sPt Bz.1) 0 (upd (sPt Bz.1 0) (sNs Bz.1) x0)), Bz.2)).1 1) ((sNs Bz.1)) x1)), ((uPt Bz.1 (va_up (sPt Bz.1) 0 (upd (sPt Bz.1 0) (sNs Bz.1) x0)), Bz.2)).2)).2)).1 3) ((sNs Bz.1)) x3)), ((uPt ((uPt ((uPt Bz.1 (va_up (sPt Bz.1) 0 (upd (sPt Bz.1 0) (sNs Bz.1) x0)), Bz.2)).1 (va_up (sPt ((uPt Bz.1 (va_up (sPt Bz.1) 0 (upd (sPt Bz.1 0) (sNs Bz.1) x0)), Bz.2)).1) 1 (upd (sPt ((uPt Bz.1 (va_up (sPt Bz.1) 0 (upd (sPt Bz.1 0) (sNs Bz.1) x0)), Bz.2)).1 1) ((sNs Bz.1)) x1)), ((uPt Bz.1 (va_up (sPt Bz.1) 0 (upd (sPt Bz.1 0) (sNs Bz.1) x0)), Bz.2)).2)).1 (va_up (sPt ((uPt ((uPt Bz.1 (va_up (sPt Bz.1) 0 (upd (sPt Bz.1 0) (sNs Bz.1) x0)), Bz.2)).1 (va_up (sPt ((uPt Bz.1 (va_up (sPt Bz.1) 0 (upd (sPt Bz.1 0) (sNs Bz.1) x0)), Bz.2)).1) 1 (upd (sPt ((uPt Bz.1 (va_up (sPt Bz.1) 0 (upd (sPt Bz.1 0) (sNs Bz.1) x0)), Bz.2)).1 1) ((sNs Bz.1)) x1)), ((uPt Bz.1 (va_up (sPt Bz.1) 0 (upd (sPt Bz.1 0) (sNs Bz.1) x0)), Bz.2)).2)).1) 2 (upd (sPt ((uPt ((uPt Bz.1 (va_up (sPt Bz.1) 0 (upd (sPt Bz.1 0) (sNs Bz.1) x0)), Bz.2)).1 (va_up (sPt ((uPt Bz.1 (va_up (sPt Bz.1) 0 (upd (sPt Bz.1 0) (sNs Bz.1) x0)), Bz.2)).1) 1 (upd (sPt ((uPt Bz.1 (va_up (sPt Bz.1) 0 (upd (sPt Bz.1 0) (sNs Bz.1) x0)), Bz.2)).1 1) ((sNs Bz.1)) x1)), ((uPt Bz.1 (va_up (sPt Bz.1) 0 (upd (sPt Bz.1 0) (sNs Bz.1) x0)), Bz.2)).2)).1 2) ((sNs Bz.1)) x2)), ((uPt ((uPt Bz.1 (va_up (sPt Bz.1) 0 (upd (sPt Bz.1 0) (sNs Bz.1) x0)), Bz.2)).1 (va_up (sPt ((uPt Bz.1 (va_up (sPt Bz.1) 0 (upd (sPt Bz.1 0) (sNs Bz.1) x0)), Bz.2)).1) 1 (upd (sPt ((uPt Bz.1 (va_up (sPt Bz.1) 0 (upd (sPt Bz.1 0) (sNs Bz.1) x0)), Bz.2)).1 1) ((sNs Bz.1)) x1)), ((uPt Bz.1 (va_up (sPt Bz.1) 0 (upd (sPt Bz.1 0) (sNs Bz.1) x0)), Bz.2)).2)).2)).2)).1) 4 (upd (sPt ((uPt ((uPt ((uPt ((uPt Bz.1 (va_up (sPt Bz.1) 0 (upd (sPt Bz.1 0) (sNs Bz.1) x0)), Bz.2)).1 (va_up (sPt ((uPt Bz.1 (va_up (sPt Bz.1) 0 (upd (sPt Bz.1 0) (sNs Bz.1) x0)), Bz.2)).1) 1 (upd (sPt ((uPt Bz.1 (va_up (sPt Bz.1) 0 (upd (sPt Bz.1 0) (sNs Bz.1) x0)), Bz.2)).1 1) ((sNs Bz.1)) x1)), ((uPt Bz.1 (va_up (sPt Bz.1) 0 (upd (sPt Bz.1 0) (sNs Bz.1) x0)), Bz.2)).2)).1 (va_up (sPt ((uPt ((uPt Bz.1 (va_up (sPt Bz.1) 0 (upd (sPt Bz.1 0) (sNs Bz.1) x0)), Bz.2)).1 (va_up (sPt ((uPt Bz.1 (va_up (sPt Bz.1) 0 (upd (sPt Bz.1 0) (sNs Bz.1) x0)), Bz.2)).1) 1 (upd (sPt ((uPt Bz.1 (va_up (sPt Bz.1) 0 (upd (sPt Bz.1 0) (sNs Bz.1) x0)), Bz.2)).1 1) ((sNs Bz.1)) x1)), ((uPt Bz.1 (va_up (sPt Bz.1) 0 (upd (sPt Bz.1 0) (sNs Bz.1) x0)), Bz.2)).2)).1) 2 (upd (sPt ((uPt ((uPt Bz.1 (va_up (sPt Bz.1) 0 (upd (sPt Bz.1 0) (sNs Bz.1) x0)), Bz.2)).1 (va_up (sPt ((uPt Bz.1 (va_up (sPt Bz.1) 0 (upd (sPt Bz.1 0) (sNs Bz.1) x0)), Bz.2)).1) 1 (upd (sPt ((uPt Bz.1 (va_up (sPt Bz.1) 0 (upd (sPt Bz.1 0) (sNs Bz.1) x0)), Bz.2)).1 1) ((sNs Bz.1)) x1)), ((uPt Bz.1 (va_up (sPt Bz.1) 0 (upd (sPt Bz.1 0) (sNs Bz.1) x0)), Bz.2)).2)).1 2) ((sNs Bz.1)) x2)), ((uPt ((uPt Bz.1 (va_up (sPt Bz.1) 0 (upd (sPt Bz.1 0) (sNs Bz.1) x0)), Bz.2)).1 (va_up (sPt ((uPt Bz.1 (va_up (sPt Bz.1) 0 (upd (sPt Bz.1 0) (sNs Bz.1) x0)), Bz.2)).1) 1 (upd (sPt ((uPt Bz.1 (va_up (sPt Bz.1) 0 (upd (sPt Bz.1 0) (sNs Bz.1) x0)), Bz.2)).1 1) ((sNs Bz.1)) x1)), ((uPt Bz.1 (va_up (sPt Bz.1) 0 (upd (sPt Bz.1 0) (sNs Bz.1) x0)), Bz.2)).2)).2)).1 (va_up (sPt ((uPt ((uPt ((uPt Bz.1 (va_up (sPt Bz.1) 0 (upd (sPt Bz.1 0) (sNs Bz.1) x0)), Bz.2)).1 (va_up (sPt ((uPt Bz.1 (va_up (sPt Bz.1) 0 (upd (sPt Bz.1 0) (sNs Bz.1) x0)), Bz.2)).1) 1 (upd (sPt ((uPt Bz.1 (va_up (sPt Bz.1) 0 (upd (sPt Bz.1 0) (sNs Bz.1) x0)), Bz.2)).1 1) ((sNs Bz.1)) x1)), ((uPt Bz.1 (va_up (sPt Bz.1) 0 (upd (sPt Bz.1 0) (sNs Bz.1) x0)), Bz.2)).2)).1 (va_up (sPt ((uPt ((uPt Bz.1 (va_up (sPt Bz.1) 0 (upd (sPt Bz.1 0) (sNs Bz.1) x0)), Bz.2)).1 (va_up (sPt ((uPt Bz.1 (va_up (sPt Bz.1) 0 (upd (sPt Bz.1 0) (sNs Bz.1) x0)), Bz.2)).1) 1 (upd (sPt ((uPt Bz.1 (va_up (sPt Bz.1) 0 (upd (sPt Bz.1 0) (sNs Bz.1) x0)), Bz.2)).1 1) ((sNs Bz.1)) x1)), ((uPt Bz.1 (va_up (sPt Bz.1) 0 (upd (sPt Bz.1 0) (sNs Bz.1) x0)), Bz.2)).2)).1) 2 (upd (sPt ((uPt ((uPt Bz.1 (va_up (sPt Bz.1) 0 (upd (sPt Bz.1 0) (sNs Bz.1) x0)), Bz.2)).1 (va_up (sPt ((uPt Bz.1 (va_up (sPt Bz.1) 0 (upd (sPt Bz.1 0) (sNs Bz.1) x0)), Bz.2)).1) 1 (upd (sPt ((uPt Bz.1 (va_up (sPt Bz.1) 0 (upd (sPt Bz.1 0) (sNs Bz.1) x0)), Bz.2)).1 1) ((sNs Bz.1)) x1)), ((uPt Bz.1 (va_up (sPt Bz.1) 0 (upd (sPt Bz.1 0) (sNs Bz.1) x0)), Bz.2)).2)).1 2) ((sNs Bz.1)) x2)), ((uPt ((uPt Bz.1 (va_up (sPt Bz.1) 0 (upd (sPt Bz.1 0) (sNs Bz.1) x0)), Bz.2)).1 (va_up (sPt ((uPt Bz.1 (va_up (sPt Bz.1) 0 (upd (sPt Bz.1 0) (sNs Bz.1) x0)), Bz.2)).1) 1 (upd (sPt ((uPt Bz.1 (va_up (sPt Bz.1) 0 (upd (sPt Bz.1 0) (sNs Bz.1) x0)), Bz.2)).1 1) ((sNs Bz.1)) x1)), ((uPt Bz.1 (va_up (sPt Bz.1) 0 (upd (sPt Bz.1 0) (sNs Bz.1) x0)), Bz.2)).2)).2)).1) 3 (upd (sPt ((uPt ((uPt ((uPt Bz.1 (va_up (sPt Bz.1) 0 (upd (sPt Bz.1 0) (sNs Bz.1) x0)), Bz.2)).1 (va_up (sPt ((uPt Bz.1 (va_up (sPt Bz.1) 0 (upd (sPt Bz.1 0) (sNs Bz.1) x0)), Bz.2)).1) 1 (upd (sPt ((uPt Bz.1 (va_up (sPt Bz.1) 0 (upd (sPt Bz.1 0) (sNs Bz.1) x0)), Bz.2)).1 1) ((sNs Bz.1)) x1)), ((uPt Bz.1 (va_up (sPt Bz.1) 0 (upd (sPt Bz.1 0) (sNs Bz.1) x0)), Bz.2)).2)).1 (va_up (sPt ((uPt ((uPt Bz.1 (va_up (sPt Bz.1) 0 (upd (sPt Bz.1 0) (sNs Bz.1) x0)), Bz.2)).1 (va_up (sPt ((uPt Bz.1 (va_up (sPt Bz.1) 0 (upd (sPt Bz.1 0) (sNs Bz.1) x0)), Bz.2)).1) 1 (upd (sPt ((uPt Bz.1 (va_up (sPt Bz.1) 0 (upd (sPt Bz.1 0) (sNs Bz.1) x0)), Bz.2)).1 1) ((sNs Bz.1)) x1)), ((uPt Bz.1 (va_up (sPt Bz.1) 0 (upd (sPt Bz.1 0) (sNs Bz.1) x0)), Bz.2)).2)).1) 2 (upd (sPt ((uPt ((uPt Bz.1 (va_up (sPt Bz.1) 0 (upd (sPt Bz.1 0) (sNs Bz.1) x0)), Bz.2)).1 (va_up (sPt ((uPt Bz.1 (va_up (sPt Bz.1) 0 (upd (sPt Bz.1 0) (sNs Bz.1) x0)), Bz.2)).1) 1 (upd (sPt ((uPt Bz.1 (va_up (sPt Bz.1) 0 (upd (sPt Bz.1 0) (sNs Bz.1) x0)), Bz.2)).1 1) ((sNs Bz.1)) x1)), ((uPt Bz.1 (va_up (sPt Bz.1) 0 (upd (sPt Bz.1 0) (sNs Bz.1) x0)), Bz.2)).2)).1 2) ((sNs Bz.1)) x2)), ((uPt ((uPt Bz.1 (va_up (sPt Bz.1) 0 (upd (sPt Bz.1 0) (sNs Bz.1) x0)), Bz.2)).1 (va_up (sPt ((uPt Bz.1 (va_up (sPt Bz.1) 0 (upd (sPt Bz.1 0) (sNs Bz.1) x0)), Bz.2)).1) 1 (upd (sPt ((uPt Bz.1 (va_up (sPt Bz.1) 0 (upd (sPt Bz.1 0) (sNs Bz.1) x0)), Bz.2)).1 1) ((sNs Bz.1)) x1)), ((uPt Bz.1 (va_up (sPt Bz.1) 0 (upd (sPt Bz.1 0) (sNs Bz.1) x0)), Bz.2)).2)).2)).1 3) ((sNs Bz.1)) x3)), ((uPt ((uPt ((uPt Bz.1 (va_up (sPt Bz.1) 0 (upd (sPt Bz.1 0) (sNs Bz.1) x0)), Bz.2)).1 (va_up (sPt ((uPt Bz.1 (va_up (sPt Bz.1) 0 (upd (sPt Bz.1 0) (sNs Bz.1) x0)), Bz.2)).1) 1 (upd (sPt ((uPt Bz.1 (va_up (sPt Bz.1) 0 (upd (sPt Bz.1 0) (sNs Bz.1) x0)), Bz.2)).1 1) ((sNs Bz.1)) x1)), ((uPt Bz.1 (va_up (sPt Bz.1) 0 (upd (sPt Bz.1 0) (sNs Bz.1) x0)), Bz.2)).2)).1 (va_up (sPt ((uPt ((uPt Bz.1 (va_up (sPt Bz.1) 0 (upd (sPt Bz.1 0) (sNs Bz.1) x0)), Bz.2)).1 (va_up (sPt ((uPt Bz.1 (va_up (sPt Bz.1) 0 (upd (sPt Bz.1 0) (sNs Bz.1) x0)), Bz.2)).1) 1 (upd (sPt ((uPt Bz.1 (va_up (sPt Bz.1) 0 (upd (sPt Bz.1 0) (sNs Bz.1) x0)), Bz.2)).1 1) ((sNs Bz.1)) x1)), ((uPt Bz.1 (va_up (sPt Bz.1) 0 (upd (sPt Bz.1 0) (sNs Bz.1) x0)), Bz.2)).2)).1) 2 (upd (sPt ((uPt ((uPt Bz.1 (va_up (sPt Bz.1) 0 (upd (sPt Bz.1 0) (sNs Bz.1) x0)), Bz.2)).1 (va_up (sPt ((uPt Bz.1 (va_up (sPt Bz.1) 0 (upd (sPt Bz.1 0) (sNs Bz.1) x0)), Bz.2)).1) 1 (upd (sPt ((uPt Bz.1 (va_up (sPt Bz.1) 0 (upd (sPt Bz.1 0) (sNs Bz.1) x0)), Bz.2)).1 1) ((sNs Bz.1)) x1)), ((uPt Bz.1 (va_up (sPt Bz.1) 0 (upd (sPt Bz.1 0) (sNs Bz.1) x0)), Bz.2)).2)).1 2) ((sNs Bz.1)) x2)), ((uPt ((uPt Bz.1 (va_up (sPt Bz.1) 0 (upd (sPt Bz.1 0) (sNs Bz.1) x0)), Bz.2)).1 (va_up (sPt ((uPt Bz.1 (va_up (sPt Bz.1) 0 (upd (sPt Bz.1 0) (sNs Bz.1) x0)), Bz.2)).1) 1 (upd (sPt ((uPt Bz.1 (va_up (sPt Bz.1) 0 (upd (sPt Bz.1 0) (sNs Bz.1) x0)), Bz.2)).1 1) ((sNs Bz.1)) x1)), ((uPt Bz.1 (va_up (sPt Bz.1) 0 (upd (sPt Bz.1 0) (sNs Bz.1) x0)), Bz.2)).2)).2)).2)).1 4) ((sNs Bz.1)) x4)), ((uPt ((uPt ((uPt ((uPt Bz.1 (va_up (sPt Bz.1) 0 (upd (sPt Bz.1 0) (sNs Bz.1) x0)), Bz.2)).1 (va_up (sPt ((uPt Bz.1 (va_up (sPt Bz.1) 0 (upd (sPt Bz.1 0) (sNs Bz.1) x0)), Bz.2)).1) 1 (upd (sPt ((uPt Bz.1 (va_up (sPt Bz.1) 0 (upd (sPt Bz.1 0) (sNs Bz.1) x0)), Bz.2)).1 1) ((sNs Bz.1)) x1)), ((uPt Bz.1 (va_up (sPt Bz.1) 0 (upd (sPt Bz.1 0) (sNs Bz.1) x0)), Bz.2)).2)).1 (va_up (sPt ((uPt ((uPt Bz.1 (va_up (sPt Bz.1) 0 (upd (sPt Bz.1 0) (sNs Bz.1) x0)), Bz.2)).1 (va_up (sPt ((uPt Bz.1 (va_up (sPt Bz.1) 0 (upd (sPt Bz.1 0) (sNs Bz.1) x0)), Bz.2)).1) 1 (upd (sPt ((uPt Bz.1 (va_up (sPt Bz.1) 0 (upd (sPt Bz.1 0) (sNs Bz.1) x0)), Bz.2)).1 1) ((sNs Bz.1)) x1)), ((uPt Bz.1 (va_up (sPt Bz.1) 0 (upd (sPt Bz.1 0) (sNs Bz.1) x0)), Bz.2)).2)).1) 2 (upd (sPt ((uPt ((uPt Bz.1 (va_up (sPt Bz.1) 0 (upd (sPt Bz.1 0) (sNs Bz.1) x0)), Bz.2)).1 (va_up (sPt ((uPt Bz.1 (va_up (sPt Bz.1) 0 (upd (sPt Bz.1 0) (sNs Bz.1) x0)), Bz.2)).1) 1 (upd (sPt ((uPt Bz.1 (va_up (sPt Bz.1) 0 (upd (sPt Bz.1 0) (sNs Bz.1) x0)), Bz.2)).1 1) ((sNs Bz.1)) x1)), ((uPt Bz.1 (va_up (sPt Bz.1) 0 (upd (sPt Bz.1 0) (sNs Bz.1) x0)), Bz.2)).2)).1 2) ((sNs Bz.1)) x2)), ((uPt ((uPt Bz.1 (va_up (sPt Bz.1) 0 (upd (sPt Bz.1 0) (sNs Bz.1) x0)), Bz.2)).1 (va_up (sPt ((uPt Bz.1 (va_up (sPt Bz.1) 0 (upd (sPt Bz.1 0) (sNs Bz.1) x0)), Bz.2)).1) 1 (upd (sPt ((uPt Bz.1 (va_up (sPt Bz.1) 0 (upd (sPt Bz.1 0) (sNs Bz.1) x0)), Bz.2)).1 1) ((sNs Bz.1)) x1)), ((uPt Bz.1 (va_up (sPt Bz.1) 0 (upd (sPt Bz.1 0) (sNs Bz.1) x0)), Bz.2)).2)).2)).1 (va_up (sPt ((uPt ((uPt ((uPt Bz.1 (va_up (sPt Bz.1) 0 (upd (sPt Bz.1 0) (sNs Bz.1) x0)), Bz.2)).1 (va_up (sPt ((uPt Bz.1 (va_up (sPt Bz.1) 0 (upd (sPt Bz.1 0) (sNs Bz.1) x0)), Bz.2)).1) 1 (upd (sPt ((uPt Bz.1 (va_up (sPt Bz.1) 0 (upd (sPt Bz.1 0) (sNs Bz.1) x0)), Bz.2)).1 1) ((sNs Bz.1)) x1)), ((uPt Bz.1 (va_up (sPt Bz.1) 0 (upd (sPt Bz.1 0) (sNs Bz.1) x0)), Bz.2)).2)).1 (va_up (sPt ((uPt ((uPt Bz.1 (va_up (sPt Bz.1) 0 (upd (sPt Bz.1 0) (sNs Bz.1) x0)), Bz.2)).1 (va_up (sPt ((uPt Bz.1 (va_up (sPt Bz.1) 0 (upd (sPt Bz.1 0) (sNs Bz.1) x0)), Bz.2)).1) 1 (upd (sPt ((uPt Bz.1 (va_up (sPt Bz.1) 0 (upd (sPt Bz.1 0) (sNs Bz.1) x0)), Bz.2)).1 1) ((sNs Bz.1)) x1)), ((uPt Bz.1 (va_up (sPt Bz.1) 0 (upd (sPt Bz.1 0) (sNs Bz.1) x0)), Bz.2)).2)).1) 2 (upd (sPt ((uPt ((uPt Bz.1 (va_up (sPt Bz.1) 0 (upd (sPt Bz.1 0) (sNs Bz.1) x0)), Bz.2)).1 (va_up (sPt ((uPt Bz.1 (va_up (sPt Bz.1) 0 (upd (sPt Bz.1 0) (sNs Bz.1) x0)), Bz.2)).1) 1 (upd (sPt ((uPt Bz.1 (va_up (sPt Bz.1) 0 (upd (sPt Bz.1 0) (sNs Bz.1) x0)), Bz.2)).1 1) ((sNs Bz.1)) x1)), ((uPt Bz.1 (va_up (sPt Bz.1) 0 (upd (sPt Bz.1 0) (sNs Bz.1) x0)), Bz.2)).2)).1 2) ((sNs Bz.1)) x2)), ((uPt ((uPt Bz.1 (va_up (sPt Bz.1) 0 (upd (sPt Bz.1 0) (sNs Bz.1) x0)), Bz.2)).1 (va_up (sPt ((uPt Bz.1 (va_up (sPt Bz.1) 0 (upd (sPt Bz.1 0) (sNs Bz.1) x0)), Bz.2)).1) 1 (upd (sPt ((uPt Bz.1 (va_up (sPt Bz.1) 0 (upd (sPt Bz.1 0) (sNs Bz.1) x0)), Bz.2)).1 1) ((sNs Bz.1)) x1)), ((uPt Bz.1 (va_up (sPt Bz.1) 0 (upd (sPt Bz.1 0) (sNs Bz.1) x0)), Bz.2)).2)).2)).1) 3 (upd (sPt ((uPt ((uPt ((uPt Bz.1 (va_up (sPt Bz.1) 0 (upd (sPt Bz.1 0) (sNs Bz.1) x0)), Bz.2)).1 (va_up (sPt ((uPt Bz.1 (va_up (sPt Bz.1) 0 (upd (sPt Bz.1 0) (sNs Bz.1) x0)), Bz.2)).1) 1 (upd (sPt ((uPt Bz.1 (va_up (sPt Bz.1) 0 (upd (sPt Bz.1 0) (sNs Bz.1) x0)), Bz.2)).1 1) ((sNs Bz.1)) x1)), ((uPt Bz.1 (va_up (sPt Bz.1) 0 (upd (sPt Bz.1 0) (sNs Bz.1) x0)), Bz.2)).2)).1 (va_up (sPt ((uPt ((uPt Bz.1 (va_up (sPt Bz.1) 0 (upd (sPt Bz.1 0) (sNs Bz.1) x0)), Bz.2)).1 (va_up (sPt ((uPt Bz.1 (va_up (sPt Bz.1) 0 (upd (sPt Bz.1 0) (sNs Bz.1) x0)), Bz.2)).1) 1 (upd (sPt ((uPt Bz.1 (va_up (sPt Bz.1) 0 (upd (sPt Bz.1 0) (sNs Bz.1) x0)), Bz.2)).1 1) ((sNs Bz.1)) x1)), ((uPt Bz.1 (va_up (sPt Bz.1) 0 (upd (sPt Bz.1 0) (sNs Bz.1) x0)), Bz.2)).2)).1) 2 (upd (sPt ((uPt ((uPt Bz.1 (va_up (sPt Bz.1) 0 (upd (sPt Bz.1 0) (sNs Bz.1) x0)), Bz.2)).1 (va_up (sPt ((uPt Bz.1 (va_up (sPt Bz.1) 0 (upd (sPt Bz.1 0) (sNs Bz.1) x0)), Bz.2)).1) 1 (upd (sPt ((uPt Bz.1 (va_up (sPt Bz.1) 0 (upd (sPt Bz.1 0) (sNs Bz.1) x0)), Bz.2)).1 1) ((sNs Bz.1)) x1)), ((uPt Bz.1 (va_up (sPt Bz.1) 0 (upd (sPt Bz.1 0) (sNs Bz.1) x0)), Bz.2)).2)).1 2) ((sNs Bz.1)) x2)), ((uPt ((uPt Bz.1 (va_up (sPt Bz.1) 0 (upd (sPt Bz.1 0) (sNs Bz.1) x0)), Bz.2)).1 (va_up (sPt ((uPt Bz.1 (va_up (sPt Bz.1) 0 (upd (sPt Bz.1 0) (sNs Bz.1) x0)), Bz.2)).1) 1 (upd (sPt ((uPt Bz.1 (va_up (sPt Bz.1) 0 (upd (sPt Bz.1 0) (sNs Bz.1) x0)), Bz.2)).1 1) ((sNs Bz.1)) x1)), ((uPt Bz.1 (va_up (sPt Bz.1) 0 (upd (sPt Bz.1 0) (sNs Bz.1) x0)), Bz.2)).2)).2)).1 3) ((sNs Bz.1)) x3)), ((uPt ((uPt ((uPt Bz.1 (va_up (sPt Bz.1) 0 (upd (sPt Bz.1 0) (sNs Bz.1) x0)), Bz.2)).1 (va_up (sPt ((uPt Bz.1 (va_up (sPt Bz.1) 0 (upd (sPt Bz.1 0) (sNs Bz.1) x0)), Bz.2)).1) 1 (upd (sPt ((uPt Bz.1 (va_up (sPt Bz.1) 0 (upd (sPt Bz.1 0) (sNs Bz.1) x0)), Bz.2)).1 1) ((sNs Bz.1)) x1)), ((uPt Bz.1 (va_up (sPt Bz.1) 0 (upd (sPt Bz.1 0) (sNs Bz.1) x0)), Bz.2)).2)).1 (va_up (sPt ((uPt ((uPt Bz.1 (va_up (sPt Bz.1) 0 (upd (sPt Bz.1 0) (sNs Bz.1) x0)), Bz.2)).1 (va_up (sPt ((uPt Bz.1 (va_up (sPt Bz.1) 0 (upd (sPt Bz.1 0) (sNs Bz.1) x0)), Bz.2)).1) 1 (upd (sPt ((uPt Bz.1 (va_up (sPt Bz.1) 0 (upd (sPt Bz.1 0) (sNs Bz.1) x0)), Bz.2)).1 1) ((sNs Bz.1)) x1)), ((uPt Bz.1 (va_up (sPt Bz.1) 0 (upd (sPt Bz.1 0) (sNs Bz.1) x0)), Bz.2)).2)).1) 2 (upd (sPt ((uPt ((uPt Bz.1 (va_up (sPt Bz.1) 0 (upd (sPt Bz.1 0) (sNs Bz.1) x0)), Bz.2)).1 (va_up (sPt ((uPt Bz.1 (va_up (sPt Bz.1) 0 (upd (sPt Bz.1 0) (sNs Bz.1) x0)), Bz.2)).1) 1 (upd (sPt ((uPt Bz.1 (va_up (sPt Bz.1) 0 (upd (sPt Bz.1 0) (sNs Bz.1) x0)), Bz.2)).1 1) ((sNs Bz.1)) x1)), ((uPt Bz.1 (va_up (sPt Bz.1) 0 (upd (sPt Bz.1 0) (sNs Bz.1) x0)), Bz.2)).2)).1 2) ((sNs Bz.1)) x2)), ((uPt ((uPt Bz.1 (va_up (sPt Bz.1) 0 (upd (sPt Bz.1 0) (sNs Bz.1) x0)), Bz.2)).1 (va_up (sPt ((uPt Bz.1 (va_up (sPt Bz.1) 0 (upd (sPt Bz.1 0) (sNs Bz.1) x0)), Bz.2)).1) 1 (upd (sPt ((uPt Bz.1 (va_up (sPt Bz.1) 0 (upd (sPt Bz.1 0) (sNs Bz.1) x0)), Bz.2)).1 1) ((sNs Bz.1)) x1)), ((uPt Bz.1 (va_up (sPt Bz.1) 0 (upd (sPt Bz.1 0) (sNs Bz.1) x0)), Bz.2)).2)).2)).2)).2)).1) : Int32) = nI ((sNs Bz.1)) from rfl) ?_
  refine lv_iconst (v := nI 1) hx hb dX0_append_65 (by decide) ?_
  refine lv_iadd hx hb dX0_append_66 ?_
  refine lw_ti (show ((nI ((sNs Bz.1))) + (nI 1) : Int32) = nI (sNs Bz.1 + 1) from nI_add _ _) ?_
  refine fp_X0_27 C h hS dX0_append_67 (fun H locs h hS => ?_)
  exact eV C hret hlk (appS Bz.1 x0 x1 x2 x3 x4, Bz.2) (HB_eq h ⟨fun _ _ => ⟨rfl, rfl⟩, fun _ _ _ _ => rfl, fun _ _ _ _ => rfl, rfl, fun _ _ => rfl, fun _ _ => rfl, rfl, fun t q ht hq => by rcases (show t = 0 ∨ t = 1 ∨ t = 2 ∨ t = 3 ∨ t = 4 by omega) with rfl | rfl | rfl | rfl | rfl <;> by_cases hq2 : q = sNs Bz.1 <;> simp [appS, ptA, va_up, upd, hq2, sKd, sPl, sCe, sNb, sCo, sPe, sNs, sPt, sCm, sMv, sWv, uKd, uPl, uCe, uNb, uCo, uPe, uNs, uPt, uCm, uMv, uWv], rfl, fun _ _ => rfl, rfl⟩) hS rfl dX0_append_70

set_option maxHeartbeats 4000000 in
set_option maxRecDepth 100000 in
theorem c_colourOf (l : Launch) (G : Gx) (a : Nat → Nat) (Bz : BS) (hI : Inv Bz.1) (xz : Int64) : CtI l G 35 a (EB G a) yX2_colourOf cX2_colourOf 3 (some .int) 1 22 [.ref (a 0), .long xz] Bz (fun v u => Bz = u ∧ v = colO Bz.1 xz) := by
  refine ent_of (by decide) (Nat.le_of_ble_eq_true rfl) ?_
  intro p e s m below meth c ls C h hS hret hlk hl
  have C : Cx p s m _ c cX2_colourOf RX2 3 G := C
  have hx := C.1
  have hb := C.2.1
  have hl : lv_has ls 3 [(0, .ref (a 0)), (1, .long xz)] := hl
  refine lv_aload_n hx hb dX2_colourOf_0 rfl (lv_at hl 0 rfl) ?_
  refine lv_lload_n hx hb dX2_colourOf_1 rfl (lv_at hl 1 rfl) ?_
  refine kI (rV (As := [.long xz]) (rest := []) C h lk_X2_55 0 (by decide) rfl rfl rfl (c_isBead l G a _ hI.2.1 xz) ⟨Nat.le_of_ble_eq_true rfl, Nat.le_of_ble_eq_true rfl⟩ hl.1 rfl rfl (Nat.le_of_ble_eq_true rfl) dX2_colourOf_2 ⟨Nat.zero_le _, Nat.zero_le _⟩) hS (fun rv u H locs hp h hS => ?_)
  obtain ⟨rfl, rfl⟩ := hp
  rcases ixl_cases xz (n := sNb Bz.1) (by have := hI.2.1; omega) with hbd | ⟨j, hj, hxj, hbd⟩
  · refine lw_ti (b2i_f (fun q => q hbd)) ?_
    refine lv_if_eq (tgt := 18) hx hb dX2_colourOf_5 (by decide) (fun _ => ?_) (fun c0 => absurd c0 (by decide))
    refine lv_iconst (v := nI 0) hx hb dX2_colourOf_18 (by decide) ?_
    exact eI C hret hlk (Bz) h hS (⟨rfl, by simp [colO, hbd]⟩) dX2_colourOf_19
  · refine lw_ti (b2i_t (by rw [hbd]; exact fun q => by cases q)) ?_
    have hN := hI.2.1
    subst hxj
    refine lv_if_eq (tgt := 18) hx hb dX2_colourOf_5 (by decide) (fun c0 => absurd c0 (by decide)) (fun _ => ?_)
    refine lv_aload_n hx hb dX2_colourOf_8 rfl (lv_at hl 0 rfl) ?_
    refine fg_X2_15 C h dX2_colourOf_9 ?_
    refine lv_lload_n hx hb dX2_colourOf_12 rfl (lv_at hl 1 rfl) ?_
    refine lv_l2i hx hb dX2_colourOf_13 rfl ?_
    refine lw_ti (lN_i _) ?_
    refine al_co C h (by first | assumption | omega) dX2_colourOf_14 ?_
    refine lv_goto (tgt := 19) hx hb dX2_colourOf_15 (by decide) ?_
    exact eI C hret hlk (Bz) h hS (⟨rfl, by simp [colO, hbd]⟩) dX2_colourOf_19

set_option maxHeartbeats 4000000 in
set_option maxRecDepth 100000 in
theorem c_mayLie (l : Launch) (G : Gx) (a : Nat → Nat) (Bz : BS) (hI : Inv Bz.1) (k : Nat) (hk : k ≤ 9) (vz : Int64) : CtI l G 35 a (EB G a) yX2_mayLie cX2_mayLie 4 (some .boolean) 1 22 [.ref (a 0), .int (nI k), .long vz] Bz (fun v u => Bz = u ∧ v = b2i (mayL Bz.1 k vz)) := by
  refine ent_of (by decide) (Nat.le_of_ble_eq_true rfl) ?_
  intro p e s m below meth c ls C h hS hret hlk hl
  have C : Cx p s m _ c cX2_mayLie RX2 4 G := C
  have hx := C.1
  have hb := C.2.1
  have hl : lv_has ls 4 [(0, .ref (a 0)), (1, .int (nI k)), (2, .long vz)] := hl
  refine lv_iload_n hx hb dX2_mayLie_0 rfl (lv_at hl 1 rfl) ?_
  refine kI (rS (As := [.int (nI k)]) (rest := []) C h lk_X2_131 (c_holdsBeads l G a _ k hk) ⟨Nat.le_of_ble_eq_true rfl, Nat.le_of_ble_eq_true rfl⟩ hl.1 rfl rfl (Nat.le_of_ble_eq_true rfl) dX2_mayLie_1 ⟨Nat.zero_le _, Nat.zero_le _⟩) hS (fun rv u H locs hp h hS => ?_)
  obtain ⟨rfl, rfl⟩ := hp
  by_cases hP : k = 7 ∨ k = 8
  · refine lw_ti (b2i_t hP) ?_
    refine lv_if_eq (tgt := 15) hx hb dX2_mayLie_4 (by decide) (fun c0 => absurd c0 (by decide)) (fun _ => ?_)
    refine lv_lload_n hx hb dX2_mayLie_7 rfl (lv_at hl 2 rfl) ?_
    refine lv_ldc2 (v := -1) hx hb C.2.2.2.1 (C.2.2.2.2.1 _ (by decide +kernel)) dX2_mayLie_8 ?_
    refine W.lcmp hx hb dX2_mayLie_11 ?_
    refine lv_if_ne (tgt := 17) hx hb dX2_mayLie_12 (by decide) (fun c12 => ?_) (fun c12 => ?_)
    · have c12 : ¬ vz = (-1) := fun q => c12 ((lg_cmp_eq _ _).mpr q)
      refine lv_aload_n hx hb dX2_mayLie_17 rfl (lv_at hl 0 rfl) ?_
      refine lv_lload_n hx hb dX2_mayLie_18 rfl (lv_at hl 2 rfl) ?_
      refine kI (rV (As := [.long vz]) (rest := []) C h lk_X2_55 0 (by decide) rfl rfl rfl (c_isBead l G a _ hI.2.1 vz) ⟨Nat.le_of_ble_eq_true rfl, Nat.le_of_ble_eq_true rfl⟩ hl.1 rfl rfl (Nat.le_of_ble_eq_true rfl) dX2_mayLie_19 ⟨Nat.zero_le _, Nat.zero_le _⟩) hS (fun rv u H locs hp h hS => ?_)
      obtain ⟨rfl, rfl⟩ := hp
      rcases ixl_cases vz (n := sNb Bz.1) (by have := hI.2.1; omega) with hbd | ⟨j, hj, hxj, hbd⟩
      · refine lw_ti (b2i_f (fun q => q hbd)) ?_
        refine lv_if_eq (tgt := 45) hx hb dX2_mayLie_22 (by decide) (fun _ => ?_) (fun c0 => absurd c0 (by decide))
        refine lv_iconst (v := nI 0) hx hb dX2_mayLie_45 (by decide) ?_
        exact eZ C hret hlk (Bz) h hS (rfl) (⟨rfl, (b2i_f (by rintro (q | q | ⟨i, q, _⟩); exact q hP; exact c12 q; rw [hbd] at q; cases q)).symm⟩) dX2_mayLie_46
      · refine lw_ti (b2i_t (by rw [hbd]; exact fun q => by cases q)) ?_
        have hN := hI.2.1
        subst hxj
        refine lv_if_eq (tgt := 45) hx hb dX2_mayLie_22 (by decide) (fun c0 => absurd c0 (by decide)) (fun _ => ?_)
        refine lv_iload_n hx hb dX2_mayLie_25 rfl (lv_at hl 1 rfl) ?_
        refine lv_bipush (v := nI 7) hx hb dX2_mayLie_26 (by decide) ?_
        refine lv_icmp_eq (tgt := 41) hx hb dX2_mayLie_28 (by decide) (fun c28 => ?_) (fun c28 => ?_)
        · skip
          refine lv_iconst (v := nI 1) hx hb dX2_mayLie_41 (by decide) ?_
          refine lv_goto (tgt := 46) hx hb dX2_mayLie_42 (by decide) ?_
          exact eZ C hret hlk (Bz) h hS (rfl) (⟨rfl, (b2i_t (Or.inr (Or.inr ⟨j, hbd, Or.inl ((nI_eq (by omega) (by decide)).mp c28)⟩))).symm⟩) dX2_mayLie_46
        · skip
          refine lv_aload_n hx hb dX2_mayLie_31 rfl (lv_at hl 0 rfl) ?_
          refine fg_X2_19 C h dX2_mayLie_32 ?_
          refine lv_lload_n hx hb dX2_mayLie_35 rfl (lv_at hl 2 rfl) ?_
          refine lv_l2i hx hb dX2_mayLie_36 rfl ?_
          refine lw_ti (lN_i _) ?_
          refine al_pe C h (by first | assumption | omega) dX2_mayLie_37 ?_
          refine lv_if_eq (tgt := 45) hx hb dX2_mayLie_38 (by decide) (fun c38 => ?_) (fun c38 => ?_)
          · skip
            refine lv_iconst (v := nI 0) hx hb dX2_mayLie_45 (by decide) ?_
            exact eZ C hret hlk (Bz) h hS (rfl) (⟨rfl, (b2i_f (by rintro (q | q | ⟨i, q, q2⟩); exact q hP; exact c12 q; rw [hbd] at q; cases q; rcases q2 with q2 | q2; exact c28 (by rw [q2]); exact q2 c38)).symm⟩) dX2_mayLie_46
          · skip
            refine lv_iconst (v := nI 1) hx hb dX2_mayLie_41 (by decide) ?_
            refine lv_goto (tgt := 46) hx hb dX2_mayLie_42 (by decide) ?_
            exact eZ C hret hlk (Bz) h hS (rfl) (⟨rfl, (b2i_t (Or.inr (Or.inr ⟨j, hbd, Or.inr c38⟩))).symm⟩) dX2_mayLie_46
    · have c12 : vz = (-1) := (lg_cmp_eq _ _).mp c12
      refine lv_iconst (v := nI 1) hx hb dX2_mayLie_15 (by decide) ?_
      exact eZ C hret hlk (Bz) h hS (rfl) (⟨rfl, (b2i_t (Or.inr (Or.inl c12))).symm⟩) dX2_mayLie_16
  · refine lw_ti (b2i_f hP) ?_
    refine lv_if_eq (tgt := 15) hx hb dX2_mayLie_4 (by decide) (fun _ => ?_) (fun c0 => absurd c0 (by decide))
    refine lv_iconst (v := nI 1) hx hb dX2_mayLie_15 (by decide) ?_
    exact eZ C hret hlk (Bz) h hS (rfl) (⟨rfl, (b2i_t (Or.inl hP)).symm⟩) dX2_mayLie_16

set_option maxHeartbeats 4000000 in
set_option maxRecDepth 100000 in
theorem c_mayExchange (l : Launch) (G : Gx) (a : Nat → Nat) (Bz : BS) (k q : Nat) (hk : k ≤ 9) (hq : q ≤ 9) : CtI l G 35 a (EB G a) yX2_mayExchange cX2_mayExchange 2 (some .boolean) 1 20 [.int (nI k), .int (nI q)] Bz (fun v u => Bz = u ∧ v = b2i (exchP k q)) := by
  refine ent_of (by decide) (Nat.le_of_ble_eq_true rfl) ?_
  intro p e s m below meth c ls C h hS hret hlk hl
  have C : Cx p s m _ c cX2_mayExchange RX2 2 G := C
  have hx := C.1
  have hb := C.2.1
  have hl : lv_has ls 2 [(0, .int (nI k)), (1, .int (nI q))] := hl
  refine lv_iload_n hx hb dX2_mayExchange_0 rfl (lv_at hl 0 rfl) ?_
  refine lv_iload_n hx hb dX2_mayExchange_1 rfl (lv_at hl 1 rfl) ?_
  refine lv_icmp_eq (tgt := 19) hx hb dX2_mayExchange_2 (by decide) (fun c2 => ?_) (fun c2 => ?_)
  · skip
    refine lv_iconst (v := nI 1) hx hb dX2_mayExchange_19 (by decide) ?_
    refine lv_goto (tgt := 24) hx hb dX2_mayExchange_20 (by decide) ?_
    exact eZ C hret hlk (Bz) h hS (rfl) (⟨rfl, (b2i_t (Or.inl ((nI_eq (by omega) (by omega)).mp c2))).symm⟩) dX2_mayExchange_24
  · skip
    refine lv_iload_n hx hb dX2_mayExchange_5 rfl (lv_at hl 0 rfl) ?_
    refine kI (rS (As := [.int (nI k)]) (rest := []) C h lk_X2_131 (c_holdsBeads l G a _ k hk) ⟨Nat.le_of_ble_eq_true rfl, Nat.le_of_ble_eq_true rfl⟩ hl.1 rfl rfl (Nat.le_of_ble_eq_true rfl) dX2_mayExchange_6 ⟨Nat.zero_le _, Nat.zero_le _⟩) hS (fun rv u H locs hp h hS => ?_)
    obtain ⟨rfl, rfl⟩ := hp
    by_cases hP : k = 7 ∨ k = 8
    · refine lw_ti (b2i_t hP) ?_
      refine lv_if_eq (tgt := 23) hx hb dX2_mayExchange_9 (by decide) (fun c0 => absurd c0 (by decide)) (fun _ => ?_)
      refine lv_iload_n hx hb dX2_mayExchange_12 rfl (lv_at hl 1 rfl) ?_
      refine kI (rS (As := [.int (nI q)]) (rest := []) C h lk_X2_131 (c_holdsBeads l G a _ q hq) ⟨Nat.le_of_ble_eq_true rfl, Nat.le_of_ble_eq_true rfl⟩ hl.1 rfl rfl (Nat.le_of_ble_eq_true rfl) dX2_mayExchange_13 ⟨Nat.zero_le _, Nat.zero_le _⟩) hS (fun rv u H locs hp h hS => ?_)
      obtain ⟨rfl, rfl⟩ := hp
      by_cases hQ : q = 7 ∨ q = 8
      · refine lw_ti (b2i_t hQ) ?_
        refine lv_if_eq (tgt := 23) hx hb dX2_mayExchange_16 (by decide) (fun c0 => absurd c0 (by decide)) (fun _ => ?_)
        refine lv_iconst (v := nI 1) hx hb dX2_mayExchange_19 (by decide) ?_
        refine lv_goto (tgt := 24) hx hb dX2_mayExchange_20 (by decide) ?_
        exact eZ C hret hlk (Bz) h hS (rfl) (⟨rfl, (b2i_t (Or.inr ⟨hP, hQ⟩)).symm⟩) dX2_mayExchange_24
      · refine lw_ti (b2i_f hQ) ?_
        refine lv_if_eq (tgt := 23) hx hb dX2_mayExchange_16 (by decide) (fun _ => ?_) (fun c0 => absurd c0 (by decide))
        refine lv_iconst (v := nI 0) hx hb dX2_mayExchange_23 (by decide) ?_
        exact eZ C hret hlk (Bz) h hS (rfl) (⟨rfl, (b2i_f (by rintro (z | z); exact c2 (by rw [z]); exact hQ z.2)).symm⟩) dX2_mayExchange_24
    · refine lw_ti (b2i_f hP) ?_
      refine lv_if_eq (tgt := 23) hx hb dX2_mayExchange_9 (by decide) (fun _ => ?_) (fun c0 => absurd c0 (by decide))
      refine lv_iconst (v := nI 0) hx hb dX2_mayExchange_23 (by decide) ?_
      exact eZ C hret hlk (Bz) h hS (rfl) (⟨rfl, (b2i_f (by rintro (z | z); exact c2 (by rw [z]); exact hP z.1)).symm⟩) dX2_mayExchange_24

set_option maxHeartbeats 4000000 in
set_option maxRecDepth 100000 in
theorem c_mayCompare (l : Launch) (G : Gx) (a : Nat → Nat) (Bz : BS) (k q : Nat) (hk : k ≤ 9) (hq : q ≤ 9) : CtI l G 35 a (EB G a) yX2_mayCompare cX2_mayCompare 2 (some .boolean) 2 41 [.int (nI k), .int (nI q)] Bz (fun v u => Bz = u ∧ v = b2i (cmpP k q)) := by
  refine ent_of (by decide) (Nat.le_of_ble_eq_true rfl) ?_
  intro p e s m below meth c ls C h hS hret hlk hl
  have C : Cx p s m _ c cX2_mayCompare RX2 2 G := C
  have hx := C.1
  have hb := C.2.1
  have hl : lv_has ls 2 [(0, .int (nI k)), (1, .int (nI q))] := hl
  refine lv_iload_n hx hb dX2_mayCompare_0 rfl (lv_at hl 0 rfl) ?_
  refine lv_iload_n hx hb dX2_mayCompare_1 rfl (lv_at hl 1 rfl) ?_
  refine kI (rS (As := [.int (nI k), .int (nI q)]) (rest := []) C h lk_X2_139 (c_mayExchange l G a _ k q hk hq) ⟨Nat.le_of_ble_eq_true rfl, Nat.le_of_ble_eq_true rfl⟩ hl.1 rfl rfl (Nat.le_of_ble_eq_true rfl) dX2_mayCompare_2 ⟨Nat.zero_le _, Nat.zero_le _⟩) hS (fun rv u H locs hp h hS => ?_)
  obtain ⟨rfl, rfl⟩ := hp
  by_cases hE : exchP k q
  · refine lw_ti (b2i_t hE) ?_
    refine lv_if_ne (tgt := 22) hx hb dX2_mayCompare_5 (by decide) (fun _ => ?_) (fun c0 => absurd c0 (by decide))
    refine lv_iconst (v := nI 1) hx hb dX2_mayCompare_22 (by decide) ?_
    refine lv_goto (tgt := 27) hx hb dX2_mayCompare_23 (by decide) ?_
    exact eZ C hret hlk (Bz) h hS (rfl) (⟨rfl, (b2i_t (Or.inl hE)).symm⟩) dX2_mayCompare_27
  · refine lw_ti (b2i_f hE) ?_
    refine lv_if_ne (tgt := 22) hx hb dX2_mayCompare_5 (by decide) (fun c0 => absurd c0 (by decide)) (fun _ => ?_)
    refine lv_iload_n hx hb dX2_mayCompare_8 rfl (lv_at hl 0 rfl) ?_
    refine kI (rS (As := [.int (nI k)]) (rest := []) C h lk_X2_142 (c_holdsNumbers l G a _ k hk) ⟨Nat.le_of_ble_eq_true rfl, Nat.le_of_ble_eq_true rfl⟩ hl.1 rfl rfl (Nat.le_of_ble_eq_true rfl) dX2_mayCompare_9 ⟨Nat.zero_le _, Nat.zero_le _⟩) hS (fun rv u H locs hp h hS => ?_)
    obtain ⟨rfl, rfl⟩ := hp
    by_cases hP : 1 ≤ k ∧ k ≤ 5
    · refine lw_ti (b2i_t hP) ?_
      refine lv_if_eq (tgt := 26) hx hb dX2_mayCompare_12 (by decide) (fun c0 => absurd c0 (by decide)) (fun _ => ?_)
      refine lv_iload_n hx hb dX2_mayCompare_15 rfl (lv_at hl 1 rfl) ?_
      refine kI (rS (As := [.int (nI q)]) (rest := []) C h lk_X2_142 (c_holdsNumbers l G a _ q hq) ⟨Nat.le_of_ble_eq_true rfl, Nat.le_of_ble_eq_true rfl⟩ hl.1 rfl rfl (Nat.le_of_ble_eq_true rfl) dX2_mayCompare_16 ⟨Nat.zero_le _, Nat.zero_le _⟩) hS (fun rv u H locs hp h hS => ?_)
      obtain ⟨rfl, rfl⟩ := hp
      by_cases hQ : 1 ≤ q ∧ q ≤ 5
      · refine lw_ti (b2i_t hQ) ?_
        refine lv_if_eq (tgt := 26) hx hb dX2_mayCompare_19 (by decide) (fun c0 => absurd c0 (by decide)) (fun _ => ?_)
        refine lv_iconst (v := nI 1) hx hb dX2_mayCompare_22 (by decide) ?_
        refine lv_goto (tgt := 27) hx hb dX2_mayCompare_23 (by decide) ?_
        exact eZ C hret hlk (Bz) h hS (rfl) (⟨rfl, (b2i_t (Or.inr ⟨hP, hQ⟩)).symm⟩) dX2_mayCompare_27
      · refine lw_ti (b2i_f hQ) ?_
        refine lv_if_eq (tgt := 26) hx hb dX2_mayCompare_19 (by decide) (fun _ => ?_) (fun c0 => absurd c0 (by decide))
        refine lv_iconst (v := nI 0) hx hb dX2_mayCompare_26 (by decide) ?_
        exact eZ C hret hlk (Bz) h hS (rfl) (⟨rfl, (b2i_f (by rintro (z | z); exact hE z; exact hQ z.2)).symm⟩) dX2_mayCompare_27
    · refine lw_ti (b2i_f hP) ?_
      refine lv_if_eq (tgt := 26) hx hb dX2_mayCompare_12 (by decide) (fun _ => ?_) (fun c0 => absurd c0 (by decide))
      refine lv_iconst (v := nI 0) hx hb dX2_mayCompare_26 (by decide) ?_
      exact eZ C hret hlk (Bz) h hS (rfl) (⟨rfl, (b2i_f (by rintro (z | z); exact hE z; exact hP z.1)).symm⟩) dX2_mayCompare_27

set_option maxHeartbeats 4000000 in
set_option maxRecDepth 100000 in
theorem c_hindrance (l : Launch) (G : Gx) (a : Nat → Nat) (Bz : BS) (hI : Inv Bz.1) (q r : Nat) (hq : q < 8) (hr : r < 8) (iz jz nz : Int64) : CtI l G 35 a (EB G a) yX2_hindrance cX2_hindrance 8 (some .int) 2 41 [.ref (a (q + 11)), .long iz, .ref (a (r + 11)), .long jz, .long nz] Bz (fun v u => Bz = u ∧ v = nI (hind Bz.1 q r iz jz nz)) := by
  refine ent_of (by decide) (Nat.le_of_ble_eq_true rfl) ?_
  intro p e s m below meth c ls C h hS hret hlk hl
  have C : Cx p s m _ c cX2_hindrance RX2 8 G := C
  have hx := C.1
  have hb := C.2.1
  have hl : lv_has ls 8 [(0, .ref (a (q + 11))), (1, .long iz), (3, .ref (a (r + 11))), (4, .long jz), (6, .long nz)] := hl
  have hkq := hI.1 q hq
  have hkr := hI.1 r hr
  refine lv_aload_n hx hb dX2_hindrance_0 rfl (lv_at hl 0 rfl) ?_
  refine fg_X2_52 C h (by first | assumption | omega) dX2_hindrance_1 ?_
  refine lv_if_eq (tgt := 14) hx hb dX2_hindrance_4 (by decide) (fun c4 => ?_) (fun c4 => ?_)
  · skip
    refine lv_iconst (v := nI 1) hx hb dX2_hindrance_14 (by decide) ?_
    exact eI C hret hlk (Bz) h hS (⟨rfl, by unfold hind; rw [if_pos (Or.inl ((nI_z (by omega)).mp c4))]⟩) dX2_hindrance_15
  · skip
    refine lv_aload_n hx hb dX2_hindrance_7 rfl (lv_at hl 2 rfl) ?_
    refine fg_X2_52 C h (by first | assumption | omega) dX2_hindrance_8 ?_
    refine lv_if_ne (tgt := 16) hx hb dX2_hindrance_11 (by decide) (fun c11 => ?_) (fun c11 => ?_)
    · skip
      refine lv_aload_n hx hb dX2_hindrance_16 rfl (lv_at hl 0 rfl) ?_
      refine kI (rVN (As := []) (rest := []) C h lk_X2_134 (q + 11) (by omega) (EB_r _ _ _ (by first | assumption | omega)) rfl rfl (c_hasRow l G a _ q hq hkq.1) ⟨Nat.le_of_ble_eq_true rfl, Nat.le_of_ble_eq_true rfl⟩ hl.1 rfl rfl (Nat.le_of_ble_eq_true rfl) dX2_hindrance_17 ⟨Nat.zero_le _, Nat.zero_le _⟩) hS (fun rv u H locs hp h hS => ?_)
      obtain ⟨rfl, rfl⟩ := hp
      by_cases hP : ¬ (sKd Bz.1 q = 0 ∨ sKd Bz.1 q = 9)
      · refine lw_ti (b2i_t hP) ?_
        refine lv_if_eq (tgt := 44) hx hb dX2_hindrance_20 (by decide) (fun c0 => absurd c0 (by decide)) (fun _ => ?_)
        refine lv_aload_n hx hb dX2_hindrance_23 rfl (lv_at hl 2 rfl) ?_
        refine kI (rVN (As := []) (rest := []) C h lk_X2_134 (r + 11) (by omega) (EB_r _ _ _ (by first | assumption | omega)) rfl rfl (c_hasRow l G a _ r hr hkr.1) ⟨Nat.le_of_ble_eq_true rfl, Nat.le_of_ble_eq_true rfl⟩ hl.1 rfl rfl (Nat.le_of_ble_eq_true rfl) dX2_hindrance_24 ⟨Nat.zero_le _, Nat.zero_le _⟩) hS (fun rv u H locs hp h hS => ?_)
        obtain ⟨rfl, rfl⟩ := hp
        by_cases hQ : ¬ (sKd Bz.1 r = 0 ∨ sKd Bz.1 r = 9)
        · refine lw_ti (b2i_t hQ) ?_
          refine lv_if_eq (tgt := 44) hx hb dX2_hindrance_27 (by decide) (fun c0 => absurd c0 (by decide)) (fun _ => ?_)
          refine lv_aload_n hx hb dX2_hindrance_30 rfl (lv_at hl 0 rfl) ?_
          refine fg_X2_52 C h (by first | assumption | omega) dX2_hindrance_31 ?_
          refine lv_aload_n hx hb dX2_hindrance_34 rfl (lv_at hl 2 rfl) ?_
          refine fg_X2_52 C h (by first | assumption | omega) dX2_hindrance_35 ?_
          refine kI (rS (As := [.int (nI (sKd Bz.1 q)), .int (nI (sKd Bz.1 r))]) (rest := []) C h lk_X2_139 (c_mayExchange l G a _ _ _ hkq.1 hkr.1) ⟨Nat.le_of_ble_eq_true rfl, Nat.le_of_ble_eq_true rfl⟩ hl.1 rfl rfl (Nat.le_of_ble_eq_true rfl) dX2_hindrance_38 ⟨Nat.zero_le _, Nat.zero_le _⟩) hS (fun rv u H locs hp h hS => ?_)
          obtain ⟨rfl, rfl⟩ := hp
          by_cases hE : exchP (sKd Bz.1 q) (sKd Bz.1 r)
          · refine lw_ti (b2i_t hE) ?_
            refine lv_if_ne (tgt := 46) hx hb dX2_hindrance_41 (by decide) (fun _ => ?_) (fun c0 => absurd c0 (by decide))
            refine lv_aload_n hx hb dX2_hindrance_46 rfl (lv_at hl 0 rfl) ?_
            refine lv_lload_n hx hb dX2_hindrance_47 rfl (lv_at hl 1 rfl) ?_
            refine lv_lload hx hb dX2_hindrance_48 (lv_at hl 4 rfl) ?_
            refine kI (rVN (As := [.long iz, .long nz]) (rest := []) C h lk_X2_158 (q + 11) (by omega) (EB_r _ _ _ (by first | assumption | omega)) rfl rfl (c_hasStretch l G a _ q hq hkq.2 iz nz) ⟨Nat.le_of_ble_eq_true rfl, Nat.le_of_ble_eq_true rfl⟩ hl.1 rfl rfl (Nat.le_of_ble_eq_true rfl) dX2_hindrance_50 ⟨Nat.zero_le _, Nat.zero_le _⟩) hS (fun rv u H locs hp h hS => ?_)
            obtain ⟨rfl, rfl⟩ := hp
            by_cases hX : strP Bz.1 q iz nz
            · refine lw_ti (b2i_t hX) ?_
              refine lv_if_eq (tgt := 67) hx hb dX2_hindrance_53 (by decide) (fun c0 => absurd c0 (by decide)) (fun _ => ?_)
              refine lv_aload_n hx hb dX2_hindrance_56 rfl (lv_at hl 2 rfl) ?_
              refine lv_lload hx hb dX2_hindrance_57 (lv_at hl 3 rfl) ?_
              refine lv_lload hx hb dX2_hindrance_59 (lv_at hl 4 rfl) ?_
              refine kI (rVN (As := [.long jz, .long nz]) (rest := []) C h lk_X2_158 (r + 11) (by omega) (EB_r _ _ _ (by first | assumption | omega)) rfl rfl (c_hasStretch l G a _ r hr hkr.2 jz nz) ⟨Nat.le_of_ble_eq_true rfl, Nat.le_of_ble_eq_true rfl⟩ hl.1 rfl rfl (Nat.le_of_ble_eq_true rfl) dX2_hindrance_61 ⟨Nat.zero_le _, Nat.zero_le _⟩) hS (fun rv u H locs hp h hS => ?_)
              obtain ⟨rfl, rfl⟩ := hp
              by_cases hY : strP Bz.1 r jz nz
              · refine lw_ti (b2i_t hY) ?_
                refine lv_if_ne (tgt := 69) hx hb dX2_hindrance_64 (by decide) (fun _ => ?_) (fun c0 => absurd c0 (by decide))
                refine lv_iconst (v := nI 0) hx hb dX2_hindrance_69 (by decide) ?_
                exact eI C hret hlk (Bz) h hS (⟨rfl, by unfold hind; rw [if_neg (by rintro (z | z); exact c4 ((nI_z (by omega)).mpr z); exact c11 ((nI_z (by omega)).mpr z)), cif_f (by rintro (z | z | z); exact hP (Or.inr z); exact hQ (Or.inr z); exact z hE), cif_t ⟨hX, hY⟩]⟩) dX2_hindrance_70
              · refine lw_ti (b2i_f hY) ?_
                refine lv_if_ne (tgt := 69) hx hb dX2_hindrance_64 (by decide) (fun c0 => absurd c0 (by decide)) (fun _ => ?_)
                refine lv_iconst (v := nI 3) hx hb dX2_hindrance_67 (by decide) ?_
                exact eI C hret hlk (Bz) h hS (⟨rfl, by unfold hind; rw [if_neg (by rintro (z | z); exact c4 ((nI_z (by omega)).mpr z); exact c11 ((nI_z (by omega)).mpr z)), cif_f (by rintro (z | z | z); exact hP (Or.inr z); exact hQ (Or.inr z); exact z hE), cif_f (fun z => hY z.2)]⟩) dX2_hindrance_68
            · refine lw_ti (b2i_f hX) ?_
              refine lv_if_eq (tgt := 67) hx hb dX2_hindrance_53 (by decide) (fun _ => ?_) (fun c0 => absurd c0 (by decide))
              refine lv_iconst (v := nI 3) hx hb dX2_hindrance_67 (by decide) ?_
              exact eI C hret hlk (Bz) h hS (⟨rfl, by unfold hind; rw [if_neg (by rintro (z | z); exact c4 ((nI_z (by omega)).mpr z); exact c11 ((nI_z (by omega)).mpr z)), cif_f (by rintro (z | z | z); exact hP (Or.inr z); exact hQ (Or.inr z); exact z hE), cif_f (fun z => hX z.1)]⟩) dX2_hindrance_68
          · refine lw_ti (b2i_f hE) ?_
            refine lv_if_ne (tgt := 46) hx hb dX2_hindrance_41 (by decide) (fun c0 => absurd c0 (by decide)) (fun _ => ?_)
            refine lv_iconst (v := nI 2) hx hb dX2_hindrance_44 (by decide) ?_
            exact eI C hret hlk (Bz) h hS (⟨rfl, by unfold hind; rw [if_neg (by rintro (z | z); exact c4 ((nI_z (by omega)).mpr z); exact c11 ((nI_z (by omega)).mpr z)), cif_t (Or.inr (Or.inr hE))]⟩) dX2_hindrance_45
        · refine lw_ti (b2i_f hQ) ?_
          refine lv_if_eq (tgt := 44) hx hb dX2_hindrance_27 (by decide) (fun _ => ?_) (fun c0 => absurd c0 (by decide))
          refine lv_iconst (v := nI 2) hx hb dX2_hindrance_44 (by decide) ?_
          exact eI C hret hlk (Bz) h hS (⟨rfl, by unfold hind; rw [if_neg (by rintro (z | z); exact c4 ((nI_z (by omega)).mpr z); exact c11 ((nI_z (by omega)).mpr z)), cif_t (by rcases Classical.not_not.mp hQ with z | z; exact absurd ((nI_z (by omega)).mpr z) c11; exact Or.inr (Or.inl z))]⟩) dX2_hindrance_45
      · refine lw_ti (b2i_f hP) ?_
        refine lv_if_eq (tgt := 44) hx hb dX2_hindrance_20 (by decide) (fun _ => ?_) (fun c0 => absurd c0 (by decide))
        refine lv_iconst (v := nI 2) hx hb dX2_hindrance_44 (by decide) ?_
        exact eI C hret hlk (Bz) h hS (⟨rfl, by unfold hind; rw [if_neg (by rintro (z | z); exact c4 ((nI_z (by omega)).mpr z); exact c11 ((nI_z (by omega)).mpr z)), cif_t (by rcases Classical.not_not.mp hP with z | z; exact absurd ((nI_z (by omega)).mpr z) c4; exact Or.inl z)]⟩) dX2_hindrance_45
    · skip
      refine lv_iconst (v := nI 1) hx hb dX2_hindrance_14 (by decide) ?_
      exact eI C hret hlk (Bz) h hS (⟨rfl, by unfold hind; rw [if_pos (Or.inr ((nI_z (by omega)).mp c11))]⟩) dX2_hindrance_15

theorem cmn_step {S : St} {f : Nat → Int64} {i n k : Nat} (h : k < n) (hm : mayL S 8 (f (i + k))) : cmn S f i (n - k) k = cmn S f i (n - (k + 1)) (k + 1) := by
  rw [show n - k = (n - (k + 1)) + 1 by omega]
  exact cif_t hm
theorem cmn_stop {S : St} {f : Nat → Int64} {i n k : Nat} (h : k < n) (hm : ¬ mayL S 8 (f (i + k))) : cmn S f i (n - k) k = k := by
  rw [show n - k = (n - (k + 1)) + 1 by omega]
  exact cif_f hm

set_option maxHeartbeats 4000000 in
set_option maxRecDepth 100000 in
theorem c_mayCome (l : Launch) (G : Gx) (a : Nat → Nat) (Bz : BS) (hI : Inv Bz.1) (q r : Nat) (hq : q < 8) (hr : r < 8) (iz nz : Nat) (hin : iz + nz ≤ 40) : CtI l G 35 a (EB G a) yX2_mayCome cX2_mayCome 6 (some .int) 2 45 [.ref (a 0), .ref (a (q + 11)), .int (nI iz), .ref (a (r + 11)), .int (nI nz)] Bz (fun v u => Bz = u ∧ v = nI (comeC Bz.1 q r iz nz)) := by
  refine ent_of (by decide) (Nat.le_of_ble_eq_true rfl) ?_
  intro p e s m below meth c ls C h hS hret hlk hl
  have C : Cx p s m _ c cX2_mayCome RX2 6 G := C
  have hx := C.1
  have hb := C.2.1
  have hl : lv_has ls 6 [(0, .ref (a 0)), (1, .ref (a (q + 11))), (2, .int (nI iz)), (3, .ref (a (r + 11))), (4, .int (nI nz))] := hl
  have hkr := (hI.1 r hr).1
  have lp : ∀ (n : Nat) (kz : Nat) (H : Heap) (locs : List Loc) (ls : Array Slot), (kz ≤ nz) → (nz < kz + n) → (nI (sKd Bz.1 r) = nI 8) → (cmn Bz.1 (sCe Bz.1 q) iz (nz - kz) kz = cmn Bz.1 (sCe Bz.1 q) iz nz 0) →  HW G.1 35 a (EB G a (Bz)) H → va_S (Aw 35 a) s.heap H locs → lv_has ls 6 [(0, .ref (a 0)), (1, .ref (a (q + 11))), (2, .int (nI iz)), (3, .ref (a (r + 11))), (4, .int (nI nz)), (5, .int (nI kz))] → W p l e (rmB 2 45) s m ([.ref (a 0), .ref (a (q + 11)), .int (nI iz), .ref (a (r + 11)), .int (nI nz)].toArray) below meth c H locs 0 0 (MQ below (va_Qi (fun v u => Bz = u ∧ v = nI (comeC Bz.1 q r iz nz)) (fun u t => HW G.1 35 a (EB G a u) t.heap) (Aw 35 a)) ([.ref (a 0), .ref (a (q + 11)), .int (nI iz), .ref (a (r + 11)), .int (nI nz)].toArray) s 0 0 (Aw 35 a)) (F0 m 15 ls []) := by
    intro n
    induction n with
    | zero =>
      intro kz H locs ls hk hn c6 hc
      exact absurd hn (by omega)
    | succ n ih =>
      intro kz H locs ls hk hn c6 hc h hS hl
      refine lv_iload hx hb dX2_mayCome_15 (lv_at hl 5 rfl) ?_
      refine lv_iload hx hb dX2_mayCome_17 (lv_at hl 4 rfl) ?_
      refine lv_icmp_ge (tgt := 46) hx hb dX2_mayCome_19 (by decide) (fun c19 => ?_) (fun c19 => ?_)
      · skip
        refine lv_iload hx hb dX2_mayCome_46 (lv_at hl 5 rfl) ?_
        exact eI C hret hlk (Bz) h hS (⟨rfl, by unfold comeC; rw [if_pos ((nI_eq (by omega) (by decide)).mp c6), ← hc, show nz - kz = 0 by rw [nI_leI (by omega) (by omega)] at c19; omega, cmn]⟩) dX2_mayCome_48
      · skip
        have hkn : kz < nz := by rw [nI_leI (by omega) (by omega)] at c19; omega
        refine lv_aload_n hx hb dX2_mayCome_22 rfl (lv_at hl 0 rfl) ?_
        refine lv_bipush (v := nI 8) hx hb dX2_mayCome_23 (by decide) ?_
        refine lv_aload_n hx hb dX2_mayCome_25 rfl (lv_at hl 1 rfl) ?_
        refine fg_X2_74 C h (by first | assumption | omega) dX2_mayCome_26 ?_
        refine lv_iload_n hx hb dX2_mayCome_29 rfl (lv_at hl 2 rfl) ?_
        refine lv_iload hx hb dX2_mayCome_30 (lv_at hl 5 rfl) ?_
        refine lv_iadd hx hb dX2_mayCome_32 ?_
        refine lw_ti (show ((nI iz) + (nI kz) : Int32) = nI (iz + kz) from nI_add _ _) ?_
        refine al_ce C h (by first | assumption | omega) (by first | assumption | omega) dX2_mayCome_33 ?_
        refine kI (rV (As := [.int (nI 8), .long (sCe Bz.1 q (iz + kz))]) (rest := []) C h lk_X2_70 0 (by decide) rfl rfl rfl (c_mayLie l G a _ hI 8 (by decide) _) ⟨Nat.le_of_ble_eq_true rfl, Nat.le_of_ble_eq_true rfl⟩ hl.1 rfl rfl (Nat.le_of_ble_eq_true rfl) dX2_mayCome_34 ⟨Nat.zero_le _, Nat.zero_le _⟩) hS (fun rv u H locs hp h hS => ?_)
        obtain ⟨rfl, rfl⟩ := hp
        by_cases hm : mayL Bz.1 8 (sCe Bz.1 q (iz + kz))
        · refine lw_ti (b2i_t hm) ?_
          refine lv_if_eq (tgt := 46) hx hb dX2_mayCome_37 (by decide) (fun c0 => absurd c0 (by decide)) (fun _ => ?_)
          refine lv_iinc (v := nI (kz + 1)) (lv' := [(5, .int (nI (kz + 1))), (0, .ref (a 0)), (1, .ref (a (q + 11))), (2, .int (nI iz)), (3, .ref (a (r + 11))), (4, .int (nI nz))]) hx hb dX2_mayCome_40 hl (k := 5) rfl (nI_1 kz) (by decide) rfl (fun ls hl => ?_)
          refine lv_goto (tgt := 15) hx hb dX2_mayCome_43 (by decide) ?_
          exact ih (kz + 1) _ _ _ (by omega) (by omega) c6 ((cmn_step hkn hm).symm.trans hc) h hS (lv_sub hl [1, 2, 3, 4, 5, 0] rfl)
        · refine lw_ti (b2i_f hm) ?_
          refine lv_if_eq (tgt := 46) hx hb dX2_mayCome_37 (by decide) (fun _ => ?_) (fun c0 => absurd c0 (by decide))
          refine lv_iload hx hb dX2_mayCome_46 (lv_at hl 5 rfl) ?_
          exact eI C hret hlk (Bz) h hS (⟨rfl, by unfold comeC; rw [if_pos ((nI_eq (by omega) (by decide)).mp c6), ← hc, cmn_stop hkn hm]⟩) dX2_mayCome_48
  refine lv_aload_n hx hb dX2_mayCome_0 rfl (lv_at hl 3 rfl) ?_
  refine fg_X2_52 C h (by first | assumption | omega) dX2_mayCome_1 ?_
  refine lv_bipush (v := nI 8) hx hb dX2_mayCome_4 (by decide) ?_
  refine lv_icmp_eq (tgt := 12) hx hb dX2_mayCome_6 (by decide) (fun c6 => ?_) (fun c6 => ?_)
  · skip
    refine lv_iconst (v := nI 0) hx hb dX2_mayCome_12 (by decide) ?_
    refine lv_istore (lv' := [(5, .int (nI 0)), (0, .ref (a 0)), (1, .ref (a (q + 11))), (2, .int (nI iz)), (3, .ref (a (r + 11))), (4, .int (nI nz))]) hx hb dX2_mayCome_13 hl (by decide) rfl (fun ls hl => ?_)
    exact lp (nz + 1) 0 _ _ _ (by omega) (by omega) c6 rfl h hS (lv_sub hl [1, 2, 3, 4, 5, 0] rfl)
  · skip
    refine lv_iload hx hb dX2_mayCome_9 (lv_at hl 4 rfl) ?_
    exact eI C hret hlk (Bz) h hS (⟨rfl, by unfold comeC; rw [if_neg (fun z => c6 (by rw [z]))]⟩) dX2_mayCome_11

set_option maxHeartbeats 4000000 in
set_option maxRecDepth 100000 in
theorem c_blankPlace (l : Launch) (G : Gx) (a : Nat → Nat) (Bz : BS) (hI : Inv Bz.1) (r : Nat) (hr : r < 8) (q : Nat) (hq : q < sPl Bz.1 r) : CtV l G 35 a (EB G a) yX1_blankPlace cX1_blankPlace 2 none 2 40 [.ref (a (r + 11)), .int (nI q)] Bz (fun u => (putC Bz.1 r q (blk (sKd Bz.1 r)), Bz.2) = u) := by
  refine ent_of (by decide) (Nat.le_of_ble_eq_true rfl) ?_
  intro p e s m below meth c ls C h hS hret hlk hl
  have C : Cx p s m _ c cX1_blankPlace RX1 2 G := C
  have hx := C.1
  have hb := C.2.1
  have hl : lv_has ls 2 [(0, .ref (a (r + 11))), (1, .int (nI q))] := hl
  have hkr := hI.1 r hr
  refine lv_aload_n hx hb dX1_blankPlace_0 rfl (lv_at hl 0 rfl) ?_
  refine lv_iload_n hx hb dX1_blankPlace_1 rfl (lv_at hl 1 rfl) ?_
  refine kI (rV (As := [.int (nI q)]) (rest := []) C h lk_X1_29 (r + 11) (by omega) (EB_r _ _ _ (by first | assumption | omega)) rfl rfl (c_hasPlace l G a _ r hr hkr.2 (nI q)) ⟨Nat.le_of_ble_eq_true rfl, Nat.le_of_ble_eq_true rfl⟩ hl.1 rfl rfl (Nat.le_of_ble_eq_true rfl) dX1_blankPlace_2 ⟨Nat.zero_le _, Nat.zero_le _⟩) hS (fun rv u H locs hp h hS => ?_)
  obtain ⟨rfl, rfl⟩ := hp
  refine lw_ti (b2i_t (by rw [ix_nI hq (by omega)]; exact fun z => by cases z)) ?_
  refine lv_if_eq (tgt := 21) hx hb dX1_blankPlace_5 (by decide) (fun c0 => absurd c0 (by decide)) (fun _ => ?_)
  refine lv_aload_n hx hb dX1_blankPlace_8 rfl (lv_at hl 0 rfl) ?_
  refine fg_X1_9 C h (by first | assumption | omega) dX1_blankPlace_9 ?_
  refine lv_iload_n hx hb dX1_blankPlace_12 rfl (lv_at hl 1 rfl) ?_
  refine lv_aload_n hx hb dX1_blankPlace_13 rfl (lv_at hl 0 rfl) ?_
  refine fg_X1_18 C h (by first | assumption | omega) dX1_blankPlace_14 ?_
  refine kL (rSN (As := [.int (nI (sKd Bz.1 r))]) (rest := [.int (nI q), .ref (a (r + 19))]) C h lk_X1_25 (c_blank l G a _ _ hkr.1) ⟨Nat.le_of_ble_eq_true rfl, Nat.le_of_ble_eq_true rfl⟩ hl.1 rfl rfl (Nat.le_of_ble_eq_true rfl) dX1_blankPlace_17 ⟨Nat.zero_le _, Nat.zero_le _⟩) hS (fun rv u H locs hp h hS => ?_)
  obtain ⟨rfl, rfl⟩ := hp
  refine as_ce C h hS (by first | assumption | omega) (by first | assumption | omega) dX1_blankPlace_20 (fun H locs h hS => ?_)
  exact eV C hret hlk ((uCe Bz.1 (va_up (sCe Bz.1) r (vp_updL (sCe Bz.1 r) q (blk (sKd Bz.1 r)))), Bz.2)) h hS (rfl) dX1_blankPlace_21
end
section
/-! what a MOVING keeps -/
theorem hind_le (S : St) (q r : Nat) (i j n : Int64) : hind S q r i j n ≤ 3 := by
  unfold hind
  split
  · omega
  · by_cases h : sKd S q = 9 ∨ sKd S r = 9 ∨ ¬ exchP (sKd S q) (sKd S r)
    · rw [cif_t h]; omega
    · rw [cif_f h]
      by_cases h2 : strP S q i n ∧ strP S r j n
      · rw [cif_t h2]; omega
      · rw [cif_f h2]; omega
theorem hind_0 {S : St} {q r : Nat} {i j n : Int64} (h : hind S q r i j n = 0) : exchP (sKd S q) (sKd S r) ∧ strP S q i n ∧ strP S r j n ∧ ¬ sKd S q = 0 ∧ ¬ sKd S r = 0 ∧ ¬ sKd S q = 9 ∧ ¬ sKd S r = 9 := by
  unfold hind at h
  split at h
  · omega
  · rename_i h0
    by_cases h1 : sKd S q = 9 ∨ sKd S r = 9 ∨ ¬ exchP (sKd S q) (sKd S r)
    · rw [cif_t h1] at h; omega
    · rw [cif_f h1] at h
      by_cases h2 : strP S q i n ∧ strP S r j n
      · exact ⟨Classical.byContradiction fun z => h1 (Or.inr (Or.inr z)), h2.1, h2.2, fun z => h0 (Or.inl z), fun z => h0 (Or.inr z), fun z => h1 (Or.inl z), fun z => h1 (Or.inr (Or.inl z))⟩
      · rw [cif_f h2] at h; omega
def vld (S : St) (c : Nat → Nat → Int64) : Prop := ∀ r, r < 8 → (sKd S r = 7 ∨ sKd S r = 8) → ∀ q, q < sPl S r → c r q = -1 ∨ ∃ j, j < sNb S ∧ c r q = lN j
theorem movS_n {S : St} {q r : Nat} {i j n : Int64} (h : ¬ hind S q r i j n = 0) : movS S q r i j n = movN S (hind S q r i j n) := cif_f h
theorem movS_d {S : St} {q r i j n : Nat} (h : hind S q r (lN i) (lN j) (lN n) = 0) (hi : i < 2 ^ 63) (hj : j < 2 ^ 63) (hn : n < 2 ^ 63) : movS S q r (lN i) (lN j) (lN n) = movD S q r i j (comeC S q r i n) n := by
  unfold movS
  rw [cif_t h, lN_clamp hi, lN_clamp hj, lN_clamp hn]
theorem mov_form {S : St} (hI : Inv S) {q r : Nat} (hq : q < 8) (hr : r < 8) {i j n : Int64} (hi : sml i) (hj : sml j) (hn : sml n) : ∃ c x m, (movS S q r i j n).2 = uMv (uCm (uCe S c) x) m ∧ vld S c := by
  by_cases h : hind S q r i j n = 0
  · obtain ⟨hE, h1, h2, h3⟩ := hind_0 h
    obtain ⟨i', n', rfl, rfl, h4⟩ := strP_nat h1 hi hn (hI.1 q hq).2
    obtain ⟨j', k', rfl, hk, h5⟩ := strP_nat h2 hj hn (hI.1 r hr).2
    have e1 := (hI.1 q hq).2
    have e2 := (hI.1 r hr).2
    rw [lN_eq (by omega) (by omega)] at hk
    subst hk
    rw [movS_d h (by omega) (by omega) (by omega)]
    refine ⟨_, _, _, rfl, fun t ht hk p hp => ?_⟩
    by_cases htr : t = r
    · subst htr
      rw [va_up_self]
      unfold va_cpy
      have hc := come_le S q t i' n'
      split
      · rename_i hr
        refine hI.2.2.2.2 q hq ?_ _ (by omega)
        rcases hE with hE | hE
        · rw [hE]; exact hk
        · exact hE.1
      · exact hI.2.2.2.2 t ht hk p hp
    · rw [va_up_ne _ _ htr]
      exact hI.2.2.2.2 t ht hk p hp
  · rw [movS_n h]
    exact ⟨sCe S, _, _, rfl, hI.2.2.2.2⟩
theorem mov_inv {S : St} (hI : Inv S) {q r : Nat} (hq : q < 8) (hr : r < 8) {i j n : Int64} (hi : sml i) (hj : sml j) (hn : sml n) : Inv (movS S q r i j n).2 := by
  obtain ⟨c, x, m, e, hv⟩ := mov_form hI hq hr hi hj hn
  rw [e]
  exact ⟨hI.1, hI.2.1, hI.2.2.1, hI.2.2.2.1, hv⟩
theorem mov_ns {S : St} {q r : Nat} {i j n : Int64} : sNs (movS S q r i j n).2 = sNs S ∧ sPt (movS S q r i j n).2 = sPt S ∧ sKd (movS S q r i j n).2 = sKd S ∧ sPl (movS S q r i j n).2 = sPl S ∧ sNb (movS S q r i j n).2 = sNb S ∧ sPe (movS S q r i j n).2 = sPe S ∧ sCo (movS S q r i j n).2 = sCo S ∧ sWv (movS S q r i j n).2 = sWv S := by
  by_cases h : hind S q r i j n = 0
  · unfold movS; rw [cif_t h]; exact ⟨rfl, rfl, rfl, rfl, rfl, rfl, rfl, rfl⟩
  · unfold movS; rw [cif_f h]; exact ⟨rfl, rfl, rfl, rfl, rfl, rfl, rfl, rfl⟩
theorem mov_lt (S : St) (q r : Nat) (i j n : Int64) : (movS S q r i j n).1 < 5 := by
  by_cases h : hind S q r i j n = 0
  · unfold movS; rw [cif_t h]; unfold movD; dsimp only; split <;> omega
  · unfold movS; rw [cif_f h]; have := hind_le S q r i j n; unfold movN; dsimp only; omega
/-! a round -/
theorem stp_of {S : St} {j q r : Nat} (hq : q < 8) (hr : r < 8) (eq : sPt S 0 j = nI q) (er : sPt S 2 j = nI r) : stp S j = movS S q r (sPt S 1 j).toInt64 (sPt S 3 j).toInt64 (sPt S 4 j).toInt64 := by
  unfold stp
  rw [eq, er, nI_clamp (by omega), nI_clamp (by omega)]
theorem stp_inv {S : St} (hI : Inv S) {j : Nat} (hj : j < sNs S) : Inv (stp S j).2 := by
  obtain ⟨⟨q, hq, eq⟩, r, hr, er⟩ := hI.2.2.2.1 j hj
  rw [stp_of hq hr eq er]
  exact mov_inv hI hq hr (sml_i _) (sml_i _) (sml_i _)
theorem stp_ns {S : St} {j : Nat} : sNs (stp S j).2 = sNs S := mov_ns.1
theorem wrd_step {S : St} {m j : Nat} (h : j < m) (hz : (stp S j).1 = 0) : wrd (m - j) j S = wrd (m - (j + 1)) (j + 1) (stp S j).2 := by
  rw [show m - j = (m - (j + 1)) + 1 by omega]
  show (if (stp S j).1 = 0 then wrd (m - (j + 1)) (j + 1) (stp S j).2 else (j, (stp S j).2)) = _
  rw [if_pos hz]
theorem wrd_stop {S : St} {m j : Nat} (h : j < m) (hz : ¬ (stp S j).1 = 0) : wrd (m - j) j S = (j, (stp S j).2) := by
  rw [show m - j = (m - (j + 1)) + 1 by omega]
  show (if (stp S j).1 = 0 then wrd (m - (j + 1)) (j + 1) (stp S j).2 else (j, (stp S j).2)) = _
  rw [if_neg hz]
theorem wrd_inv : ∀ (n j : Nat) (S : St), Inv S → j + n ≤ sNs S → Inv (wrd n j S).2 ∧ sNs (wrd n j S).2 = sNs S ∧ (wrd n j S).1 ≤ j + n
  | 0, j, S, hI, hj => ⟨hI, rfl, by simp [wrd]⟩
  | n + 1, j, S, hI, hj => by
    unfold wrd
    split
    · have := wrd_inv n (j + 1) (stp S j).2 (stp_inv hI (by omega)) (by rw [stp_ns]; omega)
      rw [stp_ns] at this
      exact ⟨this.1, this.2.1, by omega⟩
    · exact ⟨stp_inv hI (by omega), stp_ns, by dsimp only; omega⟩
theorem rnd_inv {S : St} (hI : Inv S) : Inv (rnd S).2 ∧ sNs (rnd S).2 = sNs S ∧ (rnd S).1 ≤ sNs S := by
  have := wrd_inv (sNs S) 0 S hI (by omega)
  exact ⟨this.1, this.2.1, by have := this.2.2; unfold rnd; omega⟩
theorem wrd_kd : ∀ (n j : Nat) (S : St), sKd (wrd n j S).2 = sKd S ∧ sPl (wrd n j S).2 = sPl S ∧ sNb (wrd n j S).2 = sNb S ∧ sPt (wrd n j S).2 = sPt S ∧ sPe (wrd n j S).2 = sPe S ∧ sCo (wrd n j S).2 = sCo S ∧ sWv (wrd n j S).2 = sWv S
  | 0, j, S => ⟨rfl, rfl, rfl, rfl, rfl, rfl, rfl⟩
  | n + 1, j, S => by
    unfold wrd
    have h := mov_ns (S := S) (q := (sPt S 0 j).toNatClampNeg) (r := (sPt S 2 j).toNatClampNeg) (i := (sPt S 1 j).toInt64) (j := (sPt S 3 j).toInt64) (n := (sPt S 4 j).toInt64)
    change sNs (stp S j).2 = _ ∧ sPt (stp S j).2 = _ ∧ sKd (stp S j).2 = _ ∧ sPl (stp S j).2 = _ ∧ sNb (stp S j).2 = _ ∧ sPe (stp S j).2 = _ ∧ sCo (stp S j).2 = _ ∧ sWv (stp S j).2 = _ at h
    split
    · have := wrd_kd n (j + 1) (stp S j).2
      exact ⟨this.1.trans h.2.2.1, this.2.1.trans h.2.2.2.1, this.2.2.1.trans h.2.2.2.2.1, this.2.2.2.1.trans h.2.1, this.2.2.2.2.1.trans h.2.2.2.2.2.1, this.2.2.2.2.2.1.trans h.2.2.2.2.2.2.1, this.2.2.2.2.2.2.trans h.2.2.2.2.2.2.2⟩
    · exact ⟨h.2.2.1, h.2.2.2.1, h.2.2.2.2.1, h.2.1, h.2.2.2.2.2.1, h.2.2.2.2.2.2.1, h.2.2.2.2.2.2.2⟩
theorem rnd_back {S : St} (hI : Inv S) : Inv (uCe (rnd S).2 (sCe S)) := by
  have h := (rnd_inv hI).1
  have k := wrd_kd (sNs S) 0 S
  change sKd (rnd S).2 = _ ∧ sPl (rnd S).2 = _ ∧ sNb (rnd S).2 = _ ∧ sPt (rnd S).2 = _ ∧ _ at k
  refine ⟨h.1, h.2.1, h.2.2.1, h.2.2.2.1, fun r hr hk q hq => ?_⟩
  change sKd (rnd S).2 r = 7 ∨ sKd (rnd S).2 r = 8 at hk
  change q < sPl (rnd S).2 r at hq
  rw [k.1] at hk
  rw [k.2.1] at hq
  have := hI.2.2.2.2 r hr hk q hq
  show sCe S r q = -1 ∨ ∃ j, j < sNb (rnd S).2 ∧ sCe S r q = lN j
  rw [k.2.2.1]
  exact this
theorem wvs_inv (w : Prop) : ∀ (n d : Nat) (S : St), Inv S → Inv (wvs w n d S).2
  | 0, d, S, hI => hI
  | n + 1, d, S, hI => by
    unfold wvs
    split
    · exact wvs_inv w n _ _ (rnd_inv hI).1
    · by_cases h : w
      · rw [cif_t h]; exact rnd_back hI
      · rw [cif_f h]; exact (rnd_inv hI).1
theorem wvs_go {w : Prop} {S : St} {m j d : Nat} (h : j < m) (hz : (rnd S).1 = sNs S) : wvs w (m - j) d S = wvs w (m - (j + 1)) (d + (rnd S).1) (uWv (rnd S).2 (sWv (rnd S).2 + nI 1)) := by
  rw [show m - j = (m - (j + 1)) + 1 by omega]
  exact if_pos hz
theorem wvs_stop {w : Prop} {S : St} {m j d : Nat} (h : j < m) (hz : ¬ (rnd S).1 = sNs S) : wvs w (m - j) d S = cif w (d, uCe (rnd S).2 (sCe S)) (d + (rnd S).1, (rnd S).2) := by
  rw [show m - j = (m - (j + 1)) + 1 by omega]
  exact if_neg hz
theorem rackAt_nI {a : Nat → Nat} {q : Nat} {o : Option Nat} (hq : q < 8) (hp : (ix (nI q) 8 = none ∧ o = none) ∨ ∃ r, r < 8 ∧ nI q = nI r ∧ ix (nI q) 8 = some r ∧ o = some (a (r + 11))) : o = some (a (q + 11)) := by
  have h := ix_nI hq (by decide)
  rcases hp with ⟨h1, _⟩ | ⟨r, _, _, h1, h2⟩
  · rw [h] at h1; cases h1
  · rw [h] at h1; cases h1; exact h2
theorem pfx_step {f g : Nat → Int64} {m p : Nat} (h : p < m) (hz : f p = g p) : pfx f g (m - p) p = pfx f g (m - (p + 1)) (p + 1) := by
  rw [show m - p = (m - (p + 1)) + 1 by omega]
  exact if_pos hz
theorem pfx_stop {f g : Nat → Int64} {m p : Nat} (h : p < m) (hz : ¬ f p = g p) : pfx f g (m - p) p = p := by
  rw [show m - p = (m - (p + 1)) + 1 by omega]
  exact if_neg hz
theorem shs_step {S : St} {r m p : Nat} {z : Int64} (h : p < m) : shs S r (m - p) p z = shs S r (m - (p + 1)) (p + 1) (z + shg S r p) := by
  rw [show m - p = (m - (p + 1)) + 1 by omega]
  rfl
end
section
/-! remainders -/
theorem i_tmod_facts {x : Int} {n : Nat} (h0 : 0 < n) : (n : Int) * x.tdiv n + x.tmod n = x ∧ x.tmod n < n ∧ -(n : Int) < x.tmod n ∧ (0 ≤ x → 0 ≤ x.tmod n) ∧ (x ≤ 0 → x.tmod n ≤ 0) := by
  have hn : (0 : Int) < n := by omega
  refine ⟨Int.mul_tdiv_add_tmod x n, Int.tmod_lt_of_pos x hn, ?_, fun h => Int.tmod_nonneg _ h, fun h => ?_⟩
  · have := Int.tmod_lt_of_pos (-x) hn
    rw [Int.neg_tmod] at this
    omega
  · have := Int.tmod_nonneg (a := -x) (n : Int) (by omega)
    rw [Int.neg_tmod] at this
    omega
theorem i_emod_of_tmod {x : Int} {n : Nat} (h0 : 0 < n) : x % n = if x.tmod n < 0 then x.tmod n + n else x.tmod n := by
  obtain ⟨h1, h2, h3, h4, h5⟩ := i_tmod_facts (x := x) h0
  split
  · rename_i h
    have e : x = (x.tmod n + n) + n * (x.tdiv n - 1) := by rw [Int.mul_sub]; omega
    conv => lhs; rw [e]
    rw [Int.add_mul_emod_self_left, Int.emod_eq_of_lt (by omega) (by omega)]
  · rename_i h
    have e : x = x.tmod n + n * x.tdiv n := by omega
    conv => lhs; rw [e]
    rw [Int.add_mul_emod_self_left, Int.emod_eq_of_lt (by omega) (by omega)]
theorem i_rem {x : Int32} {n : Nat} (h0 : 0 < n) (hn : n < 2 ^ 31) : (x - x / nI n * nI n).toInt = x.toInt.tmod n := by
  obtain ⟨h1, h2, h3, h4, h5⟩ := i_tmod_facts (x := x.toInt) h0
  have b1 := Int32.toInt_lt x
  have b2 := Int32.le_toInt x
  rw [Int32.toInt_sub, Int32.toInt_mul, Int32.toInt_div, nI_toInt hn, Int.bmod_mul_bmod]
  have e : x.toInt.tdiv n * n = x.toInt - x.toInt.tmod n := by rw [Int.mul_comm]; omega
  rw [e]
  rw [Int.bmod_eq_of_le (n := x.toInt - x.toInt.tmod n) (by omega) (by omega)]
  rw [Int.bmod_eq_of_le (by omega) (by omega)]
  omega
theorem l_rem {x : Int64} {n : Nat} (h0 : 0 < n) (hn : n < 2 ^ 31) : (x - x / lN n * lN n).toInt = x.toInt.tmod n := by
  obtain ⟨h1, h2, h3, h4, h5⟩ := i_tmod_facts (x := x.toInt) h0
  have b1 := Int64.toInt_lt x
  have b2 := Int64.le_toInt x
  rw [Int64.toInt_sub, Int64.toInt_mul, Int64.toInt_div, lN_toInt hn, Int.bmod_mul_bmod]
  have e : x.toInt.tdiv n * n = x.toInt - x.toInt.tmod n := by rw [Int.mul_comm]; omega
  rw [e]
  rw [Int.bmod_eq_of_le (n := x.toInt - x.toInt.tmod n) (by omega) (by omega)]
  rw [Int.bmod_eq_of_le (by omega) (by omega)]
  omega
theorem nI_ofI {x : Int32} {n : Nat} (h : x.toInt = (n : Int)) : x = nI n := by
  have h2 := Int32.toInt_lt x
  apply Int32.toInt_inj.mp
  rw [h, nI_toInt (by omega)]
theorem x_sign {x : Int32} {n : Nat} (hn : n < 2 ^ 31) : 0 ≤ x ^^^ nI n ↔ 0 ≤ x.toInt := by
  rw [Int32.le_iff_toInt_le]
  have e1 : (x ^^^ nI n).toBitVec.msb = (x.toBitVec.msb ^^ (nI n).toBitVec.msb) := by rw [Int32.toBitVec_xor, BitVec.msb_xor]
  rw [BitVec.msb_eq_toInt, BitVec.msb_eq_toInt, BitVec.msb_eq_toInt] at e1
  change decide ((x ^^^ nI n).toInt < 0) = (decide (x.toInt < 0) ^^ decide ((nI n).toInt < 0)) at e1
  rw [nI_toInt hn, show decide ((n : Int) < 0) = false from decide_eq_false (by omega), Bool.xor_false] at e1
  have e2 := decide_eq_decide.mp e1
  show (0 : Int32).toInt ≤ _ ↔ _
  rw [show (0 : Int32).toInt = 0 from rfl]
  omega
/-! where a turn brings a place, and whence -/
def dst (n : Nat) (d : Int32) (p : Nat) : Nat := (((p : Int) + d.toInt) % (n : Int)).toNat
def src (n : Nat) (d : Int32) (q : Nat) : Nat := (((q : Int) - d.toInt) % (n : Int)).toNat
theorem dst_i {n : Nat} (h0 : 0 < n) (d : Int32) (p : Nat) : (dst n d p : Int) = ((p : Int) + d.toInt) % n := by
  unfold dst
  have := Int.emod_nonneg ((p : Int) + d.toInt) (b := (n : Int)) (by omega)
  omega
theorem src_i {n : Nat} (h0 : 0 < n) (d : Int32) (p : Nat) : (src n d p : Int) = ((p : Int) - d.toInt) % n := by
  unfold src
  have := Int.emod_nonneg ((p : Int) - d.toInt) (b := (n : Int)) (by omega)
  omega
theorem dst_lt {n : Nat} (h0 : 0 < n) (d : Int32) (p : Nat) : dst n d p < n := by
  have h1 := dst_i h0 d p
  have := Int.emod_lt_of_pos ((p : Int) + d.toInt) (b := (n : Int)) (by omega)
  omega
theorem src_lt {n : Nat} (h0 : 0 < n) (d : Int32) (p : Nat) : src n d p < n := by
  have h1 := src_i h0 d p
  have := Int.emod_lt_of_pos ((p : Int) - d.toInt) (b := (n : Int)) (by omega)
  omega
theorem dst_src {n : Nat} (d : Int32) {q : Nat} (hq : q < n) : dst n d (src n d q) = q := by
  have h0 : 0 < n := by omega
  have h1 := dst_i h0 d (src n d q)
  rw [src_i h0 d q, Int.emod_add_emod] at h1
  rw [show (q : Int) - d.toInt + d.toInt = q by omega, Int.emod_eq_of_lt (by omega) (by omega)] at h1
  omega
theorem src_dst {n : Nat} (d : Int32) {q : Nat} (hq : q < n) : src n d (dst n d q) = q := by
  have h0 : 0 < n := by omega
  have h1 := src_i h0 d (dst n d q)
  rw [dst_i h0 d q, Int.emod_sub_emod] at h1
  rw [show (q : Int) + d.toInt - d.toInt = q by omega, Int.emod_eq_of_lt (by omega) (by omega)] at h1
  omega
theorem dst_inj {n : Nat} (d : Int32) {p q : Nat} (hp : p < n) (hq : q < n) (h : dst n d p = dst n d q) : p = q := by
  rw [← src_dst d hp, ← src_dst d hq, h]
theorem dst_sh {n : Nat} (h0 : 0 < n) (d : Int32) (p : Nat) : (p + (d.toInt % (n : Int)).toNat) % n = dst n d p := by
  have h1 := dst_i h0 d p
  have h2 := Int.emod_nonneg d.toInt (b := (n : Int)) (by omega)
  have h3 : (((p + (d.toInt % (n : Int)).toNat) % n : Nat) : Int) = ((p : Int) + d.toInt % (n : Int)) % n := by
    rw [Int.natCast_emod, Int.natCast_add]
    congr 2
    omega
  rw [Int.add_emod_emod] at h3
  omega
/-- what a turn's loop has reached -/
def turnI (f g : Nat → Int64) (n : Nat) (d : Int32) (j : Nat) : Prop := (∀ t, t < j → g (dst n d t) = f t) ∧ ∀ q, n ≤ q → g q = f q
theorem turnI_step {f g : Nat → Int64} {n : Nat} {d : Int32} {j : Nat} (hj : j < n) (h : turnI f g n d j) : turnI f (vp_updL g (dst n d j) (f j)) n d (j + 1) := by
  refine ⟨fun t ht => ?_, fun q hq => ?_⟩
  · by_cases e : t = j
    · subst e; simp [vp_updL]
    · have : dst n d t ≠ dst n d j := fun z => e (dst_inj d (by omega) hj z)
      simp only [vp_updL, if_neg this]
      exact h.1 t (by omega)
  · have : q ≠ dst n d j := by have := dst_lt (n := n) (by omega) d j; omega
    simp only [vp_updL, if_neg this]
    exact h.2 q hq
theorem turnI_end {f g : Nat → Int64} {n : Nat} {d : Int32} (h : turnI f g n d n) (q : Nat) : g q = rotF f n d q := by
  unfold rotF
  split
  · rename_i hq
    have := h.1 (src n d q) (src_lt (by omega) d q)
    rw [dst_src d hq] at this
    exact this
  · rename_i hq
    exact h.2 q (by omega)
end
section
theorem metF {l : Launch} {y : MethodName} {ws ws' : List Cond} {rm : Room} {Pc : Array Value → State → Prop} {Qc : Array Value → State → Outcome → State → Prop} {mc ms : Nat} {free : Addr → Prop} {cc : ByteArray} {maxL : Nat} {ret : Option FieldType}
    (hy : plainFor y = true) (hw : ws = Cond.code y cc maxL ret :: ws')
    (body : ∀ p e s m args below meth c s₁, BodyLoose p l y (headSpec ws rm) cc maxL ret e s m args below meth c s₁ → c.maxLocals = maxL → Pc args s →
      W p l e (headSpec ws rm).room s m args below meth c s.heap [] 0 0 (MQ below Qc args s mc ms free) (entryFrame m args maxL)) : Met l y ws rm Pc Qc mc ms free := by
  refine MetFree.of_bodySF (code := cc) (maxLocals := maxL) (ret := ret) hy ?_ ?_
  · intro args s m h hn
    obtain ⟨meth, c, h1, h2, h3, h4, h5, h6, -, -⟩ := Cond.code_spec hn (atoms_spec (ws := ws) h _ (by rw [hw]; exact List.mem_cons_self))
    exact ⟨meth, c, h1, h2, h3, h4, h5, h6⟩
  · intro p e s m args below meth c s₁ B hml hP _
    have hh0 : s₁.heap = s.heap := by rw [B.state]; rfl
    obtain ⟨t, a1, o, b1, b2, b3⟩ := body p e s m args below meth c s₁ B hml hP s₁ hh0 (Stand.of_body B)
    exact ⟨t, o, a1, b1, b2, ⟨b3.1, b3.2⟩⟩
theorem ent_ofF {σ : Type} {l : Launch} {G : Gx} {N : Nat} {a : Nat → Nat} {E : σ → Nat → va_E} {y : MethodName} {cc : ByteArray} {n : Nat} {ret : Option FieldType} {f lo : Nat} {As : List Value} {u0 : σ} {Qc : Array Value → State → Outcome → State → Prop}
    (hy : plainFor y = true) (hn : (lg_sl As).length ≤ n)
    (body : ∀ (p : Program) (e : Env) (s : State) (m : MethodId) (below : List Frame) (meth : Method) (c : Code) (ls : Array Slot), Cx p s m As.toArray c cc y.cls n G → HW G.1 N a (E u0) s.heap → va_S (Aw N a) s.heap s.heap [] → meth.sig.returnType = ret → meth.locks = false → lv_has ls n (lv_args 0 As) →
      W p l e (rmB f lo) s m As.toArray below meth c s.heap [] 0 0 (MQ below Qc As.toArray s 0 0 (Aw N a)) (F0 m 0 ls [])) : Met l y (.code y cc n ret :: wsL_law) (rmB f lo) (va_Pc As (PreW G N a E u0)) Qc 0 0 (Aw N a) := by
  refine metF (cc := cc) (maxL := n) (ret := ret) hy rfl ?_
  intro p e s m args below meth c s₁ B hml hv
  obtain ⟨rfl, hH, hK, hN⟩ := hv
  have hts := atoms_spec (ws := .code y cc n ret :: wsL_law) B.pre
  have hown : s.vm.findClass y.cls = some m.cls := findClass_of_methodNamed B.named
  rw [lg_entry_eq]
  exact body p e s m below meth c _ ⟨B.exec, B.bytes, hml, hown, fun w hw => hts w (List.mem_cons_of_mem _ hw), hK, hN⟩ hH va_S.rf B.returns B.notSynchronized (lv_entry As hn)
theorem cmn_cm (S : St) (x : Int32) (f : Nat → Int64) (i : Nat) : ∀ n k, cmn (uCm S x) f i n k = cmn S f i n k
  | 0, _ => rfl
  | n + 1, k => by
    show cif (mayL S 8 (f (i + k))) (cmn (uCm S x) f i n (k + 1)) k = cif (mayL S 8 (f (i + k))) (cmn S f i n (k + 1)) k
    rw [cmn_cm S x f i n (k + 1)]
theorem come_cm (S : St) (x : Int32) (q r i n : Nat) : comeC (uCm S x) q r i n = comeC S q r i n := by
  unfold comeC
  rw [cmn_cm]

set_option maxHeartbeats 4000000 in
set_option maxRecDepth 100000 in
theorem c_floorMod (l : Launch) (G : Gx) (a : Nat → Nat) (Bz : BS) (xz : Int32) (nz : Nat) (h0 : 0 < nz) (hn : nz ≤ 40) : CtI l G 35 a (EB G a) yJ9_floorMod_7cf53 cJ9_floorMod_7cf53 3 (some .int) 0 0 [.int xz, .int (nI nz)] Bz (fun v u => Bz = u ∧ v = nI ((xz.toInt % (nz : Int)).toNat)) := by
  refine ent_ofF (by decide +kernel) (Nat.le_of_ble_eq_true rfl) ?_
  intro p e s m below meth c ls C h hS hret hlk hl
  have C : Cx p s m _ c cJ9_floorMod_7cf53 RJ9 3 G := C
  have hx := C.1
  have hb := C.2.1
  have hl : lv_has ls 3 [(0, .int xz), (1, .int (nI nz))] := hl
  refine lv_iload_n hx hb dJ9_floorMod_7cf53_0 rfl (lv_at hl 0 rfl) ?_
  refine lv_iload_n hx hb dJ9_floorMod_7cf53_1 rfl (lv_at hl 1 rfl) ?_
  refine lv_irem hx hb dJ9_floorMod_7cf53_2 (nI_ne0 h0 (by omega)) ?_
  refine lv_istore_n (lv' := [(2, .int (xz - xz / (nI nz) * (nI nz))), (0, .int xz), (1, .int (nI nz))]) hx hb dJ9_floorMod_7cf53_3 rfl hl (by decide) rfl (fun ls hl => ?_)
  refine lv_iload_n hx hb dJ9_floorMod_7cf53_4 rfl (lv_at hl 1 rfl) ?_
  refine lv_iload_n hx hb dJ9_floorMod_7cf53_5 rfl (lv_at hl 2 rfl) ?_
  refine lv_ixor hx hb dJ9_floorMod_7cf53_6 ?_
  refine lv_if_ge (tgt := 18) hx hb dJ9_floorMod_7cf53_7 (by decide) (fun c7 => ?_) (fun c7 => ?_)
  · skip
    refine lv_iload_n hx hb dJ9_floorMod_7cf53_18 rfl (lv_at hl 0 rfl) ?_
    exact eI C hret hlk (Bz) h hS (⟨rfl, by have hp := i_rem (x := xz) h0 (by omega : nz < 2 ^ 31); have hE := i_emod_of_tmod (x := xz.toInt) h0; have hF := i_tmod_facts (x := xz.toInt) h0; refine nI_ofI ?_; have hx0 := (x_sign (by omega)).mp c7; have := hF.2.2.2.1 hx0; rw [if_neg (by omega)] at hE; omega⟩) dJ9_floorMod_7cf53_19
  · skip
    refine lv_iload_n hx hb dJ9_floorMod_7cf53_10 rfl (lv_at hl 0 rfl) ?_
    refine lv_if_eq (tgt := 18) hx hb dJ9_floorMod_7cf53_11 (by decide) (fun c11 => ?_) (fun c11 => ?_)
    · skip
      refine lv_iload_n hx hb dJ9_floorMod_7cf53_18 rfl (lv_at hl 0 rfl) ?_
      exact eI C hret hlk (Bz) h hS (⟨rfl, by have hp := i_rem (x := xz) h0 (by omega : nz < 2 ^ 31); have hE := i_emod_of_tmod (x := xz.toInt) h0; have hF := i_tmod_facts (x := xz.toInt) h0; refine nI_ofI ?_; have hz : xz.toInt.tmod nz = 0 := (by rw [← hp, c11]; rfl); rw [if_neg (by omega)] at hE; omega⟩) dJ9_floorMod_7cf53_19
    · skip
      refine lv_iload_n hx hb dJ9_floorMod_7cf53_14 rfl (lv_at hl 0 rfl) ?_
      refine lv_iload_n hx hb dJ9_floorMod_7cf53_15 rfl (lv_at hl 2 rfl) ?_
      refine lv_iadd hx hb dJ9_floorMod_7cf53_16 ?_
      exact eI C hret hlk (Bz) h hS (⟨rfl, by have hp := i_rem (x := xz) h0 (by omega : nz < 2 ^ 31); have hE := i_emod_of_tmod (x := xz.toInt) h0; have hF := i_tmod_facts (x := xz.toInt) h0; refine nI_ofI ?_; have hx0 : ¬ 0 ≤ xz.toInt := fun z => c7 ((x_sign (by omega)).mpr z); have hz : ¬ xz.toInt.tmod nz = 0 := fun z => c11 (Int32.toInt_inj.mp (by rw [hp, z]; rfl)); have h5 := hF.2.2.2.2 (by omega); rw [if_pos (by omega)] at hE; rw [Int32.toInt_add, hp, nI_toInt (by omega), Int.bmod_eq_of_le (by omega) (by omega)]; omega⟩) dJ9_floorMod_7cf53_17

set_option maxHeartbeats 4000000 in
set_option maxRecDepth 100000 in
theorem c_rotate (l : Launch) (G : Gx) (a : Nat → Nat) (Bz : BS) (hI : Inv Bz.1) (r : Nat) (hr : r < 8) (dz : Int32) : CtV l G 35 a (EB G a) yX1_rotate cX1_rotate 4 none 2 60 [.ref (a (r + 11)), .int dz] Bz (fun u => rotS Bz.1 r dz = u.1) := by
  refine ent_of (by decide) (Nat.le_of_ble_eq_true rfl) ?_
  intro p e s m below meth c ls C h hS hret hlk hl
  have C : Cx p s m _ c cX1_rotate RX1 4 G := C
  have hx := C.1
  have hb := C.2.1
  have hl : lv_has ls 4 [(0, .ref (a (r + 11))), (1, .int dz)] := hl
  have hpl := (hI.1 r hr).2
  have lp : ∀ (n : Nat) (j : Nat) (g : Nat → Int64) (H : Heap) (locs : List Loc) (ls : Array Slot), (j ≤ sPl Bz.1 r) → (sPl Bz.1 r < j + n) → (0 < sPl Bz.1 r) → (turnI (sCe Bz.1 r) g (sPl Bz.1 r) dz j) →  HW G.1 35 a (EB G a ((uCe Bz.1 (va_up (sCe Bz.1) r g), va_up Bz.2 r (va_cpy (sCe Bz.1 r) (Bz.2 r) 0 0 40)))) H → va_S (Aw 35 a) s.heap H locs → lv_has ls 4 [(0, .ref (a (r + 11))), (2, .int (nI ((dz.toInt % (sPl Bz.1 r : Int)).toNat))), (3, .int (nI j))] → W p l e (rmB 2 60) s m ([.ref (a (r + 11)), .int dz].toArray) below meth c H locs 0 0 (MQ below (va_Qv (fun u => rotS Bz.1 r dz = u.1) (fun u t => HW G.1 35 a (EB G a u) t.heap) (Aw 35 a)) ([.ref (a (r + 11)), .int dz].toArray) s 0 0 (Aw 35 a)) (F0 m 23 ls []) := by
    intro n
    induction n with
    | zero =>
      intro j g H locs ls hj hn h0 hg
      exact absurd hn (by omega)
    | succ n ih =>
      intro j g H locs ls hj hn h0 hg h hS hl
      refine lv_iload_n hx hb dX1_rotate_23 rfl (lv_at hl 2 rfl) ?_
      refine lv_aload_n hx hb dX1_rotate_24 rfl (lv_at hl 0 rfl) ?_
      refine fg_X1_22 C h (by first | assumption | omega) dX1_rotate_25 ?_
      refine lw_ti (show (nI (sPl ((uCe Bz.1 (va_up (sCe Bz.1) r g), va_up Bz.2 r (va_cpy (sCe Bz.1 r) (Bz.2 r) 0 0 40))).1 r) : Int32) = nI ((sPl Bz.1) r) from rfl) ?_
      refine lv_icmp_ge (tgt := 56) hx hb dX1_rotate_28 (by decide) (fun c28 => ?_) (fun c28 => ?_)
      · skip
        have hjn : j = sPl Bz.1 r := by rw [nI_leI (by omega) (by omega)] at c28; omega
        rw [hjn] at hg
        exact eV C hret hlk (rotS Bz.1 r dz, va_up Bz.2 r (va_cpy (sCe Bz.1 r) (Bz.2 r) 0 0 40)) (HB_eq h ⟨fun _ _ => ⟨rfl, rfl⟩, fun t q ht hq => by show va_up (sCe Bz.1) r g t q = va_up (sCe Bz.1) r (rotF (sCe Bz.1 r) (sPl Bz.1 r) dz) t q; by_cases ht : t = r; (rw [ht, va_up_self, va_up_self]; exact turnI_end hg q); (rw [va_up_ne _ _ ht, va_up_ne _ _ ht]), fun _ _ _ _ => rfl, rfl, fun _ _ => rfl, fun _ _ => rfl, rfl, fun _ _ _ _ => rfl, rfl, fun _ _ => rfl, rfl⟩) hS rfl dX1_rotate_56
      · skip
        have hjn : j < sPl Bz.1 r := by rw [nI_leI (by omega) (by omega)] at c28; omega
        have hdl := dst_lt h0 dz j
        refine lv_aload_n hx hb dX1_rotate_31 rfl (lv_at hl 0 rfl) ?_
        refine fg_X1_9 C h (by first | assumption | omega) dX1_rotate_32 ?_
        refine lv_iload_n hx hb dX1_rotate_35 rfl (lv_at hl 2 rfl) ?_
        refine lv_iload_n hx hb dX1_rotate_36 rfl (lv_at hl 1 rfl) ?_
        refine lv_iadd hx hb dX1_rotate_37 ?_
        refine lw_ti (show ((nI j) + (nI ((dz.toInt % (sPl Bz.1 r : Int)).toNat)) : Int32) = nI (j + (dz.toInt % (sPl Bz.1 r : Int)).toNat) from nI_add _ _) ?_
        refine lv_aload_n hx hb dX1_rotate_38 rfl (lv_at hl 0 rfl) ?_
        refine fg_X1_22 C h (by first | assumption | omega) dX1_rotate_39 ?_
        refine lw_ti (show (nI (sPl ((uCe Bz.1 (va_up (sCe Bz.1) r g), va_up Bz.2 r (va_cpy (sCe Bz.1 r) (Bz.2 r) 0 0 40))).1 r) : Int32) = nI ((sPl Bz.1) r) from rfl) ?_
        refine lv_irem hx hb dX1_rotate_42 (nI_ne0 h0 (by omega)) ?_
        refine lw_ti (show ((nI (j + (dz.toInt % (sPl Bz.1 r : Int)).toNat)) - (nI (j + (dz.toInt % (sPl Bz.1 r : Int)).toNat)) / (nI ((sPl Bz.1) r)) * (nI ((sPl Bz.1) r)) : Int32) = nI (dst (sPl Bz.1 r) dz j) from by rw [pk_rem (by have := Int.emod_lt_of_pos dz.toInt (b := (sPl Bz.1 r : Int)) (by omega); omega) h0 (by omega), dst_sh h0]) ?_
        refine lv_aload_n hx hb dX1_rotate_43 rfl (lv_at hl 0 rfl) ?_
        refine fg_X1_15 C h (by first | assumption | omega) dX1_rotate_44 ?_
        refine lv_iload_n hx hb dX1_rotate_47 rfl (lv_at hl 2 rfl) ?_
        refine al_ke C h (by first | assumption | omega) (by first | assumption | omega) dX1_rotate_48 ?_
        refine lw_tl (show (((uCe Bz.1 (va_up (sCe Bz.1) r g), va_up Bz.2 r (va_cpy (sCe Bz.1 r) (Bz.2 r) 0 0 40))).2 r j : Int64) = sCe Bz.1 r j from by simp [va_up, va_cpy, show j < 40 by omega]) ?_
        refine as_ce C h hS (by first | assumption | omega) (by first | assumption | omega) dX1_rotate_49 (fun H locs h hS => ?_)
        refine lv_iinc (v := nI (j + 1)) (lv' := [(3, .int (nI (j + 1))), (0, .ref (a (r + 11))), (2, .int (nI ((dz.toInt % (sPl Bz.1 r : Int)).toNat)))]) hx hb dX1_rotate_50 hl (k := 2) rfl (nI_1 j) (by decide) rfl (fun ls hl => ?_)
        refine lv_goto (tgt := 23) hx hb dX1_rotate_53 (by decide) ?_
        exact ih (j + 1) (vp_updL g (dst (sPl Bz.1 r) dz j) (sCe Bz.1 r j)) _ _ _ (by omega) (by omega) h0 (turnI_step hjn hg) (by simpa only [sKd, sPl, sCe, sNb, sCo, sPe, sNs, sPt, sCm, sMv, sWv, uKd, uPl, uCe, uNb, uCo, uPe, uNs, uPt, uCm, uMv, uWv, bx_uu, va_up_self, va_up_id] using h) hS (lv_sub hl [1, 2, 0] rfl)
  refine lv_aload_n hx hb dX1_rotate_0 rfl (lv_at hl 0 rfl) ?_
  refine fg_X1_22 C h (by first | assumption | omega) dX1_rotate_1 ?_
  refine lv_if_ne (tgt := 8) hx hb dX1_rotate_4 (by decide) (fun c4 => ?_) (fun c4 => ?_)
  · skip
    have h0 : 0 < sPl Bz.1 r := by rw [nI_z (by omega)] at c4; omega
    refine lv_aload_n hx hb dX1_rotate_8 rfl (lv_at hl 0 rfl) ?_
    refine kV (rV (As := []) (rest := []) C h lk_X1_39 (r + 11) (by omega) (EB_r _ _ _ (by first | assumption | omega)) rfl rfl (c_keepCells l G a _ r hr) ⟨Nat.le_of_ble_eq_true rfl, Nat.le_of_ble_eq_true rfl⟩ hl.1 rfl rfl (Nat.le_of_ble_eq_true rfl) dX1_rotate_9 ⟨Nat.zero_le _, Nat.zero_le _⟩) hS (fun u H locs hp h hS => ?_)
    obtain rfl := hp
    refine lv_iload_n hx hb dX1_rotate_12 rfl (lv_at hl 1 rfl) ?_
    refine lv_aload_n hx hb dX1_rotate_13 rfl (lv_at hl 0 rfl) ?_
    refine fg_X1_22 C h (by first | assumption | omega) dX1_rotate_14 ?_
    refine lw_ti (show (nI (sPl ((Bz.1, va_up Bz.2 r (va_cpy (sCe Bz.1 r) (Bz.2 r) 0 0 40))).1 r) : Int32) = nI ((sPl Bz.1) r) from rfl) ?_
    refine kI (rS (As := [.int dz, .int (nI ((sPl Bz.1) r))]) (rest := []) C h lk_X1_42 (c_floorMod l G a _ dz (sPl Bz.1 r) h0 hpl) ⟨Nat.le_of_ble_eq_true rfl, Nat.le_of_ble_eq_true rfl⟩ hl.1 rfl rfl (Nat.le_of_ble_eq_true rfl) dX1_rotate_17 ⟨Nat.zero_le _, Nat.zero_le _⟩) hS (fun rv u H locs hp h hS => ?_)
    obtain ⟨rfl, rfl⟩ := hp
    refine lv_istore_n (lv' := [(2, .int (nI ((dz.toInt % (sPl Bz.1 r : Int)).toNat))), (0, .ref (a (r + 11))), (1, .int dz)]) hx hb dX1_rotate_20 rfl hl (by decide) rfl (fun ls hl => ?_)
    refine lv_iconst (v := nI 0) hx hb dX1_rotate_21 (by decide) ?_
    refine lv_istore_n (lv' := [(3, .int (nI 0)), (2, .int (nI ((dz.toInt % (sPl Bz.1 r : Int)).toNat))), (0, .ref (a (r + 11))), (1, .int dz)]) hx hb dX1_rotate_22 rfl hl (by decide) rfl (fun ls hl => ?_)
    exact lp (sPl Bz.1 r + 1) 0 (sCe Bz.1 r) _ _ _ (by omega) (by omega) h0 ⟨fun t ht => absurd ht (by omega), fun _ _ => rfl⟩ (by simpa only [sKd, sPl, sCe, sNb, sCo, sPe, sNs, sPt, sCm, sMv, sWv, uKd, uPl, uCe, uNb, uCo, uPe, uNs, uPt, uCm, uMv, uWv, bx_uu, va_up_self, va_up_id] using h) hS (lv_sub hl [2, 1, 0] rfl)
  · skip
    have h0 : sPl Bz.1 r = 0 := (nI_z (by omega)).mp c4
    exact eV C hret hlk (rotS Bz.1 r dz, Bz.2) (HB_eq h ⟨fun _ _ => ⟨rfl, rfl⟩, fun t q ht hq => by show sCe Bz.1 t q = va_up (sCe Bz.1) r (rotF (sCe Bz.1 r) (sPl Bz.1 r) dz) t q; by_cases ht : t = r; (rw [ht, va_up_self]; unfold rotF; rw [if_neg (by omega)]); (rw [va_up_ne _ _ ht]), fun _ _ _ _ => rfl, rfl, fun _ _ => rfl, fun _ _ => rfl, rfl, fun _ _ _ _ => rfl, rfl, fun _ _ => rfl, rfl⟩) hS rfl dX1_rotate_7

set_option maxHeartbeats 4000000 in
set_option maxRecDepth 100000 in
theorem c_keepAllRows (l : Launch) (G : Gx) (a : Nat → Nat) (Bz : BS) : CtV l G 35 a (EB G a) yX2_keepAllRows cX2_keepAllRows 2 none 2 60 [.ref (a 0)] Bz (fun u => Bz.1 = u.1 ∧ ∀ r p, r < 8 → p < 40 → u.2 r p = sCe Bz.1 r p) := by
  refine ent_of (by decide) (Nat.le_of_ble_eq_true rfl) ?_
  intro p e s m below meth c ls C h hS hret hlk hl
  have C : Cx p s m _ c cX2_keepAllRows RX2 2 G := C
  have hx := C.1
  have hb := C.2.1
  have hl : lv_has ls 2 [(0, .ref (a 0))] := hl
  have lp : ∀ (n : Nat) (j : Nat) (Kz : Kt) (H : Heap) (locs : List Loc) (ls : Array Slot), (j ≤ 8) → (8 < j + n) → (∀ r p, r < j → p < 40 → Kz r p = sCe Bz.1 r p) →  HW G.1 35 a (EB G a ((Bz.1, Kz))) H → va_S (Aw 35 a) s.heap H locs → lv_has ls 2 [(0, .ref (a 0)), (1, .int (nI j))] → W p l e (rmB 2 60) s m ([.ref (a 0)].toArray) below meth c H locs 0 0 (MQ below (va_Qv (fun u => Bz.1 = u.1 ∧ ∀ r p, r < 8 → p < 40 → u.2 r p = sCe Bz.1 r p) (fun u t => HW G.1 35 a (EB G a u) t.heap) (Aw 35 a)) ([.ref (a 0)].toArray) s 0 0 (Aw 35 a)) (F0 m 2 ls []) := by
    intro n
    induction n with
    | zero =>
      intro j Kz H locs ls hj hn hK
      exact absurd hn (by omega)
    | succ n ih =>
      intro j Kz H locs ls hj hn hK h hS hl
      refine lv_iload_n hx hb dX2_keepAllRows_2 rfl (lv_at hl 1 rfl) ?_
      refine lv_bipush (v := nI 8) hx hb dX2_keepAllRows_3 (by decide) ?_
      refine lv_icmp_ge (tgt := 23) hx hb dX2_keepAllRows_5 (by decide) (fun c5 => ?_) (fun c5 => ?_)
      · skip
        exact eV C hret hlk ((Bz.1, Kz)) h hS (⟨rfl, fun r p hr hp => hK r p (by rw [nI_leI (by omega) (by omega)] at c5; omega) hp⟩) dX2_keepAllRows_23
      · skip
        have hj8 : j < 8 := by rw [nI_leI (by omega) (by omega)] at c5; omega
        refine lv_aload_n hx hb dX2_keepAllRows_8 rfl (lv_at hl 0 rfl) ?_
        refine fg_X2_11 C h dX2_keepAllRows_9 ?_
        refine lv_iload_n hx hb dX2_keepAllRows_12 rfl (lv_at hl 1 rfl) ?_
        refine al_rk C h (by first | assumption | omega) dX2_keepAllRows_13 ?_
        refine kV (rVN (As := []) (rest := []) C h lk_X2_177 (j + 11) (by omega) (EB_r _ _ _ (by first | assumption | omega)) rfl rfl (c_keepCells l G a _ j hj8) ⟨Nat.le_of_ble_eq_true rfl, Nat.le_of_ble_eq_true rfl⟩ hl.1 rfl rfl (Nat.le_of_ble_eq_true rfl) dX2_keepAllRows_14 ⟨Nat.zero_le _, Nat.zero_le _⟩) hS (fun u H locs hp h hS => ?_)
        obtain rfl := hp
        refine lv_iinc (v := nI (j + 1)) (lv' := [(1, .int (nI (j + 1))), (0, .ref (a 0))]) hx hb dX2_keepAllRows_17 hl (k := 1) rfl (nI_1 j) (by decide) rfl (fun ls hl => ?_)
        refine lv_goto (tgt := 2) hx hb dX2_keepAllRows_20 (by decide) ?_
        exact ih (j + 1) _ _ _ _ (by omega) (by omega) (fun r p hr hp => by by_cases e : r = j; (rw [e, va_up_self]; simp [va_cpy, hp]); (rw [va_up_ne _ _ e]; exact hK r p (by omega) hp)) h hS (lv_sub hl [1, 0] rfl)
  refine lv_iconst (v := nI 0) hx hb dX2_keepAllRows_0 (by decide) ?_
  refine lv_istore_n (lv' := [(1, .int (nI 0)), (0, .ref (a 0))]) hx hb dX2_keepAllRows_1 rfl hl (by decide) rfl (fun ls hl => ?_)
  exact lp 9 0 Bz.2 _ _ _ (by omega) (by omega) (fun r p hr => absurd hr (by omega)) h hS (lv_sub hl [1, 0] rfl)

set_option maxHeartbeats 4000000 in
set_option maxRecDepth 100000 in
theorem c_restoreAllRows (l : Launch) (G : Gx) (a : Nat → Nat) (Bz : BS) : CtV l G 35 a (EB G a) yX2_restoreAllRows cX2_restoreAllRows 2 none 2 60 [.ref (a 0)] Bz (fun u => (uCe Bz.1 Bz.2, Bz.2) = u) := by
  refine ent_of (by decide) (Nat.le_of_ble_eq_true rfl) ?_
  intro p e s m below meth c ls C h hS hret hlk hl
  have C : Cx p s m _ c cX2_restoreAllRows RX2 2 G := C
  have hx := C.1
  have hb := C.2.1
  have hl : lv_has ls 2 [(0, .ref (a 0))] := hl
  have lp : ∀ (n : Nat) (j : Nat) (cz : Nat → Nat → Int64) (H : Heap) (locs : List Loc) (ls : Array Slot), (j ≤ 8) → (8 < j + n) → (∀ r p, r < j → p < 40 → cz r p = Bz.2 r p) →  HW G.1 35 a (EB G a ((uCe Bz.1 cz, Bz.2))) H → va_S (Aw 35 a) s.heap H locs → lv_has ls 2 [(0, .ref (a 0)), (1, .int (nI j))] → W p l e (rmB 2 60) s m ([.ref (a 0)].toArray) below meth c H locs 0 0 (MQ below (va_Qv (fun u => (uCe Bz.1 Bz.2, Bz.2) = u) (fun u t => HW G.1 35 a (EB G a u) t.heap) (Aw 35 a)) ([.ref (a 0)].toArray) s 0 0 (Aw 35 a)) (F0 m 2 ls []) := by
    intro n
    induction n with
    | zero =>
      intro j cz H locs ls hj hn hK
      exact absurd hn (by omega)
    | succ n ih =>
      intro j cz H locs ls hj hn hK h hS hl
      refine lv_iload_n hx hb dX2_restoreAllRows_2 rfl (lv_at hl 1 rfl) ?_
      refine lv_bipush (v := nI 8) hx hb dX2_restoreAllRows_3 (by decide) ?_
      refine lv_icmp_ge (tgt := 23) hx hb dX2_restoreAllRows_5 (by decide) (fun c5 => ?_) (fun c5 => ?_)
      · skip
        exact eV C hret hlk (uCe Bz.1 Bz.2, Bz.2) (HB_eq h ⟨fun _ _ => ⟨rfl, rfl⟩, fun t q ht hq => hK t q (by rw [nI_leI (by omega) (by omega)] at c5; omega) hq, fun _ _ _ _ => rfl, rfl, fun _ _ => rfl, fun _ _ => rfl, rfl, fun _ _ _ _ => rfl, rfl, fun _ _ => rfl, rfl⟩) hS rfl dX2_restoreAllRows_23
      · skip
        have hj8 : j < 8 := by rw [nI_leI (by omega) (by omega)] at c5; omega
        refine lv_aload_n hx hb dX2_restoreAllRows_8 rfl (lv_at hl 0 rfl) ?_
        refine fg_X2_11 C h dX2_restoreAllRows_9 ?_
        refine lv_iload_n hx hb dX2_restoreAllRows_12 rfl (lv_at hl 1 rfl) ?_
        refine al_rk C h (by first | assumption | omega) dX2_restoreAllRows_13 ?_
        refine kV (rVN (As := []) (rest := []) C h lk_X2_180 (j + 11) (by omega) (EB_r _ _ _ (by first | assumption | omega)) rfl rfl (c_restoreCells l G a _ j hj8) ⟨Nat.le_of_ble_eq_true rfl, Nat.le_of_ble_eq_true rfl⟩ hl.1 rfl rfl (Nat.le_of_ble_eq_true rfl) dX2_restoreAllRows_14 ⟨Nat.zero_le _, Nat.zero_le _⟩) hS (fun u H locs hp h hS => ?_)
        obtain rfl := hp
        refine lv_iinc (v := nI (j + 1)) (lv' := [(1, .int (nI (j + 1))), (0, .ref (a 0))]) hx hb dX2_restoreAllRows_17 hl (k := 1) rfl (nI_1 j) (by decide) rfl (fun ls hl => ?_)
        refine lv_goto (tgt := 2) hx hb dX2_restoreAllRows_20 (by decide) ?_
        exact ih (j + 1) _ _ _ _ (by omega) (by omega) (fun r p hr hp => by by_cases e : r = j; (rw [e, va_up_self]; simp [va_cpy, hp]); (rw [va_up_ne _ _ e]; exact hK r p (by omega) hp)) h hS (lv_sub hl [1, 0] rfl)
  refine lv_iconst (v := nI 0) hx hb dX2_restoreAllRows_0 (by decide) ?_
  refine lv_istore_n (lv' := [(1, .int (nI 0)), (0, .ref (a 0))]) hx hb dX2_restoreAllRows_1 rfl hl (by decide) rfl (fun ls hl => ?_)
  exact lp 9 0 (sCe Bz.1) _ _ _ (by omega) (by omega) (fun r p hr => absurd hr (by omega)) h hS (lv_sub hl [1, 0] rfl)

set_option maxHeartbeats 4000000 in
set_option maxRecDepth 100000 in
theorem c_moving (l : Launch) (G : Gx) (a : Nat → Nat) (Bz : BS) (hI : Inv Bz.1) (q r : Nat) (hq : q < 8) (hr : r < 8) (iz jz nz : Int64) (hi : sml iz) (hj : sml jz) (hn : sml nz) : CtI l G 35 a (EB G a) yX2_moving cX2_moving 10 (some .int) 3 70 [.ref (a 0), .ref (a (q + 11)), .long iz, .ref (a (r + 11)), .long jz, .long nz] Bz (fun v u => v = nI (movS Bz.1 q r iz jz nz).1 ∧ ((movS Bz.1 q r iz jz nz).2, Bz.2) = u) := by
  refine ent_of (by decide) (Nat.le_of_ble_eq_true rfl) ?_
  intro p e s m below meth c ls C h hS hret hlk hl
  have C : Cx p s m _ c cX2_moving RX2 10 G := C
  have hx := C.1
  have hb := C.2.1
  have hl : lv_has ls 10 [(0, .ref (a 0)), (1, .ref (a (q + 11))), (2, .long iz), (4, .ref (a (r + 11))), (5, .long jz), (7, .long nz)] := hl
  refine lv_aload_n hx hb dX2_moving_0 rfl (lv_at hl 1 rfl) ?_
  refine lv_ifnull hx hb dX2_moving_1 ?_
  refine lv_aload hx hb dX2_moving_4 (lv_at hl 3 rfl) ?_
  refine lv_ifnonnull (tgt := 11) hx hb dX2_moving_6 (by decide) ?_
  refine lv_aload_n hx hb dX2_moving_11 rfl (lv_at hl 0 rfl) ?_
  refine lv_iconst (v := nI 0) hx hb dX2_moving_12 (by decide) ?_
  refine fp_X2_37 C h hS dX2_moving_13 (fun H locs h hS => ?_)
  refine lv_aload_n hx hb dX2_moving_16 rfl (lv_at hl 1 rfl) ?_
  refine lv_lload_n hx hb dX2_moving_17 rfl (lv_at hl 2 rfl) ?_
  refine lv_aload hx hb dX2_moving_18 (lv_at hl 3 rfl) ?_
  refine lv_lload hx hb dX2_moving_20 (lv_at hl 4 rfl) ?_
  refine lv_lload hx hb dX2_moving_22 (lv_at hl 5 rfl) ?_
  refine kI (rS (As := [.ref (a (q + 11)), .long iz, .ref (a (r + 11)), .long jz, .long nz]) (rest := []) C h lk_X2_145 (c_hindrance l G a (uCm Bz.1 (nI 0), Bz.2) hI q r hq hr iz jz nz) ⟨Nat.le_of_ble_eq_true rfl, Nat.le_of_ble_eq_true rfl⟩ hl.1 rfl rfl (Nat.le_of_ble_eq_true rfl) dX2_moving_24 ⟨Nat.zero_le _, Nat.zero_le _⟩) hS (fun rv u H locs hp h hS => ?_)
  obtain ⟨rfl, rfl⟩ := hp
  refine lw_ti (show nI (hind (uCm Bz.1 (nI 0)) q r iz jz nz) = nI (hind Bz.1 q r iz jz nz) from rfl) ?_
  by_cases hh : hind Bz.1 q r iz jz nz = 0
  · refine lw_ti (show _ = nI 0 from congrArg nI hh) ?_
    obtain ⟨hE, h1, h2, h3⟩ := hind_0 hh
    obtain ⟨ii, kk, e1, e2, h4⟩ := strP_nat h1 hi hn (hI.1 q hq).2
    obtain ⟨jj, k2, e3, e4, h5⟩ := strP_nat h2 hj hn (hI.1 r hr).2
    have l1 := (hI.1 q hq).2
    have l2 := (hI.1 r hr).2
    subst e1
    subst e2
    subst e3
    have e4 := (lN_eq (by omega) (by omega)).mp e4
    subst e4
    have hc := come_le Bz.1 q r ii kk
    have hmv := movS_d hh (by omega) (by omega) (by omega)
    refine lv_istore (lv' := [(9, .int (nI 0)), (0, .ref (a 0)), (1, .ref (a (q + 11))), (2, .long (lN ii)), (4, .ref (a (r + 11))), (5, .long (lN jj)), (7, .long (lN kk))]) hx hb dX2_moving_27 hl (by decide) rfl (fun ls hl => ?_)
    refine lv_iload hx hb dX2_moving_29 (lv_at hl 0 rfl) ?_
    refine lv_if_ne (tgt := 89) hx hb dX2_moving_31 (by decide) (fun c0 => absurd c0 (by decide)) (fun _ => ?_)
    refine lv_aload_n hx hb dX2_moving_34 rfl (lv_at hl 1 rfl) ?_
    refine lv_aload_n hx hb dX2_moving_35 rfl (lv_at hl 1 rfl) ?_
    refine lv_aload_n hx hb dX2_moving_36 rfl (lv_at hl 2 rfl) ?_
    refine lv_lload_n hx hb dX2_moving_37 rfl (lv_at hl 3 rfl) ?_
    refine lv_l2i hx hb dX2_moving_38 rfl ?_
    refine lw_ti (lN_i _) ?_
    refine lv_aload hx hb dX2_moving_39 (lv_at hl 4 rfl) ?_
    refine lv_lload hx hb dX2_moving_41 (lv_at hl 6 rfl) ?_
    refine lv_l2i hx hb dX2_moving_43 rfl ?_
    refine lw_ti (lN_i _) ?_
    refine kI (rV (As := [.ref (a (q + 11)), .int (nI ii), .ref (a (r + 11)), .int (nI kk)]) (rest := [.ref (a 0)]) C h lk_X2_148 0 (by decide) rfl rfl rfl (c_mayCome l G a (uCm Bz.1 (nI 0), Bz.2) hI q r hq hr ii kk (by omega)) ⟨Nat.le_of_ble_eq_true rfl, Nat.le_of_ble_eq_true rfl⟩ hl.1 rfl rfl (Nat.le_of_ble_eq_true rfl) dX2_moving_44 ⟨Nat.zero_le _, Nat.zero_le _⟩) hS (fun rv u H locs hp h hS => ?_)
    obtain ⟨rfl, rfl⟩ := hp
    refine lw_ti (show nI (comeC (uCm Bz.1 (nI 0)) q r ii kk) = nI (comeC Bz.1 q r ii kk) from congrArg nI (come_cm _ _ _ _ _ _)) ?_
    refine fp_X2_37 C h hS dX2_moving_47 (fun H locs h hS => ?_)
    refine lv_aload_n hx hb dX2_moving_50 rfl (lv_at hl 2 rfl) ?_
    refine fg_X2_74 C h (by first | assumption | omega) dX2_moving_51 ?_
    refine lv_lload_n hx hb dX2_moving_54 rfl (lv_at hl 3 rfl) ?_
    refine lv_l2i hx hb dX2_moving_55 rfl ?_
    refine lw_ti (lN_i _) ?_
    refine lv_aload hx hb dX2_moving_56 (lv_at hl 4 rfl) ?_
    refine fg_X2_74 C h (by first | assumption | omega) dX2_moving_58 ?_
    refine lv_lload hx hb dX2_moving_61 (lv_at hl 5 rfl) ?_
    refine lv_l2i hx hb dX2_moving_63 rfl ?_
    refine lw_ti (lN_i _) ?_
    refine lv_aload_n hx hb dX2_moving_64 rfl (lv_at hl 1 rfl) ?_
    refine fg_X2_37 C h dX2_moving_65 ?_
    refine lw_ti (show (sCm ((uCm ((uCm Bz.1 (nI 0), Bz.2)).1 (nI (comeC Bz.1 q r ii kk)), ((uCm Bz.1 (nI 0), Bz.2)).2)).1 : Int32) = nI (comeC Bz.1 q r ii kk) from rfl) ?_
    refine cp_move (sp := ii) (dp := jj) (n := comeC Bz.1 q r ii kk) C hl.1 h hS hq hr (by omega) (by omega) (Nat.le_of_ble_eq_true rfl) (Nat.le_of_ble_eq_true rfl) dX2_moving_68 (fun H locs h hS => ?_)
    refine lv_aload_n hx hb dX2_moving_71 rfl (lv_at hl 1 rfl) ?_
    refine fg_X2_37 C h dX2_moving_72 ?_
    refine lw_ti (show (sCm ((uCe ((uCm ((uCm Bz.1 (nI 0), Bz.2)).1 (nI (comeC Bz.1 q r ii kk)), ((uCm Bz.1 (nI 0), Bz.2)).2)).1 (va_up (sCe ((uCm ((uCm Bz.1 (nI 0), Bz.2)).1 (nI (comeC Bz.1 q r ii kk)), ((uCm Bz.1 (nI 0), Bz.2)).2)).1) r (va_cpy (sCe ((uCm ((uCm Bz.1 (nI 0), Bz.2)).1 (nI (comeC Bz.1 q r ii kk)), ((uCm Bz.1 (nI 0), Bz.2)).2)).1 q) (sCe ((uCm ((uCm Bz.1 (nI 0), Bz.2)).1 (nI (comeC Bz.1 q r ii kk)), ((uCm Bz.1 (nI 0), Bz.2)).2)).1 r) ii jj (comeC Bz.1 q r ii kk))), ((uCm ((uCm Bz.1 (nI 0), Bz.2)).1 (nI (comeC Bz.1 q r ii kk)), ((uCm Bz.1 (nI 0), Bz.2)).2)).2)).1 : Int32) = nI (comeC Bz.1 q r ii kk) from rfl) ?_
    refine lv_i2l hx hb dX2_moving_75 rfl ?_
    refine lw_tl (nI_l (by omega)) ?_
    refine lv_lload hx hb dX2_moving_76 (lv_at hl 6 rfl) ?_
    refine W.lcmp hx hb dX2_moving_78 ?_
    refine lv_if_ge (tgt := 86) hx hb dX2_moving_79 (by decide) (fun c79 => ?_) (fun c79 => ?_)
    · have c79 := (lg_cmp_ge _ _).mp c79
      have hcc : ¬ comeC Bz.1 q r ii kk < kk := by rw [lN_le (by omega) (by omega)] at c79; omega
      refine lv_iconst (v := nI 0) hx hb dX2_moving_86 (by decide) ?_
      refine lv_istore (lv' := [(9, .int (nI 0)), (0, .ref (a 0)), (1, .ref (a (q + 11))), (2, .long (lN ii)), (4, .ref (a (r + 11))), (5, .long (lN jj)), (7, .long (lN kk))]) hx hb dX2_moving_87 hl (by decide) rfl (fun ls hl => ?_)
      refine lv_aload_n hx hb dX2_moving_89 rfl (lv_at hl 1 rfl) ?_
      refine fg_X2_30 C h dX2_moving_90 ?_
      refine lv_iload hx hb dX2_moving_93 (lv_at hl 0 rfl) ?_
      refine lv_dup2_11 hx hb dX2_moving_95 rfl rfl ?_
      refine al_mv C h (by decide) dX2_moving_96 ?_
      refine lw_ti (show (sMv ((uCe ((uCm ((uCm Bz.1 (nI 0), Bz.2)).1 (nI (comeC Bz.1 q r ii kk)), ((uCm Bz.1 (nI 0), Bz.2)).2)).1 (va_up (sCe ((uCm ((uCm Bz.1 (nI 0), Bz.2)).1 (nI (comeC Bz.1 q r ii kk)), ((uCm Bz.1 (nI 0), Bz.2)).2)).1) r (va_cpy (sCe ((uCm ((uCm Bz.1 (nI 0), Bz.2)).1 (nI (comeC Bz.1 q r ii kk)), ((uCm Bz.1 (nI 0), Bz.2)).2)).1 q) (sCe ((uCm ((uCm Bz.1 (nI 0), Bz.2)).1 (nI (comeC Bz.1 q r ii kk)), ((uCm Bz.1 (nI 0), Bz.2)).2)).1 r) ii jj (comeC Bz.1 q r ii kk))), ((uCm ((uCm Bz.1 (nI 0), Bz.2)).1 (nI (comeC Bz.1 q r ii kk)), ((uCm Bz.1 (nI 0), Bz.2)).2)).2)).1 0 : Int32) = (sMv Bz.1) 0 from rfl) ?_
      refine lv_iconst (v := nI 1) hx hb dX2_moving_97 (by decide) ?_
      refine lv_iadd hx hb dX2_moving_98 ?_
      refine as_mv C h hS (by decide) dX2_moving_99 (fun H locs h hS => ?_)
      refine lv_iload hx hb dX2_moving_100 (lv_at hl 0 rfl) ?_
      exact eI C hret hlk ((uMv ((uCe ((uCm ((uCm Bz.1 (nI 0), Bz.2)).1 (nI (comeC Bz.1 q r ii kk)), ((uCm Bz.1 (nI 0), Bz.2)).2)).1 (va_up (sCe ((uCm ((uCm Bz.1 (nI 0), Bz.2)).1 (nI (comeC Bz.1 q r ii kk)), ((uCm Bz.1 (nI 0), Bz.2)).2)).1) r (va_cpy (sCe ((uCm ((uCm Bz.1 (nI 0), Bz.2)).1 (nI (comeC Bz.1 q r ii kk)), ((uCm Bz.1 (nI 0), Bz.2)).2)).1 q) (sCe ((uCm ((uCm Bz.1 (nI 0), Bz.2)).1 (nI (comeC Bz.1 q r ii kk)), ((uCm Bz.1 (nI 0), Bz.2)).2)).1 r) ii jj (comeC Bz.1 q r ii kk))), ((uCm ((uCm Bz.1 (nI 0), Bz.2)).1 (nI (comeC Bz.1 q r ii kk)), ((uCm Bz.1 (nI 0), Bz.2)).2)).2)).1 (upd (sMv ((uCe ((uCm ((uCm Bz.1 (nI 0), Bz.2)).1 (nI (comeC Bz.1 q r ii kk)), ((uCm Bz.1 (nI 0), Bz.2)).2)).1 (va_up (sCe ((uCm ((uCm Bz.1 (nI 0), Bz.2)).1 (nI (comeC Bz.1 q r ii kk)), ((uCm Bz.1 (nI 0), Bz.2)).2)).1) r (va_cpy (sCe ((uCm ((uCm Bz.1 (nI 0), Bz.2)).1 (nI (comeC Bz.1 q r ii kk)), ((uCm Bz.1 (nI 0), Bz.2)).2)).1 q) (sCe ((uCm ((uCm Bz.1 (nI 0), Bz.2)).1 (nI (comeC Bz.1 q r ii kk)), ((uCm Bz.1 (nI 0), Bz.2)).2)).1 r) ii jj (comeC Bz.1 q r ii kk))), ((uCm ((uCm Bz.1 (nI 0), Bz.2)).1 (nI (comeC Bz.1 q r ii kk)), ((uCm Bz.1 (nI 0), Bz.2)).2)).2)).1) 0 (((sMv Bz.1) 0) + (nI 1))), ((uCe ((uCm ((uCm Bz.1 (nI 0), Bz.2)).1 (nI (comeC Bz.1 q r ii kk)), ((uCm Bz.1 (nI 0), Bz.2)).2)).1 (va_up (sCe ((uCm ((uCm Bz.1 (nI 0), Bz.2)).1 (nI (comeC Bz.1 q r ii kk)), ((uCm Bz.1 (nI 0), Bz.2)).2)).1) r (va_cpy (sCe ((uCm ((uCm Bz.1 (nI 0), Bz.2)).1 (nI (comeC Bz.1 q r ii kk)), ((uCm Bz.1 (nI 0), Bz.2)).2)).1 q) (sCe ((uCm ((uCm Bz.1 (nI 0), Bz.2)).1 (nI (comeC Bz.1 q r ii kk)), ((uCm Bz.1 (nI 0), Bz.2)).2)).1 r) ii jj (comeC Bz.1 q r ii kk))), ((uCm ((uCm Bz.1 (nI 0), Bz.2)).1 (nI (comeC Bz.1 q r ii kk)), ((uCm Bz.1 (nI 0), Bz.2)).2)).2)).2)) h hS (⟨by rw [hmv]; unfold movD; rw [if_neg hcc], by rw [hmv]; unfold movD; rw [if_neg hcc]⟩) dX2_moving_102
    · have c79 : ¬ (lN kk) ≤ (lN (comeC Bz.1 q r ii kk)) := fun q => c79 ((lg_cmp_ge _ _).mpr q)
      have hcc : comeC Bz.1 q r ii kk < kk := by rw [lN_le (by omega) (by omega)] at c79; omega
      refine lv_iconst (v := nI 4) hx hb dX2_moving_82 (by decide) ?_
      refine lv_goto (tgt := 87) hx hb dX2_moving_83 (by decide) ?_
      refine lv_istore (lv' := [(9, .int (nI 4)), (0, .ref (a 0)), (1, .ref (a (q + 11))), (2, .long (lN ii)), (4, .ref (a (r + 11))), (5, .long (lN jj)), (7, .long (lN kk))]) hx hb dX2_moving_87 hl (by decide) rfl (fun ls hl => ?_)
      refine lv_aload_n hx hb dX2_moving_89 rfl (lv_at hl 1 rfl) ?_
      refine fg_X2_30 C h dX2_moving_90 ?_
      refine lv_iload hx hb dX2_moving_93 (lv_at hl 0 rfl) ?_
      refine lv_dup2_11 hx hb dX2_moving_95 rfl rfl ?_
      refine al_mv C h (by decide) dX2_moving_96 ?_
      refine lw_ti (show (sMv ((uCe ((uCm ((uCm Bz.1 (nI 0), Bz.2)).1 (nI (comeC Bz.1 q r ii kk)), ((uCm Bz.1 (nI 0), Bz.2)).2)).1 (va_up (sCe ((uCm ((uCm Bz.1 (nI 0), Bz.2)).1 (nI (comeC Bz.1 q r ii kk)), ((uCm Bz.1 (nI 0), Bz.2)).2)).1) r (va_cpy (sCe ((uCm ((uCm Bz.1 (nI 0), Bz.2)).1 (nI (comeC Bz.1 q r ii kk)), ((uCm Bz.1 (nI 0), Bz.2)).2)).1 q) (sCe ((uCm ((uCm Bz.1 (nI 0), Bz.2)).1 (nI (comeC Bz.1 q r ii kk)), ((uCm Bz.1 (nI 0), Bz.2)).2)).1 r) ii jj (comeC Bz.1 q r ii kk))), ((uCm ((uCm Bz.1 (nI 0), Bz.2)).1 (nI (comeC Bz.1 q r ii kk)), ((uCm Bz.1 (nI 0), Bz.2)).2)).2)).1 4 : Int32) = (sMv Bz.1) 4 from rfl) ?_
      refine lv_iconst (v := nI 1) hx hb dX2_moving_97 (by decide) ?_
      refine lv_iadd hx hb dX2_moving_98 ?_
      refine as_mv C h hS (by decide) dX2_moving_99 (fun H locs h hS => ?_)
      refine lv_iload hx hb dX2_moving_100 (lv_at hl 0 rfl) ?_
      exact eI C hret hlk ((uMv ((uCe ((uCm ((uCm Bz.1 (nI 0), Bz.2)).1 (nI (comeC Bz.1 q r ii kk)), ((uCm Bz.1 (nI 0), Bz.2)).2)).1 (va_up (sCe ((uCm ((uCm Bz.1 (nI 0), Bz.2)).1 (nI (comeC Bz.1 q r ii kk)), ((uCm Bz.1 (nI 0), Bz.2)).2)).1) r (va_cpy (sCe ((uCm ((uCm Bz.1 (nI 0), Bz.2)).1 (nI (comeC Bz.1 q r ii kk)), ((uCm Bz.1 (nI 0), Bz.2)).2)).1 q) (sCe ((uCm ((uCm Bz.1 (nI 0), Bz.2)).1 (nI (comeC Bz.1 q r ii kk)), ((uCm Bz.1 (nI 0), Bz.2)).2)).1 r) ii jj (comeC Bz.1 q r ii kk))), ((uCm ((uCm Bz.1 (nI 0), Bz.2)).1 (nI (comeC Bz.1 q r ii kk)), ((uCm Bz.1 (nI 0), Bz.2)).2)).2)).1 (upd (sMv ((uCe ((uCm ((uCm Bz.1 (nI 0), Bz.2)).1 (nI (comeC Bz.1 q r ii kk)), ((uCm Bz.1 (nI 0), Bz.2)).2)).1 (va_up (sCe ((uCm ((uCm Bz.1 (nI 0), Bz.2)).1 (nI (comeC Bz.1 q r ii kk)), ((uCm Bz.1 (nI 0), Bz.2)).2)).1) r (va_cpy (sCe ((uCm ((uCm Bz.1 (nI 0), Bz.2)).1 (nI (comeC Bz.1 q r ii kk)), ((uCm Bz.1 (nI 0), Bz.2)).2)).1 q) (sCe ((uCm ((uCm Bz.1 (nI 0), Bz.2)).1 (nI (comeC Bz.1 q r ii kk)), ((uCm Bz.1 (nI 0), Bz.2)).2)).1 r) ii jj (comeC Bz.1 q r ii kk))), ((uCm ((uCm Bz.1 (nI 0), Bz.2)).1 (nI (comeC Bz.1 q r ii kk)), ((uCm Bz.1 (nI 0), Bz.2)).2)).2)).1) 4 (((sMv Bz.1) 4) + (nI 1))), ((uCe ((uCm ((uCm Bz.1 (nI 0), Bz.2)).1 (nI (comeC Bz.1 q r ii kk)), ((uCm Bz.1 (nI 0), Bz.2)).2)).1 (va_up (sCe ((uCm ((uCm Bz.1 (nI 0), Bz.2)).1 (nI (comeC Bz.1 q r ii kk)), ((uCm Bz.1 (nI 0), Bz.2)).2)).1) r (va_cpy (sCe ((uCm ((uCm Bz.1 (nI 0), Bz.2)).1 (nI (comeC Bz.1 q r ii kk)), ((uCm Bz.1 (nI 0), Bz.2)).2)).1 q) (sCe ((uCm ((uCm Bz.1 (nI 0), Bz.2)).1 (nI (comeC Bz.1 q r ii kk)), ((uCm Bz.1 (nI 0), Bz.2)).2)).1 r) ii jj (comeC Bz.1 q r ii kk))), ((uCm ((uCm Bz.1 (nI 0), Bz.2)).1 (nI (comeC Bz.1 q r ii kk)), ((uCm Bz.1 (nI 0), Bz.2)).2)).2)).2)) h hS (⟨by rw [hmv]; unfold movD; rw [if_pos hcc], by rw [hmv]; unfold movD; rw [if_pos hcc]⟩) dX2_moving_102
  · have hle := hind_le Bz.1 q r iz jz nz
    have hmv := movS_n hh
    refine lv_istore (lv' := [(9, .int (nI (hind Bz.1 q r iz jz nz))), (0, .ref (a 0)), (1, .ref (a (q + 11))), (2, .long iz), (4, .ref (a (r + 11))), (5, .long jz), (7, .long nz)]) hx hb dX2_moving_27 hl (by decide) rfl (fun ls hl => ?_)
    refine lv_iload hx hb dX2_moving_29 (lv_at hl 0 rfl) ?_
    refine lv_if_ne (tgt := 89) hx hb dX2_moving_31 (by decide) (fun c31 => ?_) (fun c0 => absurd c0 (show _ = (0 : Int32) → False from fun z => hh ((nI_z (by omega)).mp z)))
    refine lv_aload_n hx hb dX2_moving_89 rfl (lv_at hl 1 rfl) ?_
    refine fg_X2_30 C h dX2_moving_90 ?_
    refine lv_iload hx hb dX2_moving_93 (lv_at hl 0 rfl) ?_
    refine lv_dup2_11 hx hb dX2_moving_95 rfl rfl ?_
    refine al_mv C h (by omega) dX2_moving_96 ?_
    refine lw_ti (show (sMv ((uCm Bz.1 (nI 0), Bz.2)).1 (hind Bz.1 q r iz jz nz) : Int32) = (sMv Bz.1) (hind Bz.1 q r iz jz nz) from rfl) ?_
    refine lv_iconst (v := nI 1) hx hb dX2_moving_97 (by decide) ?_
    refine lv_iadd hx hb dX2_moving_98 ?_
    refine as_mv C h hS (by omega) dX2_moving_99 (fun H locs h hS => ?_)
    refine lv_iload hx hb dX2_moving_100 (lv_at hl 0 rfl) ?_
    exact eI C hret hlk ((uMv ((uCm Bz.1 (nI 0), Bz.2)).1 (upd (sMv ((uCm Bz.1 (nI 0), Bz.2)).1) (hind Bz.1 q r iz jz nz) (((sMv Bz.1) (hind Bz.1 q r iz jz nz)) + (nI 1))), ((uCm Bz.1 (nI 0), Bz.2)).2)) h hS (⟨by rw [hmv]; rfl, by rw [hmv]; rfl⟩) dX2_moving_102
end
section
set_option maxHeartbeats 4000000 in
set_option maxRecDepth 100000 in
theorem c_weaveRound (l : Launch) (G : Gx) (a : Nat → Nat) (Bz : BS) (hI : Inv Bz.1) : CtI l G 35 a (EB G a) yX2_weaveRound cX2_weaveRound 5 (some .int) 4 99 [.ref (a 0)] Bz (fun v u => v = nI (rnd Bz.1).1 ∧ ((rnd Bz.1).2, Bz.2) = u) := by
  refine ent_of (by decide) (Nat.le_of_ble_eq_true rfl) ?_
  intro p e s m below meth c ls C h hS hret hlk hl
  have C : Cx p s m _ c cX2_weaveRound RX2 5 G := C
  have hx := C.1
  have hb := C.2.1
  have hl : lv_has ls 5 [(0, .ref (a 0))] := hl
  have h24 := hI.2.2.1
  have lp : ∀ (n : Nat) (j : Nat) (Sz : St) (H : Heap) (locs : List Loc) (ls : Array Slot), (j ≤ sNs Bz.1) → (sNs Bz.1 < j + n) → (Inv Sz) → (sNs Sz = sNs Bz.1) → (wrd (sNs Bz.1 - j) j Sz = rnd Bz.1) →  HW G.1 35 a (EB G a ((Sz, Bz.2))) H → va_S (Aw 35 a) s.heap H locs → lv_has ls 5 [(0, .ref (a 0)), (1, .int (nI j))] → W p l e (rmB 4 99) s m ([.ref (a 0)].toArray) below meth c H locs 0 0 (MQ below (va_Qi (fun v u => v = nI (rnd Bz.1).1 ∧ ((rnd Bz.1).2, Bz.2) = u) (fun u t => HW G.1 35 a (EB G a u) t.heap) (Aw 35 a)) ([.ref (a 0)].toArray) s 0 0 (Aw 35 a)) (F0 m 2 ls []) := by
    intro n
    induction n with
    | zero =>
      intro j Sz H locs ls hj hn hIz hns hw
      exact absurd hn (by omega)
    | succ n ih =>
      intro j Sz H locs ls hj hn hIz hns hw h hS hl
      refine lv_iload_n hx hb dX2_weaveRound_2 rfl (lv_at hl 1 rfl) ?_
      refine lv_aload_n hx hb dX2_weaveRound_3 rfl (lv_at hl 0 rfl) ?_
      refine fg_X2_26 C h dX2_weaveRound_4 ?_
      refine fg_X2_108 C h dX2_weaveRound_7 ?_
      refine lw_ti (show (nI (sNs ((Sz, Bz.2)).1) : Int32) = nI ((sNs Sz)) from rfl) ?_
      refine lv_icmp_ge (tgt := 92) hx hb dX2_weaveRound_10 (by decide) (fun c10 => ?_) (fun c10 => ?_)
      · skip
        refine lv_aload_n hx hb dX2_weaveRound_92 rfl (lv_at hl 0 rfl) ?_
        refine fg_X2_26 C h dX2_weaveRound_93 ?_
        refine fg_X2_108 C h dX2_weaveRound_96 ?_
        refine lw_ti (show (nI (sNs ((Sz, Bz.2)).1) : Int32) = nI ((sNs Sz)) from rfl) ?_
        exact eI C hret hlk ((Sz, Bz.2)) h hS (⟨by rw [← hw, show sNs Bz.1 - j = 0 by rw [nI_leI (by omega) (by omega)] at c10; omega, wrd]; exact congrArg nI (by rw [nI_leI (by omega) (by omega)] at c10; omega), by rw [← hw, show sNs Bz.1 - j = 0 by rw [nI_leI (by omega) (by omega)] at c10; omega, wrd]⟩) dX2_weaveRound_99
      · skip
        have hjn : j < sNs Bz.1 := by rw [nI_leI (by omega) (by omega)] at c10; omega
        have hjs : j < sNs Sz := by omega
        obtain ⟨⟨q, hq, eq⟩, r, hr, er⟩ := hIz.2.2.2.1 j hjs
        have hst := stp_of hq hr eq er
        refine lv_aload_n hx hb dX2_weaveRound_13 rfl (lv_at hl 0 rfl) ?_
        refine lv_aload_n hx hb dX2_weaveRound_14 rfl (lv_at hl 0 rfl) ?_
        refine fg_X2_26 C h dX2_weaveRound_15 ?_
        refine fg_X2_162 C h dX2_weaveRound_18 ?_
        refine lv_iload_n hx hb dX2_weaveRound_21 rfl (lv_at hl 1 rfl) ?_
        refine al_pt0 C h (by first | assumption | omega) dX2_weaveRound_22 ?_
        refine lw_ti (show (sPt ((Sz, Bz.2)).1 0 j : Int32) = (sPt Sz) 0 j from rfl) ?_
        refine lw_ti (show ((sPt Sz) 0 j : Int32) = nI q from eq) ?_
        refine kQ (rV (As := [.int (nI q)]) (rest := []) C h lk_X2_44 0 (by decide) rfl rfl rfl (c_rackAt l G a (Sz, Bz.2) (nI q)) ⟨Nat.le_of_ble_eq_true rfl, Nat.le_of_ble_eq_true rfl⟩ hl.1 rfl rfl (Nat.le_of_ble_eq_true rfl) dX2_weaveRound_23 ⟨Nat.zero_le _, Nat.zero_le _⟩) hS (fun rv u H locs hp h hS => ?_)
        obtain ⟨rfl, hp⟩ := hp
        obtain rfl := rackAt_nI hq hp
        refine lv_astore_n (lv' := [(2, .ref (a (q + 11))), (0, .ref (a 0)), (1, .int (nI j))]) hx hb dX2_weaveRound_26 rfl hl (by decide) rfl (fun ls hl => ?_)
        refine lv_aload_n hx hb dX2_weaveRound_27 rfl (lv_at hl 1 rfl) ?_
        refine lv_aload_n hx hb dX2_weaveRound_28 rfl (lv_at hl 1 rfl) ?_
        refine fg_X2_26 C h dX2_weaveRound_29 ?_
        refine fg_X2_165 C h dX2_weaveRound_32 ?_
        refine lv_iload_n hx hb dX2_weaveRound_35 rfl (lv_at hl 2 rfl) ?_
        refine al_pt2 C h (by first | assumption | omega) dX2_weaveRound_36 ?_
        refine lw_ti (show (sPt ((Sz, Bz.2)).1 2 j : Int32) = (sPt Sz) 2 j from rfl) ?_
        refine lw_ti (show ((sPt Sz) 2 j : Int32) = nI r from er) ?_
        refine kQ (rV (As := [.int (nI r)]) (rest := []) C h lk_X2_44 0 (by decide) rfl rfl rfl (c_rackAt l G a (Sz, Bz.2) (nI r)) ⟨Nat.le_of_ble_eq_true rfl, Nat.le_of_ble_eq_true rfl⟩ hl.1 rfl rfl (Nat.le_of_ble_eq_true rfl) dX2_weaveRound_37 ⟨Nat.zero_le _, Nat.zero_le _⟩) hS (fun rv u H locs hp h hS => ?_)
        obtain ⟨rfl, hp⟩ := hp
        obtain rfl := rackAt_nI hr hp
        refine lv_astore_n (lv' := [(3, .ref (a (r + 11))), (2, .ref (a (q + 11))), (0, .ref (a 0)), (1, .int (nI j))]) hx hb dX2_weaveRound_40 rfl hl (by decide) rfl (fun ls hl => ?_)
        refine lv_aload_n hx hb dX2_weaveRound_41 rfl (lv_at hl 2 rfl) ?_
        refine lv_aload_n hx hb dX2_weaveRound_42 rfl (lv_at hl 1 rfl) ?_
        refine lv_aload_n hx hb dX2_weaveRound_43 rfl (lv_at hl 2 rfl) ?_
        refine fg_X2_26 C h dX2_weaveRound_44 ?_
        refine fg_X2_168 C h dX2_weaveRound_47 ?_
        refine lv_iload_n hx hb dX2_weaveRound_50 rfl (lv_at hl 3 rfl) ?_
        refine al_pt1 C h (by first | assumption | omega) dX2_weaveRound_51 ?_
        refine lw_ti (show (sPt ((Sz, Bz.2)).1 1 j : Int32) = (sPt Sz) 1 j from rfl) ?_
        refine lv_i2l hx hb dX2_weaveRound_52 rfl ?_
        refine lv_aload_n hx hb dX2_weaveRound_53 rfl (lv_at hl 0 rfl) ?_
        refine lv_aload_n hx hb dX2_weaveRound_54 rfl (lv_at hl 2 rfl) ?_
        refine fg_X2_26 C h dX2_weaveRound_55 ?_
        refine fg_X2_171 C h dX2_weaveRound_58 ?_
        refine lv_iload_n hx hb dX2_weaveRound_61 rfl (lv_at hl 3 rfl) ?_
        refine al_pt3 C h (by first | assumption | omega) dX2_weaveRound_62 ?_
        refine lw_ti (show (sPt ((Sz, Bz.2)).1 3 j : Int32) = (sPt Sz) 3 j from rfl) ?_
        refine lv_i2l hx hb dX2_weaveRound_63 rfl ?_
        refine lv_aload_n hx hb dX2_weaveRound_64 rfl (lv_at hl 2 rfl) ?_
        refine fg_X2_26 C h dX2_weaveRound_65 ?_
        refine fg_X2_174 C h dX2_weaveRound_68 ?_
        refine lv_iload_n hx hb dX2_weaveRound_71 rfl (lv_at hl 3 rfl) ?_
        refine al_pt4 C h (by first | assumption | omega) dX2_weaveRound_72 ?_
        refine lw_ti (show (sPt ((Sz, Bz.2)).1 4 j : Int32) = (sPt Sz) 4 j from rfl) ?_
        refine lv_i2l hx hb dX2_weaveRound_73 rfl ?_
        refine kI (rV (As := [.ref (a (q + 11)), .long (((sPt Sz) 1 j).toInt64), .ref (a (r + 11)), .long (((sPt Sz) 3 j).toInt64), .long (((sPt Sz) 4 j).toInt64)]) (rest := []) C h lk_X2_82 0 (by decide) rfl rfl rfl (c_moving l G a (Sz, Bz.2) hIz q r hq hr _ _ _ (sml_i _) (sml_i _) (sml_i _)) ⟨Nat.le_of_ble_eq_true rfl, Nat.le_of_ble_eq_true rfl⟩ hl.1 rfl rfl (Nat.le_of_ble_eq_true rfl) dX2_weaveRound_74 ⟨Nat.zero_le _, Nat.zero_le _⟩) hS (fun rv u H locs hp h hS => ?_)
        obtain ⟨hv, hu⟩ := hp
        rw [← hst] at hv hu
        subst hv
        subst hu
        by_cases hz : (stp Sz j).1 = 0
        · refine lw_ti (show _ = nI 0 from congrArg nI hz) ?_
          refine lv_istore (lv' := [(4, .int (nI 0)), (3, .ref (a (r + 11))), (2, .ref (a (q + 11))), (0, .ref (a 0)), (1, .int (nI j))]) hx hb dX2_weaveRound_77 hl (by decide) rfl (fun ls hl => ?_)
          refine lv_iload hx hb dX2_weaveRound_79 (lv_at hl 0 rfl) ?_
          refine lv_if_eq (tgt := 86) hx hb dX2_weaveRound_81 (by decide) (fun _ => ?_) (fun c0 => absurd c0 (by decide))
          refine lv_iinc (v := nI (j + 1)) (lv' := [(1, .int (nI (j + 1))), (4, .int (nI 0)), (3, .ref (a (r + 11))), (2, .ref (a (q + 11))), (0, .ref (a 0))]) hx hb dX2_weaveRound_86 hl (k := 4) rfl (nI_1 j) (by decide) rfl (fun ls hl => ?_)
          refine lv_goto (tgt := 2) hx hb dX2_weaveRound_89 (by decide) ?_
          exact ih (j + 1) (stp Sz j).2 _ _ _ (by omega) (by omega) (stp_inv hIz hjs) (stp_ns.trans hns) ((wrd_step hjn hz).symm.trans hw) h hS (lv_sub hl [4, 0] rfl)
        · have hlt := mov_lt Sz q r (sPt Sz 1 j).toInt64 (sPt Sz 3 j).toInt64 (sPt Sz 4 j).toInt64
          rw [← hst] at hlt
          refine lv_istore (lv' := [(4, .int (nI (stp Sz j).1)), (3, .ref (a (r + 11))), (2, .ref (a (q + 11))), (0, .ref (a 0)), (1, .int (nI j))]) hx hb dX2_weaveRound_77 hl (by decide) rfl (fun ls hl => ?_)
          refine lv_iload hx hb dX2_weaveRound_79 (lv_at hl 0 rfl) ?_
          refine lv_if_eq (tgt := 86) hx hb dX2_weaveRound_81 (by decide) (fun c0 => absurd c0 (fun z => hz ((nI_z (by omega)).mp z))) (fun c81 => ?_)
          refine lv_iload_n hx hb dX2_weaveRound_84 rfl (lv_at hl 4 rfl) ?_
          exact eI C hret hlk (((stp Sz j).2, Bz.2)) h hS (⟨by rw [← hw, wrd_stop hjn hz], by rw [← hw, wrd_stop hjn hz]⟩) dX2_weaveRound_85
  refine lv_iconst (v := nI 0) hx hb dX2_weaveRound_0 (by decide) ?_
  refine lv_istore_n (lv' := [(1, .int (nI 0)), (0, .ref (a 0))]) hx hb dX2_weaveRound_1 rfl hl (by decide) rfl (fun ls hl => ?_)
  exact lp (sNs Bz.1 + 1) 0 Bz.1 _ _ _ (by omega) (by omega) hI rfl rfl h hS (lv_sub hl [1, 0] rfl)

set_option maxHeartbeats 4000000 in
set_option maxRecDepth 100000 in
theorem c_weave (l : Launch) (G : Gx) (a : Nat → Nat) (Bz : BS) (hI : Inv Bz.1) (xz wz : Int32) : CtI l G 35 a (EB G a) yX2_weave cX2_weave 7 (some .int) 5 123 [.ref (a 0), .int xz, .int wz] Bz (fun v u => v = (spWeave Bz.1 xz wz).1 ∧ (spWeave Bz.1 xz wz).2 = u.1) := by
  refine ent_of (by decide) (Nat.le_of_ble_eq_true rfl) ?_
  intro p e s m below meth c ls C h hS hret hlk hl
  have C : Cx p s m _ c cX2_weave RX2 7 G := C
  have hx := C.1
  have hb := C.2.1
  have hl : lv_has ls 7 [(0, .ref (a 0)), (1, .int xz), (2, .int wz)] := hl
  have h24 := hI.2.2.1
  have lp : ∀ (n : Nat) (N j d : Nat) (Sz : St) (Kz : Kt) (H : Heap) (locs : List Loc) (ls : Array Slot), (N ≤ 50) → (rng xz 1 50 = some N) → (¬ sNs Bz.1 = 0) → (j ≤ N) → (N < j + n) → (Inv Sz) → (wvs (¬ wz = 0) (N - j) d Sz = wvs (¬ wz = 0) N 0 Bz.1) →  HW G.1 35 a (EB G a ((Sz, Kz))) H → va_S (Aw 35 a) s.heap H locs → lv_has ls 7 [(0, .ref (a 0)), (1, .int (nI N)), (2, .int wz), (3, .int (nI d)), (4, .int (nI j))] → W p l e (rmB 5 123) s m ([.ref (a 0), .int xz, .int wz].toArray) below meth c H locs 0 0 (MQ below (va_Qi (fun v u => v = (spWeave Bz.1 xz wz).1 ∧ (spWeave Bz.1 xz wz).2 = u.1) (fun u t => HW G.1 35 a (EB G a u) t.heap) (Aw 35 a)) ([.ref (a 0), .int xz, .int wz].toArray) s 0 0 (Aw 35 a)) (F0 m 28 ls []) := by
    intro n
    induction n with
    | zero =>
      intro N j d Sz Kz H locs ls hN50 hN h0 hj hn hIz hw
      exact absurd hn (by omega)
    | succ n ih =>
      intro N j d Sz Kz H locs ls hN50 hN h0 hj hn hIz hw h hS hl
      refine lv_iload hx hb dX2_weave_28 (lv_at hl 4 rfl) ?_
      refine lv_iload_n hx hb dX2_weave_30 rfl (lv_at hl 1 rfl) ?_
      refine lv_icmp_ge (tgt := 110) hx hb dX2_weave_31 (by decide) (fun c31 => ?_) (fun c31 => ?_)
      · skip
        refine lv_iload_n hx hb dX2_weave_110 rfl (lv_at hl 3 rfl) ?_
        exact eI C hret hlk ((Sz, Kz)) h hS (⟨by unfold spWeave; rw [hN]; simp only; rw [if_neg h0, ← hw, show N - j = 0 by rw [nI_leI (by omega) (by omega)] at c31; omega, wvs], by unfold spWeave; rw [hN]; simp only; rw [if_neg h0, ← hw, show N - j = 0 by rw [nI_leI (by omega) (by omega)] at c31; omega, wvs]⟩) dX2_weave_111
      · skip
        have hjn : j < N := by rw [nI_leI (by omega) (by omega)] at c31; omega
        have hns := (rnd_inv hIz).2.1
        have hle := (rnd_inv hIz).2.2
        have hz24 := hIz.2.2.1
        refine lv_iload_n hx hb dX2_weave_34 rfl (lv_at hl 2 rfl) ?_
        refine lv_if_eq (tgt := 42) hx hb dX2_weave_35 (by decide) (fun c35 => ?_) (fun c35 => ?_)
        · skip
          refine lv_aload_n hx hb dX2_weave_42 rfl (lv_at hl 0 rfl) ?_
          refine kI (rV (As := []) (rest := []) C h lk_X2_114 0 (by decide) rfl rfl rfl (c_weaveRound l G a (Sz, Kz) hIz) ⟨Nat.le_of_ble_eq_true rfl, Nat.le_of_ble_eq_true rfl⟩ hl.1 rfl rfl (Nat.le_of_ble_eq_true rfl) dX2_weave_43 ⟨Nat.zero_le _, Nat.zero_le _⟩) hS (fun rv u H locs hp h hS => ?_)
          obtain ⟨rfl, rfl⟩ := hp
          refine lv_istore (lv' := [(5, .int (nI (rnd Sz).1)), (0, .ref (a 0)), (1, .int (nI N)), (2, .int wz), (3, .int (nI d)), (4, .int (nI j))]) hx hb dX2_weave_46 hl (by decide) rfl (fun ls hl => ?_)
          refine lv_iload hx hb dX2_weave_48 (lv_at hl 0 rfl) ?_
          refine lv_aload_n hx hb dX2_weave_50 rfl (lv_at hl 1 rfl) ?_
          refine fg_X2_26 C h dX2_weave_51 ?_
          refine fg_X2_108 C h dX2_weave_54 ?_
          refine lw_ti (show (nI (sNs (((rnd Sz).2, Kz)).1) : Int32) = nI ((sNs ((rnd Sz).2))) from rfl) ?_
          refine lw_ti (show (nI ((sNs ((rnd Sz).2))) : Int32) = nI (sNs Sz) from congrArg nI hns) ?_
          by_cases hz : (rnd Sz).1 = sNs Sz
          · skip
            refine lv_icmp_ne (tgt := 64) hx hb dX2_weave_57 (by decide) (fun c0 => absurd (congrArg nI hz) c0) (fun c57 => ?_)
            refine lv_iconst (v := nI 1) hx hb dX2_weave_60 (by decide) ?_
            refine lv_goto (tgt := 65) hx hb dX2_weave_61 (by decide) ?_
            refine lv_istore (lv' := [(6, .int (nI 1)), (5, .int (nI (rnd Sz).1)), (0, .ref (a 0)), (1, .int (nI N)), (2, .int wz), (3, .int (nI d)), (4, .int (nI j))]) hx hb dX2_weave_65 hl (by decide) rfl (fun ls hl => ?_)
            refine lv_iload hx hb dX2_weave_67 (lv_at hl 0 rfl) ?_
            refine lv_if_ne (tgt := 82) hx hb dX2_weave_69 (by decide) (fun _ => ?_) (fun c0 => absurd c0 (by decide))
            refine lv_iload_n hx hb dX2_weave_82 rfl (lv_at hl 5 rfl) ?_
            refine lv_iload hx hb dX2_weave_83 (lv_at hl 1 rfl) ?_
            refine lv_iadd hx hb dX2_weave_85 ?_
            refine lw_ti (show ((nI d) + (nI (rnd Sz).1) : Int32) = nI (d + (rnd Sz).1) from nI_add _ _) ?_
            refine lv_istore_n (lv' := [(3, .int (nI (d + (rnd Sz).1))), (6, .int (nI 1)), (5, .int (nI (rnd Sz).1)), (0, .ref (a 0)), (1, .int (nI N)), (2, .int wz), (4, .int (nI j))]) hx hb dX2_weave_86 rfl hl (by decide) rfl (fun ls hl => ?_)
            refine lv_iload hx hb dX2_weave_87 (lv_at hl 1 rfl) ?_
            refine lv_if_ne (tgt := 94) hx hb dX2_weave_89 (by decide) (fun _ => ?_) (fun c0 => absurd c0 (by decide))
            refine lv_aload_n hx hb dX2_weave_94 rfl (lv_at hl 3 rfl) ?_
            refine lv_dup hx hb dX2_weave_95 rfl ?_
            refine fg_X2_40 C h dX2_weave_96 ?_
            refine lw_ti (show (sWv (((rnd Sz).2, Kz)).1 : Int32) = sWv ((rnd Sz).2) from rfl) ?_
            refine lv_iconst (v := nI 1) hx hb dX2_weave_99 (by decide) ?_
            refine lv_iadd hx hb dX2_weave_100 ?_
            refine fp_X2_40 C h hS dX2_weave_101 (fun H locs h hS => ?_)
            refine lv_iinc (v := nI (j + 1)) (lv' := [(4, .int (nI (j + 1))), (3, .int (nI (d + (rnd Sz).1))), (6, .int (nI 1)), (5, .int (nI (rnd Sz).1)), (0, .ref (a 0)), (1, .int (nI N)), (2, .int wz)]) hx hb dX2_weave_104 hl (k := 6) rfl (nI_1 j) (by decide) rfl (fun ls hl => ?_)
            refine lv_goto (tgt := 28) hx hb dX2_weave_107 (by decide) ?_
            exact ih N (j + 1) (d + (rnd Sz).1) (uWv (rnd Sz).2 (sWv (rnd Sz).2 + nI 1)) _ _ _ _ hN50 hN h0 (by omega) (by omega) (rnd_inv hIz).1 ((wvs_go hjn hz).symm.trans hw) h hS (lv_sub hl [4, 5, 6, 1, 0] rfl)
          · skip
            refine lv_icmp_ne (tgt := 64) hx hb dX2_weave_57 (by decide) (fun c57 => ?_) (fun c0 => absurd c0 (fun z => hz (nI_inj (by omega) (by omega) z)))
            refine lv_iconst (v := nI 0) hx hb dX2_weave_64 (by decide) ?_
            refine lv_istore (lv' := [(6, .int (nI 0)), (5, .int (nI (rnd Sz).1)), (0, .ref (a 0)), (1, .int (nI N)), (2, .int wz), (3, .int (nI d)), (4, .int (nI j))]) hx hb dX2_weave_65 hl (by decide) rfl (fun ls hl => ?_)
            refine lv_iload hx hb dX2_weave_67 (lv_at hl 0 rfl) ?_
            refine lv_if_ne (tgt := 82) hx hb dX2_weave_69 (by decide) (fun c0 => absurd c0 (by decide)) (fun _ => ?_)
            refine lv_iload_n hx hb dX2_weave_72 rfl (lv_at hl 4 rfl) ?_
            refine lv_if_eq (tgt := 82) hx hb dX2_weave_73 (by decide) (fun c73 => ?_) (fun c0 => absurd (c35) c0)
            refine lv_iload_n hx hb dX2_weave_82 rfl (lv_at hl 5 rfl) ?_
            refine lv_iload hx hb dX2_weave_83 (lv_at hl 1 rfl) ?_
            refine lv_iadd hx hb dX2_weave_85 ?_
            refine lw_ti (show ((nI d) + (nI (rnd Sz).1) : Int32) = nI (d + (rnd Sz).1) from nI_add _ _) ?_
            refine lv_istore_n (lv' := [(3, .int (nI (d + (rnd Sz).1))), (6, .int (nI 0)), (5, .int (nI (rnd Sz).1)), (0, .ref (a 0)), (1, .int (nI N)), (2, .int wz), (4, .int (nI j))]) hx hb dX2_weave_86 rfl hl (by decide) rfl (fun ls hl => ?_)
            refine lv_iload hx hb dX2_weave_87 (lv_at hl 1 rfl) ?_
            refine lv_if_ne (tgt := 94) hx hb dX2_weave_89 (by decide) (fun c0 => absurd c0 (by decide)) (fun _ => ?_)
            refine lv_iload_n hx hb dX2_weave_92 rfl (lv_at hl 0 rfl) ?_
            exact eI C hret hlk (((rnd Sz).2, Kz)) h hS (⟨by unfold spWeave; rw [hN]; simp only; rw [if_neg h0, ← hw, wvs_stop hjn hz, cif_f (fun z => z c35)], by unfold spWeave; rw [hN]; simp only; rw [if_neg h0, ← hw, wvs_stop hjn hz, cif_f (fun z => z c35)]⟩) dX2_weave_93
        · skip
          refine lv_aload_n hx hb dX2_weave_38 rfl (lv_at hl 0 rfl) ?_
          refine kV (rV (As := []) (rest := []) C h lk_X2_111 0 (by decide) rfl rfl rfl (c_keepAllRows l G a (Sz, Kz)) ⟨Nat.le_of_ble_eq_true rfl, Nat.le_of_ble_eq_true rfl⟩ hl.1 rfl rfl (Nat.le_of_ble_eq_true rfl) dX2_weave_39 ⟨Nat.zero_le _, Nat.zero_le _⟩) hS (fun u H locs hp h hS => ?_)
          obtain ⟨hS1, hK⟩ := hp
          obtain ⟨u1, Kz⟩ := u
          dsimp only at hS1 hK
          subst hS1
          refine lv_aload_n hx hb dX2_weave_42 rfl (lv_at hl 0 rfl) ?_
          refine kI (rV (As := []) (rest := []) C h lk_X2_114 0 (by decide) rfl rfl rfl (c_weaveRound l G a (Sz, Kz) hIz) ⟨Nat.le_of_ble_eq_true rfl, Nat.le_of_ble_eq_true rfl⟩ hl.1 rfl rfl (Nat.le_of_ble_eq_true rfl) dX2_weave_43 ⟨Nat.zero_le _, Nat.zero_le _⟩) hS (fun rv u H locs hp h hS => ?_)
          obtain ⟨rfl, rfl⟩ := hp
          refine lv_istore (lv' := [(5, .int (nI (rnd Sz).1)), (0, .ref (a 0)), (1, .int (nI N)), (2, .int wz), (3, .int (nI d)), (4, .int (nI j))]) hx hb dX2_weave_46 hl (by decide) rfl (fun ls hl => ?_)
          refine lv_iload hx hb dX2_weave_48 (lv_at hl 0 rfl) ?_
          refine lv_aload_n hx hb dX2_weave_50 rfl (lv_at hl 1 rfl) ?_
          refine fg_X2_26 C h dX2_weave_51 ?_
          refine fg_X2_108 C h dX2_weave_54 ?_
          refine lw_ti (show (nI (sNs (((rnd Sz).2, Kz)).1) : Int32) = nI ((sNs ((rnd Sz).2))) from rfl) ?_
          refine lw_ti (show (nI ((sNs ((rnd Sz).2))) : Int32) = nI (sNs Sz) from congrArg nI hns) ?_
          by_cases hz : (rnd Sz).1 = sNs Sz
          · skip
            refine lv_icmp_ne (tgt := 64) hx hb dX2_weave_57 (by decide) (fun c0 => absurd (congrArg nI hz) c0) (fun c57 => ?_)
            refine lv_iconst (v := nI 1) hx hb dX2_weave_60 (by decide) ?_
            refine lv_goto (tgt := 65) hx hb dX2_weave_61 (by decide) ?_
            refine lv_istore (lv' := [(6, .int (nI 1)), (5, .int (nI (rnd Sz).1)), (0, .ref (a 0)), (1, .int (nI N)), (2, .int wz), (3, .int (nI d)), (4, .int (nI j))]) hx hb dX2_weave_65 hl (by decide) rfl (fun ls hl => ?_)
            refine lv_iload hx hb dX2_weave_67 (lv_at hl 0 rfl) ?_
            refine lv_if_ne (tgt := 82) hx hb dX2_weave_69 (by decide) (fun _ => ?_) (fun c0 => absurd c0 (by decide))
            refine lv_iload_n hx hb dX2_weave_82 rfl (lv_at hl 5 rfl) ?_
            refine lv_iload hx hb dX2_weave_83 (lv_at hl 1 rfl) ?_
            refine lv_iadd hx hb dX2_weave_85 ?_
            refine lw_ti (show ((nI d) + (nI (rnd Sz).1) : Int32) = nI (d + (rnd Sz).1) from nI_add _ _) ?_
            refine lv_istore_n (lv' := [(3, .int (nI (d + (rnd Sz).1))), (6, .int (nI 1)), (5, .int (nI (rnd Sz).1)), (0, .ref (a 0)), (1, .int (nI N)), (2, .int wz), (4, .int (nI j))]) hx hb dX2_weave_86 rfl hl (by decide) rfl (fun ls hl => ?_)
            refine lv_iload hx hb dX2_weave_87 (lv_at hl 1 rfl) ?_
            refine lv_if_ne (tgt := 94) hx hb dX2_weave_89 (by decide) (fun _ => ?_) (fun c0 => absurd c0 (by decide))
            refine lv_aload_n hx hb dX2_weave_94 rfl (lv_at hl 3 rfl) ?_
            refine lv_dup hx hb dX2_weave_95 rfl ?_
            refine fg_X2_40 C h dX2_weave_96 ?_
            refine lw_ti (show (sWv (((rnd Sz).2, Kz)).1 : Int32) = sWv ((rnd Sz).2) from rfl) ?_
            refine lv_iconst (v := nI 1) hx hb dX2_weave_99 (by decide) ?_
            refine lv_iadd hx hb dX2_weave_100 ?_
            refine fp_X2_40 C h hS dX2_weave_101 (fun H locs h hS => ?_)
            refine lv_iinc (v := nI (j + 1)) (lv' := [(4, .int (nI (j + 1))), (3, .int (nI (d + (rnd Sz).1))), (6, .int (nI 1)), (5, .int (nI (rnd Sz).1)), (0, .ref (a 0)), (1, .int (nI N)), (2, .int wz)]) hx hb dX2_weave_104 hl (k := 6) rfl (nI_1 j) (by decide) rfl (fun ls hl => ?_)
            refine lv_goto (tgt := 28) hx hb dX2_weave_107 (by decide) ?_
            exact ih N (j + 1) (d + (rnd Sz).1) (uWv (rnd Sz).2 (sWv (rnd Sz).2 + nI 1)) _ _ _ _ hN50 hN h0 (by omega) (by omega) (rnd_inv hIz).1 ((wvs_go hjn hz).symm.trans hw) h hS (lv_sub hl [4, 5, 6, 1, 0] rfl)
          · skip
            refine lv_icmp_ne (tgt := 64) hx hb dX2_weave_57 (by decide) (fun c57 => ?_) (fun c0 => absurd c0 (fun z => hz (nI_inj (by omega) (by omega) z)))
            refine lv_iconst (v := nI 0) hx hb dX2_weave_64 (by decide) ?_
            refine lv_istore (lv' := [(6, .int (nI 0)), (5, .int (nI (rnd Sz).1)), (0, .ref (a 0)), (1, .int (nI N)), (2, .int wz), (3, .int (nI d)), (4, .int (nI j))]) hx hb dX2_weave_65 hl (by decide) rfl (fun ls hl => ?_)
            refine lv_iload hx hb dX2_weave_67 (lv_at hl 0 rfl) ?_
            refine lv_if_ne (tgt := 82) hx hb dX2_weave_69 (by decide) (fun c0 => absurd c0 (by decide)) (fun _ => ?_)
            refine lv_iload_n hx hb dX2_weave_72 rfl (lv_at hl 4 rfl) ?_
            refine lv_if_eq (tgt := 82) hx hb dX2_weave_73 (by decide) (fun c0 => absurd c0 (c35)) (fun c73 => ?_)
            refine lv_aload_n hx hb dX2_weave_76 rfl (lv_at hl 2 rfl) ?_
            refine kV (rV (As := []) (rest := []) C h lk_X2_118 0 (by decide) rfl rfl rfl (c_restoreAllRows l G a ((rnd Sz).2, Kz)) ⟨Nat.le_of_ble_eq_true rfl, Nat.le_of_ble_eq_true rfl⟩ hl.1 rfl rfl (Nat.le_of_ble_eq_true rfl) dX2_weave_77 ⟨Nat.zero_le _, Nat.zero_le _⟩) hS (fun u H locs hp h hS => ?_)
            obtain rfl := hp
            refine lv_iload_n hx hb dX2_weave_80 rfl (lv_at hl 5 rfl) ?_
            exact eI C hret hlk (uCe (rnd Sz).2 (sCe Sz), Kz) (HB_eq h ⟨fun _ _ => ⟨rfl, rfl⟩, fun t q ht hq => hK t q ht hq, fun _ _ _ _ => rfl, rfl, fun _ _ => rfl, fun _ _ => rfl, rfl, fun _ _ _ _ => rfl, rfl, fun _ _ => rfl, rfl⟩) hS (⟨by unfold spWeave; rw [hN]; simp only; rw [if_neg h0, ← hw, wvs_stop hjn hz, cif_t c35], by unfold spWeave; rw [hN]; simp only; rw [if_neg h0, ← hw, wvs_stop hjn hz, cif_t c35]⟩) dX2_weave_81
  refine lv_iload_n hx hb dX2_weave_0 rfl (lv_at hl 1 rfl) ?_
  refine lv_iconst (v := nI 1) hx hb dX2_weave_1 (by decide) ?_
  refine lv_icmp_lt (tgt := 21) hx hb dX2_weave_2 (by decide) (fun c2 => ?_) (fun c2 => ?_)
  · skip
    refine lv_iconst (v := -1) hx hb dX2_weave_21 (by decide) ?_
    exact eI C hret hlk (Bz) h hS (⟨by unfold spWeave; rw [rng_lo c2], by unfold spWeave; rw [rng_lo c2]⟩) dX2_weave_22
  · skip
    refine lv_iload_n hx hb dX2_weave_5 rfl (lv_at hl 1 rfl) ?_
    refine lv_bipush (v := nI 50) hx hb dX2_weave_6 (by decide) ?_
    refine lv_icmp_gt (tgt := 21) hx hb dX2_weave_8 (by decide) (fun c8 => ?_) (fun c8 => ?_)
    · skip
      refine lv_iconst (v := -1) hx hb dX2_weave_21 (by decide) ?_
      exact eI C hret hlk (Bz) h hS (⟨by unfold spWeave; rw [rng_hi c8], by unfold spWeave; rw [rng_hi c8]⟩) dX2_weave_22
    · skip
      obtain ⟨N, hN1, hN50, hxN, hN⟩ := rng_of (by decide) (by decide) c2 c8
      refine lv_aload_n hx hb dX2_weave_11 rfl (lv_at hl 0 rfl) ?_
      refine fg_X2_26 C h dX2_weave_12 ?_
      refine fg_X2_108 C h dX2_weave_15 ?_
      refine lv_if_ne (tgt := 23) hx hb dX2_weave_18 (by decide) (fun c18 => ?_) (fun c18 => ?_)
      · skip
        have h0 : ¬ sNs Bz.1 = 0 := fun z => c18 ((nI_z (by omega)).mpr z)
        rw [hxN] at hl
        refine lv_iconst (v := nI 0) hx hb dX2_weave_23 (by decide) ?_
        refine lv_istore_n (lv' := [(3, .int (nI 0)), (0, .ref (a 0)), (1, .int (nI N)), (2, .int wz)]) hx hb dX2_weave_24 rfl hl (by decide) rfl (fun ls hl => ?_)
        refine lv_iconst (v := nI 0) hx hb dX2_weave_25 (by decide) ?_
        refine lv_istore (lv' := [(4, .int (nI 0)), (3, .int (nI 0)), (0, .ref (a 0)), (1, .int (nI N)), (2, .int wz)]) hx hb dX2_weave_26 hl (by decide) rfl (fun ls hl => ?_)
        exact lp (N + 1) N 0 0 Bz.1 Bz.2 _ _ _ hN50 hN h0 (by omega) (by omega) hI rfl h hS (lv_sub hl [2, 3, 4, 1, 0] rfl)
      · skip
        refine lv_iconst (v := -1) hx hb dX2_weave_21 (by decide) ?_
        exact eI C hret hlk (Bz) h hS (⟨by unfold spWeave; rw [hN]; simp only; rw [if_pos ((nI_z (by omega)).mp c18)], by unfold spWeave; rw [hN]; simp only; rw [if_pos ((nI_z (by omega)).mp c18)]⟩) dX2_weave_22

theorem min_nI {x y : Nat} (hx : x < 2 ^ 31) (hy : y < 2 ^ 31) : (if nI y < nI x then nI y else nI x) = nI (min x y) := by
  by_cases h : y < x
  · rw [if_pos ((nI_ltI hy hx).mpr h), Nat.min_eq_right (by omega)]
  · rw [if_neg (fun z => h ((nI_ltI hy hx).mp z)), Nat.min_eq_left (by omega)]

set_option maxHeartbeats 4000000 in
set_option maxRecDepth 100000 in
theorem c_alike (l : Launch) (G : Gx) (a : Nat → Nat) (Bz : BS) (hI : Inv Bz.1) (xz yz : Int32) : CtI l G 35 a (EB G a) yX2_alike cX2_alike 7 (some .int) 3 62 [.ref (a 0), .int xz, .int yz] Bz (fun v u => Bz = u ∧ v = spAlike Bz.1 xz yz) := by
  refine ent_of (by decide) (Nat.le_of_ble_eq_true rfl) ?_
  intro p e s m below meth c ls C h hS hret hlk hl
  have C : Cx p s m _ c cX2_alike RX2 7 G := C
  have hx := C.1
  have hb := C.2.1
  have hl : lv_has ls 7 [(0, .ref (a 0)), (1, .int xz), (2, .int yz)] := hl
  have lp : ∀ (n : Nat) (q r pz : Nat) (H : Heap) (locs : List Loc) (ls : Array Slot), (q < 8) → (r < 8) → (sPl Bz.1 q ≤ 40) → (sPl Bz.1 r ≤ 40) → (row Bz.1 xz = some q) → (row Bz.1 yz = some r) → (cmpP (sKd Bz.1 q) (sKd Bz.1 r)) → (pz ≤ min (sPl Bz.1 q) (sPl Bz.1 r)) → (min (sPl Bz.1 q) (sPl Bz.1 r) < pz + n) → (pfx (sCe Bz.1 q) (sCe Bz.1 r) (min (sPl Bz.1 q) (sPl Bz.1 r) - pz) pz = pfx (sCe Bz.1 q) (sCe Bz.1 r) (min (sPl Bz.1 q) (sPl Bz.1 r)) 0) →  HW G.1 35 a (EB G a (Bz)) H → va_S (Aw 35 a) s.heap H locs → lv_has ls 7 [(3, .ref (a (q + 11))), (4, .ref (a (r + 11))), (5, .int (nI (min (sPl Bz.1 q) (sPl Bz.1 r)))), (6, .int (nI pz))] → W p l e (rmB 3 62) s m ([.ref (a 0), .int xz, .int yz].toArray) below meth c H locs 0 0 (MQ below (va_Qi (fun v u => Bz = u ∧ v = spAlike Bz.1 xz yz) (fun u t => HW G.1 35 a (EB G a u) t.heap) (Aw 35 a)) ([.ref (a 0), .int xz, .int yz].toArray) s 0 0 (Aw 35 a)) (F0 m 58 ls []) := by
    intro n
    induction n with
    | zero =>
      intro q r pz H locs ls hq hr lq lr hrk hrk2 hcm hp0 hn hw
      exact absurd hn (by omega)
    | succ n ih =>
      intro q r pz H locs ls hq hr lq lr hrk hrk2 hcm hp0 hn hw h hS hl
      refine lv_iload hx hb dX2_alike_58 (lv_at hl 3 rfl) ?_
      refine lv_iload hx hb dX2_alike_60 (lv_at hl 2 rfl) ?_
      refine lv_icmp_ge (tgt := 90) hx hb dX2_alike_62 (by decide) (fun c62 => ?_) (fun c62 => ?_)
      · skip
        refine lv_iload hx hb dX2_alike_90 (lv_at hl 3 rfl) ?_
        exact eI C hret hlk (Bz) h hS (⟨rfl, by unfold spAlike; rw [hrk, hrk2]; simp only; rw [cif_t hcm, ← hw, show min (sPl Bz.1 q) (sPl Bz.1 r) - pz = 0 by rw [nI_leI (by omega) (by omega)] at c62; omega, pfx]⟩) dX2_alike_92
      · skip
        have hpn : pz < min (sPl Bz.1 q) (sPl Bz.1 r) := by rw [nI_leI (by omega) (by omega)] at c62; omega
        refine lv_aload_n hx hb dX2_alike_65 rfl (lv_at hl 0 rfl) ?_
        refine fg_X2_74 C h (by first | assumption | omega) dX2_alike_66 ?_
        refine lv_iload hx hb dX2_alike_69 (lv_at hl 3 rfl) ?_
        refine al_ce C h (by first | assumption | omega) (by first | assumption | omega) dX2_alike_71 ?_
        refine lv_aload hx hb dX2_alike_72 (lv_at hl 1 rfl) ?_
        refine fg_X2_74 C h (by first | assumption | omega) dX2_alike_74 ?_
        refine lv_iload hx hb dX2_alike_77 (lv_at hl 3 rfl) ?_
        refine al_ce C h (by first | assumption | omega) (by first | assumption | omega) dX2_alike_79 ?_
        refine W.lcmp hx hb dX2_alike_80 ?_
        refine lv_if_ne (tgt := 90) hx hb dX2_alike_81 (by decide) (fun c81 => ?_) (fun c81 => ?_)
        · have c81 : ¬ (sCe Bz.1 q pz) = (sCe Bz.1 r pz) := fun q => c81 ((lg_cmp_eq _ _).mpr q)
          refine lv_iload hx hb dX2_alike_90 (lv_at hl 3 rfl) ?_
          exact eI C hret hlk (Bz) h hS (⟨rfl, by unfold spAlike; rw [hrk, hrk2]; simp only; rw [cif_t hcm, ← hw, pfx_stop hpn c81]⟩) dX2_alike_92
        · have c81 : (sCe Bz.1 q pz) = (sCe Bz.1 r pz) := (lg_cmp_eq _ _).mp c81
          refine lv_iinc (v := nI (pz + 1)) (lv' := [(6, .int (nI (pz + 1))), (3, .ref (a (q + 11))), (4, .ref (a (r + 11))), (5, .int (nI (min (sPl Bz.1 q) (sPl Bz.1 r))))]) hx hb dX2_alike_84 hl (k := 3) rfl (nI_1 pz) (by decide) rfl (fun ls hl => ?_)
          refine lv_goto (tgt := 58) hx hb dX2_alike_87 (by decide) ?_
          exact ih q r (pz + 1) _ _ _ hq hr lq lr hrk hrk2 hcm (by omega) (by omega) ((pfx_step hpn c81).symm.trans hw) h hS (lv_sub hl [1, 2, 3, 0] rfl)
  refine lv_aload_n hx hb dX2_alike_0 rfl (lv_at hl 0 rfl) ?_
  refine lv_iload_n hx hb dX2_alike_1 rfl (lv_at hl 1 rfl) ?_
  refine kQ (rV (As := [.int xz]) (rest := []) C h lk_X2_63 0 (by decide) rfl rfl rfl (c_rowAt l G a Bz hI xz) ⟨Nat.le_of_ble_eq_true rfl, Nat.le_of_ble_eq_true rfl⟩ hl.1 rfl rfl (Nat.le_of_ble_eq_true rfl) dX2_alike_2 ⟨Nat.zero_le _, Nat.zero_le _⟩) hS (fun rv u H locs hp h hS => ?_)
  obtain ⟨rfl, ⟨hrk, rfl⟩ | ⟨q, hq, hxq, hrk, hk0, hk9, rfl⟩⟩ := hp
  · skip
    refine lv_astore_nN (lv' := [(3, .null), (0, .ref (a 0)), (1, .int xz), (2, .int yz)]) hx hb dX2_alike_5 rfl hl (by decide) rfl (fun ls hl => ?_)
    refine lv_aload_n hx hb dX2_alike_6 rfl (lv_at hl 1 rfl) ?_
    refine lv_iload_n hx hb dX2_alike_7 rfl (lv_at hl 3 rfl) ?_
    refine kQ (rV (As := [.int yz]) (rest := []) C h lk_X2_63 0 (by decide) rfl rfl rfl (c_rowAt l G a Bz hI yz) ⟨Nat.le_of_ble_eq_true rfl, Nat.le_of_ble_eq_true rfl⟩ hl.1 rfl rfl (Nat.le_of_ble_eq_true rfl) dX2_alike_8 ⟨Nat.zero_le _, Nat.zero_le _⟩) hS (fun rv u H locs hp h hS => ?_)
    obtain ⟨rfl, ⟨hrk2, rfl⟩ | ⟨r, hr, hxr, hrk2, hr0, hr9, rfl⟩⟩ := hp
    · skip
      refine lv_astoreN (lv' := [(4, .null), (3, .null), (0, .ref (a 0)), (1, .int xz), (2, .int yz)]) hx hb dX2_alike_11 hl (by decide) rfl (fun ls hl => ?_)
      refine lv_aload_nN hx hb dX2_alike_13 rfl (lv_at hl 1 rfl) ?_
      refine lv_ifnullN (tgt := 22) hx hb dX2_alike_14 (by decide) ?_
      refine lv_iconst (v := -1) hx hb dX2_alike_22 (by decide) ?_
      exact eI C hret hlk (Bz) h hS (⟨rfl, by unfold spAlike; rw [hrk]⟩) dX2_alike_23
    · skip
      refine lv_astore (lv' := [(4, .ref (a (r + 11))), (3, .null), (0, .ref (a 0)), (1, .int xz), (2, .int yz)]) hx hb dX2_alike_11 hl (by decide) rfl (fun ls hl => ?_)
      refine lv_aload_nN hx hb dX2_alike_13 rfl (lv_at hl 1 rfl) ?_
      refine lv_ifnullN (tgt := 22) hx hb dX2_alike_14 (by decide) ?_
      refine lv_iconst (v := -1) hx hb dX2_alike_22 (by decide) ?_
      exact eI C hret hlk (Bz) h hS (⟨rfl, by unfold spAlike; rw [hrk]⟩) dX2_alike_23
  · skip
    refine lv_astore_n (lv' := [(3, .ref (a (q + 11))), (0, .ref (a 0)), (1, .int xz), (2, .int yz)]) hx hb dX2_alike_5 rfl hl (by decide) rfl (fun ls hl => ?_)
    refine lv_aload_n hx hb dX2_alike_6 rfl (lv_at hl 1 rfl) ?_
    refine lv_iload_n hx hb dX2_alike_7 rfl (lv_at hl 3 rfl) ?_
    refine kQ (rV (As := [.int yz]) (rest := []) C h lk_X2_63 0 (by decide) rfl rfl rfl (c_rowAt l G a Bz hI yz) ⟨Nat.le_of_ble_eq_true rfl, Nat.le_of_ble_eq_true rfl⟩ hl.1 rfl rfl (Nat.le_of_ble_eq_true rfl) dX2_alike_8 ⟨Nat.zero_le _, Nat.zero_le _⟩) hS (fun rv u H locs hp h hS => ?_)
    obtain ⟨rfl, ⟨hrk2, rfl⟩ | ⟨r, hr, hxr, hrk2, hr0, hr9, rfl⟩⟩ := hp
    · skip
      refine lv_astoreN (lv' := [(4, .null), (3, .ref (a (q + 11))), (0, .ref (a 0)), (1, .int xz), (2, .int yz)]) hx hb dX2_alike_11 hl (by decide) rfl (fun ls hl => ?_)
      refine lv_aload_n hx hb dX2_alike_13 rfl (lv_at hl 1 rfl) ?_
      refine lv_ifnull hx hb dX2_alike_14 ?_
      refine lv_aloadN hx hb dX2_alike_17 (lv_at hl 0 rfl) ?_
      refine lv_ifnonnullN hx hb dX2_alike_19 ?_
      refine lv_iconst (v := -1) hx hb dX2_alike_22 (by decide) ?_
      exact eI C hret hlk (Bz) h hS (⟨rfl, by unfold spAlike; rw [hrk, hrk2]⟩) dX2_alike_23
    · have lq := (hI.1 q hq).2
      have lr := (hI.1 r hr).2
      refine lv_astore (lv' := [(4, .ref (a (r + 11))), (3, .ref (a (q + 11))), (0, .ref (a 0)), (1, .int xz), (2, .int yz)]) hx hb dX2_alike_11 hl (by decide) rfl (fun ls hl => ?_)
      refine lv_aload_n hx hb dX2_alike_13 rfl (lv_at hl 1 rfl) ?_
      refine lv_ifnull hx hb dX2_alike_14 ?_
      refine lv_aload hx hb dX2_alike_17 (lv_at hl 0 rfl) ?_
      refine lv_ifnonnull (tgt := 24) hx hb dX2_alike_19 (by decide) ?_
      refine lv_aload_n hx hb dX2_alike_24 rfl (lv_at hl 1 rfl) ?_
      refine fg_X2_52 C h (by first | assumption | omega) dX2_alike_25 ?_
      refine lv_aload hx hb dX2_alike_28 (lv_at hl 0 rfl) ?_
      refine fg_X2_52 C h (by first | assumption | omega) dX2_alike_30 ?_
      refine kI (rS (As := [.int (nI (sKd Bz.1 q)), .int (nI (sKd Bz.1 r))]) (rest := []) C h lk_X2_121 (c_mayCompare l G a Bz _ _ (hI.1 q hq).1 (hI.1 r hr).1) ⟨Nat.le_of_ble_eq_true rfl, Nat.le_of_ble_eq_true rfl⟩ hl.1 rfl rfl (Nat.le_of_ble_eq_true rfl) dX2_alike_33 ⟨Nat.zero_le _, Nat.zero_le _⟩) hS (fun rv u H locs hp h hS => ?_)
      obtain ⟨rfl, rfl⟩ := hp
      by_cases hcm : cmpP (sKd Bz.1 q) (sKd Bz.1 r)
      · refine lw_ti (b2i_t hcm) ?_
        refine lv_if_ne (tgt := 41) hx hb dX2_alike_36 (by decide) (fun _ => ?_) (fun c0 => absurd c0 (by decide))
        refine lv_aload_n hx hb dX2_alike_41 rfl (lv_at hl 1 rfl) ?_
        refine fg_X2_94 C h (by first | assumption | omega) dX2_alike_42 ?_
        refine lv_aload hx hb dX2_alike_45 (lv_at hl 0 rfl) ?_
        refine fg_X2_94 C h (by first | assumption | omega) dX2_alike_47 ?_
        refine va_mmin hx hb (C.2.2.1.trans hl.1.symm) C.2.2.2.1 (C.2.2.2.2.1 _ (by decide +kernel)) (C.2.2.2.2.1 _ (by decide +kernel)) (C.2.2.2.2.1 _ (by decide +kernel)) (C.2.2.2.2.1 _ (by decide +kernel)) (Nat.le_of_ble_eq_true rfl) (Nat.le_of_ble_eq_true rfl) (Nat.zero_le _) (Nat.zero_le _) dX2_alike_50 ?_
        refine lw_ti (show _ = nI (min (sPl Bz.1 q) (sPl Bz.1 r)) from min_nI (by omega) (by omega)) ?_
        refine lv_istore (lv' := [(5, .int (nI (min (sPl Bz.1 q) (sPl Bz.1 r)))), (4, .ref (a (r + 11))), (3, .ref (a (q + 11))), (0, .ref (a 0)), (1, .int xz), (2, .int yz)]) hx hb dX2_alike_53 hl (by decide) rfl (fun ls hl => ?_)
        refine lv_iconst (v := nI 0) hx hb dX2_alike_55 (by decide) ?_
        refine lv_istore (lv' := [(6, .int (nI 0)), (5, .int (nI (min (sPl Bz.1 q) (sPl Bz.1 r)))), (4, .ref (a (r + 11))), (3, .ref (a (q + 11))), (0, .ref (a 0)), (1, .int xz), (2, .int yz)]) hx hb dX2_alike_56 hl (by decide) rfl (fun ls hl => ?_)
        exact lp (min (sPl Bz.1 q) (sPl Bz.1 r) + 1) q r 0 _ _ _ hq hr lq lr hrk hrk2 hcm (Nat.zero_le _) (by omega) rfl h hS (lv_sub hl [3, 2, 1, 0] rfl)
      · refine lw_ti (b2i_f hcm) ?_
        refine lv_if_ne (tgt := 41) hx hb dX2_alike_36 (by decide) (fun c0 => absurd c0 (by decide)) (fun _ => ?_)
        refine lv_iconst (v := nI 0) hx hb dX2_alike_39 (by decide) ?_
        exact eI C hret hlk (Bz) h hS (⟨rfl, by unfold spAlike; rw [hrk, hrk2]; exact (cif_f hcm).symm⟩) dX2_alike_40

set_option maxHeartbeats 4000000 in
set_option maxRecDepth 100000 in
theorem c_shade (l : Launch) (G : Gx) (a : Nat → Nat) (Bz : BS) (hI : Inv Bz.1) (xz : Int32) : CtL l G 35 a (EB G a) yX2_shade cX2_shade 7 (some .long) 2 44 [.ref (a 0), .int xz] Bz (fun v u => Bz = u ∧ v = spShade Bz.1 xz) := by
  refine ent_of (by decide) (Nat.le_of_ble_eq_true rfl) ?_
  intro p e s m below meth c ls C h hS hret hlk hl
  have C : Cx p s m _ c cX2_shade RX2 7 G := C
  have hx := C.1
  have hb := C.2.1
  have hl : lv_has ls 7 [(0, .ref (a 0)), (1, .int xz)] := hl
  have lp : ∀ (n : Nat) (r bz pz : Nat) (zz : Int64) (H : Heap) (locs : List Loc) (ls : Array Slot), (r < 8) → (sPl Bz.1 r ≤ 40) → (row Bz.1 xz = some r) → ((bz = 1 ∧ (sKd Bz.1 r = 7 ∨ sKd Bz.1 r = 8)) ∨ (bz = 0 ∧ ¬ (sKd Bz.1 r = 7 ∨ sKd Bz.1 r = 8))) → (pz ≤ sPl Bz.1 r) → (sPl Bz.1 r < pz + n) → (shs Bz.1 r (sPl Bz.1 r - pz) pz zz = shs Bz.1 r (sPl Bz.1 r) 0 (lN 0)) →  HW G.1 35 a (EB G a (Bz)) H → va_S (Aw 35 a) s.heap H locs → lv_has ls 7 [(0, .ref (a 0)), (2, .ref (a (r + 11))), (3, .int (nI bz)), (4, .long zz), (6, .int (nI pz))] → W p l e (rmB 2 44) s m ([.ref (a 0), .int xz].toArray) below meth c H locs 0 0 (MQ below (va_Ql (fun v u => Bz = u ∧ v = spShade Bz.1 xz) (fun u t => HW G.1 35 a (EB G a u) t.heap) (Aw 35 a)) ([.ref (a 0), .int xz].toArray) s 0 0 (Aw 35 a)) (F0 m 26 ls []) := by
    intro n
    induction n with
    | zero =>
      intro r bz pz zz H locs ls hr lr hrk hbz hp0 hn hw
      exact absurd hn (by omega)
    | succ n ih =>
      intro r bz pz zz H locs ls hr lr hrk hbz hp0 hn hw h hS hl
      refine lv_iload hx hb dX2_shade_26 (lv_at hl 4 rfl) ?_
      refine lv_aload_n hx hb dX2_shade_28 rfl (lv_at hl 1 rfl) ?_
      refine fg_X2_94 C h (by first | assumption | omega) dX2_shade_29 ?_
      refine lv_icmp_ge (tgt := 72) hx hb dX2_shade_32 (by decide) (fun c32 => ?_) (fun c32 => ?_)
      · skip
        refine lv_lload hx hb dX2_shade_72 (lv_at hl 3 rfl) ?_
        exact eL C hret hlk (Bz) h hS (⟨rfl, by unfold spShade; rw [hrk]; simp only; rw [← hw, show sPl Bz.1 r - pz = 0 by rw [nI_leI (by omega) (by omega)] at c32; omega, shs]⟩) dX2_shade_74
      · skip
        have hpn : pz < sPl Bz.1 r := by rw [nI_leI (by omega) (by omega)] at c32; omega
        rcases hbz with ⟨rfl, hbd⟩ | ⟨rfl, hbd⟩
        · skip
          refine lv_lload hx hb dX2_shade_35 (lv_at hl 3 rfl) ?_
          refine lv_iload_n hx hb dX2_shade_37 rfl (lv_at hl 2 rfl) ?_
          refine lv_if_eq (tgt := 56) hx hb dX2_shade_38 (by decide) (fun c0 => absurd c0 (by decide)) (fun _ => ?_)
          refine lv_aload_n hx hb dX2_shade_41 rfl (lv_at hl 0 rfl) ?_
          refine lv_aload_n hx hb dX2_shade_42 rfl (lv_at hl 1 rfl) ?_
          refine fg_X2_74 C h (by first | assumption | omega) dX2_shade_43 ?_
          refine lv_iload hx hb dX2_shade_46 (lv_at hl 4 rfl) ?_
          refine al_ce C h (by first | assumption | omega) (by first | assumption | omega) dX2_shade_48 ?_
          refine kI (rV (As := [.long (sCe Bz.1 r pz)]) (rest := [.long zz]) C h lk_X2_59 0 (by decide) rfl rfl rfl (c_colourOf l G a Bz hI _) ⟨Nat.le_of_ble_eq_true rfl, Nat.le_of_ble_eq_true rfl⟩ hl.1 rfl rfl (Nat.le_of_ble_eq_true rfl) dX2_shade_49 ⟨Nat.zero_le _, Nat.zero_le _⟩) hS (fun rv u H locs hp h hS => ?_)
          obtain ⟨rfl, rfl⟩ := hp
          refine lv_i2l hx hb dX2_shade_52 rfl ?_
          refine lv_goto (tgt := 63) hx hb dX2_shade_53 (by decide) ?_
          refine lv_ladd hx hb dX2_shade_63 ?_
          refine lw_tl (show (zz + ((colO Bz.1 (sCe Bz.1 r pz)).toInt64) : Int64) = zz + shg Bz.1 r pz from by unfold shg; rw [if_pos hbd]) ?_
          refine lv_lstore (lv' := [(4, .long (zz + shg Bz.1 r pz)), (0, .ref (a 0)), (2, .ref (a (r + 11))), (3, .int (nI 1)), (6, .int (nI pz))]) hx hb dX2_shade_64 hl (by decide) rfl (fun ls hl => ?_)
          refine lv_iinc (v := nI (pz + 1)) (lv' := [(6, .int (nI (pz + 1))), (4, .long (zz + shg Bz.1 r pz)), (0, .ref (a 0)), (2, .ref (a (r + 11))), (3, .int (nI 1))]) hx hb dX2_shade_66 hl (k := 4) rfl (nI_1 pz) (by decide) rfl (fun ls hl => ?_)
          refine lv_goto (tgt := 26) hx hb dX2_shade_69 (by decide) ?_
          exact ih r 1 (pz + 1) (zz + shg Bz.1 r pz) _ _ _ hr lr hrk (Or.inl ⟨rfl, hbd⟩) (by omega) (by omega) ((shs_step hpn).symm.trans hw) h hS (lv_sub hl [2, 3, 4, 1, 0] rfl)
        · skip
          refine lv_lload hx hb dX2_shade_35 (lv_at hl 3 rfl) ?_
          refine lv_iload_n hx hb dX2_shade_37 rfl (lv_at hl 2 rfl) ?_
          refine lv_if_eq (tgt := 56) hx hb dX2_shade_38 (by decide) (fun _ => ?_) (fun c0 => absurd c0 (by decide))
          refine lv_aload_n hx hb dX2_shade_56 rfl (lv_at hl 1 rfl) ?_
          refine fg_X2_74 C h (by first | assumption | omega) dX2_shade_57 ?_
          refine lv_iload hx hb dX2_shade_60 (lv_at hl 4 rfl) ?_
          refine al_ce C h (by first | assumption | omega) (by first | assumption | omega) dX2_shade_62 ?_
          refine lv_ladd hx hb dX2_shade_63 ?_
          refine lw_tl (show (zz + (sCe Bz.1 r pz) : Int64) = zz + shg Bz.1 r pz from by unfold shg; rw [if_neg hbd]) ?_
          refine lv_lstore (lv' := [(4, .long (zz + shg Bz.1 r pz)), (0, .ref (a 0)), (2, .ref (a (r + 11))), (3, .int (nI 0)), (6, .int (nI pz))]) hx hb dX2_shade_64 hl (by decide) rfl (fun ls hl => ?_)
          refine lv_iinc (v := nI (pz + 1)) (lv' := [(6, .int (nI (pz + 1))), (4, .long (zz + shg Bz.1 r pz)), (0, .ref (a 0)), (2, .ref (a (r + 11))), (3, .int (nI 0))]) hx hb dX2_shade_66 hl (k := 4) rfl (nI_1 pz) (by decide) rfl (fun ls hl => ?_)
          refine lv_goto (tgt := 26) hx hb dX2_shade_69 (by decide) ?_
          exact ih r 0 (pz + 1) (zz + shg Bz.1 r pz) _ _ _ hr lr hrk (Or.inr ⟨rfl, hbd⟩) (by omega) (by omega) ((shs_step hpn).symm.trans hw) h hS (lv_sub hl [2, 3, 4, 1, 0] rfl)
  refine lv_aload_n hx hb dX2_shade_0 rfl (lv_at hl 0 rfl) ?_
  refine lv_iload_n hx hb dX2_shade_1 rfl (lv_at hl 1 rfl) ?_
  refine kQ (rV (As := [.int xz]) (rest := []) C h lk_X2_63 0 (by decide) rfl rfl rfl (c_rowAt l G a Bz hI xz) ⟨Nat.le_of_ble_eq_true rfl, Nat.le_of_ble_eq_true rfl⟩ hl.1 rfl rfl (Nat.le_of_ble_eq_true rfl) dX2_shade_2 ⟨Nat.zero_le _, Nat.zero_le _⟩) hS (fun rv u H locs hp h hS => ?_)
  obtain ⟨rfl, ⟨hrk, rfl⟩ | ⟨r, hr, hxr, hrk, hk0, hk9, rfl⟩⟩ := hp
  · skip
    refine lv_astore_nN (lv' := [(2, .null), (0, .ref (a 0)), (1, .int xz)]) hx hb dX2_shade_5 rfl hl (by decide) rfl (fun ls hl => ?_)
    refine lv_aload_nN hx hb dX2_shade_6 rfl (lv_at hl 0 rfl) ?_
    refine lv_ifnonnullN hx hb dX2_shade_7 ?_
    refine lv_lconst (v := lN 0) hx hb dX2_shade_10 rfl ?_
    exact eL C hret hlk (Bz) h hS (⟨rfl, by unfold spShade; rw [hrk]⟩) dX2_shade_11
  · have lr := (hI.1 r hr).2
    refine lv_astore_n (lv' := [(2, .ref (a (r + 11))), (0, .ref (a 0)), (1, .int xz)]) hx hb dX2_shade_5 rfl hl (by decide) rfl (fun ls hl => ?_)
    refine lv_aload_n hx hb dX2_shade_6 rfl (lv_at hl 0 rfl) ?_
    refine lv_ifnonnull (tgt := 12) hx hb dX2_shade_7 (by decide) ?_
    refine lv_aload_n hx hb dX2_shade_12 rfl (lv_at hl 0 rfl) ?_
    refine fg_X2_52 C h (by first | assumption | omega) dX2_shade_13 ?_
    refine kI (rS (As := [.int (nI (sKd Bz.1 r))]) (rest := []) C h lk_X2_131 (c_holdsBeads l G a Bz _ (hI.1 r hr).1) ⟨Nat.le_of_ble_eq_true rfl, Nat.le_of_ble_eq_true rfl⟩ hl.1 rfl rfl (Nat.le_of_ble_eq_true rfl) dX2_shade_16 ⟨Nat.zero_le _, Nat.zero_le _⟩) hS (fun rv u H locs hp h hS => ?_)
    obtain ⟨rfl, rfl⟩ := hp
    by_cases hbd : sKd Bz.1 r = 7 ∨ sKd Bz.1 r = 8
    · refine lw_ti (b2i_t hbd) ?_
      refine lv_istore_n (lv' := [(3, .int (nI 1)), (2, .ref (a (r + 11))), (0, .ref (a 0)), (1, .int xz)]) hx hb dX2_shade_19 rfl hl (by decide) rfl (fun ls hl => ?_)
      refine lv_lconst (v := lN 0) hx hb dX2_shade_20 rfl ?_
      refine lv_lstore (lv' := [(4, .long (lN 0)), (3, .int (nI 1)), (2, .ref (a (r + 11))), (0, .ref (a 0)), (1, .int xz)]) hx hb dX2_shade_21 hl (by decide) rfl (fun ls hl => ?_)
      refine lv_iconst (v := nI 0) hx hb dX2_shade_23 (by decide) ?_
      refine lv_istore (lv' := [(6, .int (nI 0)), (4, .long (lN 0)), (3, .int (nI 1)), (2, .ref (a (r + 11))), (0, .ref (a 0)), (1, .int xz)]) hx hb dX2_shade_24 hl (by decide) rfl (fun ls hl => ?_)
      exact lp (sPl Bz.1 r + 1) r 1 0 (lN 0) _ _ _ hr (hI.1 r hr).2 hrk (Or.inl ⟨rfl, hbd⟩) (Nat.zero_le _) (by omega) rfl h hS (lv_sub hl [4, 3, 2, 1, 0] rfl)
    · refine lw_ti (b2i_f hbd) ?_
      refine lv_istore_n (lv' := [(3, .int (nI 0)), (2, .ref (a (r + 11))), (0, .ref (a 0)), (1, .int xz)]) hx hb dX2_shade_19 rfl hl (by decide) rfl (fun ls hl => ?_)
      refine lv_lconst (v := lN 0) hx hb dX2_shade_20 rfl ?_
      refine lv_lstore (lv' := [(4, .long (lN 0)), (3, .int (nI 0)), (2, .ref (a (r + 11))), (0, .ref (a 0)), (1, .int xz)]) hx hb dX2_shade_21 hl (by decide) rfl (fun ls hl => ?_)
      refine lv_iconst (v := nI 0) hx hb dX2_shade_23 (by decide) ?_
      refine lv_istore (lv' := [(6, .int (nI 0)), (4, .long (lN 0)), (3, .int (nI 0)), (2, .ref (a (r + 11))), (0, .ref (a 0)), (1, .int xz)]) hx hb dX2_shade_24 hl (by decide) rfl (fun ls hl => ?_)
      exact lp (sPl Bz.1 r + 1) r 0 0 (lN 0) _ _ _ hr (hI.1 r hr).2 hrk (Or.inr ⟨rfl, hbd⟩) (Nat.zero_le _) (by omega) rfl h hS (lv_sub hl [4, 3, 2, 1, 0] rfl)
end
section
theorem ixl_i2l {x : Int32} {n : Nat} (hn : n < 2 ^ 31) : ixl x.toInt64 n = ix x n := by
  rcases ix_cases x hn with h | ⟨r, hr, rfl, h⟩
  · rw [h]
    rcases ixl_cases x.toInt64 hn with h2 | ⟨r, hr, hx, h2⟩
    · exact h2
    · exfalso
      have e : x = nI r := by
        apply nI_ofI
        have := congrArg Int64.toInt hx
        rw [Int32.toInt_toInt64, lN_toInt (by omega)] at this
        exact this
      rw [e, ix_nI hr hn] at h
      cases h
  · rw [h, nI_l (by omega), ixl_lN hr hn]
theorem colO_i {S : St} {x : Int32} (hn : sNb S ≤ 200) : colO S x.toInt64 = spColour S x := by
  unfold colO spColour
  rw [ixl_i2l (by omega)]
theorem sml_p1 (x : Int32) : sml (x.toInt64 + lN 1) := by
  have h1 := Int32.toInt_lt x
  have h2 := Int32.le_toInt x
  have e : (lN 1).toInt = 1 := rfl
  unfold sml
  rw [l_addT (by rw [Int32.toInt_toInt64]; omega) (by rw [e]; omega), Int32.toInt_toInt64, e]
  omega
theorem tbI {n : Nat} (hn : n ≤ 40) (x : Int32) : (lN n - lN 1 - x.toInt64).toInt = (n : Int) - 1 - x.toInt := by
  have h1 := Int32.toInt_lt x
  have h2 := Int32.le_toInt x
  have e : (lN 1).toInt = 1 := rfl
  have en : (lN n).toInt = (n : Int) := lN_toInt (by omega)
  have e3 : (lN n - lN 1).toInt = (n : Int) - 1 := by rw [l_subT (by rw [en]; omega) (by rw [e]; omega), en, e]
  rw [l_subT (by rw [e3]; omega) (by rw [Int32.toInt_toInt64]; omega), e3, Int32.toInt_toInt64]
theorem sml_tb {n : Nat} (hn : n ≤ 40) (x : Int32) : sml (lN n - lN 1 - x.toInt64) := by
  have h1 := Int32.toInt_lt x
  have h2 := Int32.le_toInt x
  unfold sml
  rw [tbI hn x]
  omega
theorem mov0 {S : St} {q r : Nat} {i j n : Int64} (h : (movS S q r i j n).1 = 0) : hind S q r i j n = 0 := by
  by_cases hh : hind S q r i j n = 0
  · exact hh
  · rw [movS_n hh] at h; exact absurd h hh
theorem opM_0 {S : St} (hI : Inv S) {r : Nat} (hr : r < 8) {p : Int32} (h : (opM S r p).1 = 0) : ∃ q, q < sPl S r ∧ p = nI q := by
  obtain ⟨-, h1, -⟩ := hind_0 (mov0 h)
  have hl := (hI.1 r hr).2
  obtain ⟨h2, h3, -⟩ := h1
  rw [Int64.lt_iff_toInt_lt, show (lN 0).toInt = 0 from rfl] at h2 h3
  rw [Int32.toInt_toInt64] at h2
  rw [tbI hl p] at h3
  exact ⟨p.toInt.toNat, by omega, nI_ofI (by omega)⟩
theorem clM_0 {S : St} (hI : Inv S) {r : Nat} (hr : r < 8) {p : Int32} (h : (clM S r p).1 = 0) : 0 < sPl S r := by
  obtain ⟨-, h1, h4, -⟩ := hind_0 (mov0 h)
  have hl := (hI.1 r hr).2
  obtain ⟨h2, h3, -⟩ := h4
  rw [Int64.lt_iff_toInt_lt, show (lN 0).toInt = 0 from rfl] at h2 h3
  rw [Int32.toInt_toInt64] at h2
  rw [tbI hl p] at h3
  omega
theorem opM_inv {S : St} (hI : Inv S) {r : Nat} (hr : r < 8) (p : Int32) : Inv (opM S r p).2 := mov_inv hI hr hr (sml_i _) (sml_p1 _) (sml_tb (hI.1 r hr).2 _)
theorem clM_inv {S : St} (hI : Inv S) {r : Nat} (hr : r < 8) (p : Int32) : Inv (clM S r p).2 := mov_inv hI hr hr (sml_p1 _) (sml_i _) (sml_tb (hI.1 r hr).2 _)
theorem opM_k {S : St} {r : Nat} {p : Int32} : sKd (opM S r p).2 = sKd S ∧ sPl (opM S r p).2 = sPl S := ⟨mov_ns.2.2.1, mov_ns.2.2.2.1⟩
theorem clM_k {S : St} {r : Nat} {p : Int32} : sKd (clM S r p).2 = sKd S ∧ sPl (clM S r p).2 = sPl S := ⟨mov_ns.2.2.1, mov_ns.2.2.2.1⟩
theorem nI_m1 {n : Nat} (h : 0 < n) : nI n - nI 1 = nI (n - 1) := by
  rw [pk_sub (by omega)]
end
section
set_option maxHeartbeats 4000000 in
set_option maxRecDepth 100000 in
theorem c_make (l : Launch) (G : Gx) (a : Nat → Nat) (Bz : BS) (xz kz nz : Int32) : CtI l G 35 a (EB G a) yX2_make cX2_make 5 (some .boolean) 3 63 [.ref (a 0), .int xz, .int kz, .int nz] Bz (fun v u => v = (spMake Bz.1 xz kz nz).1 ∧ (spMake Bz.1 xz kz nz).2 = u.1) := by
  refine ent_of (by decide) (Nat.le_of_ble_eq_true rfl) ?_
  intro p e s m below meth c ls C h hS hret hlk hl
  have C : Cx p s m _ c cX2_make RX2 5 G := C
  have hx := C.1
  have hb := C.2.1
  have hl : lv_has ls 5 [(0, .ref (a 0)), (1, .int xz), (2, .int kz), (3, .int nz)] := hl
  refine lv_aload_n hx hb dX2_make_0 rfl (lv_at hl 0 rfl) ?_
  refine lv_iload_n hx hb dX2_make_1 rfl (lv_at hl 1 rfl) ?_
  refine kQ (rV (As := [.int xz]) (rest := []) C h lk_X2_44 0 (by decide) rfl rfl rfl (c_rackAt l G a Bz xz) ⟨Nat.le_of_ble_eq_true rfl, Nat.le_of_ble_eq_true rfl⟩ hl.1 rfl rfl (Nat.le_of_ble_eq_true rfl) dX2_make_2 ⟨Nat.zero_le _, Nat.zero_le _⟩) hS (fun rv u H locs hp h hS => ?_)
  obtain ⟨rfl, ⟨hrk, rfl⟩ | ⟨r, hr, rfl, hrk, rfl⟩⟩ := hp
  · skip
    refine lv_astoreN (lv' := [(4, .null), (0, .ref (a 0)), (1, .int xz), (2, .int kz), (3, .int nz)]) hx hb dX2_make_5 hl (by decide) rfl (fun ls hl => ?_)
    refine lv_aloadN hx hb dX2_make_7 (lv_at hl 0 rfl) ?_
    refine lv_ifnullN (tgt := 33) hx hb dX2_make_9 (by decide) ?_
    refine lv_iconst (v := nI 0) hx hb dX2_make_33 (by decide) ?_
    exact eZ C hret hlk (Bz) h hS (rfl) (⟨by simp [spMake, hrk], by simp [spMake, hrk]⟩) dX2_make_34
  · skip
    refine lv_astore (lv' := [(4, .ref (a (r + 11))), (0, .ref (a 0)), (1, .int (nI r)), (2, .int kz), (3, .int nz)]) hx hb dX2_make_5 hl (by decide) rfl (fun ls hl => ?_)
    refine lv_aload hx hb dX2_make_7 (lv_at hl 0 rfl) ?_
    refine lv_ifnull hx hb dX2_make_9 ?_
    refine lv_iload_n hx hb dX2_make_12 rfl (lv_at hl 3 rfl) ?_
    refine lv_iconst (v := nI 1) hx hb dX2_make_13 (by decide) ?_
    refine lv_icmp_lt (tgt := 33) hx hb dX2_make_14 (by decide) (fun c14 => ?_) (fun c14 => ?_)
    · skip
      refine lv_iconst (v := nI 0) hx hb dX2_make_33 (by decide) ?_
      exact eZ C hret hlk (Bz) h hS (rfl) (⟨by simp [spMake, hrk, rng_lo c14], by simp [spMake, hrk, rng_lo c14]⟩) dX2_make_34
    · skip
      refine lv_iload_n hx hb dX2_make_17 rfl (lv_at hl 3 rfl) ?_
      refine lv_bipush (v := nI 8) hx hb dX2_make_18 (by decide) ?_
      refine lv_icmp_gt (tgt := 33) hx hb dX2_make_20 (by decide) (fun c20 => ?_) (fun c20 => ?_)
      · skip
        refine lv_iconst (v := nI 0) hx hb dX2_make_33 (by decide) ?_
        exact eZ C hret hlk (Bz) h hS (rfl) (⟨by simp [spMake, hrk, rng_hi c20], by simp [spMake, hrk, rng_hi c20]⟩) dX2_make_34
      · skip
        refine lv_iload_n hx hb dX2_make_23 rfl (lv_at hl 4 rfl) ?_
        refine lv_if_lt (tgt := 33) hx hb dX2_make_24 (by decide) (fun c24 => ?_) (fun c24 => ?_)
        · skip
          refine lv_iconst (v := nI 0) hx hb dX2_make_33 (by decide) ?_
          exact eZ C hret hlk (Bz) h hS (rfl) (⟨by simp [spMake, hrk, show rng nz 0 40 = none from rng_lo c24], by simp [spMake, hrk, show rng nz 0 40 = none from rng_lo c24]⟩) dX2_make_34
        · skip
          refine lv_iload_n hx hb dX2_make_27 rfl (lv_at hl 4 rfl) ?_
          refine lv_bipush (v := nI 40) hx hb dX2_make_28 (by decide) ?_
          refine lv_icmp_le (tgt := 35) hx hb dX2_make_30 (by decide) (fun c30 => ?_) (fun c30 => ?_)
          · skip
            obtain ⟨k, hk1, hk8, rfl, hkk⟩ := rng_of (by decide) (by decide) c14 c20
            obtain ⟨n, _, hn40, rfl, hnn⟩ := rng_of (lo := 0) (by decide) (by decide) c24 (Int32.not_lt.mpr c30)
            refine lv_aload hx hb dX2_make_35 (lv_at hl 0 rfl) ?_
            refine lv_iload_n hx hb dX2_make_37 rfl (lv_at hl 3 rfl) ?_
            refine lv_iload_n hx hb dX2_make_38 rfl (lv_at hl 4 rfl) ?_
            refine kV (rVN (As := [.int (nI k), .int (nI n)]) (rest := []) C h lk_X2_48 (r + 11) (by omega) (EB_r _ _ _ (by first | assumption | omega)) rfl rfl (c_hold l G a Bz r hr k n (by omega) (by omega)) ⟨Nat.le_of_ble_eq_true rfl, Nat.le_of_ble_eq_true rfl⟩ hl.1 rfl rfl (Nat.le_of_ble_eq_true rfl) dX2_make_39 ⟨Nat.zero_le _, Nat.zero_le _⟩) hS (fun u H locs hp h hS => ?_)
            obtain rfl := hp
            refine lv_iconst (v := nI 1) hx hb dX2_make_42 (by decide) ?_
            exact eZ C hret hlk ((holdS Bz.1 r k n, Bz.2)) h hS (rfl) (⟨by simp [spMake, hrk, hkk, hnn], by simp [spMake, hrk, hkk, hnn]⟩) dX2_make_43
          · skip
            refine lv_iconst (v := nI 0) hx hb dX2_make_33 (by decide) ?_
            exact eZ C hret hlk (Bz) h hS (rfl) (⟨by simp [spMake, hrk, rng_hi (Int32.not_le.mp c30)], by simp [spMake, hrk, rng_hi (Int32.not_le.mp c30)]⟩) dX2_make_34

set_option maxHeartbeats 4000000 in
set_option maxRecDepth 100000 in
theorem c_lamp (l : Launch) (G : Gx) (a : Nat → Nat) (Bz : BS) (xz : Int32) : CtI l G 35 a (EB G a) yX2_lamp cX2_lamp 3 (some .boolean) 3 63 [.ref (a 0), .int xz] Bz (fun v u => v = (spLamp Bz.1 xz).1 ∧ (spLamp Bz.1 xz).2 = u.1) := by
  refine ent_of (by decide) (Nat.le_of_ble_eq_true rfl) ?_
  intro p e s m below meth c ls C h hS hret hlk hl
  have C : Cx p s m _ c cX2_lamp RX2 3 G := C
  have hx := C.1
  have hb := C.2.1
  have hl : lv_has ls 3 [(0, .ref (a 0)), (1, .int xz)] := hl
  refine lv_aload_n hx hb dX2_lamp_0 rfl (lv_at hl 0 rfl) ?_
  refine lv_iload_n hx hb dX2_lamp_1 rfl (lv_at hl 1 rfl) ?_
  refine kQ (rV (As := [.int xz]) (rest := []) C h lk_X2_44 0 (by decide) rfl rfl rfl (c_rackAt l G a Bz xz) ⟨Nat.le_of_ble_eq_true rfl, Nat.le_of_ble_eq_true rfl⟩ hl.1 rfl rfl (Nat.le_of_ble_eq_true rfl) dX2_lamp_2 ⟨Nat.zero_le _, Nat.zero_le _⟩) hS (fun rv u H locs hp h hS => ?_)
  obtain ⟨rfl, ⟨hrk, rfl⟩ | ⟨r, hr, rfl, hrk, rfl⟩⟩ := hp
  · skip
    refine lv_astore_nN (lv' := [(2, .null), (0, .ref (a 0)), (1, .int xz)]) hx hb dX2_lamp_5 rfl hl (by decide) rfl (fun ls hl => ?_)
    refine lv_aload_nN hx hb dX2_lamp_6 rfl (lv_at hl 0 rfl) ?_
    refine lv_ifnonnullN hx hb dX2_lamp_7 ?_
    refine lv_iconst (v := nI 0) hx hb dX2_lamp_10 (by decide) ?_
    exact eZ C hret hlk (Bz) h hS (rfl) (⟨by simp [spLamp, hrk], by simp [spLamp, hrk]⟩) dX2_lamp_11
  · skip
    refine lv_astore_n (lv' := [(2, .ref (a (r + 11))), (0, .ref (a 0)), (1, .int (nI r))]) hx hb dX2_lamp_5 rfl hl (by decide) rfl (fun ls hl => ?_)
    refine lv_aload_n hx hb dX2_lamp_6 rfl (lv_at hl 0 rfl) ?_
    refine lv_ifnonnull (tgt := 12) hx hb dX2_lamp_7 (by decide) ?_
    refine lv_aload_n hx hb dX2_lamp_12 rfl (lv_at hl 0 rfl) ?_
    refine lv_bipush (v := nI 9) hx hb dX2_lamp_13 (by decide) ?_
    refine lv_iconst (v := nI 0) hx hb dX2_lamp_15 (by decide) ?_
    refine kV (rVN (As := [.int (nI 9), .int (nI 0)]) (rest := []) C h lk_X2_48 (r + 11) (by omega) (EB_r _ _ _ (by first | assumption | omega)) rfl rfl (c_hold l G a Bz r hr 9 0 (by omega) (by omega)) ⟨Nat.le_of_ble_eq_true rfl, Nat.le_of_ble_eq_true rfl⟩ hl.1 rfl rfl (Nat.le_of_ble_eq_true rfl) dX2_lamp_16 ⟨Nat.zero_le _, Nat.zero_le _⟩) hS (fun u H locs hp h hS => ?_)
    obtain rfl := hp
    refine lv_iconst (v := nI 1) hx hb dX2_lamp_19 (by decide) ?_
    exact eZ C hret hlk ((holdS Bz.1 r 9 0, Bz.2)) h hS (rfl) (⟨by simp [spLamp, hrk], by simp [spLamp, hrk]⟩) dX2_lamp_20

set_option maxHeartbeats 4000000 in
set_option maxRecDepth 100000 in
theorem c_empty (l : Launch) (G : Gx) (a : Nat → Nat) (Bz : BS) (hI : Inv Bz.1) (xz : Int32) : CtI l G 35 a (EB G a) yX2_empty cX2_empty 3 (some .boolean) 3 63 [.ref (a 0), .int xz] Bz (fun v u => v = (spEmpty Bz.1 xz).1 ∧ (spEmpty Bz.1 xz).2 = u.1) := by
  refine ent_of (by decide) (Nat.le_of_ble_eq_true rfl) ?_
  intro p e s m below meth c ls C h hS hret hlk hl
  have C : Cx p s m _ c cX2_empty RX2 3 G := C
  have hx := C.1
  have hb := C.2.1
  have hl : lv_has ls 3 [(0, .ref (a 0)), (1, .int xz)] := hl
  refine lv_aload_n hx hb dX2_empty_0 rfl (lv_at hl 0 rfl) ?_
  refine lv_iload_n hx hb dX2_empty_1 rfl (lv_at hl 1 rfl) ?_
  refine kQ (rV (As := [.int xz]) (rest := []) C h lk_X2_44 0 (by decide) rfl rfl rfl (c_rackAt l G a Bz xz) ⟨Nat.le_of_ble_eq_true rfl, Nat.le_of_ble_eq_true rfl⟩ hl.1 rfl rfl (Nat.le_of_ble_eq_true rfl) dX2_empty_2 ⟨Nat.zero_le _, Nat.zero_le _⟩) hS (fun rv u H locs hp h hS => ?_)
  obtain ⟨rfl, ⟨hrk, rfl⟩ | ⟨r, hr, rfl, hrk, rfl⟩⟩ := hp
  · skip
    refine lv_astore_nN (lv' := [(2, .null), (0, .ref (a 0)), (1, .int xz)]) hx hb dX2_empty_5 rfl hl (by decide) rfl (fun ls hl => ?_)
    refine lv_aload_nN hx hb dX2_empty_6 rfl (lv_at hl 0 rfl) ?_
    refine lv_ifnullN (tgt := 17) hx hb dX2_empty_7 (by decide) ?_
    refine lv_iconst (v := nI 0) hx hb dX2_empty_17 (by decide) ?_
    exact eZ C hret hlk (Bz) h hS (rfl) (⟨by simp [spEmpty, hrk], by simp [spEmpty, hrk]⟩) dX2_empty_18
  · skip
    refine lv_astore_n (lv' := [(2, .ref (a (r + 11))), (0, .ref (a 0)), (1, .int (nI r))]) hx hb dX2_empty_5 rfl hl (by decide) rfl (fun ls hl => ?_)
    refine lv_aload_n hx hb dX2_empty_6 rfl (lv_at hl 0 rfl) ?_
    refine lv_ifnull hx hb dX2_empty_7 ?_
    refine lv_aload_n hx hb dX2_empty_10 rfl (lv_at hl 0 rfl) ?_
    refine fg_X2_52 C h (by first | assumption | omega) dX2_empty_11 ?_
    refine lv_if_ne (tgt := 19) hx hb dX2_empty_14 (by decide) (fun c14 => ?_) (fun c14 => ?_)
    · skip
      refine lv_aload_n hx hb dX2_empty_19 rfl (lv_at hl 0 rfl) ?_
      refine lv_iconst (v := nI 0) hx hb dX2_empty_20 (by decide) ?_
      refine lv_iconst (v := nI 0) hx hb dX2_empty_21 (by decide) ?_
      refine kV (rVN (As := [.int (nI 0), .int (nI 0)]) (rest := []) C h lk_X2_48 (r + 11) (by omega) (EB_r _ _ _ (by first | assumption | omega)) rfl rfl (c_hold l G a Bz r hr 0 0 (by omega) (by omega)) ⟨Nat.le_of_ble_eq_true rfl, Nat.le_of_ble_eq_true rfl⟩ hl.1 rfl rfl (Nat.le_of_ble_eq_true rfl) dX2_empty_22 ⟨Nat.zero_le _, Nat.zero_le _⟩) hS (fun u H locs hp h hS => ?_)
      obtain rfl := hp
      refine lv_iconst (v := nI 1) hx hb dX2_empty_25 (by decide) ?_
      exact eZ C hret hlk ((holdS Bz.1 r 0 0, Bz.2)) h hS (rfl) (⟨by have hk := (hI.1 r hr).1; rw [nI_z (by omega)] at c14; simp [spEmpty, hrk, c14], by have hk := (hI.1 r hr).1; rw [nI_z (by omega)] at c14; simp [spEmpty, hrk, c14]⟩) dX2_empty_26
    · skip
      refine lv_iconst (v := nI 0) hx hb dX2_empty_17 (by decide) ?_
      exact eZ C hret hlk (Bz) h hS (rfl) (⟨by have hk := (hI.1 r hr).1; rw [nI_z (by omega)] at c14; simp [spEmpty, hrk, c14], by have hk := (hI.1 r hr).1; rw [nI_z (by omega)] at c14; simp [spEmpty, hrk, c14]⟩) dX2_empty_18

set_option maxHeartbeats 4000000 in
set_option maxRecDepth 100000 in
theorem c_bead (l : Launch) (G : Gx) (a : Nat → Nat) (Bz : BS) (hI : Inv Bz.1) (xz zz : Int32) (hz : vp_nar .boolean zz = zz) : CtI l G 35 a (EB G a) yX2_bead cX2_bead 3 (some .int) 0 0 [.ref (a 0), .int xz, .int zz] Bz (fun v u => v = (spBead Bz.1 xz zz).1 ∧ (spBead Bz.1 xz zz).2 = u.1) := by
  refine ent_of (by decide) (Nat.le_of_ble_eq_true rfl) ?_
  intro p e s m below meth c ls C h hS hret hlk hl
  have C : Cx p s m _ c cX2_bead RX2 3 G := C
  have hx := C.1
  have hb := C.2.1
  have hl : lv_has ls 3 [(0, .ref (a 0)), (1, .int xz), (2, .int zz)] := hl
  have hN := hI.2.1
  refine lv_aload_n hx hb dX2_bead_0 rfl (lv_at hl 0 rfl) ?_
  refine fg_X2_33 C h dX2_bead_1 ?_
  refine lv_sipush (v := nI 200) hx hb dX2_bead_4 (by decide) ?_
  refine lv_icmp_lt (tgt := 12) hx hb dX2_bead_7 (by decide) (fun c7 => ?_) (fun c7 => ?_)
  · skip
    have hlt : sNb Bz.1 < 200 := (nI_ltI (by omega) (by decide)).mp c7
    refine lv_aload_n hx hb dX2_bead_12 rfl (lv_at hl 0 rfl) ?_
    refine fg_X2_15 C h dX2_bead_13 ?_
    refine lv_aload_n hx hb dX2_bead_16 rfl (lv_at hl 0 rfl) ?_
    refine fg_X2_33 C h dX2_bead_17 ?_
    refine lv_iload_n hx hb dX2_bead_20 rfl (lv_at hl 1 rfl) ?_
    refine as_co C h hS (by first | assumption | omega) dX2_bead_21 (fun H locs h hS => ?_)
    refine lv_aload_n hx hb dX2_bead_22 rfl (lv_at hl 0 rfl) ?_
    refine fg_X2_19 C h dX2_bead_23 ?_
    refine lv_aload_n hx hb dX2_bead_26 rfl (lv_at hl 0 rfl) ?_
    refine fg_X2_33 C h dX2_bead_27 ?_
    refine lw_ti (show (nI (sNb ((uCo Bz.1 (upd (sCo Bz.1) (sNb Bz.1) xz), Bz.2)).1) : Int32) = nI ((sNb Bz.1)) from rfl) ?_
    refine lv_iload_n hx hb dX2_bead_30 rfl (lv_at hl 2 rfl) ?_
    refine as_pe C h hS (by first | assumption | omega) hz dX2_bead_31 (fun H locs h hS => ?_)
    refine lv_aload_n hx hb dX2_bead_32 rfl (lv_at hl 0 rfl) ?_
    refine lv_dup hx hb dX2_bead_33 rfl ?_
    refine fg_X2_33 C h dX2_bead_34 ?_
    refine lw_ti (show (nI (sNb ((uPe ((uCo Bz.1 (upd (sCo Bz.1) (sNb Bz.1) xz), Bz.2)).1 (upd (sPe ((uCo Bz.1 (upd (sCo Bz.1) (sNb Bz.1) xz), Bz.2)).1) ((sNb Bz.1)) zz), ((uCo Bz.1 (upd (sCo Bz.1) (sNb Bz.1) xz), Bz.2)).2)).1) : Int32) = nI ((sNb Bz.1)) from rfl) ?_
    refine lv_iconst (v := nI 1) hx hb dX2_bead_37 (by decide) ?_
    refine lv_iadd hx hb dX2_bead_38 ?_
    refine lw_ti (show ((nI ((sNb Bz.1))) + (nI 1) : Int32) = nI (sNb Bz.1 + 1) from nI_add _ _) ?_
    refine fp_X2_33 C h hS dX2_bead_39 (fun H locs h hS => ?_)
    refine lv_aload_n hx hb dX2_bead_42 rfl (lv_at hl 0 rfl) ?_
    refine fg_X2_33 C h dX2_bead_43 ?_
    refine lw_ti (show (nI (sNb ((uNb ((uPe ((uCo Bz.1 (upd (sCo Bz.1) (sNb Bz.1) xz), Bz.2)).1 (upd (sPe ((uCo Bz.1 (upd (sCo Bz.1) (sNb Bz.1) xz), Bz.2)).1) ((sNb Bz.1)) zz), ((uCo Bz.1 (upd (sCo Bz.1) (sNb Bz.1) xz), Bz.2)).2)).1 (sNb Bz.1 + 1), ((uPe ((uCo Bz.1 (upd (sCo Bz.1) (sNb Bz.1) xz), Bz.2)).1 (upd (sPe ((uCo Bz.1 (upd (sCo Bz.1) (sNb Bz.1) xz), Bz.2)).1) ((sNb Bz.1)) zz), ((uCo Bz.1 (upd (sCo Bz.1) (sNb Bz.1) xz), Bz.2)).2)).2)).1) : Int32) = nI ((sNb Bz.1 + 1)) from rfl) ?_
    refine lv_iconst (v := nI 1) hx hb dX2_bead_46 (by decide) ?_
    refine lv_isub hx hb dX2_bead_47 ?_
    refine lw_ti (show ((nI ((sNb Bz.1 + 1))) - (nI 1) : Int32) = nI (sNb Bz.1) from nI_m1 (by omega)) ?_
    exact eI C hret hlk ((uNb ((uPe ((uCo Bz.1 (upd (sCo Bz.1) (sNb Bz.1) xz), Bz.2)).1 (upd (sPe ((uCo Bz.1 (upd (sCo Bz.1) (sNb Bz.1) xz), Bz.2)).1) ((sNb Bz.1)) zz), ((uCo Bz.1 (upd (sCo Bz.1) (sNb Bz.1) xz), Bz.2)).2)).1 (sNb Bz.1 + 1), ((uPe ((uCo Bz.1 (upd (sCo Bz.1) (sNb Bz.1) xz), Bz.2)).1 (upd (sPe ((uCo Bz.1 (upd (sCo Bz.1) (sNb Bz.1) xz), Bz.2)).1) ((sNb Bz.1)) zz), ((uCo Bz.1 (upd (sCo Bz.1) (sNb Bz.1) xz), Bz.2)).2)).2)) h hS (⟨by unfold spBead; rw [if_neg (by omega)], by unfold spBead; rw [if_neg (by omega)]⟩) dX2_bead_48
  · skip
    refine lv_iconst (v := -1) hx hb dX2_bead_10 (by decide) ?_
    exact eI C hret hlk (Bz) h hS (⟨by unfold spBead; rw [if_pos (by rw [nI_ltI (by omega) (by decide)] at c7; omega)], by unfold spBead; rw [if_pos (by rw [nI_ltI (by omega) (by decide)] at c7; omega)]⟩) dX2_bead_11

set_option maxHeartbeats 4000000 in
set_option maxRecDepth 100000 in
theorem c_paint (l : Launch) (G : Gx) (a : Nat → Nat) (Bz : BS) (hI : Inv Bz.1) (xz yz : Int32) : CtI l G 35 a (EB G a) yX2_paint cX2_paint 3 (some .boolean) 1 22 [.ref (a 0), .int xz, .int yz] Bz (fun v u => v = (spPaint Bz.1 xz yz).1 ∧ (spPaint Bz.1 xz yz).2 = u.1) := by
  refine ent_of (by decide) (Nat.le_of_ble_eq_true rfl) ?_
  intro p e s m below meth c ls C h hS hret hlk hl
  have C : Cx p s m _ c cX2_paint RX2 3 G := C
  have hx := C.1
  have hb := C.2.1
  have hl : lv_has ls 3 [(0, .ref (a 0)), (1, .int xz), (2, .int yz)] := hl
  refine lv_aload_n hx hb dX2_paint_0 rfl (lv_at hl 0 rfl) ?_
  refine lv_iload_n hx hb dX2_paint_1 rfl (lv_at hl 1 rfl) ?_
  refine lv_i2l hx hb dX2_paint_2 rfl ?_
  refine kI (rV (As := [.long xz.toInt64]) (rest := []) C h lk_X2_55 0 (by decide) rfl rfl rfl (c_isBead l G a Bz hI.2.1 _) ⟨Nat.le_of_ble_eq_true rfl, Nat.le_of_ble_eq_true rfl⟩ hl.1 rfl rfl (Nat.le_of_ble_eq_true rfl) dX2_paint_3 ⟨Nat.zero_le _, Nat.zero_le _⟩) hS (fun rv u H locs hp h hS => ?_)
  obtain ⟨rfl, rfl⟩ := hp
  have hN := hI.2.1
  rcases ix_cases xz (n := sNb Bz.1) (by omega) with hbd | ⟨j, hj, rfl, hbd⟩
  · refine lw_ti (b2i_f (fun q => q (by rw [ixl_i2l (by omega)]; exact hbd))) ?_
    refine lv_if_ne (tgt := 11) hx hb dX2_paint_6 (by decide) (fun c0 => absurd c0 (by decide)) (fun _ => ?_)
    refine lv_iconst (v := nI 0) hx hb dX2_paint_9 (by decide) ?_
    exact eZ C hret hlk (Bz) h hS (rfl) (⟨by simp [spPaint, hbd], by simp [spPaint, hbd]⟩) dX2_paint_10
  · refine lw_ti (b2i_t (by rw [ixl_i2l (by omega), hbd]; exact fun q => by cases q)) ?_
    refine lv_if_ne (tgt := 11) hx hb dX2_paint_6 (by decide) (fun _ => ?_) (fun c0 => absurd c0 (by decide))
    refine lv_aload_n hx hb dX2_paint_11 rfl (lv_at hl 0 rfl) ?_
    refine fg_X2_15 C h dX2_paint_12 ?_
    refine lv_iload_n hx hb dX2_paint_15 rfl (lv_at hl 1 rfl) ?_
    refine lv_iload_n hx hb dX2_paint_16 rfl (lv_at hl 2 rfl) ?_
    refine as_co C h hS (by first | assumption | omega) dX2_paint_17 (fun H locs h hS => ?_)
    refine lv_iconst (v := nI 1) hx hb dX2_paint_18 (by decide) ?_
    exact eZ C hret hlk ((uCo Bz.1 (upd (sCo Bz.1) j yz), Bz.2)) h hS (rfl) (⟨by simp [spPaint, hbd], by simp [spPaint, hbd]⟩) dX2_paint_19

set_option maxHeartbeats 4000000 in
set_option maxRecDepth 100000 in
theorem c_colour (l : Launch) (G : Gx) (a : Nat → Nat) (Bz : BS) (hI : Inv Bz.1) (xz : Int32) : CtI l G 35 a (EB G a) yX2_colour cX2_colour 2 (some .int) 2 44 [.ref (a 0), .int xz] Bz (fun v u => Bz = u ∧ v = spColour Bz.1 xz) := by
  refine ent_of (by decide) (Nat.le_of_ble_eq_true rfl) ?_
  intro p e s m below meth c ls C h hS hret hlk hl
  have C : Cx p s m _ c cX2_colour RX2 2 G := C
  have hx := C.1
  have hb := C.2.1
  have hl : lv_has ls 2 [(0, .ref (a 0)), (1, .int xz)] := hl
  refine lv_aload_n hx hb dX2_colour_0 rfl (lv_at hl 0 rfl) ?_
  refine lv_iload_n hx hb dX2_colour_1 rfl (lv_at hl 1 rfl) ?_
  refine lv_i2l hx hb dX2_colour_2 rfl ?_
  refine kI (rV (As := [.long xz.toInt64]) (rest := []) C h lk_X2_59 0 (by decide) rfl rfl rfl (c_colourOf l G a Bz hI _) ⟨Nat.le_of_ble_eq_true rfl, Nat.le_of_ble_eq_true rfl⟩ hl.1 rfl rfl (Nat.le_of_ble_eq_true rfl) dX2_colour_3 ⟨Nat.zero_le _, Nat.zero_le _⟩) hS (fun rv u H locs hp h hS => ?_)
  obtain ⟨rfl, rfl⟩ := hp
  exact eI C hret hlk (Bz) h hS (⟨rfl, colO_i hI.2.1⟩) dX2_colour_6

set_option maxHeartbeats 4000000 in
set_option maxRecDepth 100000 in
theorem c_put (l : Launch) (G : Gx) (a : Nat → Nat) (Bz : BS) (hI : Inv Bz.1) (xz pz : Int32) (vz : Int64) : CtI l G 35 a (EB G a) yX2_put cX2_put 6 (some .boolean) 2 45 [.ref (a 0), .int xz, .int pz, .long vz] Bz (fun v u => v = (spPut Bz.1 xz pz vz).1 ∧ (spPut Bz.1 xz pz vz).2 = u.1) := by
  refine ent_of (by decide) (Nat.le_of_ble_eq_true rfl) ?_
  intro p e s m below meth c ls C h hS hret hlk hl
  have C : Cx p s m _ c cX2_put RX2 6 G := C
  have hx := C.1
  have hb := C.2.1
  have hl : lv_has ls 6 [(0, .ref (a 0)), (1, .int xz), (2, .int pz), (3, .long vz)] := hl
  refine lv_aload_n hx hb dX2_put_0 rfl (lv_at hl 0 rfl) ?_
  refine lv_iload_n hx hb dX2_put_1 rfl (lv_at hl 1 rfl) ?_
  refine kQ (rV (As := [.int xz]) (rest := []) C h lk_X2_63 0 (by decide) rfl rfl rfl (c_rowAt l G a Bz hI xz) ⟨Nat.le_of_ble_eq_true rfl, Nat.le_of_ble_eq_true rfl⟩ hl.1 rfl rfl (Nat.le_of_ble_eq_true rfl) dX2_put_2 ⟨Nat.zero_le _, Nat.zero_le _⟩) hS (fun rv u H locs hp h hS => ?_)
  obtain ⟨rfl, ⟨hrk, rfl⟩ | ⟨r, hr, rfl, hrk, hrk0, hrk9, rfl⟩⟩ := hp
  · skip
    refine lv_astoreN (lv' := [(5, .null), (0, .ref (a 0)), (1, .int xz), (2, .int pz), (3, .long vz)]) hx hb dX2_put_5 hl (by decide) rfl (fun ls hl => ?_)
    refine lv_aloadN hx hb dX2_put_7 (lv_at hl 0 rfl) ?_
    refine lv_ifnullN (tgt := 34) hx hb dX2_put_9 (by decide) ?_
    refine lv_iconst (v := nI 0) hx hb dX2_put_34 (by decide) ?_
    exact eZ C hret hlk (Bz) h hS (rfl) (⟨by simp [spPut, hrk], by simp [spPut, hrk]⟩) dX2_put_35
  · skip
    refine lv_astore (lv' := [(5, .ref (a (r + 11))), (0, .ref (a 0)), (1, .int (nI r)), (2, .int pz), (3, .long vz)]) hx hb dX2_put_5 hl (by decide) rfl (fun ls hl => ?_)
    refine lv_aload hx hb dX2_put_7 (lv_at hl 0 rfl) ?_
    refine lv_ifnull hx hb dX2_put_9 ?_
    refine lv_aload hx hb dX2_put_12 (lv_at hl 0 rfl) ?_
    refine lv_iload_n hx hb dX2_put_14 rfl (lv_at hl 3 rfl) ?_
    refine kI (rVN (As := [.int pz]) (rest := []) C h lk_X2_66 (r + 11) (by omega) (EB_r _ _ _ (by first | assumption | omega)) rfl rfl (c_hasPlace l G a Bz r hr (hI.1 r hr).2 pz) ⟨Nat.le_of_ble_eq_true rfl, Nat.le_of_ble_eq_true rfl⟩ hl.1 rfl rfl (Nat.le_of_ble_eq_true rfl) dX2_put_15 ⟨Nat.zero_le _, Nat.zero_le _⟩) hS (fun rv u H locs hp h hS => ?_)
    obtain ⟨rfl, rfl⟩ := hp
    have lr := (hI.1 r hr).2
    rcases ix_cases pz (n := sPl Bz.1 r) (by omega) with hpl | ⟨q, hq, rfl, hpl⟩
    · refine lw_ti (b2i_f (fun z => z hpl)) ?_
      refine lv_if_eq (tgt := 34) hx hb dX2_put_18 (by decide) (fun _ => ?_) (fun c0 => absurd c0 (by decide))
      refine lv_iconst (v := nI 0) hx hb dX2_put_34 (by decide) ?_
      exact eZ C hret hlk (Bz) h hS (rfl) (⟨by simp [spPut, hrk, hpl], by simp [spPut, hrk, hpl]⟩) dX2_put_35
    · refine lw_ti (b2i_t (by rw [hpl]; exact fun z => by cases z)) ?_
      refine lv_if_eq (tgt := 34) hx hb dX2_put_18 (by decide) (fun c0 => absurd c0 (by decide)) (fun _ => ?_)
      refine lv_aload_n hx hb dX2_put_21 rfl (lv_at hl 1 rfl) ?_
      refine lv_aload hx hb dX2_put_22 (lv_at hl 0 rfl) ?_
      refine fg_X2_52 C h (by first | assumption | omega) dX2_put_24 ?_
      refine lv_lload_n hx hb dX2_put_27 rfl (lv_at hl 4 rfl) ?_
      refine kI (rV (As := [.int (nI (sKd Bz.1 r)), .long vz]) (rest := []) C h lk_X2_70 0 (by decide) rfl rfl rfl (c_mayLie l G a Bz hI _ (hI.1 r hr).1 vz) ⟨Nat.le_of_ble_eq_true rfl, Nat.le_of_ble_eq_true rfl⟩ hl.1 rfl rfl (Nat.le_of_ble_eq_true rfl) dX2_put_28 ⟨Nat.zero_le _, Nat.zero_le _⟩) hS (fun rv u H locs hp h hS => ?_)
      obtain ⟨rfl, rfl⟩ := hp
      by_cases hm : mayL Bz.1 (sKd Bz.1 r) vz
      · refine lw_ti (b2i_t hm) ?_
        refine lv_if_ne (tgt := 36) hx hb dX2_put_31 (by decide) (fun _ => ?_) (fun c0 => absurd c0 (by decide))
        refine lv_aload hx hb dX2_put_36 (lv_at hl 0 rfl) ?_
        refine fg_X2_74 C h (by first | assumption | omega) dX2_put_38 ?_
        refine lv_iload_n hx hb dX2_put_41 rfl (lv_at hl 3 rfl) ?_
        refine lv_aload hx hb dX2_put_42 (lv_at hl 0 rfl) ?_
        refine fg_X2_52 C h (by first | assumption | omega) dX2_put_44 ?_
        refine lv_lload_n hx hb dX2_put_47 rfl (lv_at hl 4 rfl) ?_
        refine kL (rS (As := [.int (nI (sKd Bz.1 r)), .long vz]) (rest := [.int (nI q), .ref (a (r + 19))]) C h lk_X2_78 (c_fitted l G a Bz (sKd Bz.1 r) (by omega) (by have := (hI.1 r hr).1; omega) vz) ⟨Nat.le_of_ble_eq_true rfl, Nat.le_of_ble_eq_true rfl⟩ hl.1 rfl rfl (Nat.le_of_ble_eq_true rfl) dX2_put_48 ⟨Nat.zero_le _, Nat.zero_le _⟩) hS (fun rv u H locs hp h hS => ?_)
        obtain ⟨rfl, rfl⟩ := hp
        refine as_ce C h hS (by first | assumption | omega) (by first | assumption | omega) dX2_put_51 (fun H locs h hS => ?_)
        refine lv_iconst (v := nI 1) hx hb dX2_put_52 (by decide) ?_
        exact eZ C hret hlk ((uCe Bz.1 (va_up (sCe Bz.1) r (vp_updL (sCe Bz.1 r) q (fit (sKd Bz.1 r) vz))), Bz.2)) h hS (rfl) (⟨by unfold spPut; rw [hrk]; simp only; rw [hpl]; simp only; rw [cif_t hm] <;> rfl, by unfold spPut; rw [hrk]; simp only; rw [hpl]; simp only; rw [cif_t hm] <;> rfl⟩) dX2_put_53
      · refine lw_ti (b2i_f hm) ?_
        refine lv_if_ne (tgt := 36) hx hb dX2_put_31 (by decide) (fun c0 => absurd c0 (by decide)) (fun _ => ?_)
        refine lv_iconst (v := nI 0) hx hb dX2_put_34 (by decide) ?_
        exact eZ C hret hlk (Bz) h hS (rfl) (⟨by unfold spPut; rw [hrk]; simp only; rw [hpl]; simp only; rw [cif_f hm] <;> rfl, by unfold spPut; rw [hrk]; simp only; rw [hpl]; simp only; rw [cif_f hm] <;> rfl⟩) dX2_put_35

set_option maxHeartbeats 4000000 in
set_option maxRecDepth 100000 in
theorem c_look (l : Launch) (G : Gx) (a : Nat → Nat) (Bz : BS) (hI : Inv Bz.1) (xz pz : Int32) : CtL l G 35 a (EB G a) yX2_look cX2_look 4 (some .long) 2 43 [.ref (a 0), .int xz, .int pz] Bz (fun v u => Bz = u ∧ v = spLook Bz.1 xz pz) := by
  refine ent_of (by decide) (Nat.le_of_ble_eq_true rfl) ?_
  intro p e s m below meth c ls C h hS hret hlk hl
  have C : Cx p s m _ c cX2_look RX2 4 G := C
  have hx := C.1
  have hb := C.2.1
  have hl : lv_has ls 4 [(0, .ref (a 0)), (1, .int xz), (2, .int pz)] := hl
  refine lv_aload_n hx hb dX2_look_0 rfl (lv_at hl 0 rfl) ?_
  refine lv_iload_n hx hb dX2_look_1 rfl (lv_at hl 1 rfl) ?_
  refine kQ (rV (As := [.int xz]) (rest := []) C h lk_X2_63 0 (by decide) rfl rfl rfl (c_rowAt l G a Bz hI xz) ⟨Nat.le_of_ble_eq_true rfl, Nat.le_of_ble_eq_true rfl⟩ hl.1 rfl rfl (Nat.le_of_ble_eq_true rfl) dX2_look_2 ⟨Nat.zero_le _, Nat.zero_le _⟩) hS (fun rv u H locs hp h hS => ?_)
  obtain ⟨rfl, ⟨hrk, rfl⟩ | ⟨r, hr, rfl, hrk, hrk0, hrk9, rfl⟩⟩ := hp
  · skip
    refine lv_astore_nN (lv' := [(3, .null), (0, .ref (a 0)), (1, .int xz), (2, .int pz)]) hx hb dX2_look_5 rfl hl (by decide) rfl (fun ls hl => ?_)
    refine lv_aload_nN hx hb dX2_look_6 rfl (lv_at hl 0 rfl) ?_
    refine lv_ifnullN (tgt := 18) hx hb dX2_look_7 (by decide) ?_
    refine lv_lconst (v := lN 0) hx hb dX2_look_18 rfl ?_
    exact eL C hret hlk (Bz) h hS (⟨rfl, by simp [spLook, hrk]⟩) dX2_look_19
  · skip
    refine lv_astore_n (lv' := [(3, .ref (a (r + 11))), (0, .ref (a 0)), (1, .int (nI r)), (2, .int pz)]) hx hb dX2_look_5 rfl hl (by decide) rfl (fun ls hl => ?_)
    refine lv_aload_n hx hb dX2_look_6 rfl (lv_at hl 0 rfl) ?_
    refine lv_ifnull hx hb dX2_look_7 ?_
    refine lv_aload_n hx hb dX2_look_10 rfl (lv_at hl 0 rfl) ?_
    refine lv_iload_n hx hb dX2_look_11 rfl (lv_at hl 3 rfl) ?_
    refine kI (rVN (As := [.int pz]) (rest := []) C h lk_X2_66 (r + 11) (by omega) (EB_r _ _ _ (by first | assumption | omega)) rfl rfl (c_hasPlace l G a Bz r hr (hI.1 r hr).2 pz) ⟨Nat.le_of_ble_eq_true rfl, Nat.le_of_ble_eq_true rfl⟩ hl.1 rfl rfl (Nat.le_of_ble_eq_true rfl) dX2_look_12 ⟨Nat.zero_le _, Nat.zero_le _⟩) hS (fun rv u H locs hp h hS => ?_)
    obtain ⟨rfl, rfl⟩ := hp
    have lr := (hI.1 r hr).2
    rcases ix_cases pz (n := sPl Bz.1 r) (by omega) with hpl | ⟨q, hq, rfl, hpl⟩
    · refine lw_ti (b2i_f (fun z => z hpl)) ?_
      refine lv_if_ne (tgt := 20) hx hb dX2_look_15 (by decide) (fun c0 => absurd c0 (by decide)) (fun _ => ?_)
      refine lv_lconst (v := lN 0) hx hb dX2_look_18 rfl ?_
      exact eL C hret hlk (Bz) h hS (⟨rfl, by simp [spLook, hrk, hpl]⟩) dX2_look_19
    · refine lw_ti (b2i_t (by rw [hpl]; exact fun z => by cases z)) ?_
      refine lv_if_ne (tgt := 20) hx hb dX2_look_15 (by decide) (fun _ => ?_) (fun c0 => absurd c0 (by decide))
      refine lv_aload_n hx hb dX2_look_20 rfl (lv_at hl 0 rfl) ?_
      refine fg_X2_74 C h (by first | assumption | omega) dX2_look_21 ?_
      refine lv_iload_n hx hb dX2_look_24 rfl (lv_at hl 3 rfl) ?_
      refine al_ce C h (by first | assumption | omega) (by first | assumption | omega) dX2_look_25 ?_
      exact eL C hret hlk (Bz) h hS (⟨rfl, by simp [spLook, hrk, hpl]⟩) dX2_look_26

set_option maxHeartbeats 4000000 in
set_option maxRecDepth 100000 in
theorem c_movingA (l : Launch) (G : Gx) (a : Nat → Nat) (Bz : BS) (iz jz nz : Int64) : CtI l G 35 a (EB G a) yX2_moving cX2_moving 10 (some .int) 3 70 [.ref (a 0), .null, .long iz, .null, .long jz, .long nz] Bz (fun v u => v = -1 ∧ Bz = u) := by
  refine ent_of (by decide) (Nat.le_of_ble_eq_true rfl) ?_
  intro p e s m below meth c ls C h hS hret hlk hl
  have C : Cx p s m _ c cX2_moving RX2 10 G := C
  have hx := C.1
  have hb := C.2.1
  have hl : lv_has ls 10 [(0, .ref (a 0)), (1, .null), (2, .long iz), (4, .null), (5, .long jz), (7, .long nz)] := hl
  refine lv_aload_nN hx hb dX2_moving_0 rfl (lv_at hl 1 rfl) ?_
  refine lv_ifnullN (tgt := 9) hx hb dX2_moving_1 (by decide) ?_
  refine lv_iconst (v := -1) hx hb dX2_moving_9 (by decide) ?_
  exact eI C hret hlk (Bz) h hS (⟨rfl, rfl⟩) dX2_moving_10

set_option maxHeartbeats 4000000 in
set_option maxRecDepth 100000 in
theorem c_movingB (l : Launch) (G : Gx) (a : Nat → Nat) (Bz : BS) (r : Nat) (iz jz nz : Int64) : CtI l G 35 a (EB G a) yX2_moving cX2_moving 10 (some .int) 3 70 [.ref (a 0), .null, .long iz, .ref (a (r + 11)), .long jz, .long nz] Bz (fun v u => v = -1 ∧ Bz = u) := by
  refine ent_of (by decide) (Nat.le_of_ble_eq_true rfl) ?_
  intro p e s m below meth c ls C h hS hret hlk hl
  have C : Cx p s m _ c cX2_moving RX2 10 G := C
  have hx := C.1
  have hb := C.2.1
  have hl : lv_has ls 10 [(0, .ref (a 0)), (1, .null), (2, .long iz), (4, .ref (a (r + 11))), (5, .long jz), (7, .long nz)] := hl
  refine lv_aload_nN hx hb dX2_moving_0 rfl (lv_at hl 1 rfl) ?_
  refine lv_ifnullN (tgt := 9) hx hb dX2_moving_1 (by decide) ?_
  refine lv_iconst (v := -1) hx hb dX2_moving_9 (by decide) ?_
  exact eI C hret hlk (Bz) h hS (⟨rfl, rfl⟩) dX2_moving_10

set_option maxHeartbeats 4000000 in
set_option maxRecDepth 100000 in
theorem c_movingC (l : Launch) (G : Gx) (a : Nat → Nat) (Bz : BS) (q : Nat) (iz jz nz : Int64) : CtI l G 35 a (EB G a) yX2_moving cX2_moving 10 (some .int) 3 70 [.ref (a 0), .ref (a (q + 11)), .long iz, .null, .long jz, .long nz] Bz (fun v u => v = -1 ∧ Bz = u) := by
  refine ent_of (by decide) (Nat.le_of_ble_eq_true rfl) ?_
  intro p e s m below meth c ls C h hS hret hlk hl
  have C : Cx p s m _ c cX2_moving RX2 10 G := C
  have hx := C.1
  have hb := C.2.1
  have hl : lv_has ls 10 [(0, .ref (a 0)), (1, .ref (a (q + 11))), (2, .long iz), (4, .null), (5, .long jz), (7, .long nz)] := hl
  refine lv_aload_n hx hb dX2_moving_0 rfl (lv_at hl 1 rfl) ?_
  refine lv_ifnull hx hb dX2_moving_1 ?_
  refine lv_aloadN hx hb dX2_moving_4 (lv_at hl 3 rfl) ?_
  refine lv_ifnonnullN hx hb dX2_moving_6 ?_
  refine lv_iconst (v := -1) hx hb dX2_moving_9 (by decide) ?_
  exact eI C hret hlk (Bz) h hS (⟨rfl, rfl⟩) dX2_moving_10

set_option maxHeartbeats 4000000 in
set_option maxRecDepth 100000 in
theorem c_move (l : Launch) (G : Gx) (a : Nat → Nat) (Bz : BS) (hI : Inv Bz.1) (xz iz yz jz nz : Int32) : CtI l G 35 a (EB G a) yX2_move cX2_move 6 (some .int) 4 99 [.ref (a 0), .int xz, .int iz, .int yz, .int jz, .int nz] Bz (fun v u => v = (spMove Bz.1 xz iz yz jz nz).1 ∧ (spMove Bz.1 xz iz yz jz nz).2 = u.1) := by
  refine ent_of (by decide) (Nat.le_of_ble_eq_true rfl) ?_
  intro p e s m below meth c ls C h hS hret hlk hl
  have C : Cx p s m _ c cX2_move RX2 6 G := C
  have hx := C.1
  have hb := C.2.1
  have hl : lv_has ls 6 [(0, .ref (a 0)), (1, .int xz), (2, .int iz), (3, .int yz), (4, .int jz), (5, .int nz)] := hl
  refine lv_aload_n hx hb dX2_move_0 rfl (lv_at hl 0 rfl) ?_
  refine lv_aload_n hx hb dX2_move_1 rfl (lv_at hl 0 rfl) ?_
  refine lv_iload_n hx hb dX2_move_2 rfl (lv_at hl 1 rfl) ?_
  refine kQ (rV (As := [.int xz]) (rest := [.ref (a 0)]) C h lk_X2_44 0 (by decide) rfl rfl rfl (c_rackAt l G a Bz xz) ⟨Nat.le_of_ble_eq_true rfl, Nat.le_of_ble_eq_true rfl⟩ hl.1 rfl rfl (Nat.le_of_ble_eq_true rfl) dX2_move_3 ⟨Nat.zero_le _, Nat.zero_le _⟩) hS (fun rv u H locs hp h hS => ?_)
  obtain ⟨rfl, ⟨hrk, rfl⟩ | ⟨q, hq, rfl, hrk, rfl⟩⟩ := hp
  · skip
    refine lv_iload_n hx hb dX2_move_6 rfl (lv_at hl 2 rfl) ?_
    refine lv_i2l hx hb dX2_move_7 rfl ?_
    refine lv_aload_n hx hb dX2_move_8 rfl (lv_at hl 0 rfl) ?_
    refine lv_iload_n hx hb dX2_move_9 rfl (lv_at hl 3 rfl) ?_
    refine kQ (rV (As := [.int yz]) (rest := [.long iz.toInt64, .null, .ref (a 0)]) C h lk_X2_44 0 (by decide) rfl rfl rfl (c_rackAt l G a Bz yz) ⟨Nat.le_of_ble_eq_true rfl, Nat.le_of_ble_eq_true rfl⟩ hl.1 rfl rfl (Nat.le_of_ble_eq_true rfl) dX2_move_10 ⟨Nat.zero_le _, Nat.zero_le _⟩) hS (fun rv u H locs hp h hS => ?_)
    obtain ⟨rfl, ⟨hrk2, rfl⟩ | ⟨r, hr, rfl, hrk2, rfl⟩⟩ := hp
    · skip
      refine lv_iload hx hb dX2_move_13 (lv_at hl 4 rfl) ?_
      refine lv_i2l hx hb dX2_move_15 rfl ?_
      refine lv_iload hx hb dX2_move_16 (lv_at hl 5 rfl) ?_
      refine lv_i2l hx hb dX2_move_18 rfl ?_
      refine kI (rV (As := [.null, .long iz.toInt64, .null, .long jz.toInt64, .long nz.toInt64]) (rest := []) C h lk_X2_82 0 (by decide) rfl rfl rfl (c_movingA l G a Bz _ _ _) ⟨Nat.le_of_ble_eq_true rfl, Nat.le_of_ble_eq_true rfl⟩ hl.1 rfl rfl (Nat.le_of_ble_eq_true rfl) dX2_move_19 ⟨Nat.zero_le _, Nat.zero_le _⟩) hS (fun rv u H locs hp h hS => ?_)
      obtain ⟨rfl, rfl⟩ := hp
      exact eI C hret hlk (Bz) h hS (⟨by simp [spMove, hrk, hrk2], by simp [spMove, hrk, hrk2]⟩) dX2_move_22
    · skip
      refine lv_iload hx hb dX2_move_13 (lv_at hl 4 rfl) ?_
      refine lv_i2l hx hb dX2_move_15 rfl ?_
      refine lv_iload hx hb dX2_move_16 (lv_at hl 5 rfl) ?_
      refine lv_i2l hx hb dX2_move_18 rfl ?_
      refine kI (rV (As := [.null, .long iz.toInt64, .ref (a (r + 11)), .long jz.toInt64, .long nz.toInt64]) (rest := []) C h lk_X2_82 0 (by decide) rfl rfl rfl (c_movingB l G a Bz r _ _ _) ⟨Nat.le_of_ble_eq_true rfl, Nat.le_of_ble_eq_true rfl⟩ hl.1 rfl rfl (Nat.le_of_ble_eq_true rfl) dX2_move_19 ⟨Nat.zero_le _, Nat.zero_le _⟩) hS (fun rv u H locs hp h hS => ?_)
      obtain ⟨rfl, rfl⟩ := hp
      exact eI C hret hlk (Bz) h hS (⟨by simp [spMove, hrk, hrk2], by simp [spMove, hrk, hrk2]⟩) dX2_move_22
  · skip
    refine lv_iload_n hx hb dX2_move_6 rfl (lv_at hl 2 rfl) ?_
    refine lv_i2l hx hb dX2_move_7 rfl ?_
    refine lv_aload_n hx hb dX2_move_8 rfl (lv_at hl 0 rfl) ?_
    refine lv_iload_n hx hb dX2_move_9 rfl (lv_at hl 3 rfl) ?_
    refine kQ (rV (As := [.int yz]) (rest := [.long iz.toInt64, .ref (a (q + 11)), .ref (a 0)]) C h lk_X2_44 0 (by decide) rfl rfl rfl (c_rackAt l G a Bz yz) ⟨Nat.le_of_ble_eq_true rfl, Nat.le_of_ble_eq_true rfl⟩ hl.1 rfl rfl (Nat.le_of_ble_eq_true rfl) dX2_move_10 ⟨Nat.zero_le _, Nat.zero_le _⟩) hS (fun rv u H locs hp h hS => ?_)
    obtain ⟨rfl, ⟨hrk2, rfl⟩ | ⟨r, hr, rfl, hrk2, rfl⟩⟩ := hp
    · skip
      refine lv_iload hx hb dX2_move_13 (lv_at hl 4 rfl) ?_
      refine lv_i2l hx hb dX2_move_15 rfl ?_
      refine lv_iload hx hb dX2_move_16 (lv_at hl 5 rfl) ?_
      refine lv_i2l hx hb dX2_move_18 rfl ?_
      refine kI (rV (As := [.ref (a (q + 11)), .long iz.toInt64, .null, .long jz.toInt64, .long nz.toInt64]) (rest := []) C h lk_X2_82 0 (by decide) rfl rfl rfl (c_movingC l G a Bz q _ _ _) ⟨Nat.le_of_ble_eq_true rfl, Nat.le_of_ble_eq_true rfl⟩ hl.1 rfl rfl (Nat.le_of_ble_eq_true rfl) dX2_move_19 ⟨Nat.zero_le _, Nat.zero_le _⟩) hS (fun rv u H locs hp h hS => ?_)
      obtain ⟨rfl, rfl⟩ := hp
      exact eI C hret hlk (Bz) h hS (⟨by simp [spMove, hrk, hrk2], by simp [spMove, hrk, hrk2]⟩) dX2_move_22
    · skip
      refine lv_iload hx hb dX2_move_13 (lv_at hl 4 rfl) ?_
      refine lv_i2l hx hb dX2_move_15 rfl ?_
      refine lv_iload hx hb dX2_move_16 (lv_at hl 5 rfl) ?_
      refine lv_i2l hx hb dX2_move_18 rfl ?_
      refine kI (rV (As := [.ref (a (q + 11)), .long iz.toInt64, .ref (a (r + 11)), .long jz.toInt64, .long nz.toInt64]) (rest := []) C h lk_X2_82 0 (by decide) rfl rfl rfl (c_moving l G a Bz hI q r hq hr _ _ _ (sml_i _) (sml_i _) (sml_i _)) ⟨Nat.le_of_ble_eq_true rfl, Nat.le_of_ble_eq_true rfl⟩ hl.1 rfl rfl (Nat.le_of_ble_eq_true rfl) dX2_move_19 ⟨Nat.zero_le _, Nat.zero_le _⟩) hS (fun rv u H locs hp h hS => ?_)
      obtain ⟨rfl, rfl⟩ := hp
      exact eI C hret hlk (((movS Bz.1 q r iz.toInt64 jz.toInt64 nz.toInt64).2, Bz.2)) h hS (⟨by simp [spMove, hrk, hrk2], by simp [spMove, hrk, hrk2]⟩) dX2_move_22

set_option maxHeartbeats 4000000 in
set_option maxRecDepth 100000 in
theorem c_open (l : Launch) (G : Gx) (a : Nat → Nat) (Bz : BS) (hI : Inv Bz.1) (xz pz : Int32) : CtI l G 35 a (EB G a) yX2_open cX2_open 5 (some .int) 4 99 [.ref (a 0), .int xz, .int pz] Bz (fun v u => v = (spOpen Bz.1 xz pz).1 ∧ (spOpen Bz.1 xz pz).2 = u.1) := by
  refine ent_of (by decide) (Nat.le_of_ble_eq_true rfl) ?_
  intro p e s m below meth c ls C h hS hret hlk hl
  have C : Cx p s m _ c cX2_open RX2 5 G := C
  have hx := C.1
  have hb := C.2.1
  have hl : lv_has ls 5 [(0, .ref (a 0)), (1, .int xz), (2, .int pz)] := hl
  refine lv_aload_n hx hb dX2_open_0 rfl (lv_at hl 0 rfl) ?_
  refine lv_iload_n hx hb dX2_open_1 rfl (lv_at hl 1 rfl) ?_
  refine kQ (rV (As := [.int xz]) (rest := []) C h lk_X2_44 0 (by decide) rfl rfl rfl (c_rackAt l G a Bz xz) ⟨Nat.le_of_ble_eq_true rfl, Nat.le_of_ble_eq_true rfl⟩ hl.1 rfl rfl (Nat.le_of_ble_eq_true rfl) dX2_open_2 ⟨Nat.zero_le _, Nat.zero_le _⟩) hS (fun rv u H locs hp h hS => ?_)
  obtain ⟨rfl, ⟨hrk, rfl⟩ | ⟨r, hr, rfl, hrk, rfl⟩⟩ := hp
  · skip
    refine lv_astore_nN (lv' := [(3, .null), (0, .ref (a 0)), (1, .int xz), (2, .int pz)]) hx hb dX2_open_5 rfl hl (by decide) rfl (fun ls hl => ?_)
    refine lv_aload_nN hx hb dX2_open_6 rfl (lv_at hl 0 rfl) ?_
    refine lv_ifnonnullN hx hb dX2_open_7 ?_
    refine lv_iconst (v := -1) hx hb dX2_open_10 (by decide) ?_
    exact eI C hret hlk (Bz) h hS (⟨by simp [spOpen, hrk], by simp [spOpen, hrk]⟩) dX2_open_11
  · skip
    refine lv_astore_n (lv' := [(3, .ref (a (r + 11))), (0, .ref (a 0)), (1, .int (nI r)), (2, .int pz)]) hx hb dX2_open_5 rfl hl (by decide) rfl (fun ls hl => ?_)
    refine lv_aload_n hx hb dX2_open_6 rfl (lv_at hl 0 rfl) ?_
    refine lv_ifnonnull (tgt := 12) hx hb dX2_open_7 (by decide) ?_
    refine lv_aload_n hx hb dX2_open_12 rfl (lv_at hl 1 rfl) ?_
    refine lv_aload_n hx hb dX2_open_13 rfl (lv_at hl 0 rfl) ?_
    refine lv_iload_n hx hb dX2_open_14 rfl (lv_at hl 3 rfl) ?_
    refine lv_i2l hx hb dX2_open_15 rfl ?_
    refine lv_aload_n hx hb dX2_open_16 rfl (lv_at hl 0 rfl) ?_
    refine lv_iload_n hx hb dX2_open_17 rfl (lv_at hl 3 rfl) ?_
    refine lv_i2l hx hb dX2_open_18 rfl ?_
    refine lv_lconst (v := lN 1) hx hb dX2_open_19 rfl ?_
    refine lv_ladd hx hb dX2_open_20 ?_
    refine lv_aload_n hx hb dX2_open_21 rfl (lv_at hl 0 rfl) ?_
    refine lv_iload_n hx hb dX2_open_22 rfl (lv_at hl 3 rfl) ?_
    refine kL (rS (As := [.ref (a (r + 11)), .int pz]) (rest := [.long (pz.toInt64 + (lN 1)), .ref (a (r + 11)), .long pz.toInt64, .ref (a (r + 11)), .ref (a 0)]) C h lk_X2_86 (c_thingsBehind l G a Bz r hr (hI.1 r hr).2 pz) ⟨Nat.le_of_ble_eq_true rfl, Nat.le_of_ble_eq_true rfl⟩ hl.1 rfl rfl (Nat.le_of_ble_eq_true rfl) dX2_open_23 ⟨Nat.zero_le _, Nat.zero_le _⟩) hS (fun rv u H locs hp h hS => ?_)
    obtain ⟨rfl, rfl⟩ := hp
    refine kI (rV (As := [.ref (a (r + 11)), .long pz.toInt64, .ref (a (r + 11)), .long (pz.toInt64 + (lN 1)), .long (lN (sPl Bz.1 r) - lN 1 - pz.toInt64)]) (rest := []) C h lk_X2_82 0 (by decide) rfl rfl rfl (c_moving l G a Bz hI r r hr hr _ _ _ (sml_i _) (sml_p1 _) (sml_tb (hI.1 r hr).2 _)) ⟨Nat.le_of_ble_eq_true rfl, Nat.le_of_ble_eq_true rfl⟩ hl.1 rfl rfl (Nat.le_of_ble_eq_true rfl) dX2_open_26 ⟨Nat.zero_le _, Nat.zero_le _⟩) hS (fun rv u H locs hp h hS => ?_)
    obtain ⟨hv, hu⟩ := hp
    have hv : _ = nI (opM Bz.1 r pz).1 := hv
    have hu : ((opM Bz.1 r pz).2, Bz.2) = u := hu
    subst hv
    subst hu
    by_cases hz : (opM Bz.1 r pz).1 = 0
    · refine lw_ti (show _ = nI 0 from congrArg nI hz) ?_
      have lr := (hI.1 r hr).2
      obtain ⟨q, hq, hpq⟩ := opM_0 hI hr hz
      subst hpq
      refine lv_istore (lv' := [(4, .int (nI 0)), (3, .ref (a (r + 11))), (0, .ref (a 0)), (1, .int (nI r)), (2, .int (nI q))]) hx hb dX2_open_29 hl (by decide) rfl (fun ls hl => ?_)
      refine lv_iload hx hb dX2_open_31 (lv_at hl 0 rfl) ?_
      refine lv_if_ne (tgt := 41) hx hb dX2_open_33 (by decide) (fun c0 => absurd c0 (by decide)) (fun _ => ?_)
      refine lv_aload_n hx hb dX2_open_36 rfl (lv_at hl 1 rfl) ?_
      refine lv_iload_n hx hb dX2_open_37 rfl (lv_at hl 4 rfl) ?_
      refine kV (rVN (As := [.int (nI q)]) (rest := []) C h lk_X2_90 (r + 11) (by omega) (EB_r _ _ _ (by first | assumption | omega)) rfl rfl (c_blankPlace l G a ((opM Bz.1 r (nI q)).2, Bz.2) (opM_inv hI hr _) r hr q (by rw [opM_k.2]; exact hq)) ⟨Nat.le_of_ble_eq_true rfl, Nat.le_of_ble_eq_true rfl⟩ hl.1 rfl rfl (Nat.le_of_ble_eq_true rfl) dX2_open_38 ⟨Nat.zero_le _, Nat.zero_le _⟩) hS (fun u H locs hp h hS => ?_)
      obtain rfl := hp
      refine lv_iload hx hb dX2_open_41 (lv_at hl 0 rfl) ?_
      exact eI C hret hlk ((putC (opM Bz.1 r (nI q)).2 r q (blk (sKd (opM Bz.1 r (nI q)).2 r)), Bz.2)) h hS (⟨by unfold spOpen; rw [hrk]; simp only; rw [hz], by unfold spOpen; rw [hrk]; simp only; rw [if_pos hz, nI_clamp (by omega), (opM_k (S := Bz.1) (r := r) (p := (nI q))).1]⟩) dX2_open_43
    · have hlt : (opM Bz.1 r pz).1 < 5 := mov_lt _ _ _ _ _ _
      refine lv_istore (lv' := [(4, .int (nI (opM Bz.1 r pz).1)), (3, .ref (a (r + 11))), (0, .ref (a 0)), (1, .int (nI r)), (2, .int pz)]) hx hb dX2_open_29 hl (by decide) rfl (fun ls hl => ?_)
      refine lv_iload hx hb dX2_open_31 (lv_at hl 0 rfl) ?_
      refine lv_if_ne (tgt := 41) hx hb dX2_open_33 (by decide) (fun c33 => ?_) (fun c0 => absurd c0 (fun z => hz ((nI_z (by omega)).mp z)))
      refine lv_iload hx hb dX2_open_41 (lv_at hl 0 rfl) ?_
      exact eI C hret hlk (((opM Bz.1 r pz).2, Bz.2)) h hS (⟨by unfold spOpen; rw [hrk], by unfold spOpen; rw [hrk]; simp only; rw [if_neg hz]⟩) dX2_open_43

set_option maxHeartbeats 4000000 in
set_option maxRecDepth 100000 in
theorem c_close (l : Launch) (G : Gx) (a : Nat → Nat) (Bz : BS) (hI : Inv Bz.1) (xz pz : Int32) : CtI l G 35 a (EB G a) yX2_close cX2_close 5 (some .int) 4 99 [.ref (a 0), .int xz, .int pz] Bz (fun v u => v = (spClose Bz.1 xz pz).1 ∧ (spClose Bz.1 xz pz).2 = u.1) := by
  refine ent_of (by decide) (Nat.le_of_ble_eq_true rfl) ?_
  intro p e s m below meth c ls C h hS hret hlk hl
  have C : Cx p s m _ c cX2_close RX2 5 G := C
  have hx := C.1
  have hb := C.2.1
  have hl : lv_has ls 5 [(0, .ref (a 0)), (1, .int xz), (2, .int pz)] := hl
  refine lv_aload_n hx hb dX2_close_0 rfl (lv_at hl 0 rfl) ?_
  refine lv_iload_n hx hb dX2_close_1 rfl (lv_at hl 1 rfl) ?_
  refine kQ (rV (As := [.int xz]) (rest := []) C h lk_X2_44 0 (by decide) rfl rfl rfl (c_rackAt l G a Bz xz) ⟨Nat.le_of_ble_eq_true rfl, Nat.le_of_ble_eq_true rfl⟩ hl.1 rfl rfl (Nat.le_of_ble_eq_true rfl) dX2_close_2 ⟨Nat.zero_le _, Nat.zero_le _⟩) hS (fun rv u H locs hp h hS => ?_)
  obtain ⟨rfl, ⟨hrk, rfl⟩ | ⟨r, hr, rfl, hrk, rfl⟩⟩ := hp
  · skip
    refine lv_astore_nN (lv' := [(3, .null), (0, .ref (a 0)), (1, .int xz), (2, .int pz)]) hx hb dX2_close_5 rfl hl (by decide) rfl (fun ls hl => ?_)
    refine lv_aload_nN hx hb dX2_close_6 rfl (lv_at hl 0 rfl) ?_
    refine lv_ifnonnullN hx hb dX2_close_7 ?_
    refine lv_iconst (v := -1) hx hb dX2_close_10 (by decide) ?_
    exact eI C hret hlk (Bz) h hS (⟨by simp [spClose, hrk], by simp [spClose, hrk]⟩) dX2_close_11
  · skip
    refine lv_astore_n (lv' := [(3, .ref (a (r + 11))), (0, .ref (a 0)), (1, .int (nI r)), (2, .int pz)]) hx hb dX2_close_5 rfl hl (by decide) rfl (fun ls hl => ?_)
    refine lv_aload_n hx hb dX2_close_6 rfl (lv_at hl 0 rfl) ?_
    refine lv_ifnonnull (tgt := 12) hx hb dX2_close_7 (by decide) ?_
    refine lv_aload_n hx hb dX2_close_12 rfl (lv_at hl 1 rfl) ?_
    refine lv_aload_n hx hb dX2_close_13 rfl (lv_at hl 0 rfl) ?_
    refine lv_iload_n hx hb dX2_close_14 rfl (lv_at hl 3 rfl) ?_
    refine lv_i2l hx hb dX2_close_15 rfl ?_
    refine lv_lconst (v := lN 1) hx hb dX2_close_16 rfl ?_
    refine lv_ladd hx hb dX2_close_17 ?_
    refine lv_aload_n hx hb dX2_close_18 rfl (lv_at hl 0 rfl) ?_
    refine lv_iload_n hx hb dX2_close_19 rfl (lv_at hl 3 rfl) ?_
    refine lv_i2l hx hb dX2_close_20 rfl ?_
    refine lv_aload_n hx hb dX2_close_21 rfl (lv_at hl 0 rfl) ?_
    refine lv_iload_n hx hb dX2_close_22 rfl (lv_at hl 3 rfl) ?_
    refine kL (rS (As := [.ref (a (r + 11)), .int pz]) (rest := [.long pz.toInt64, .ref (a (r + 11)), .long (pz.toInt64 + (lN 1)), .ref (a (r + 11)), .ref (a 0)]) C h lk_X2_86 (c_thingsBehind l G a Bz r hr (hI.1 r hr).2 pz) ⟨Nat.le_of_ble_eq_true rfl, Nat.le_of_ble_eq_true rfl⟩ hl.1 rfl rfl (Nat.le_of_ble_eq_true rfl) dX2_close_23 ⟨Nat.zero_le _, Nat.zero_le _⟩) hS (fun rv u H locs hp h hS => ?_)
    obtain ⟨rfl, rfl⟩ := hp
    refine kI (rV (As := [.ref (a (r + 11)), .long (pz.toInt64 + (lN 1)), .ref (a (r + 11)), .long pz.toInt64, .long (lN (sPl Bz.1 r) - lN 1 - pz.toInt64)]) (rest := []) C h lk_X2_82 0 (by decide) rfl rfl rfl (c_moving l G a Bz hI r r hr hr _ _ _ (sml_p1 _) (sml_i _) (sml_tb (hI.1 r hr).2 _)) ⟨Nat.le_of_ble_eq_true rfl, Nat.le_of_ble_eq_true rfl⟩ hl.1 rfl rfl (Nat.le_of_ble_eq_true rfl) dX2_close_26 ⟨Nat.zero_le _, Nat.zero_le _⟩) hS (fun rv u H locs hp h hS => ?_)
    obtain ⟨hv, hu⟩ := hp
    have hv : _ = nI (clM Bz.1 r pz).1 := hv
    have hu : ((clM Bz.1 r pz).2, Bz.2) = u := hu
    subst hv
    subst hu
    by_cases hz : (clM Bz.1 r pz).1 = 0
    · refine lw_ti (show _ = nI 0 from congrArg nI hz) ?_
      have lr := (hI.1 r hr).2
      have h0 := clM_0 hI hr hz
      refine lv_istore (lv' := [(4, .int (nI 0)), (3, .ref (a (r + 11))), (0, .ref (a 0)), (1, .int (nI r)), (2, .int pz)]) hx hb dX2_close_29 hl (by decide) rfl (fun ls hl => ?_)
      refine lv_iload hx hb dX2_close_31 (lv_at hl 0 rfl) ?_
      refine lv_if_ne (tgt := 46) hx hb dX2_close_33 (by decide) (fun c0 => absurd c0 (by decide)) (fun _ => ?_)
      refine lv_aload_n hx hb dX2_close_36 rfl (lv_at hl 1 rfl) ?_
      refine lv_aload_n hx hb dX2_close_37 rfl (lv_at hl 1 rfl) ?_
      refine fg_X2_94 C h (by first | assumption | omega) dX2_close_38 ?_
      refine lw_ti (show (nI (sPl (((clM Bz.1 r pz).2, Bz.2)).1 r) : Int32) = nI ((sPl ((clM Bz.1 r pz).2)) r) from rfl) ?_
      refine lw_ti (show (nI ((sPl ((clM Bz.1 r pz).2)) r) : Int32) = nI (sPl Bz.1 r) from by rw [clM_k.2]) ?_
      refine lv_iconst (v := nI 1) hx hb dX2_close_41 (by decide) ?_
      refine lv_isub hx hb dX2_close_42 ?_
      refine lw_ti (show ((nI (sPl Bz.1 r)) - (nI 1) : Int32) = nI (sPl Bz.1 r - 1) from nI_m1 h0) ?_
      refine kV (rVN (As := [.int (nI (sPl Bz.1 r - 1))]) (rest := []) C h lk_X2_90 (r + 11) (by omega) (EB_r _ _ _ (by first | assumption | omega)) rfl rfl (c_blankPlace l G a ((clM Bz.1 r pz).2, Bz.2) (clM_inv hI hr _) r hr (sPl Bz.1 r - 1) (by rw [clM_k.2]; omega)) ⟨Nat.le_of_ble_eq_true rfl, Nat.le_of_ble_eq_true rfl⟩ hl.1 rfl rfl (Nat.le_of_ble_eq_true rfl) dX2_close_43 ⟨Nat.zero_le _, Nat.zero_le _⟩) hS (fun u H locs hp h hS => ?_)
      obtain rfl := hp
      refine lv_iload hx hb dX2_close_46 (lv_at hl 0 rfl) ?_
      exact eI C hret hlk ((putC (clM Bz.1 r pz).2 r (sPl Bz.1 r - 1) (blk (sKd (clM Bz.1 r pz).2 r)), Bz.2)) h hS (⟨by unfold spClose; rw [hrk]; simp only; rw [hz], by unfold spClose; rw [hrk]; simp only; rw [if_pos hz, (clM_k (S := Bz.1) (r := r) (p := pz)).1]⟩) dX2_close_48
    · have hlt : (clM Bz.1 r pz).1 < 5 := mov_lt _ _ _ _ _ _
      refine lv_istore (lv' := [(4, .int (nI (clM Bz.1 r pz).1)), (3, .ref (a (r + 11))), (0, .ref (a 0)), (1, .int (nI r)), (2, .int pz)]) hx hb dX2_close_29 hl (by decide) rfl (fun ls hl => ?_)
      refine lv_iload hx hb dX2_close_31 (lv_at hl 0 rfl) ?_
      refine lv_if_ne (tgt := 46) hx hb dX2_close_33 (by decide) (fun c33 => ?_) (fun c0 => absurd c0 (fun z => hz ((nI_z (by omega)).mp z)))
      refine lv_iload hx hb dX2_close_46 (lv_at hl 0 rfl) ?_
      exact eI C hret hlk (((clM Bz.1 r pz).2, Bz.2)) h hS (⟨by unfold spClose; rw [hrk], by unfold spClose; rw [hrk]; simp only; rw [if_neg hz]⟩) dX2_close_48

set_option maxHeartbeats 4000000 in
set_option maxRecDepth 100000 in
theorem c_turn (l : Launch) (G : Gx) (a : Nat → Nat) (Bz : BS) (hI : Inv Bz.1) (xz dz : Int32) : CtI l G 35 a (EB G a) yX2_turn cX2_turn 4 (some .int) 3 83 [.ref (a 0), .int xz, .int dz] Bz (fun v u => v = (spTurn Bz.1 xz dz).1 ∧ (spTurn Bz.1 xz dz).2 = u.1) := by
  refine ent_of (by decide) (Nat.le_of_ble_eq_true rfl) ?_
  intro p e s m below meth c ls C h hS hret hlk hl
  have C : Cx p s m _ c cX2_turn RX2 4 G := C
  have hx := C.1
  have hb := C.2.1
  have hl : lv_has ls 4 [(0, .ref (a 0)), (1, .int xz), (2, .int dz)] := hl
  refine lv_aload_n hx hb dX2_turn_0 rfl (lv_at hl 0 rfl) ?_
  refine lv_iload_n hx hb dX2_turn_1 rfl (lv_at hl 1 rfl) ?_
  refine kQ (rV (As := [.int xz]) (rest := []) C h lk_X2_44 0 (by decide) rfl rfl rfl (c_rackAt l G a Bz xz) ⟨Nat.le_of_ble_eq_true rfl, Nat.le_of_ble_eq_true rfl⟩ hl.1 rfl rfl (Nat.le_of_ble_eq_true rfl) dX2_turn_2 ⟨Nat.zero_le _, Nat.zero_le _⟩) hS (fun rv u H locs hp h hS => ?_)
  obtain ⟨rfl, ⟨hrk, rfl⟩ | ⟨r, hr, rfl, hrk, rfl⟩⟩ := hp
  · skip
    refine lv_astore_nN (lv' := [(3, .null), (0, .ref (a 0)), (1, .int xz), (2, .int dz)]) hx hb dX2_turn_5 rfl hl (by decide) rfl (fun ls hl => ?_)
    refine lv_aload_nN hx hb dX2_turn_6 rfl (lv_at hl 0 rfl) ?_
    refine lv_ifnonnullN hx hb dX2_turn_7 ?_
    refine lv_iconst (v := -1) hx hb dX2_turn_10 (by decide) ?_
    exact eI C hret hlk (Bz) h hS (⟨by simp [spTurn, hrk], by simp [spTurn, hrk]⟩) dX2_turn_11
  · skip
    refine lv_astore_n (lv' := [(3, .ref (a (r + 11))), (0, .ref (a 0)), (1, .int (nI r)), (2, .int dz)]) hx hb dX2_turn_5 rfl hl (by decide) rfl (fun ls hl => ?_)
    refine lv_aload_n hx hb dX2_turn_6 rfl (lv_at hl 0 rfl) ?_
    refine lv_ifnonnull (tgt := 12) hx hb dX2_turn_7 (by decide) ?_
    refine lv_aload_n hx hb dX2_turn_12 rfl (lv_at hl 0 rfl) ?_
    refine fg_X2_52 C h (by first | assumption | omega) dX2_turn_13 ?_
    refine lv_if_ne (tgt := 21) hx hb dX2_turn_16 (by decide) (fun c16 => ?_) (fun c16 => ?_)
    · skip
      refine lv_aload_n hx hb dX2_turn_21 rfl (lv_at hl 0 rfl) ?_
      refine fg_X2_52 C h (by first | assumption | omega) dX2_turn_22 ?_
      refine lv_bipush (v := nI 9) hx hb dX2_turn_25 (by decide) ?_
      refine lv_icmp_ne (tgt := 32) hx hb dX2_turn_27 (by decide) (fun c27 => ?_) (fun c27 => ?_)
      · skip
        refine lv_aload_n hx hb dX2_turn_32 rfl (lv_at hl 0 rfl) ?_
        refine lv_iload_n hx hb dX2_turn_33 rfl (lv_at hl 3 rfl) ?_
        refine kV (rVN (As := [.int dz]) (rest := []) C h lk_X2_97 (r + 11) (by omega) (EB_r _ _ _ (by first | assumption | omega)) rfl rfl (c_rotate l G a Bz hI r hr dz) ⟨Nat.le_of_ble_eq_true rfl, Nat.le_of_ble_eq_true rfl⟩ hl.1 rfl rfl (Nat.le_of_ble_eq_true rfl) dX2_turn_34 ⟨Nat.zero_le _, Nat.zero_le _⟩) hS (fun u H locs hp h hS => ?_)
        obtain ⟨u1, Kz⟩ := u
        dsimp only at hp
        subst hp
        refine lv_iconst (v := nI 0) hx hb dX2_turn_37 (by decide) ?_
        exact eI C hret hlk ((rotS Bz.1 r dz, Kz)) h hS (⟨by have hk := (hI.1 r hr).1; rw [nI_z (by omega)] at c16; rw [nI_eq (by omega) (by decide)] at c27; simp [spTurn, hrk, c16, c27], by have hk := (hI.1 r hr).1; rw [nI_z (by omega)] at c16; rw [nI_eq (by omega) (by decide)] at c27; simp [spTurn, hrk, c16, c27]⟩) dX2_turn_38
      · skip
        refine lv_iconst (v := nI 2) hx hb dX2_turn_30 (by decide) ?_
        exact eI C hret hlk (Bz) h hS (⟨by have hk := (hI.1 r hr).1; rw [nI_z (by omega)] at c16; rw [nI_eq (by omega) (by decide)] at c27; simp [spTurn, hrk, c16, c27], by have hk := (hI.1 r hr).1; rw [nI_z (by omega)] at c16; rw [nI_eq (by omega) (by decide)] at c27; simp [spTurn, hrk, c16, c27]⟩) dX2_turn_31
    · skip
      refine lv_iconst (v := nI 1) hx hb dX2_turn_19 (by decide) ?_
      exact eI C hret hlk (Bz) h hS (⟨by have hk := (hI.1 r hr).1; rw [nI_z (by omega)] at c16; simp [spTurn, hrk, c16], by have hk := (hI.1 r hr).1; rw [nI_z (by omega)] at c16; simp [spTurn, hrk, c16]⟩) dX2_turn_20

set_option maxHeartbeats 4000000 in
set_option maxRecDepth 100000 in
theorem c_step (l : Launch) (G : Gx) (a : Nat → Nat) (Bz : BS) (hI : Inv Bz.1) (xz iz yz jz nz : Int32) : CtI l G 35 a (EB G a) yX2_step cX2_step 6 (some .int) 2 45 [.ref (a 0), .int xz, .int iz, .int yz, .int jz, .int nz] Bz (fun v u => v = (spStep Bz.1 xz iz yz jz nz).1 ∧ (spStep Bz.1 xz iz yz jz nz).2 = u.1) := by
  refine ent_of (by decide) (Nat.le_of_ble_eq_true rfl) ?_
  intro p e s m below meth c ls C h hS hret hlk hl
  have C : Cx p s m _ c cX2_step RX2 6 G := C
  have hx := C.1
  have hb := C.2.1
  have hl : lv_has ls 6 [(0, .ref (a 0)), (1, .int xz), (2, .int iz), (3, .int yz), (4, .int jz), (5, .int nz)] := hl
  refine lv_aload_n hx hb dX2_step_0 rfl (lv_at hl 0 rfl) ?_
  refine lv_iload_n hx hb dX2_step_1 rfl (lv_at hl 1 rfl) ?_
  refine kQ (rV (As := [.int xz]) (rest := []) C h lk_X2_44 0 (by decide) rfl rfl rfl (c_rackAt l G a Bz xz) ⟨Nat.le_of_ble_eq_true rfl, Nat.le_of_ble_eq_true rfl⟩ hl.1 rfl rfl (Nat.le_of_ble_eq_true rfl) dX2_step_2 ⟨Nat.zero_le _, Nat.zero_le _⟩) hS (fun rv u H locs hp h hS => ?_)
  obtain ⟨rfl, ⟨hrk, rfl⟩ | ⟨q, hq, rfl, hrk, rfl⟩⟩ := hp
  · skip
    refine lv_ifnullN (tgt := 26) hx hb dX2_step_5 (by decide) ?_
    refine lv_iconst (v := -1) hx hb dX2_step_26 (by decide) ?_
    exact eI C hret hlk (Bz) h hS (⟨by simp [spStep, hrk], by simp [spStep, hrk]⟩) dX2_step_27
  · skip
    refine lv_ifnull hx hb dX2_step_5 ?_
    refine lv_aload_n hx hb dX2_step_8 rfl (lv_at hl 0 rfl) ?_
    refine lv_iload_n hx hb dX2_step_9 rfl (lv_at hl 3 rfl) ?_
    refine kQ (rV (As := [.int yz]) (rest := []) C h lk_X2_44 0 (by decide) rfl rfl rfl (c_rackAt l G a Bz yz) ⟨Nat.le_of_ble_eq_true rfl, Nat.le_of_ble_eq_true rfl⟩ hl.1 rfl rfl (Nat.le_of_ble_eq_true rfl) dX2_step_10 ⟨Nat.zero_le _, Nat.zero_le _⟩) hS (fun rv u H locs hp h hS => ?_)
    obtain ⟨rfl, ⟨hrk2, rfl⟩ | ⟨r, hr, rfl, hrk2, rfl⟩⟩ := hp
    · skip
      refine lv_ifnullN (tgt := 26) hx hb dX2_step_13 (by decide) ?_
      refine lv_iconst (v := -1) hx hb dX2_step_26 (by decide) ?_
      exact eI C hret hlk (Bz) h hS (⟨by simp [spStep, hrk, hrk2], by simp [spStep, hrk, hrk2]⟩) dX2_step_27
    · skip
      refine lv_ifnull hx hb dX2_step_13 ?_
      refine lv_aload_n hx hb dX2_step_16 rfl (lv_at hl 0 rfl) ?_
      refine fg_X2_26 C h dX2_step_17 ?_
      refine kI (rVN (As := []) (rest := []) C h lk_X2_100 4 (by decide) rfl rfl rfl (c_isFull l G a Bz hI.2.2.1) ⟨Nat.le_of_ble_eq_true rfl, Nat.le_of_ble_eq_true rfl⟩ hl.1 rfl rfl (Nat.le_of_ble_eq_true rfl) dX2_step_20 ⟨Nat.zero_le _, Nat.zero_le _⟩) hS (fun rv u H locs hp h hS => ?_)
      obtain ⟨rfl, rfl⟩ := hp
      by_cases hF : 24 ≤ sNs Bz.1
      · refine lw_ti (b2i_t hF) ?_
        refine lv_if_eq (tgt := 28) hx hb dX2_step_23 (by decide) (fun c0 => absurd c0 (by decide)) (fun _ => ?_)
        refine lv_iconst (v := -1) hx hb dX2_step_26 (by decide) ?_
        exact eI C hret hlk (Bz) h hS (⟨by simp [spStep, hrk, hrk2, hF], by simp [spStep, hrk, hrk2, hF]⟩) dX2_step_27
      · refine lw_ti (b2i_f hF) ?_
        refine lv_if_eq (tgt := 28) hx hb dX2_step_23 (by decide) (fun _ => ?_) (fun c0 => absurd c0 (by decide))
        refine lv_aload_n hx hb dX2_step_28 rfl (lv_at hl 0 rfl) ?_
        refine fg_X2_26 C h dX2_step_29 ?_
        refine lv_iload_n hx hb dX2_step_32 rfl (lv_at hl 1 rfl) ?_
        refine lv_iload_n hx hb dX2_step_33 rfl (lv_at hl 2 rfl) ?_
        refine lv_iload_n hx hb dX2_step_34 rfl (lv_at hl 3 rfl) ?_
        refine lv_iload hx hb dX2_step_35 (lv_at hl 4 rfl) ?_
        refine lv_iload hx hb dX2_step_37 (lv_at hl 5 rfl) ?_
        refine kV (rVN (As := [.int (nI q), .int iz, .int (nI r), .int jz, .int nz]) (rest := []) C h lk_X2_104 4 (by decide) rfl rfl rfl (c_append l G a Bz (by omega) (nI q) iz (nI r) jz nz) ⟨Nat.le_of_ble_eq_true rfl, Nat.le_of_ble_eq_true rfl⟩ hl.1 rfl rfl (Nat.le_of_ble_eq_true rfl) dX2_step_39 ⟨Nat.zero_le _, Nat.zero_le _⟩) hS (fun u H locs hp h hS => ?_)
        obtain rfl := hp
        refine lv_aload_n hx hb dX2_step_42 rfl (lv_at hl 0 rfl) ?_
        refine fg_X2_26 C h dX2_step_43 ?_
        refine fg_X2_108 C h dX2_step_46 ?_
        refine lw_ti (show (nI (sNs ((appS Bz.1 (nI q) iz (nI r) jz nz, Bz.2)).1) : Int32) = nI ((sNs (appS Bz.1 (nI q) iz (nI r) jz nz))) from rfl) ?_
        refine lw_ti (show (nI ((sNs (appS Bz.1 (nI q) iz (nI r) jz nz))) : Int32) = nI (sNs Bz.1 + 1) from rfl) ?_
        exact eI C hret hlk ((appS Bz.1 (nI q) iz (nI r) jz nz, Bz.2)) h hS (⟨by simp [spStep, hrk, hrk2, hF], by simp [spStep, hrk, hrk2, hF]⟩) dX2_step_49

set_option maxHeartbeats 4000000 in
set_option maxRecDepth 100000 in
theorem c_forget (l : Launch) (G : Gx) (a : Nat → Nat) (Bz : BS) : CtI l G 35 a (EB G a) yX2_forget cX2_forget 2 (some .int) 0 0 [.ref (a 0)] Bz (fun v u => v = (spForget Bz.1).1 ∧ (spForget Bz.1).2 = u.1) := by
  refine ent_of (by decide) (Nat.le_of_ble_eq_true rfl) ?_
  intro p e s m below meth c ls C h hS hret hlk hl
  have C : Cx p s m _ c cX2_forget RX2 2 G := C
  have hx := C.1
  have hb := C.2.1
  have hl : lv_has ls 2 [(0, .ref (a 0))] := hl
  refine lv_aload_n hx hb dX2_forget_0 rfl (lv_at hl 0 rfl) ?_
  refine fg_X2_26 C h dX2_forget_1 ?_
  refine fg_X2_108 C h dX2_forget_4 ?_
  refine lv_istore_n (lv' := [(1, .int (nI (sNs Bz.1))), (0, .ref (a 0))]) hx hb dX2_forget_7 rfl hl (by decide) rfl (fun ls hl => ?_)
  refine lv_aload_n hx hb dX2_forget_8 rfl (lv_at hl 1 rfl) ?_
  refine fg_X2_26 C h dX2_forget_9 ?_
  refine lv_iconst (v := nI 0) hx hb dX2_forget_12 (by decide) ?_
  refine fp_X2_108 C h hS dX2_forget_13 (fun H locs h hS => ?_)
  refine lv_iload_n hx hb dX2_forget_16 rfl (lv_at hl 0 rfl) ?_
  exact eI C hret hlk ((uNs Bz.1 0, Bz.2)) h hS (⟨rfl, rfl⟩) dX2_forget_17

set_option maxHeartbeats 4000000 in
set_option maxRecDepth 100000 in
theorem c_rack (l : Launch) (G : Gx) (a : Nat → Nat) (Bz : BS) (xz yz : Int32) : CtI l G 35 a (EB G a) yX2_rack cX2_rack 4 (some .int) 1 21 [.ref (a 0), .int xz, .int yz] Bz (fun v u => Bz = u ∧ v = spRack Bz.1 xz yz) := by
  refine ent_of (by decide) (Nat.le_of_ble_eq_true rfl) ?_
  intro p e s m below meth c ls C h hS hret hlk hl
  have C : Cx p s m _ c cX2_rack RX2 4 G := C
  have hx := C.1
  have hb := C.2.1
  have hl : lv_has ls 4 [(0, .ref (a 0)), (1, .int xz), (2, .int yz)] := hl
  refine lv_aload_n hx hb dX2_rack_0 rfl (lv_at hl 0 rfl) ?_
  refine lv_iload_n hx hb dX2_rack_1 rfl (lv_at hl 1 rfl) ?_
  refine kQ (rV (As := [.int xz]) (rest := []) C h lk_X2_44 0 (by decide) rfl rfl rfl (c_rackAt l G a Bz xz) ⟨Nat.le_of_ble_eq_true rfl, Nat.le_of_ble_eq_true rfl⟩ hl.1 rfl rfl (Nat.le_of_ble_eq_true rfl) dX2_rack_2 ⟨Nat.zero_le _, Nat.zero_le _⟩) hS (fun rv u H locs hp h hS => ?_)
  obtain ⟨rfl, ⟨hrk, rfl⟩ | ⟨r, hr, rfl, hrk, rfl⟩⟩ := hp
  · skip
    refine lv_astore_nN (lv' := [(3, .null), (0, .ref (a 0)), (1, .int xz), (2, .int yz)]) hx hb dX2_rack_5 rfl hl (by decide) rfl (fun ls hl => ?_)
    refine lv_aload_nN hx hb dX2_rack_6 rfl (lv_at hl 0 rfl) ?_
    refine lv_ifnonnullN hx hb dX2_rack_7 ?_
    refine lv_iconst (v := -1) hx hb dX2_rack_10 (by decide) ?_
    exact eI C hret hlk (Bz) h hS (⟨rfl, by simp [spRack, hrk]⟩) dX2_rack_11
  · skip
    refine lv_astore_n (lv' := [(3, .ref (a (r + 11))), (0, .ref (a 0)), (1, .int (nI r)), (2, .int yz)]) hx hb dX2_rack_5 rfl hl (by decide) rfl (fun ls hl => ?_)
    refine lv_aload_n hx hb dX2_rack_6 rfl (lv_at hl 0 rfl) ?_
    refine lv_ifnonnull (tgt := 12) hx hb dX2_rack_7 (by decide) ?_
    refine lv_iload_n hx hb dX2_rack_12 rfl (lv_at hl 3 rfl) ?_
    by_cases h0 : yz = nI 0
    · refine lv_lookup (off := 27) (tgt := 40) hx hb dX2_rack_13 (by decide) (by rw [h0]; decide) (by decide) ?_
      refine lv_aload_n hx hb dX2_rack_40 rfl (lv_at hl 0 rfl) ?_
      refine fg_X2_52 C h (by first | assumption | omega) dX2_rack_41 ?_
      exact eI C hret hlk (Bz) h hS (⟨rfl, by unfold spRack; rw [hrk]; simp only; rw [if_pos h0]⟩) dX2_rack_44
    by_cases h1 : yz = nI 1
    · refine lv_lookup (off := 32) (tgt := 45) hx hb dX2_rack_13 (by decide) (by rw [h1]; decide) (by decide) ?_
      refine lv_aload_n hx hb dX2_rack_45 rfl (lv_at hl 0 rfl) ?_
      refine fg_X2_94 C h (by first | assumption | omega) dX2_rack_46 ?_
      exact eI C hret hlk (Bz) h hS (⟨rfl, by unfold spRack; rw [hrk]; simp only; rw [if_neg h0, if_pos h1]⟩) dX2_rack_49
    · refine lv_lookup (off := 37) (tgt := 50) hx hb dX2_rack_13 (by decide) ((lv_osw (k := nI 0) h0 rfl).trans (lv_osw (k := nI 1) h1 rfl)) (by decide) ?_
      refine lv_iconst (v := -1) hx hb dX2_rack_50 (by decide) ?_
      exact eI C hret hlk (Bz) h hS (⟨rfl, by unfold spRack; rw [hrk]; simp only; rw [if_neg h0, if_neg h1]⟩) dX2_rack_51

theorem ix_out {x : Int32} {n : Nat} (hn : n < 2 ^ 31) (h : ix x n = none) : x.toInt < 0 ∨ (n : Int) - 1 < x.toInt := by
  by_cases h1 : x < 0
  · rw [Int32.lt_iff_toInt_lt] at h1; exact Or.inl h1
  · by_cases h2 : nI n ≤ x
    · rw [Int32.le_iff_toInt_le, nI_toInt hn] at h2
      exact Or.inr (by omega)
    · obtain ⟨r, _, _, h3⟩ := ix_of hn h1 h2
      rw [h] at h3; cases h3

set_option maxHeartbeats 4000000 in
set_option maxRecDepth 100000 in
theorem c_about (l : Launch) (G : Gx) (a : Nat → Nat) (Bz : BS) (yz : Int32) : CtI l G 35 a (EB G a) yX2_about cX2_about 2 (some .int) 0 0 [.ref (a 0), .int yz] Bz (fun v u => Bz = u ∧ v = spAbout Bz.1 yz) := by
  refine ent_of (by decide) (Nat.le_of_ble_eq_true rfl) ?_
  intro p e s m below meth c ls C h hS hret hlk hl
  have C : Cx p s m _ c cX2_about RX2 2 G := C
  have hx := C.1
  have hb := C.2.1
  have hl : lv_has ls 2 [(0, .ref (a 0)), (1, .int yz)] := hl
  refine lv_iload_n hx hb dX2_about_0 rfl (lv_at hl 1 rfl) ?_
  rcases ix_cases yz (n := 9) (by decide) with hy | ⟨j, hj, hyj, hy⟩
  · refine lv_tableOut (tgt := 110) hx hb dX2_about_1 (ix_out (by decide) hy) (by decide) ?_
    refine lv_iconst (v := -1) hx hb dX2_about_110 (by decide) ?_
    exact eI C hret hlk (Bz) h hS (⟨rfl, by unfold spAbout; rw [hy] <;> rfl⟩) dX2_about_111
  · subst hyj
    rcases (show j = 0 ∨ j = 1 ∨ j = 2 ∨ j = 3 ∨ j = 4 ∨ j = 5 ∨ j = 6 ∨ j = 7 ∨ j = 8 by omega) with rfl | rfl | rfl | rfl | rfl | rfl | rfl | rfl | rfl
    · refine lv_tableIn (off := 51) (tgt := 52) hx hb dX2_about_1 (by decide) (by decide) (by decide) (by decide) ?_
      refine lv_aload_n hx hb dX2_about_52 rfl (lv_at hl 0 rfl) ?_
      refine fg_X2_37 C h dX2_about_53 ?_
      exact eI C hret hlk (Bz) h hS (⟨rfl, by unfold spAbout; rw [hy] <;> rfl⟩) dX2_about_56
    · refine lv_tableIn (off := 56) (tgt := 57) hx hb dX2_about_1 (by decide) (by decide) (by decide) (by decide) ?_
      refine lv_aload_n hx hb dX2_about_57 rfl (lv_at hl 0 rfl) ?_
      refine fg_X2_30 C h dX2_about_58 ?_
      refine lv_iconst (v := nI 1) hx hb dX2_about_61 (by decide) ?_
      refine al_mv C h (by first | assumption | omega) dX2_about_62 ?_
      exact eI C hret hlk (Bz) h hS (⟨rfl, by unfold spAbout; rw [hy] <;> rfl⟩) dX2_about_63
    · refine lv_tableIn (off := 63) (tgt := 64) hx hb dX2_about_1 (by decide) (by decide) (by decide) (by decide) ?_
      refine lv_aload_n hx hb dX2_about_64 rfl (lv_at hl 0 rfl) ?_
      refine fg_X2_30 C h dX2_about_65 ?_
      refine lv_iconst (v := nI 2) hx hb dX2_about_68 (by decide) ?_
      refine al_mv C h (by first | assumption | omega) dX2_about_69 ?_
      exact eI C hret hlk (Bz) h hS (⟨rfl, by unfold spAbout; rw [hy] <;> rfl⟩) dX2_about_70
    · refine lv_tableIn (off := 70) (tgt := 71) hx hb dX2_about_1 (by decide) (by decide) (by decide) (by decide) ?_
      refine lv_aload_n hx hb dX2_about_71 rfl (lv_at hl 0 rfl) ?_
      refine fg_X2_30 C h dX2_about_72 ?_
      refine lv_iconst (v := nI 3) hx hb dX2_about_75 (by decide) ?_
      refine al_mv C h (by first | assumption | omega) dX2_about_76 ?_
      exact eI C hret hlk (Bz) h hS (⟨rfl, by unfold spAbout; rw [hy] <;> rfl⟩) dX2_about_77
    · refine lv_tableIn (off := 77) (tgt := 78) hx hb dX2_about_1 (by decide) (by decide) (by decide) (by decide) ?_
      refine lv_aload_n hx hb dX2_about_78 rfl (lv_at hl 0 rfl) ?_
      refine fg_X2_30 C h dX2_about_79 ?_
      refine lv_iconst (v := nI 4) hx hb dX2_about_82 (by decide) ?_
      refine al_mv C h (by first | assumption | omega) dX2_about_83 ?_
      exact eI C hret hlk (Bz) h hS (⟨rfl, by unfold spAbout; rw [hy] <;> rfl⟩) dX2_about_84
    · refine lv_tableIn (off := 84) (tgt := 85) hx hb dX2_about_1 (by decide) (by decide) (by decide) (by decide) ?_
      refine lv_aload_n hx hb dX2_about_85 rfl (lv_at hl 0 rfl) ?_
      refine fg_X2_30 C h dX2_about_86 ?_
      refine lv_iconst (v := nI 0) hx hb dX2_about_89 (by decide) ?_
      refine al_mv C h (by first | assumption | omega) dX2_about_90 ?_
      exact eI C hret hlk (Bz) h hS (⟨rfl, by unfold spAbout; rw [hy] <;> rfl⟩) dX2_about_91
    · refine lv_tableIn (off := 91) (tgt := 92) hx hb dX2_about_1 (by decide) (by decide) (by decide) (by decide) ?_
      refine lv_aload_n hx hb dX2_about_92 rfl (lv_at hl 0 rfl) ?_
      refine fg_X2_33 C h dX2_about_93 ?_
      exact eI C hret hlk (Bz) h hS (⟨rfl, by unfold spAbout; rw [hy] <;> rfl⟩) dX2_about_96
    · refine lv_tableIn (off := 96) (tgt := 97) hx hb dX2_about_1 (by decide) (by decide) (by decide) (by decide) ?_
      refine lv_aload_n hx hb dX2_about_97 rfl (lv_at hl 0 rfl) ?_
      refine fg_X2_26 C h dX2_about_98 ?_
      refine fg_X2_108 C h dX2_about_101 ?_
      exact eI C hret hlk (Bz) h hS (⟨rfl, by unfold spAbout; rw [hy] <;> rfl⟩) dX2_about_104
    · refine lv_tableIn (off := 104) (tgt := 105) hx hb dX2_about_1 (by decide) (by decide) (by decide) (by decide) ?_
      refine lv_aload_n hx hb dX2_about_105 rfl (lv_at hl 0 rfl) ?_
      refine fg_X2_40 C h dX2_about_106 ?_
      exact eI C hret hlk (Bz) h hS (⟨rfl, by unfold spAbout; rw [hy] <;> rfl⟩) dX2_about_109
end
section
/-! the reference's state beside the loom's -/
def RM (M : MS) : Prop := (∀ r p, r < 8 → p < sPl M.1 r → mF M (40 * r + p) = sCe M.1 r p) ∧ (∀ k, 1 ≤ k → k ≤ 4 → mC M k = sMv M.1 k) ∧ mC M 5 = sMv M.1 0 ∧ (∀ t j, t < 5 → j < 24 → mP M (5 * j + t) = sPt M.1 t j)
/-- what of two states the reference's world shows -/
def MEq (M M' : MS) : Prop := (∀ r, r < 8 → sKd M.1 r = sKd M'.1 r ∧ sPl M.1 r = sPl M'.1 r) ∧ sNb M.1 = sNb M'.1 ∧ (∀ j, j < 200 → sCo M.1 j = sCo M'.1 j) ∧ (∀ j, j < 200 → sPe M.1 j = sPe M'.1 j) ∧ sNs M.1 = sNs M'.1 ∧ sCm M.1 = sCm M'.1 ∧ sWv M.1 = sWv M'.1 ∧ (∀ j, j < 320 → mF M j = mF M' j) ∧ (∀ j, j < 320 → mB M j = mB M' j) ∧ (∀ j, j < 40 → mA M j = mA M' j) ∧ (∀ j, j < 6 → mC M j = mC M' j) ∧ (∀ j, j < 120 → mP M j = mP M' j)
theorem HM_eq {G : Gx} {a : Nat → Nat} {M M' : MS} {H : Heap} (h : HW G.1 10 a (EM G a M) H) (he : MEq M M') : HW G.1 10 a (EM G a M') H := by
  obtain ⟨h1, h2, h3, h4, h5, h6, h7, h8, h9, h10, h11, h12⟩ := he
  refine h.eqA ?_
  intro k hk
  match k, hk with
  | 0, _ => intro x; simp only [EM] at x ⊢; rw [← h2, ← h5, ← h6, ← h7]; exact x
  | 1, _ => exact at_i (fun j hj => by rw [(h1 j hj).1])
  | 2, _ => exact at_i (fun j hj => by rw [(h1 j hj).2])
  | 3, _ => exact at_l h8
  | 4, _ => exact at_l h9
  | 5, _ => exact at_l h10
  | 6, _ => exact at_i h3
  | 7, _ => exact at_i h4
  | 8, _ => exact at_i h12
  | 9, _ => exact at_i h11
  | k + 10, h => exact absurd h (by omega)
theorem RM_put {M : MS} (hI : Inv M.1) (hR : RM M) {r q : Nat} (hr : r < 8) (hq : q < 40) (v : Int64) : RM (putC M.1 r q v, vp_updL (mF M) (40 * r + q) v, mB M, mA M, mC M, mP M) := by
  refine ⟨fun t p ht hp => ?_, hR.2.1, hR.2.2.1, hR.2.2.2⟩
  have hp : p < sPl M.1 t := hp
  have hl := (hI.1 t ht).2
  show vp_updL (mF M) (40 * r + q) v (40 * t + p) = va_up (sCe M.1) r (vp_updL (sCe M.1 r) q v) t p
  by_cases e : t = r
  · subst e
    rw [va_up_self]
    by_cases e2 : p = q
    · subst e2; simp [vp_updL]
    · simp only [vp_updL, if_neg e2, if_neg (show ¬ 40 * t + p = 40 * t + q by omega)]
      exact hR.1 t p ht hp
  · rw [va_up_ne _ _ e]
    simp only [vp_updL, if_neg (show ¬ 40 * t + p = 40 * r + q by omega)]
    exact hR.1 t p ht hp
theorem RM_hold {M : MS} (hI : Inv M.1) (hR : RM M) {r k n : Nat} (hr : r < 8) (hn : n ≤ 40) {g : Nat → Int64} (hg : ∀ t, t < n → g (40 * r + t) = blk k) (ho : ∀ i, (i < 40 * r ∨ 40 * r + 40 ≤ i) → g i = mF M i) : RM (holdS M.1 r k n, g, mB M, mA M, mC M, mP M) := by
  refine ⟨fun t p ht hp => ?_, hR.2.1, hR.2.2.1, hR.2.2.2⟩
  have hp : p < va_up (sPl M.1) r n t := hp
  have hl := (hI.1 t ht).2
  show g (40 * t + p) = va_up (sCe M.1) r (fun _ => blk k) t p
  by_cases e : t = r
  · subst e
    rw [va_up_self] at hp ⊢
    exact hg p hp
  · rw [va_up_ne _ _ e] at hp ⊢
    rw [ho _ (by omega)]
    exact hR.1 t p ht hp
theorem char_fit (v : Int64) : v &&& 65535 = fit 3 v := by
  show v &&& 65535 = ((v.toInt32.toUInt32 % 65536).toInt32).toInt64
  apply Int64.toBitVec_inj.mp
  apply BitVec.eq_of_toNat_eq
  have h1 : (v &&& 65535).toBitVec.toNat = v.toBitVec.toNat % 65536 := by
    rw [Int64.toBitVec_and, BitVec.toNat_and, show (65535 : Int64).toBitVec.toNat = 2 ^ 16 - 1 from rfl, Nat.and_two_pow_sub_one_eq_mod]
  rw [h1, pk_char]
  have h2 : v.toInt32.toBitVec.toNat = v.toBitVec.toNat % 2 ^ 32 := by
    rw [Int64.toBitVec_toInt32, BitVec.signExtend_eq_setWidth_of_le _ (by decide), BitVec.toNat_setWidth]
  rw [h2, Nat.mod_mod_of_dvd _ (by decide), nI_l (by omega)]
  show _ = (BitVec.ofNat 64 _).toNat
  rw [BitVec.toNat_ofNat]
  omega
end
section
set_option maxHeartbeats 4000000 in
set_option maxRecDepth 100000 in
theorem c3_isRack (l : Launch) (G : Gx) (a : Nat → Nat) (Mz : MS) (xz : Int32) : CtI l G 10 a (EM G a) yX3_isRack cX3_isRack 1 (some .boolean) 0 0 [.int xz] Mz (fun v u => Mz = u ∧ v = b2i (¬ ix xz 8 = none)) := by
  refine ent_of (by decide) (Nat.le_of_ble_eq_true rfl) ?_
  intro p e s m below meth c ls C h hS hret hlk hl
  have C : Cx p s m _ c cX3_isRack RX3 1 G := C
  have hx := C.1
  have hb := C.2.1
  have hl : lv_has ls 1 [(0, .int xz)] := hl
  refine lv_iload_n hx hb dX3_isRack_0 rfl (lv_at hl 0 rfl) ?_
  refine lv_if_lt (tgt := 14) hx hb dX3_isRack_1 (by decide) (fun c1 => ?_) (fun c1 => ?_)
  · skip
    refine lv_iconst (v := nI 0) hx hb dX3_isRack_14 (by decide) ?_
    exact eZ C hret hlk (Mz) h hS (rfl) (⟨rfl, (b2i_f (fun q => q (ix_neg c1))).symm⟩) dX3_isRack_15
  · skip
    refine lv_iload_n hx hb dX3_isRack_4 rfl (lv_at hl 0 rfl) ?_
    refine lv_bipush (v := nI 8) hx hb dX3_isRack_5 (by decide) ?_
    refine lv_icmp_ge (tgt := 14) hx hb dX3_isRack_7 (by decide) (fun c7 => ?_) (fun c7 => ?_)
    · skip
      refine lv_iconst (v := nI 0) hx hb dX3_isRack_14 (by decide) ?_
      exact eZ C hret hlk (Mz) h hS (rfl) (⟨rfl, (b2i_f (fun q => q (ix_ge c7))).symm⟩) dX3_isRack_15
    · skip
      refine lv_iconst (v := nI 1) hx hb dX3_isRack_10 (by decide) ?_
      refine lv_goto (tgt := 15) hx hb dX3_isRack_11 (by decide) ?_
      exact eZ C hret hlk (Mz) h hS (rfl) (⟨rfl, (b2i_t (by obtain ⟨j, _, _, hj⟩ := ix_of (by decide) c1 c7; rw [hj]; exact fun q => by cases q)).symm⟩) dX3_isRack_15

set_option maxHeartbeats 4000000 in
set_option maxRecDepth 100000 in
theorem c3_hasRow (l : Launch) (G : Gx) (a : Nat → Nat) (Mz : MS) (hI : Inv Mz.1) (xz : Int32) : CtI l G 10 a (EM G a) yX3_hasRow cX3_hasRow 2 (some .boolean) 1 20 [.ref (a 0), .int xz] Mz (fun v u => Mz = u ∧ v = b2i (¬ row Mz.1 xz = none)) := by
  refine ent_of (by decide) (Nat.le_of_ble_eq_true rfl) ?_
  intro p e s m below meth c ls C h hS hret hlk hl
  have C : Cx p s m _ c cX3_hasRow RX3 2 G := C
  have hx := C.1
  have hb := C.2.1
  have hl : lv_has ls 2 [(0, .ref (a 0)), (1, .int xz)] := hl
  refine lv_iload_n hx hb dX3_hasRow_0 rfl (lv_at hl 1 rfl) ?_
  refine kI (rS (As := [.int xz]) (rest := []) C h lk_X3_39 (c3_isRack l G a Mz xz) ⟨Nat.le_of_ble_eq_true rfl, Nat.le_of_ble_eq_true rfl⟩ hl.1 rfl rfl (Nat.le_of_ble_eq_true rfl) dX3_hasRow_1 ⟨Nat.zero_le _, Nat.zero_le _⟩) hS (fun rv u H locs hp h hS => ?_)
  obtain ⟨rfl, rfl⟩ := hp
  rcases ix_cases xz (n := 8) (by decide) with hrk | ⟨r, hr, rfl, hrk⟩
  · refine lw_ti (b2i_f (fun z => z hrk)) ?_
    refine lv_if_eq (tgt := 31) hx hb dX3_hasRow_4 (by decide) (fun _ => ?_) (fun c0 => absurd c0 (by decide))
    refine lv_iconst (v := nI 0) hx hb dX3_hasRow_31 (by decide) ?_
    exact eZ C hret hlk (Mz) h hS (rfl) (⟨rfl, (b2i_f (fun q => q (by simp [row, hrk]))).symm⟩) dX3_hasRow_32
  · refine lw_ti (b2i_t (by rw [hrk]; exact fun z => by cases z)) ?_
    refine lv_if_eq (tgt := 31) hx hb dX3_hasRow_4 (by decide) (fun c0 => absurd c0 (by decide)) (fun _ => ?_)
    have hk := (hI.1 r hr).1
    refine lv_aload_n hx hb dX3_hasRow_7 rfl (lv_at hl 0 rfl) ?_
    refine fg_X3_7 C h dX3_hasRow_8 ?_
    refine lv_iload_n hx hb dX3_hasRow_11 rfl (lv_at hl 1 rfl) ?_
    refine ml_kd C h (by first | assumption | omega) dX3_hasRow_12 ?_
    refine lv_if_le (tgt := 31) hx hb dX3_hasRow_13 (by decide) (fun c13 => ?_) (fun c13 => ?_)
    · skip
      refine lv_iconst (v := nI 0) hx hb dX3_hasRow_31 (by decide) ?_
      exact eZ C hret hlk (Mz) h hS (rfl) (⟨rfl, (b2i_f (by rw [show (0 : Int32) = nI 0 from rfl, nI_leI (by omega) (by decide)] at c13; simp [row, hrk]; omega)).symm⟩) dX3_hasRow_32
    · skip
      refine lv_aload_n hx hb dX3_hasRow_16 rfl (lv_at hl 0 rfl) ?_
      refine fg_X3_7 C h dX3_hasRow_17 ?_
      refine lv_iload_n hx hb dX3_hasRow_20 rfl (lv_at hl 1 rfl) ?_
      refine ml_kd C h (by first | assumption | omega) dX3_hasRow_21 ?_
      refine lv_bipush (v := nI 9) hx hb dX3_hasRow_22 (by decide) ?_
      refine lv_icmp_ge (tgt := 31) hx hb dX3_hasRow_24 (by decide) (fun c24 => ?_) (fun c24 => ?_)
      · skip
        refine lv_iconst (v := nI 0) hx hb dX3_hasRow_31 (by decide) ?_
        exact eZ C hret hlk (Mz) h hS (rfl) (⟨rfl, (b2i_f (by rw [nI_leI (by decide) (by omega)] at c24; simp [row, hrk]; omega)).symm⟩) dX3_hasRow_32
      · skip
        refine lv_iconst (v := nI 1) hx hb dX3_hasRow_27 (by decide) ?_
        refine lv_goto (tgt := 32) hx hb dX3_hasRow_28 (by decide) ?_
        exact eZ C hret hlk (Mz) h hS (rfl) (⟨rfl, (b2i_t (by rw [show (0 : Int32) = nI 0 from rfl, nI_leI (by omega) (by decide)] at c13; rw [nI_leI (by decide) (by omega)] at c24; simp [row, hrk]; omega)).symm⟩) dX3_hasRow_32

set_option maxHeartbeats 4000000 in
set_option maxRecDepth 100000 in
theorem c3_isNumbers (l : Launch) (G : Gx) (a : Nat → Nat) (Mz : MS) (r : Nat) (hr : r < 8) (hk : sKd Mz.1 r ≤ 9) : CtI l G 10 a (EM G a) yX3_isNumbers cX3_isNumbers 2 (some .boolean) 0 0 [.ref (a 0), .int (nI r)] Mz (fun v u => Mz = u ∧ v = b2i (sKd Mz.1 r < 6)) := by
  refine ent_of (by decide) (Nat.le_of_ble_eq_true rfl) ?_
  intro p e s m below meth c ls C h hS hret hlk hl
  have C : Cx p s m _ c cX3_isNumbers RX3 2 G := C
  have hx := C.1
  have hb := C.2.1
  have hl : lv_has ls 2 [(0, .ref (a 0)), (1, .int (nI r))] := hl
  refine lv_aload_n hx hb dX3_isNumbers_0 rfl (lv_at hl 0 rfl) ?_
  refine fg_X3_7 C h dX3_isNumbers_1 ?_
  refine lv_iload_n hx hb dX3_isNumbers_4 rfl (lv_at hl 1 rfl) ?_
  refine ml_kd C h (by first | assumption | omega) dX3_isNumbers_5 ?_
  refine lv_bipush (v := nI 6) hx hb dX3_isNumbers_6 (by decide) ?_
  refine lv_icmp_ge (tgt := 15) hx hb dX3_isNumbers_8 (by decide) (fun c8 => ?_) (fun c8 => ?_)
  · skip
    refine lv_iconst (v := nI 0) hx hb dX3_isNumbers_15 (by decide) ?_
    exact eZ C hret hlk (Mz) h hS (rfl) (⟨rfl, (b2i_f (by rw [nI_leI (by decide) (by omega)] at c8; omega)).symm⟩) dX3_isNumbers_16
  · skip
    refine lv_iconst (v := nI 1) hx hb dX3_isNumbers_11 (by decide) ?_
    refine lv_goto (tgt := 16) hx hb dX3_isNumbers_12 (by decide) ?_
    exact eZ C hret hlk (Mz) h hS (rfl) (⟨rfl, (b2i_t (by rw [nI_leI (by decide) (by omega)] at c8; omega)).symm⟩) dX3_isNumbers_16

set_option maxHeartbeats 4000000 in
set_option maxRecDepth 100000 in
theorem c3_isBeads (l : Launch) (G : Gx) (a : Nat → Nat) (Mz : MS) (r : Nat) (hr : r < 8) (hk : sKd Mz.1 r ≤ 9) : CtI l G 10 a (EM G a) yX3_isBeads cX3_isBeads 2 (some .boolean) 0 0 [.ref (a 0), .int (nI r)] Mz (fun v u => Mz = u ∧ v = b2i (sKd Mz.1 r = 7 ∨ sKd Mz.1 r = 8)) := by
  refine ent_of (by decide) (Nat.le_of_ble_eq_true rfl) ?_
  intro p e s m below meth c ls C h hS hret hlk hl
  have C : Cx p s m _ c cX3_isBeads RX3 2 G := C
  have hx := C.1
  have hb := C.2.1
  have hl : lv_has ls 2 [(0, .ref (a 0)), (1, .int (nI r))] := hl
  refine lv_aload_n hx hb dX3_isBeads_0 rfl (lv_at hl 0 rfl) ?_
  refine fg_X3_7 C h dX3_isBeads_1 ?_
  refine lv_iload_n hx hb dX3_isBeads_4 rfl (lv_at hl 1 rfl) ?_
  refine ml_kd C h (by first | assumption | omega) dX3_isBeads_5 ?_
  refine lv_bipush (v := nI 7) hx hb dX3_isBeads_6 (by decide) ?_
  refine lv_icmp_eq (tgt := 22) hx hb dX3_isBeads_8 (by decide) (fun c8 => ?_) (fun c8 => ?_)
  · skip
    refine lv_iconst (v := nI 1) hx hb dX3_isBeads_22 (by decide) ?_
    refine lv_goto (tgt := 27) hx hb dX3_isBeads_23 (by decide) ?_
    exact eZ C hret hlk (Mz) h hS (rfl) (⟨rfl, (b2i_t (Or.inl ((nI_eq (by omega) (by decide)).mp c8))).symm⟩) dX3_isBeads_27
  · skip
    refine lv_aload_n hx hb dX3_isBeads_11 rfl (lv_at hl 0 rfl) ?_
    refine fg_X3_7 C h dX3_isBeads_12 ?_
    refine lv_iload_n hx hb dX3_isBeads_15 rfl (lv_at hl 1 rfl) ?_
    refine ml_kd C h (by first | assumption | omega) dX3_isBeads_16 ?_
    refine lv_bipush (v := nI 8) hx hb dX3_isBeads_17 (by decide) ?_
    refine lv_icmp_ne (tgt := 26) hx hb dX3_isBeads_19 (by decide) (fun c19 => ?_) (fun c19 => ?_)
    · skip
      refine lv_iconst (v := nI 0) hx hb dX3_isBeads_26 (by decide) ?_
      exact eZ C hret hlk (Mz) h hS (rfl) (⟨rfl, (b2i_f (by rw [nI_eq (by omega) (by decide)] at c8 c19; omega)).symm⟩) dX3_isBeads_27
    · skip
      refine lv_iconst (v := nI 1) hx hb dX3_isBeads_22 (by decide) ?_
      refine lv_goto (tgt := 27) hx hb dX3_isBeads_23 (by decide) ?_
      exact eZ C hret hlk (Mz) h hS (rfl) (⟨rfl, (b2i_t (Or.inr ((nI_eq (by omega) (by decide)).mp c19))).symm⟩) dX3_isBeads_27

theorem row_cases {S : St} (x : Int32) : row S x = none ∨ ∃ r, r < 8 ∧ x = nI r ∧ row S x = some r ∧ ¬ sKd S r = 0 ∧ ¬ sKd S r = 9 := by
  rcases ix_cases x (n := 8) (by decide) with h | ⟨r, hr, rfl, h⟩
  · left; simp [row, h]
  · by_cases h2 : sKd S r = 0 ∨ sKd S r = 9
    · left; simp [row, h, h2]
    · right; exact ⟨r, hr, rfl, by simp [row, h, h2], fun z => h2 (Or.inl z), fun z => h2 (Or.inr z)⟩

set_option maxHeartbeats 4000000 in
set_option maxRecDepth 100000 in
theorem c3_isPlace (l : Launch) (G : Gx) (a : Nat → Nat) (Mz : MS) (hI : Inv Mz.1) (xz pz : Int32) : CtI l G 10 a (EM G a) yX3_isPlace cX3_isPlace 3 (some .boolean) 2 41 [.ref (a 0), .int xz, .int pz] Mz (fun v u => Mz = u ∧ v = b2i (∃ r q, row Mz.1 xz = some r ∧ ix pz (sPl Mz.1 r) = some q)) := by
  refine ent_of (by decide) (Nat.le_of_ble_eq_true rfl) ?_
  intro p e s m below meth c ls C h hS hret hlk hl
  have C : Cx p s m _ c cX3_isPlace RX3 3 G := C
  have hx := C.1
  have hb := C.2.1
  have hl : lv_has ls 3 [(0, .ref (a 0)), (1, .int xz), (2, .int pz)] := hl
  refine lv_aload_n hx hb dX3_isPlace_0 rfl (lv_at hl 0 rfl) ?_
  refine lv_iload_n hx hb dX3_isPlace_1 rfl (lv_at hl 1 rfl) ?_
  refine kI (rV (As := [.int xz]) (rest := []) C h lk_X3_43 0 (by decide) rfl rfl rfl (c3_hasRow l G a Mz hI xz) ⟨Nat.le_of_ble_eq_true rfl, Nat.le_of_ble_eq_true rfl⟩ hl.1 rfl rfl (Nat.le_of_ble_eq_true rfl) dX3_isPlace_2 ⟨Nat.zero_le _, Nat.zero_le _⟩) hS (fun rv u H locs hp h hS => ?_)
  obtain ⟨rfl, rfl⟩ := hp
  rcases row_cases (S := Mz.1) xz with hrk | ⟨r, hr, rfl, hrk, hrk0, hrk9⟩
  · refine lw_ti (b2i_f (fun z => z hrk)) ?_
    refine lv_if_eq (tgt := 26) hx hb dX3_isPlace_5 (by decide) (fun _ => ?_) (fun c0 => absurd c0 (by decide))
    refine lv_iconst (v := nI 0) hx hb dX3_isPlace_26 (by decide) ?_
    exact eZ C hret hlk (Mz) h hS (rfl) (⟨rfl, (b2i_f (by rintro ⟨t, q, z, _⟩; rw [hrk] at z; cases z)).symm⟩) dX3_isPlace_27
  · refine lw_ti (b2i_t (by rw [hrk]; exact fun z => by cases z)) ?_
    refine lv_if_eq (tgt := 26) hx hb dX3_isPlace_5 (by decide) (fun c0 => absurd c0 (by decide)) (fun _ => ?_)
    have lr := (hI.1 r hr).2
    refine lv_iload_n hx hb dX3_isPlace_8 rfl (lv_at hl 2 rfl) ?_
    refine lv_if_lt (tgt := 26) hx hb dX3_isPlace_9 (by decide) (fun c9 => ?_) (fun c9 => ?_)
    · skip
      refine lv_iconst (v := nI 0) hx hb dX3_isPlace_26 (by decide) ?_
      exact eZ C hret hlk (Mz) h hS (rfl) (⟨rfl, (b2i_f (by rintro ⟨t, q, z, z2⟩; rw [hrk] at z; cases z; rw [ix_neg c9] at z2; cases z2)).symm⟩) dX3_isPlace_27
    · skip
      refine lv_iload_n hx hb dX3_isPlace_12 rfl (lv_at hl 2 rfl) ?_
      refine lv_aload_n hx hb dX3_isPlace_13 rfl (lv_at hl 0 rfl) ?_
      refine fg_X3_13 C h dX3_isPlace_14 ?_
      refine lv_iload_n hx hb dX3_isPlace_17 rfl (lv_at hl 1 rfl) ?_
      refine ml_pl C h (by first | assumption | omega) dX3_isPlace_18 ?_
      refine lv_icmp_ge (tgt := 26) hx hb dX3_isPlace_19 (by decide) (fun c19 => ?_) (fun c19 => ?_)
      · skip
        refine lv_iconst (v := nI 0) hx hb dX3_isPlace_26 (by decide) ?_
        exact eZ C hret hlk (Mz) h hS (rfl) (⟨rfl, (b2i_f (by rintro ⟨t, q, z, z2⟩; rw [hrk] at z; cases z; rw [ix_ge c19] at z2; cases z2)).symm⟩) dX3_isPlace_27
      · skip
        refine lv_iconst (v := nI 1) hx hb dX3_isPlace_22 (by decide) ?_
        refine lv_goto (tgt := 27) hx hb dX3_isPlace_23 (by decide) ?_
        exact eZ C hret hlk (Mz) h hS (rfl) (⟨rfl, (b2i_t (by obtain ⟨j, _, _, hj⟩ := ix_of (by omega) c9 c19; exact ⟨r, j, hrk, hj⟩)).symm⟩) dX3_isPlace_27

set_option maxHeartbeats 4000000 in
set_option maxRecDepth 100000 in
theorem c3_isBead (l : Launch) (G : Gx) (a : Nat → Nat) (Mz : MS) (hk : sNb Mz.1 ≤ 200) (xz : Int64) : CtI l G 10 a (EM G a) yX3_isBead cX3_isBead 3 (some .boolean) 0 0 [.ref (a 0), .long xz] Mz (fun v u => Mz = u ∧ v = b2i (¬ ixl xz (sNb Mz.1) = none)) := by
  refine ent_of (by decide) (Nat.le_of_ble_eq_true rfl) ?_
  intro p e s m below meth c ls C h hS hret hlk hl
  have C : Cx p s m _ c cX3_isBead RX3 3 G := C
  have hx := C.1
  have hb := C.2.1
  have hl : lv_has ls 3 [(0, .ref (a 0)), (1, .long xz)] := hl
  refine lv_lload_n hx hb dX3_isBead_0 rfl (lv_at hl 1 rfl) ?_
  refine lv_lconst (v := lN 0) hx hb dX3_isBead_1 rfl ?_
  refine W.lcmp hx hb dX3_isBead_2 ?_
  refine lv_if_lt (tgt := 20) hx hb dX3_isBead_3 (by decide) (fun c3 => ?_) (fun c3 => ?_)
  · have c3 := (lg_cmp_lt _ _).mp c3
    refine lv_iconst (v := nI 0) hx hb dX3_isBead_20 (by decide) ?_
    exact eZ C hret hlk (Mz) h hS (rfl) (⟨rfl, (b2i_f (fun q => q (ixl_neg c3))).symm⟩) dX3_isBead_21
  · have c3 : ¬ xz < (lN 0) := fun q => c3 ((lg_cmp_lt _ _).mpr q)
    refine lv_lload_n hx hb dX3_isBead_6 rfl (lv_at hl 1 rfl) ?_
    refine lv_aload_n hx hb dX3_isBead_7 rfl (lv_at hl 0 rfl) ?_
    refine fg_X3_46 C h dX3_isBead_8 ?_
    refine lv_i2l hx hb dX3_isBead_11 rfl ?_
    refine lw_tl (nI_l (by omega)) ?_
    refine W.lcmp hx hb dX3_isBead_12 ?_
    refine lv_if_ge (tgt := 20) hx hb dX3_isBead_13 (by decide) (fun c13 => ?_) (fun c13 => ?_)
    · have c13 := (lg_cmp_ge _ _).mp c13
      refine lv_iconst (v := nI 0) hx hb dX3_isBead_20 (by decide) ?_
      exact eZ C hret hlk (Mz) h hS (rfl) (⟨rfl, (b2i_f (fun q => q (ixl_ge c13))).symm⟩) dX3_isBead_21
    · have c13 : ¬ (lN (sNb Mz.1)) ≤ xz := fun q => c13 ((lg_cmp_ge _ _).mpr q)
      refine lv_iconst (v := nI 1) hx hb dX3_isBead_16 (by decide) ?_
      refine lv_goto (tgt := 21) hx hb dX3_isBead_17 (by decide) ?_
      exact eZ C hret hlk (Mz) h hS (rfl) (⟨rfl, (b2i_t (by obtain ⟨j, _, _, hj⟩ := ixl_of (by omega) c3 c13; rw [hj]; exact fun q => by cases q)).symm⟩) dX3_isBead_21

set_option maxHeartbeats 4000000 in
set_option maxRecDepth 100000 in
theorem c3_nothing (l : Launch) (G : Gx) (a : Nat → Nat) (Mz : MS) (r : Nat) (hr : r < 8) (hk : sKd Mz.1 r ≤ 9) : CtL l G 10 a (EM G a) yX3_nothing cX3_nothing 2 (some .long) 1 21 [.ref (a 0), .int (nI r)] Mz (fun v u => Mz = u ∧ v = blk (sKd Mz.1 r)) := by
  refine ent_of (by decide) (Nat.le_of_ble_eq_true rfl) ?_
  intro p e s m below meth c ls C h hS hret hlk hl
  have C : Cx p s m _ c cX3_nothing RX3 2 G := C
  have hx := C.1
  have hb := C.2.1
  have hl : lv_has ls 2 [(0, .ref (a 0)), (1, .int (nI r))] := hl
  refine lv_aload_n hx hb dX3_nothing_0 rfl (lv_at hl 0 rfl) ?_
  refine lv_iload_n hx hb dX3_nothing_1 rfl (lv_at hl 1 rfl) ?_
  refine kI (rV (As := [.int (nI r)]) (rest := []) C h lk_X3_50 0 (by decide) rfl rfl rfl (c3_isBeads l G a Mz r hr hk) ⟨Nat.le_of_ble_eq_true rfl, Nat.le_of_ble_eq_true rfl⟩ hl.1 rfl rfl (Nat.le_of_ble_eq_true rfl) dX3_nothing_2 ⟨Nat.zero_le _, Nat.zero_le _⟩) hS (fun rv u H locs hp h hS => ?_)
  obtain ⟨rfl, rfl⟩ := hp
  by_cases hP : sKd Mz.1 r = 7 ∨ sKd Mz.1 r = 8
  · refine lw_ti (b2i_t hP) ?_
    refine lv_if_eq (tgt := 14) hx hb dX3_nothing_5 (by decide) (fun c0 => absurd c0 (by decide)) (fun _ => ?_)
    refine lv_ldc2 (v := -1) hx hb C.2.2.2.1 (C.2.2.2.2.1 _ (by decide +kernel)) dX3_nothing_8 ?_
    refine lv_goto (tgt := 15) hx hb dX3_nothing_11 (by decide) ?_
    exact eL C hret hlk (Mz) h hS (⟨rfl, (if_pos hP).symm⟩) dX3_nothing_15
  · refine lw_ti (b2i_f hP) ?_
    refine lv_if_eq (tgt := 14) hx hb dX3_nothing_5 (by decide) (fun _ => ?_) (fun c0 => absurd c0 (by decide))
    refine lv_lconst (v := lN 0) hx hb dX3_nothing_14 rfl ?_
    exact eL C hret hlk (Mz) h hS (⟨rfl, (if_neg hP).symm⟩) dX3_nothing_15

set_option maxHeartbeats 4000000 in
set_option maxRecDepth 100000 in
theorem c3_kept1 (l : Launch) (G : Gx) (a : Nat → Nat) (Mz : MS) (vz : Int64) : CtL l G 10 a (EM G a) yX3_kept cX3_kept 3 (some .long) 0 0 [.int (nI 1), .long vz] Mz (fun v u => Mz = u ∧ v = fit 1 vz) := by
  refine ent_of (by decide) (Nat.le_of_ble_eq_true rfl) ?_
  intro p e s m below meth c ls C h hS hret hlk hl
  have C : Cx p s m _ c cX3_kept RX3 3 G := C
  have hx := C.1
  have hb := C.2.1
  have hl : lv_has ls 3 [(0, .int (nI 1)), (1, .long vz)] := hl
  refine lv_iload_n hx hb dX3_kept_0 rfl (lv_at hl 0 rfl) ?_
  refine lv_tableIn (off := 35) (tgt := 36) hx hb dX3_kept_1 (by decide) (by decide) (by decide) (by decide) ?_
  refine lv_lload_n hx hb dX3_kept_36 rfl (lv_at hl 1 rfl) ?_
  refine lv_l2i hx hb dX3_kept_37 rfl ?_
  refine lv_i2b hx hb dX3_kept_38 rfl ?_
  refine lv_i2l hx hb dX3_kept_39 rfl ?_
  exact eL C hret hlk (Mz) h hS (⟨rfl, rfl⟩) dX3_kept_40

set_option maxHeartbeats 4000000 in
set_option maxRecDepth 100000 in
theorem c3_kept2 (l : Launch) (G : Gx) (a : Nat → Nat) (Mz : MS) (vz : Int64) : CtL l G 10 a (EM G a) yX3_kept cX3_kept 3 (some .long) 0 0 [.int (nI 2), .long vz] Mz (fun v u => Mz = u ∧ v = fit 2 vz) := by
  refine ent_of (by decide) (Nat.le_of_ble_eq_true rfl) ?_
  intro p e s m below meth c ls C h hS hret hlk hl
  have C : Cx p s m _ c cX3_kept RX3 3 G := C
  have hx := C.1
  have hb := C.2.1
  have hl : lv_has ls 3 [(0, .int (nI 2)), (1, .long vz)] := hl
  refine lv_iload_n hx hb dX3_kept_0 rfl (lv_at hl 0 rfl) ?_
  refine lv_tableIn (off := 40) (tgt := 41) hx hb dX3_kept_1 (by decide) (by decide) (by decide) (by decide) ?_
  refine lv_lload_n hx hb dX3_kept_41 rfl (lv_at hl 1 rfl) ?_
  refine lv_l2i hx hb dX3_kept_42 rfl ?_
  refine lv_i2s hx hb dX3_kept_43 rfl ?_
  refine lv_i2l hx hb dX3_kept_44 rfl ?_
  exact eL C hret hlk (Mz) h hS (⟨rfl, rfl⟩) dX3_kept_45

set_option maxHeartbeats 4000000 in
set_option maxRecDepth 100000 in
theorem c3_kept3 (l : Launch) (G : Gx) (a : Nat → Nat) (Mz : MS) (vz : Int64) : CtL l G 10 a (EM G a) yX3_kept cX3_kept 3 (some .long) 0 0 [.int (nI 3), .long vz] Mz (fun v u => Mz = u ∧ v = fit 3 vz) := by
  refine ent_of (by decide) (Nat.le_of_ble_eq_true rfl) ?_
  intro p e s m below meth c ls C h hS hret hlk hl
  have C : Cx p s m _ c cX3_kept RX3 3 G := C
  have hx := C.1
  have hb := C.2.1
  have hl : lv_has ls 3 [(0, .int (nI 3)), (1, .long vz)] := hl
  refine lv_iload_n hx hb dX3_kept_0 rfl (lv_at hl 0 rfl) ?_
  refine lv_tableIn (off := 45) (tgt := 46) hx hb dX3_kept_1 (by decide) (by decide) (by decide) (by decide) ?_
  refine lv_lload_n hx hb dX3_kept_46 rfl (lv_at hl 1 rfl) ?_
  refine lv_ldc2 (v := 65535) hx hb C.2.2.2.1 (C.2.2.2.2.1 _ (by decide +kernel)) dX3_kept_47 ?_
  refine lv_land hx hb dX3_kept_50 ?_
  exact eL C hret hlk (Mz) h hS (⟨rfl, char_fit vz⟩) dX3_kept_51

set_option maxHeartbeats 4000000 in
set_option maxRecDepth 100000 in
theorem c3_kept4 (l : Launch) (G : Gx) (a : Nat → Nat) (Mz : MS) (vz : Int64) : CtL l G 10 a (EM G a) yX3_kept cX3_kept 3 (some .long) 0 0 [.int (nI 4), .long vz] Mz (fun v u => Mz = u ∧ v = fit 4 vz) := by
  refine ent_of (by decide) (Nat.le_of_ble_eq_true rfl) ?_
  intro p e s m below meth c ls C h hS hret hlk hl
  have C : Cx p s m _ c cX3_kept RX3 3 G := C
  have hx := C.1
  have hb := C.2.1
  have hl : lv_has ls 3 [(0, .int (nI 4)), (1, .long vz)] := hl
  refine lv_iload_n hx hb dX3_kept_0 rfl (lv_at hl 0 rfl) ?_
  refine lv_tableIn (off := 51) (tgt := 52) hx hb dX3_kept_1 (by decide) (by decide) (by decide) (by decide) ?_
  refine lv_lload_n hx hb dX3_kept_52 rfl (lv_at hl 1 rfl) ?_
  refine lv_l2i hx hb dX3_kept_53 rfl ?_
  refine lv_i2l hx hb dX3_kept_54 rfl ?_
  exact eL C hret hlk (Mz) h hS (⟨rfl, rfl⟩) dX3_kept_55

set_option maxHeartbeats 4000000 in
set_option maxRecDepth 100000 in
theorem c3_kept5 (l : Launch) (G : Gx) (a : Nat → Nat) (Mz : MS) (vz : Int64) : CtL l G 10 a (EM G a) yX3_kept cX3_kept 3 (some .long) 0 0 [.int (nI 5), .long vz] Mz (fun v u => Mz = u ∧ v = fit 5 vz) := by
  refine ent_of (by decide) (Nat.le_of_ble_eq_true rfl) ?_
  intro p e s m below meth c ls C h hS hret hlk hl
  have C : Cx p s m _ c cX3_kept RX3 3 G := C
  have hx := C.1
  have hb := C.2.1
  have hl : lv_has ls 3 [(0, .int (nI 5)), (1, .long vz)] := hl
  refine lv_iload_n hx hb dX3_kept_0 rfl (lv_at hl 0 rfl) ?_
  refine lv_tableIn (off := 55) (tgt := 56) hx hb dX3_kept_1 (by decide) (by decide) (by decide) (by decide) ?_
  refine lv_lload_n hx hb dX3_kept_56 rfl (lv_at hl 1 rfl) ?_
  exact eL C hret hlk (Mz) h hS (⟨rfl, rfl⟩) dX3_kept_57

set_option maxHeartbeats 4000000 in
set_option maxRecDepth 100000 in
theorem c3_kept6 (l : Launch) (G : Gx) (a : Nat → Nat) (Mz : MS) (vz : Int64) : CtL l G 10 a (EM G a) yX3_kept cX3_kept 3 (some .long) 0 0 [.int (nI 6), .long vz] Mz (fun v u => Mz = u ∧ v = fit 6 vz) := by
  refine ent_of (by decide) (Nat.le_of_ble_eq_true rfl) ?_
  intro p e s m below meth c ls C h hS hret hlk hl
  have C : Cx p s m _ c cX3_kept RX3 3 G := C
  have hx := C.1
  have hb := C.2.1
  have hl : lv_has ls 3 [(0, .int (nI 6)), (1, .long vz)] := hl
  refine lv_iload_n hx hb dX3_kept_0 rfl (lv_at hl 0 rfl) ?_
  refine lv_tableOut (tgt := 58) hx hb dX3_kept_1 (by decide) (by decide) ?_
  refine lv_lload_n hx hb dX3_kept_58 rfl (lv_at hl 1 rfl) ?_
  refine lv_lconst (v := lN 0) hx hb dX3_kept_59 rfl ?_
  refine W.lcmp hx hb dX3_kept_60 ?_
  refine lv_if_ne (tgt := 68) hx hb dX3_kept_61 (by decide) (fun c61 => ?_) (fun c61 => ?_)
  · have c61 : ¬ vz = (lN 0) := fun q => c61 ((lg_cmp_eq _ _).mpr q)
    refine lv_lconst (v := lN 1) hx hb dX3_kept_68 rfl ?_
    exact eL C hret hlk (Mz) h hS (⟨rfl, (if_neg c61).symm⟩) dX3_kept_69
  · have c61 : vz = (lN 0) := (lg_cmp_eq _ _).mp c61
    refine lv_lconst (v := lN 0) hx hb dX3_kept_64 rfl ?_
    refine lv_goto (tgt := 69) hx hb dX3_kept_65 (by decide) ?_
    exact eL C hret hlk (Mz) h hS (⟨rfl, (if_pos c61).symm⟩) dX3_kept_69

theorem c3_kept (l : Launch) (G : Gx) (a : Nat → Nat) (Mz : MS) (k : Nat) (h1 : 1 ≤ k) (h6 : k ≤ 6) (vz : Int64) : CtL l G 10 a (EM G a) yX3_kept cX3_kept 3 (some .long) 0 0 [.int (nI k), .long vz] Mz (fun v u => Mz = u ∧ v = fit k vz) := by
  match k, h1, h6 with
  | 1, _, _ => exact c3_kept1 l G a Mz vz
  | 2, _, _ => exact c3_kept2 l G a Mz vz
  | 3, _, _ => exact c3_kept3 l G a Mz vz
  | 4, _, _ => exact c3_kept4 l G a Mz vz
  | 5, _, _ => exact c3_kept5 l G a Mz vz
  | 6, _, _ => exact c3_kept6 l G a Mz vz

set_option maxHeartbeats 4000000 in
set_option maxRecDepth 100000 in
theorem c3_become (l : Launch) (G : Gx) (a : Nat → Nat) (Mz : MS) (hI : Inv Mz.1) (hR : RM Mz) (r : Nat) (hr : r < 8) (k nz : Nat) (hk : k ≤ 9) (hnz : nz ≤ 40) : CtV l G 10 a (EM G a) yX3_become cX3_become 5 none 2 42 [.ref (a 0), .int (nI r), .int (nI k), .int (nI nz)] Mz (fun u => holdS Mz.1 r k nz = u.1 ∧ RM u) := by
  refine ent_of (by decide) (Nat.le_of_ble_eq_true rfl) ?_
  intro p e s m below meth c ls C h hS hret hlk hl
  have C : Cx p s m _ c cX3_become RX3 5 G := C
  have hx := C.1
  have hb := C.2.1
  have hl : lv_has ls 5 [(0, .ref (a 0)), (1, .int (nI r)), (2, .int (nI k)), (3, .int (nI nz))] := hl
  have lp : ∀ (n : Nat) (j : Nat) (g : Nat → Int64) (H : Heap) (locs : List Loc) (ls : Array Slot), (j ≤ nz) → (nz < j + n) → (∀ t, t < j → g (40 * r + t) = blk k) → (∀ i, (i < 40 * r ∨ 40 * r + 40 ≤ i) → g i = mF Mz i) →  HW G.1 10 a (EM G a ((uPl (uKd Mz.1 (va_up (sKd Mz.1) r k)) (va_up (sPl Mz.1) r nz), g, mB Mz, mA Mz, mC Mz, mP Mz))) H → va_S (Aw 10 a) s.heap H locs → lv_has ls 5 [(0, .ref (a 0)), (1, .int (nI r)), (2, .int (nI k)), (3, .int (nI nz)), (4, .int (nI j))] → W p l e (rmB 2 42) s m ([.ref (a 0), .int (nI r), .int (nI k), .int (nI nz)].toArray) below meth c H locs 0 0 (MQ below (va_Qv (fun u => holdS Mz.1 r k nz = u.1 ∧ RM u) (fun u t => HW G.1 10 a (EM G a u) t.heap) (Aw 10 a)) ([.ref (a 0), .int (nI r), .int (nI k), .int (nI nz)].toArray) s 0 0 (Aw 10 a)) (F0 m 17 ls []) := by
    intro n
    induction n with
    | zero =>
      intro j g H locs ls hj hn hg ho
      exact absurd hn (by omega)
    | succ n ih =>
      intro j g H locs ls hj hn hg ho h hS hl
      refine lv_iload hx hb dX3_become_17 (lv_at hl 4 rfl) ?_
      refine lv_iload_n hx hb dX3_become_19 rfl (lv_at hl 3 rfl) ?_
      refine lv_icmp_ge (tgt := 46) hx hb dX3_become_20 (by decide) (fun c20 => ?_) (fun c20 => ?_)
      · skip
        have hjn : j = nz := by rw [nI_leI (by omega) (by omega)] at c20; omega
        subst hjn
        exact eV C hret hlk (holdS Mz.1 r k j, g, mB Mz, mA Mz, mC Mz, mP Mz) h hS ⟨rfl, RM_hold hI hR hr hnz hg ho⟩ dX3_become_46
      · skip
        have hjn : j < nz := by rw [nI_leI (by omega) (by omega)] at c20; omega
        refine lv_aload_n hx hb dX3_become_23 rfl (lv_at hl 0 rfl) ?_
        refine fg_X3_16 C h dX3_become_24 ?_
        refine lv_bipush (v := nI 40) hx hb dX3_become_27 (by decide) ?_
        refine lv_iload_n hx hb dX3_become_29 rfl (lv_at hl 1 rfl) ?_
        refine lv_imul hx hb dX3_become_30 ?_
        refine lw_ti (show _ = nI (40 * r) from pk_mul _ _) ?_
        refine lv_iload hx hb dX3_become_31 (lv_at hl 4 rfl) ?_
        refine lv_iadd hx hb dX3_become_33 ?_
        refine lw_ti (show _ = nI (40 * r + j) from nI_add _ _) ?_
        refine lv_aload_n hx hb dX3_become_34 rfl (lv_at hl 0 rfl) ?_
        refine lv_iload_n hx hb dX3_become_35 rfl (lv_at hl 1 rfl) ?_
        refine kL (rV (As := [.int (nI r)]) (rest := [.int (nI (40 * r + j)), .ref (a 3)]) C h lk_X3_57 0 (by decide) rfl rfl rfl (c3_nothing l G a (uPl (uKd Mz.1 (va_up (sKd Mz.1) r k)) (va_up (sPl Mz.1) r nz), g, mB Mz, mA Mz, mC Mz, mP Mz) r hr (by show va_up (sKd Mz.1) r k r ≤ 9; rw [va_up_self]; exact hk)) ⟨Nat.le_of_ble_eq_true rfl, Nat.le_of_ble_eq_true rfl⟩ hl.1 rfl rfl (Nat.le_of_ble_eq_true rfl) dX3_become_36 ⟨Nat.zero_le _, Nat.zero_le _⟩) hS (fun rv u H locs hp h hS => ?_)
        obtain ⟨rfl, rfl⟩ := hp
        refine lw_tl (show blk (va_up (sKd Mz.1) r k r) = blk k from by rw [va_up_self]) ?_
        refine ms_ce C h hS (by first | assumption | omega) dX3_become_39 (fun H locs h hS => ?_)
        refine lv_iinc (v := nI (j + 1)) (lv' := [(4, .int (nI (j + 1))), (0, .ref (a 0)), (1, .int (nI r)), (2, .int (nI k)), (3, .int (nI nz))]) hx hb dX3_become_40 hl (k := 4) rfl (nI_1 j) (by decide) rfl (fun ls hl => ?_)
        refine lv_goto (tgt := 17) hx hb dX3_become_43 (by decide) ?_
        exact ih (j + 1) _ _ _ _ (by omega) (by omega) (fun t ht => by by_cases e : t = j; (subst e; simp [vp_updL]); (simp only [vp_updL, if_neg (show ¬ 40 * r + t = 40 * r + j by omega)]; exact hg t (by omega))) (fun i hi => by simp only [vp_updL, if_neg (show ¬ i = 40 * r + j by omega)]; exact ho i hi) h hS (lv_sub hl [1, 2, 3, 4, 0] rfl)
  refine lv_aload_n hx hb dX3_become_0 rfl (lv_at hl 0 rfl) ?_
  refine fg_X3_7 C h dX3_become_1 ?_
  refine lv_iload_n hx hb dX3_become_4 rfl (lv_at hl 1 rfl) ?_
  refine lv_iload_n hx hb dX3_become_5 rfl (lv_at hl 2 rfl) ?_
  refine ms_kd C h hS (by first | assumption | omega) dX3_become_6 (fun H locs h hS => ?_)
  refine lv_aload_n hx hb dX3_become_7 rfl (lv_at hl 0 rfl) ?_
  refine fg_X3_13 C h dX3_become_8 ?_
  refine lv_iload_n hx hb dX3_become_11 rfl (lv_at hl 1 rfl) ?_
  refine lv_iload_n hx hb dX3_become_12 rfl (lv_at hl 3 rfl) ?_
  refine ms_pl C h hS (by first | assumption | omega) dX3_become_13 (fun H locs h hS => ?_)
  refine lv_iconst (v := nI 0) hx hb dX3_become_14 (by decide) ?_
  refine lv_istore (lv' := [(4, .int (nI 0)), (0, .ref (a 0)), (1, .int (nI r)), (2, .int (nI k)), (3, .int (nI nz))]) hx hb dX3_become_15 hl (by decide) rfl (fun ls hl => ?_)
  exact lp (nz + 1) 0 (mF Mz) _ _ _ (by omega) (by omega) (fun t ht => absurd ht (by omega)) (fun _ _ => rfl) h hS (lv_sub hl [1, 2, 3, 4, 0] rfl)

set_option maxHeartbeats 4000000 in
set_option maxRecDepth 100000 in
theorem c3_make (l : Launch) (G : Gx) (a : Nat → Nat) (Mz : MS) (hI : Inv Mz.1) (hR : RM Mz) (xz kz nz : Int32) : CtI l G 10 a (EM G a) yX3_make cX3_make 4 (some .boolean) 3 66 [.ref (a 0), .int xz, .int kz, .int nz] Mz (fun v u => v = (spMake Mz.1 xz kz nz).1 ∧ (spMake Mz.1 xz kz nz).2 = u.1 ∧ RM u) := by
  refine ent_of (by decide) (Nat.le_of_ble_eq_true rfl) ?_
  intro p e s m below meth c ls C h hS hret hlk hl
  have C : Cx p s m _ c cX3_make RX3 4 G := C
  have hx := C.1
  have hb := C.2.1
  have hl : lv_has ls 4 [(0, .ref (a 0)), (1, .int xz), (2, .int kz), (3, .int nz)] := hl
  refine lv_iload_n hx hb dX3_make_0 rfl (lv_at hl 1 rfl) ?_
  refine kI (rS (As := [.int xz]) (rest := []) C h lk_X3_39 (c3_isRack l G a Mz xz) ⟨Nat.le_of_ble_eq_true rfl, Nat.le_of_ble_eq_true rfl⟩ hl.1 rfl rfl (Nat.le_of_ble_eq_true rfl) dX3_make_1 ⟨Nat.zero_le _, Nat.zero_le _⟩) hS (fun rv u H locs hp h hS => ?_)
  obtain ⟨rfl, rfl⟩ := hp
  rcases ix_cases xz (n := 8) (by decide) with hrk | ⟨r, hr, rfl, hrk⟩
  · refine lw_ti (b2i_f (fun z => z hrk)) ?_
    refine lv_if_eq (tgt := 28) hx hb dX3_make_4 (by decide) (fun _ => ?_) (fun c0 => absurd c0 (by decide))
    refine lv_iconst (v := nI 0) hx hb dX3_make_28 (by decide) ?_
    exact eZ C hret hlk (Mz) h hS (rfl) (⟨by simp [spMake, hrk], by simp [spMake, hrk], hR⟩) dX3_make_29
  · refine lw_ti (b2i_t (by rw [hrk]; exact fun z => by cases z)) ?_
    refine lv_if_eq (tgt := 28) hx hb dX3_make_4 (by decide) (fun c0 => absurd c0 (by decide)) (fun _ => ?_)
    refine lv_iload_n hx hb dX3_make_7 rfl (lv_at hl 2 rfl) ?_
    refine lv_iconst (v := nI 1) hx hb dX3_make_8 (by decide) ?_
    refine lv_icmp_lt (tgt := 28) hx hb dX3_make_9 (by decide) (fun c9 => ?_) (fun c9 => ?_)
    · skip
      refine lv_iconst (v := nI 0) hx hb dX3_make_28 (by decide) ?_
      exact eZ C hret hlk (Mz) h hS (rfl) (⟨by simp [spMake, hrk, rng_lo c9], by simp [spMake, hrk, rng_lo c9], hR⟩) dX3_make_29
    · skip
      refine lv_iload_n hx hb dX3_make_12 rfl (lv_at hl 2 rfl) ?_
      refine lv_bipush (v := nI 8) hx hb dX3_make_13 (by decide) ?_
      refine lv_icmp_gt (tgt := 28) hx hb dX3_make_15 (by decide) (fun c15 => ?_) (fun c15 => ?_)
      · skip
        refine lv_iconst (v := nI 0) hx hb dX3_make_28 (by decide) ?_
        exact eZ C hret hlk (Mz) h hS (rfl) (⟨by simp [spMake, hrk, rng_hi c15], by simp [spMake, hrk, rng_hi c15], hR⟩) dX3_make_29
      · skip
        refine lv_iload_n hx hb dX3_make_18 rfl (lv_at hl 3 rfl) ?_
        refine lv_if_lt (tgt := 28) hx hb dX3_make_19 (by decide) (fun c19 => ?_) (fun c19 => ?_)
        · skip
          refine lv_iconst (v := nI 0) hx hb dX3_make_28 (by decide) ?_
          exact eZ C hret hlk (Mz) h hS (rfl) (⟨by simp [spMake, hrk, show rng nz 0 40 = none from rng_lo c19], by simp [spMake, hrk, show rng nz 0 40 = none from rng_lo c19], hR⟩) dX3_make_29
        · skip
          refine lv_iload_n hx hb dX3_make_22 rfl (lv_at hl 3 rfl) ?_
          refine lv_bipush (v := nI 40) hx hb dX3_make_23 (by decide) ?_
          refine lv_icmp_le (tgt := 30) hx hb dX3_make_25 (by decide) (fun c25 => ?_) (fun c25 => ?_)
          · skip
            obtain ⟨k, hk1, hk8, rfl, hkk⟩ := rng_of (by decide) (by decide) c9 c15
            obtain ⟨n, _, hn40, rfl, hnn⟩ := rng_of (lo := 0) (by decide) (by decide) c19 (Int32.not_lt.mpr c25)
            refine lv_aload_n hx hb dX3_make_30 rfl (lv_at hl 0 rfl) ?_
            refine lv_iload_n hx hb dX3_make_31 rfl (lv_at hl 1 rfl) ?_
            refine lv_iload_n hx hb dX3_make_32 rfl (lv_at hl 2 rfl) ?_
            refine lv_iload_n hx hb dX3_make_33 rfl (lv_at hl 3 rfl) ?_
            refine kV (rV (As := [.int (nI r), .int (nI k), .int (nI n)]) (rest := []) C h lk_X3_61 0 (by decide) rfl rfl rfl (c3_become l G a Mz hI hR r hr (k) (n) (by omega) (by omega)) ⟨Nat.le_of_ble_eq_true rfl, Nat.le_of_ble_eq_true rfl⟩ hl.1 rfl rfl (Nat.le_of_ble_eq_true rfl) dX3_make_34 ⟨Nat.zero_le _, Nat.zero_le _⟩) hS (fun u H locs hp h hS => ?_)
            obtain ⟨hu, hRu⟩ := hp
            refine lv_iconst (v := nI 1) hx hb dX3_make_37 (by decide) ?_
            exact eZ C hret hlk (u) h hS (rfl) (⟨by simp [spMake, hrk, hkk, hnn], by rw [← hu]; simp [spMake, hrk, hkk, hnn], hRu⟩) dX3_make_38
          · skip
            refine lv_iconst (v := nI 0) hx hb dX3_make_28 (by decide) ?_
            exact eZ C hret hlk (Mz) h hS (rfl) (⟨by simp [spMake, hrk, rng_hi (Int32.not_le.mp c25)], by simp [spMake, hrk, rng_hi (Int32.not_le.mp c25)], hR⟩) dX3_make_29

set_option maxHeartbeats 4000000 in
set_option maxRecDepth 100000 in
theorem c3_lamp (l : Launch) (G : Gx) (a : Nat → Nat) (Mz : MS) (hI : Inv Mz.1) (hR : RM Mz) (xz : Int32) : CtI l G 10 a (EM G a) yX3_lamp cX3_lamp 2 (some .boolean) 3 66 [.ref (a 0), .int xz] Mz (fun v u => v = (spLamp Mz.1 xz).1 ∧ (spLamp Mz.1 xz).2 = u.1 ∧ RM u) := by
  refine ent_of (by decide) (Nat.le_of_ble_eq_true rfl) ?_
  intro p e s m below meth c ls C h hS hret hlk hl
  have C : Cx p s m _ c cX3_lamp RX3 2 G := C
  have hx := C.1
  have hb := C.2.1
  have hl : lv_has ls 2 [(0, .ref (a 0)), (1, .int xz)] := hl
  refine lv_iload_n hx hb dX3_lamp_0 rfl (lv_at hl 1 rfl) ?_
  refine kI (rS (As := [.int xz]) (rest := []) C h lk_X3_39 (c3_isRack l G a Mz xz) ⟨Nat.le_of_ble_eq_true rfl, Nat.le_of_ble_eq_true rfl⟩ hl.1 rfl rfl (Nat.le_of_ble_eq_true rfl) dX3_lamp_1 ⟨Nat.zero_le _, Nat.zero_le _⟩) hS (fun rv u H locs hp h hS => ?_)
  obtain ⟨rfl, rfl⟩ := hp
  rcases ix_cases xz (n := 8) (by decide) with hrk | ⟨r, hr, rfl, hrk⟩
  · refine lw_ti (b2i_f (fun z => z hrk)) ?_
    refine lv_if_ne (tgt := 9) hx hb dX3_lamp_4 (by decide) (fun c0 => absurd c0 (by decide)) (fun _ => ?_)
    refine lv_iconst (v := nI 0) hx hb dX3_lamp_7 (by decide) ?_
    exact eZ C hret hlk (Mz) h hS (rfl) (⟨by simp [spLamp, hrk], by simp [spLamp, hrk], hR⟩) dX3_lamp_8
  · refine lw_ti (b2i_t (by rw [hrk]; exact fun z => by cases z)) ?_
    refine lv_if_ne (tgt := 9) hx hb dX3_lamp_4 (by decide) (fun _ => ?_) (fun c0 => absurd c0 (by decide))
    refine lv_aload_n hx hb dX3_lamp_9 rfl (lv_at hl 0 rfl) ?_
    refine lv_iload_n hx hb dX3_lamp_10 rfl (lv_at hl 1 rfl) ?_
    refine lv_bipush (v := nI 9) hx hb dX3_lamp_11 (by decide) ?_
    refine lv_iconst (v := nI 0) hx hb dX3_lamp_13 (by decide) ?_
    refine kV (rV (As := [.int (nI r), .int (nI 9), .int (nI 0)]) (rest := []) C h lk_X3_61 0 (by decide) rfl rfl rfl (c3_become l G a Mz hI hR r hr (9) (0) (by omega) (by omega)) ⟨Nat.le_of_ble_eq_true rfl, Nat.le_of_ble_eq_true rfl⟩ hl.1 rfl rfl (Nat.le_of_ble_eq_true rfl) dX3_lamp_14 ⟨Nat.zero_le _, Nat.zero_le _⟩) hS (fun u H locs hp h hS => ?_)
    obtain ⟨hu, hRu⟩ := hp
    refine lv_iconst (v := nI 1) hx hb dX3_lamp_17 (by decide) ?_
    exact eZ C hret hlk (u) h hS (rfl) (⟨by simp [spLamp, hrk], by rw [← hu]; simp [spLamp, hrk], hRu⟩) dX3_lamp_18

set_option maxHeartbeats 4000000 in
set_option maxRecDepth 100000 in
theorem c3_empty (l : Launch) (G : Gx) (a : Nat → Nat) (Mz : MS) (hI : Inv Mz.1) (hR : RM Mz) (xz : Int32) : CtI l G 10 a (EM G a) yX3_empty cX3_empty 2 (some .boolean) 3 66 [.ref (a 0), .int xz] Mz (fun v u => v = (spEmpty Mz.1 xz).1 ∧ (spEmpty Mz.1 xz).2 = u.1 ∧ RM u) := by
  refine ent_of (by decide) (Nat.le_of_ble_eq_true rfl) ?_
  intro p e s m below meth c ls C h hS hret hlk hl
  have C : Cx p s m _ c cX3_empty RX3 2 G := C
  have hx := C.1
  have hb := C.2.1
  have hl : lv_has ls 2 [(0, .ref (a 0)), (1, .int xz)] := hl
  refine lv_iload_n hx hb dX3_empty_0 rfl (lv_at hl 1 rfl) ?_
  refine kI (rS (As := [.int xz]) (rest := []) C h lk_X3_39 (c3_isRack l G a Mz xz) ⟨Nat.le_of_ble_eq_true rfl, Nat.le_of_ble_eq_true rfl⟩ hl.1 rfl rfl (Nat.le_of_ble_eq_true rfl) dX3_empty_1 ⟨Nat.zero_le _, Nat.zero_le _⟩) hS (fun rv u H locs hp h hS => ?_)
  obtain ⟨rfl, rfl⟩ := hp
  rcases ix_cases xz (n := 8) (by decide) with hrk | ⟨r, hr, rfl, hrk⟩
  · refine lw_ti (b2i_f (fun z => z hrk)) ?_
    refine lv_if_eq (tgt := 16) hx hb dX3_empty_4 (by decide) (fun _ => ?_) (fun c0 => absurd c0 (by decide))
    refine lv_iconst (v := nI 0) hx hb dX3_empty_16 (by decide) ?_
    exact eZ C hret hlk (Mz) h hS (rfl) (⟨by simp [spEmpty, hrk], by simp [spEmpty, hrk], hR⟩) dX3_empty_17
  · refine lw_ti (b2i_t (by rw [hrk]; exact fun z => by cases z)) ?_
    refine lv_if_eq (tgt := 16) hx hb dX3_empty_4 (by decide) (fun c0 => absurd c0 (by decide)) (fun _ => ?_)
    refine lv_aload_n hx hb dX3_empty_7 rfl (lv_at hl 0 rfl) ?_
    refine fg_X3_7 C h dX3_empty_8 ?_
    refine lv_iload_n hx hb dX3_empty_11 rfl (lv_at hl 1 rfl) ?_
    refine ml_kd C h (by first | assumption | omega) dX3_empty_12 ?_
    refine lv_if_ne (tgt := 18) hx hb dX3_empty_13 (by decide) (fun c13 => ?_) (fun c13 => ?_)
    · skip
      have hk0 : ¬ sKd Mz.1 r = 0 := fun z => c13 ((nI_z (by have := (hI.1 r hr).1; omega)).mpr z)
      refine lv_aload_n hx hb dX3_empty_18 rfl (lv_at hl 0 rfl) ?_
      refine lv_iload_n hx hb dX3_empty_19 rfl (lv_at hl 1 rfl) ?_
      refine lv_iconst (v := nI 0) hx hb dX3_empty_20 (by decide) ?_
      refine lv_iconst (v := nI 0) hx hb dX3_empty_21 (by decide) ?_
      refine kV (rV (As := [.int (nI r), .int (nI 0), .int (nI 0)]) (rest := []) C h lk_X3_61 0 (by decide) rfl rfl rfl (c3_become l G a Mz hI hR r hr (0) (0) (by omega) (by omega)) ⟨Nat.le_of_ble_eq_true rfl, Nat.le_of_ble_eq_true rfl⟩ hl.1 rfl rfl (Nat.le_of_ble_eq_true rfl) dX3_empty_22 ⟨Nat.zero_le _, Nat.zero_le _⟩) hS (fun u H locs hp h hS => ?_)
      obtain ⟨hu, hRu⟩ := hp
      refine lv_iconst (v := nI 1) hx hb dX3_empty_25 (by decide) ?_
      exact eZ C hret hlk (u) h hS (rfl) (⟨by simp [spEmpty, hrk, hk0], by rw [← hu]; simp [spEmpty, hrk, hk0], hRu⟩) dX3_empty_26
    · skip
      refine lv_iconst (v := nI 0) hx hb dX3_empty_16 (by decide) ?_
      exact eZ C hret hlk (Mz) h hS (rfl) (⟨by simp [spEmpty, hrk, (show sKd Mz.1 r = 0 from (nI_z (by have := (hI.1 r hr).1; omega)).mp c13)], by simp [spEmpty, hrk, (show sKd Mz.1 r = 0 from (nI_z (by have := (hI.1 r hr).1; omega)).mp c13)], hR⟩) dX3_empty_17

set_option maxHeartbeats 4000000 in
set_option maxRecDepth 100000 in
theorem c3_bead (l : Launch) (G : Gx) (a : Nat → Nat) (Mz : MS) (hI : Inv Mz.1) (hR : RM Mz) (xz zz : Int32) (hz : vp_nar .boolean zz = zz) : CtI l G 10 a (EM G a) yX3_bead cX3_bead 3 (some .int) 0 0 [.ref (a 0), .int xz, .int zz] Mz (fun v u => v = (spBead Mz.1 xz zz).1 ∧ (spBead Mz.1 xz zz).2 = u.1 ∧ RM u) := by
  refine ent_of (by decide) (Nat.le_of_ble_eq_true rfl) ?_
  intro p e s m below meth c ls C h hS hret hlk hl
  have C : Cx p s m _ c cX3_bead RX3 3 G := C
  have hx := C.1
  have hb := C.2.1
  have hl : lv_has ls 3 [(0, .ref (a 0)), (1, .int xz), (2, .int zz)] := hl
  have hN := hI.2.1
  refine lv_aload_n hx hb dX3_bead_0 rfl (lv_at hl 0 rfl) ?_
  refine fg_X3_46 C h dX3_bead_1 ?_
  refine lv_sipush (v := nI 200) hx hb dX3_bead_4 (by decide) ?_
  refine lv_icmp_ne (tgt := 12) hx hb dX3_bead_7 (by decide) (fun c7 => ?_) (fun c7 => ?_)
  · skip
    have hlt : sNb Mz.1 < 200 := by rw [nI_eq (by omega) (by decide)] at c7; omega
    refine lv_aload_n hx hb dX3_bead_12 rfl (lv_at hl 0 rfl) ?_
    refine fg_X3_26 C h dX3_bead_13 ?_
    refine lv_aload_n hx hb dX3_bead_16 rfl (lv_at hl 0 rfl) ?_
    refine fg_X3_46 C h dX3_bead_17 ?_
    refine lv_iload_n hx hb dX3_bead_20 rfl (lv_at hl 1 rfl) ?_
    refine ms_co C h hS (by first | assumption | omega) dX3_bead_21 (fun H locs h hS => ?_)
    refine lv_aload_n hx hb dX3_bead_22 rfl (lv_at hl 0 rfl) ?_
    refine fg_X3_29 C h dX3_bead_23 ?_
    refine lv_aload_n hx hb dX3_bead_26 rfl (lv_at hl 0 rfl) ?_
    refine fg_X3_46 C h dX3_bead_27 ?_
    refine lw_ti (show (nI (sNb ((uCo Mz.1 (upd (sCo Mz.1) (sNb Mz.1) xz), mF Mz, mB Mz, mA Mz, mC Mz, mP Mz)).1) : Int32) = nI ((sNb Mz.1)) from rfl) ?_
    refine lv_iload_n hx hb dX3_bead_30 rfl (lv_at hl 2 rfl) ?_
    refine ms_pe C h hS (by first | assumption | omega) hz dX3_bead_31 (fun H locs h hS => ?_)
    refine lv_aload_n hx hb dX3_bead_32 rfl (lv_at hl 0 rfl) ?_
    refine lv_dup hx hb dX3_bead_33 rfl ?_
    refine fg_X3_46 C h dX3_bead_34 ?_
    refine lw_ti (show (nI (sNb ((uPe ((uCo Mz.1 (upd (sCo Mz.1) (sNb Mz.1) xz), mF Mz, mB Mz, mA Mz, mC Mz, mP Mz)).1 (upd (sPe ((uCo Mz.1 (upd (sCo Mz.1) (sNb Mz.1) xz), mF Mz, mB Mz, mA Mz, mC Mz, mP Mz)).1) ((sNb Mz.1)) zz), mF ((uCo Mz.1 (upd (sCo Mz.1) (sNb Mz.1) xz), mF Mz, mB Mz, mA Mz, mC Mz, mP Mz)), mB ((uCo Mz.1 (upd (sCo Mz.1) (sNb Mz.1) xz), mF Mz, mB Mz, mA Mz, mC Mz, mP Mz)), mA ((uCo Mz.1 (upd (sCo Mz.1) (sNb Mz.1) xz), mF Mz, mB Mz, mA Mz, mC Mz, mP Mz)), mC ((uCo Mz.1 (upd (sCo Mz.1) (sNb Mz.1) xz), mF Mz, mB Mz, mA Mz, mC Mz, mP Mz)), mP ((uCo Mz.1 (upd (sCo Mz.1) (sNb Mz.1) xz), mF Mz, mB Mz, mA Mz, mC Mz, mP Mz)))).1) : Int32) = nI ((sNb Mz.1)) from rfl) ?_
    refine lv_iconst (v := nI 1) hx hb dX3_bead_37 (by decide) ?_
    refine lv_iadd hx hb dX3_bead_38 ?_
    refine lw_ti (show ((nI ((sNb Mz.1))) + (nI 1) : Int32) = nI (sNb Mz.1 + 1) from nI_add _ _) ?_
    refine fp_X3_46 C h hS dX3_bead_39 (fun H locs h hS => ?_)
    refine lv_aload_n hx hb dX3_bead_42 rfl (lv_at hl 0 rfl) ?_
    refine fg_X3_46 C h dX3_bead_43 ?_
    refine lw_ti (show (nI (sNb ((uNb ((uPe ((uCo Mz.1 (upd (sCo Mz.1) (sNb Mz.1) xz), mF Mz, mB Mz, mA Mz, mC Mz, mP Mz)).1 (upd (sPe ((uCo Mz.1 (upd (sCo Mz.1) (sNb Mz.1) xz), mF Mz, mB Mz, mA Mz, mC Mz, mP Mz)).1) ((sNb Mz.1)) zz), mF ((uCo Mz.1 (upd (sCo Mz.1) (sNb Mz.1) xz), mF Mz, mB Mz, mA Mz, mC Mz, mP Mz)), mB ((uCo Mz.1 (upd (sCo Mz.1) (sNb Mz.1) xz), mF Mz, mB Mz, mA Mz, mC Mz, mP Mz)), mA ((uCo Mz.1 (upd (sCo Mz.1) (sNb Mz.1) xz), mF Mz, mB Mz, mA Mz, mC Mz, mP Mz)), mC ((uCo Mz.1 (upd (sCo Mz.1) (sNb Mz.1) xz), mF Mz, mB Mz, mA Mz, mC Mz, mP Mz)), mP ((uCo Mz.1 (upd (sCo Mz.1) (sNb Mz.1) xz), mF Mz, mB Mz, mA Mz, mC Mz, mP Mz)))).1 (sNb Mz.1 + 1), ((uPe ((uCo Mz.1 (upd (sCo Mz.1) (sNb Mz.1) xz), mF Mz, mB Mz, mA Mz, mC Mz, mP Mz)).1 (upd (sPe ((uCo Mz.1 (upd (sCo Mz.1) (sNb Mz.1) xz), mF Mz, mB Mz, mA Mz, mC Mz, mP Mz)).1) ((sNb Mz.1)) zz), mF ((uCo Mz.1 (upd (sCo Mz.1) (sNb Mz.1) xz), mF Mz, mB Mz, mA Mz, mC Mz, mP Mz)), mB ((uCo Mz.1 (upd (sCo Mz.1) (sNb Mz.1) xz), mF Mz, mB Mz, mA Mz, mC Mz, mP Mz)), mA ((uCo Mz.1 (upd (sCo Mz.1) (sNb Mz.1) xz), mF Mz, mB Mz, mA Mz, mC Mz, mP Mz)), mC ((uCo Mz.1 (upd (sCo Mz.1) (sNb Mz.1) xz), mF Mz, mB Mz, mA Mz, mC Mz, mP Mz)), mP ((uCo Mz.1 (upd (sCo Mz.1) (sNb Mz.1) xz), mF Mz, mB Mz, mA Mz, mC Mz, mP Mz)))).2)).1) : Int32) = nI ((sNb Mz.1 + 1)) from rfl) ?_
    refine lv_iconst (v := nI 1) hx hb dX3_bead_46 (by decide) ?_
    refine lv_isub hx hb dX3_bead_47 ?_
    refine lw_ti (show ((nI ((sNb Mz.1 + 1))) - (nI 1) : Int32) = nI (sNb Mz.1) from nI_m1 (by omega)) ?_
    exact eI C hret hlk ((uNb ((uPe ((uCo Mz.1 (upd (sCo Mz.1) (sNb Mz.1) xz), mF Mz, mB Mz, mA Mz, mC Mz, mP Mz)).1 (upd (sPe ((uCo Mz.1 (upd (sCo Mz.1) (sNb Mz.1) xz), mF Mz, mB Mz, mA Mz, mC Mz, mP Mz)).1) ((sNb Mz.1)) zz), mF ((uCo Mz.1 (upd (sCo Mz.1) (sNb Mz.1) xz), mF Mz, mB Mz, mA Mz, mC Mz, mP Mz)), mB ((uCo Mz.1 (upd (sCo Mz.1) (sNb Mz.1) xz), mF Mz, mB Mz, mA Mz, mC Mz, mP Mz)), mA ((uCo Mz.1 (upd (sCo Mz.1) (sNb Mz.1) xz), mF Mz, mB Mz, mA Mz, mC Mz, mP Mz)), mC ((uCo Mz.1 (upd (sCo Mz.1) (sNb Mz.1) xz), mF Mz, mB Mz, mA Mz, mC Mz, mP Mz)), mP ((uCo Mz.1 (upd (sCo Mz.1) (sNb Mz.1) xz), mF Mz, mB Mz, mA Mz, mC Mz, mP Mz)))).1 (sNb Mz.1 + 1), ((uPe ((uCo Mz.1 (upd (sCo Mz.1) (sNb Mz.1) xz), mF Mz, mB Mz, mA Mz, mC Mz, mP Mz)).1 (upd (sPe ((uCo Mz.1 (upd (sCo Mz.1) (sNb Mz.1) xz), mF Mz, mB Mz, mA Mz, mC Mz, mP Mz)).1) ((sNb Mz.1)) zz), mF ((uCo Mz.1 (upd (sCo Mz.1) (sNb Mz.1) xz), mF Mz, mB Mz, mA Mz, mC Mz, mP Mz)), mB ((uCo Mz.1 (upd (sCo Mz.1) (sNb Mz.1) xz), mF Mz, mB Mz, mA Mz, mC Mz, mP Mz)), mA ((uCo Mz.1 (upd (sCo Mz.1) (sNb Mz.1) xz), mF Mz, mB Mz, mA Mz, mC Mz, mP Mz)), mC ((uCo Mz.1 (upd (sCo Mz.1) (sNb Mz.1) xz), mF Mz, mB Mz, mA Mz, mC Mz, mP Mz)), mP ((uCo Mz.1 (upd (sCo Mz.1) (sNb Mz.1) xz), mF Mz, mB Mz, mA Mz, mC Mz, mP Mz)))).2)) h hS (⟨by unfold spBead; rw [if_neg (by omega)], by unfold spBead; rw [if_neg (by omega)], hR⟩) dX3_bead_48
  · skip
    refine lv_iconst (v := -1) hx hb dX3_bead_10 (by decide) ?_
    exact eI C hret hlk (Mz) h hS (⟨by unfold spBead; rw [if_pos (by rw [nI_eq (by omega) (by decide)] at c7; omega)], by unfold spBead; rw [if_pos (by rw [nI_eq (by omega) (by decide)] at c7; omega)], hR⟩) dX3_bead_11

set_option maxHeartbeats 4000000 in
set_option maxRecDepth 100000 in
theorem c3_paint (l : Launch) (G : Gx) (a : Nat → Nat) (Mz : MS) (hI : Inv Mz.1) (hR : RM Mz) (xz yz : Int32) : CtI l G 10 a (EM G a) yX3_paint cX3_paint 3 (some .boolean) 1 22 [.ref (a 0), .int xz, .int yz] Mz (fun v u => v = (spPaint Mz.1 xz yz).1 ∧ (spPaint Mz.1 xz yz).2 = u.1 ∧ RM u) := by
  refine ent_of (by decide) (Nat.le_of_ble_eq_true rfl) ?_
  intro p e s m below meth c ls C h hS hret hlk hl
  have C : Cx p s m _ c cX3_paint RX3 3 G := C
  have hx := C.1
  have hb := C.2.1
  have hl : lv_has ls 3 [(0, .ref (a 0)), (1, .int xz), (2, .int yz)] := hl
  refine lv_aload_n hx hb dX3_paint_0 rfl (lv_at hl 0 rfl) ?_
  refine lv_iload_n hx hb dX3_paint_1 rfl (lv_at hl 1 rfl) ?_
  refine lv_i2l hx hb dX3_paint_2 rfl ?_
  refine kI (rV (As := [.long xz.toInt64]) (rest := []) C h lk_X3_65 0 (by decide) rfl rfl rfl (c3_isBead l G a Mz hI.2.1 _) ⟨Nat.le_of_ble_eq_true rfl, Nat.le_of_ble_eq_true rfl⟩ hl.1 rfl rfl (Nat.le_of_ble_eq_true rfl) dX3_paint_3 ⟨Nat.zero_le _, Nat.zero_le _⟩) hS (fun rv u H locs hp h hS => ?_)
  obtain ⟨rfl, rfl⟩ := hp
  have hN := hI.2.1
  rcases ix_cases xz (n := sNb Mz.1) (by omega) with hbd | ⟨j, hj, rfl, hbd⟩
  · refine lw_ti (b2i_f (fun q => q (by rw [ixl_i2l (by omega)]; exact hbd))) ?_
    refine lv_if_ne (tgt := 11) hx hb dX3_paint_6 (by decide) (fun c0 => absurd c0 (by decide)) (fun _ => ?_)
    refine lv_iconst (v := nI 0) hx hb dX3_paint_9 (by decide) ?_
    exact eZ C hret hlk (Mz) h hS (rfl) (⟨by simp [spPaint, hbd], by simp [spPaint, hbd], hR⟩) dX3_paint_10
  · refine lw_ti (b2i_t (by rw [ixl_i2l (by omega), hbd]; exact fun q => by cases q)) ?_
    refine lv_if_ne (tgt := 11) hx hb dX3_paint_6 (by decide) (fun _ => ?_) (fun c0 => absurd c0 (by decide))
    refine lv_aload_n hx hb dX3_paint_11 rfl (lv_at hl 0 rfl) ?_
    refine fg_X3_26 C h dX3_paint_12 ?_
    refine lv_iload_n hx hb dX3_paint_15 rfl (lv_at hl 1 rfl) ?_
    refine lv_iload_n hx hb dX3_paint_16 rfl (lv_at hl 2 rfl) ?_
    refine ms_co C h hS (by first | assumption | omega) dX3_paint_17 (fun H locs h hS => ?_)
    refine lv_iconst (v := nI 1) hx hb dX3_paint_18 (by decide) ?_
    exact eZ C hret hlk ((uCo Mz.1 (upd (sCo Mz.1) j yz), mF Mz, mB Mz, mA Mz, mC Mz, mP Mz)) h hS (rfl) (⟨by simp [spPaint, hbd], by simp [spPaint, hbd], hR⟩) dX3_paint_19

set_option maxHeartbeats 4000000 in
set_option maxRecDepth 100000 in
theorem c3_colour (l : Launch) (G : Gx) (a : Nat → Nat) (Mz : MS) (hI : Inv Mz.1) (xz : Int32) : CtI l G 10 a (EM G a) yX3_colour cX3_colour 2 (some .int) 1 22 [.ref (a 0), .int xz] Mz (fun v u => Mz = u ∧ v = spColour Mz.1 xz) := by
  refine ent_of (by decide) (Nat.le_of_ble_eq_true rfl) ?_
  intro p e s m below meth c ls C h hS hret hlk hl
  have C : Cx p s m _ c cX3_colour RX3 2 G := C
  have hx := C.1
  have hb := C.2.1
  have hl : lv_has ls 2 [(0, .ref (a 0)), (1, .int xz)] := hl
  refine lv_aload_n hx hb dX3_colour_0 rfl (lv_at hl 0 rfl) ?_
  refine lv_iload_n hx hb dX3_colour_1 rfl (lv_at hl 1 rfl) ?_
  refine lv_i2l hx hb dX3_colour_2 rfl ?_
  refine kI (rV (As := [.long xz.toInt64]) (rest := []) C h lk_X3_65 0 (by decide) rfl rfl rfl (c3_isBead l G a Mz hI.2.1 _) ⟨Nat.le_of_ble_eq_true rfl, Nat.le_of_ble_eq_true rfl⟩ hl.1 rfl rfl (Nat.le_of_ble_eq_true rfl) dX3_colour_3 ⟨Nat.zero_le _, Nat.zero_le _⟩) hS (fun rv u H locs hp h hS => ?_)
  obtain ⟨rfl, rfl⟩ := hp
  have hN := hI.2.1
  rcases ix_cases xz (n := sNb Mz.1) (by omega) with hbd | ⟨j, hj, rfl, hbd⟩
  · refine lw_ti (b2i_f (fun q => q (by rw [ixl_i2l (by omega)]; exact hbd))) ?_
    refine lv_if_eq (tgt := 18) hx hb dX3_colour_6 (by decide) (fun _ => ?_) (fun c0 => absurd c0 (by decide))
    refine lv_iconst (v := nI 0) hx hb dX3_colour_18 (by decide) ?_
    exact eI C hret hlk (Mz) h hS (⟨rfl, by simp [spColour, hbd]⟩) dX3_colour_19
  · refine lw_ti (b2i_t (by rw [ixl_i2l (by omega), hbd]; exact fun q => by cases q)) ?_
    refine lv_if_eq (tgt := 18) hx hb dX3_colour_6 (by decide) (fun c0 => absurd c0 (by decide)) (fun _ => ?_)
    refine lv_aload_n hx hb dX3_colour_9 rfl (lv_at hl 0 rfl) ?_
    refine fg_X3_26 C h dX3_colour_10 ?_
    refine lv_iload_n hx hb dX3_colour_13 rfl (lv_at hl 1 rfl) ?_
    refine ml_co C h (by first | assumption | omega) dX3_colour_14 ?_
    refine lv_goto (tgt := 19) hx hb dX3_colour_15 (by decide) ?_
    exact eI C hret hlk (Mz) h hS (⟨rfl, by simp [spColour, hbd]⟩) dX3_colour_19

set_option maxHeartbeats 4000000 in
set_option maxRecDepth 100000 in
theorem c3_look (l : Launch) (G : Gx) (a : Nat → Nat) (Mz : MS) (hI : Inv Mz.1) (hR : RM Mz) (xz pz : Int32) : CtL l G 10 a (EM G a) yX3_look cX3_look 3 (some .long) 3 63 [.ref (a 0), .int xz, .int pz] Mz (fun v u => Mz = u ∧ v = spLook Mz.1 xz pz) := by
  refine ent_of (by decide) (Nat.le_of_ble_eq_true rfl) ?_
  intro p e s m below meth c ls C h hS hret hlk hl
  have C : Cx p s m _ c cX3_look RX3 3 G := C
  have hx := C.1
  have hb := C.2.1
  have hl : lv_has ls 3 [(0, .ref (a 0)), (1, .int xz), (2, .int pz)] := hl
  refine lv_aload_n hx hb dX3_look_0 rfl (lv_at hl 0 rfl) ?_
  refine lv_iload_n hx hb dX3_look_1 rfl (lv_at hl 1 rfl) ?_
  refine lv_iload_n hx hb dX3_look_2 rfl (lv_at hl 2 rfl) ?_
  refine kI (rV (As := [.int xz, .int pz]) (rest := []) C h lk_X3_69 0 (by decide) rfl rfl rfl (c3_isPlace l G a Mz hI xz pz) ⟨Nat.le_of_ble_eq_true rfl, Nat.le_of_ble_eq_true rfl⟩ hl.1 rfl rfl (Nat.le_of_ble_eq_true rfl) dX3_look_3 ⟨Nat.zero_le _, Nat.zero_le _⟩) hS (fun rv u H locs hp h hS => ?_)
  obtain ⟨rfl, rfl⟩ := hp
  rcases row_cases (S := Mz.1) xz with hrk | ⟨r, hr, rfl, hrk, hk0, hk9⟩
  · refine lw_ti (b2i_f (by rintro ⟨t, q, z, _⟩; rw [hrk] at z; cases z)) ?_
    refine lv_if_eq (tgt := 23) hx hb dX3_look_6 (by decide) (fun _ => ?_) (fun c0 => absurd c0 (by decide))
    refine lv_lconst (v := lN 0) hx hb dX3_look_23 rfl ?_
    exact eL C hret hlk (Mz) h hS (⟨rfl, by simp [spLook, hrk]⟩) dX3_look_24
  · have lr := (hI.1 r hr).2
    rcases ix_cases pz (n := sPl Mz.1 r) (by omega) with hpl | ⟨q, hq, rfl, hpl⟩
    · refine lw_ti (b2i_f (by rintro ⟨t, q, z, z2⟩; rw [hrk] at z; cases z; rw [hpl] at z2; cases z2)) ?_
      refine lv_if_eq (tgt := 23) hx hb dX3_look_6 (by decide) (fun _ => ?_) (fun c0 => absurd c0 (by decide))
      refine lv_lconst (v := lN 0) hx hb dX3_look_23 rfl ?_
      exact eL C hret hlk (Mz) h hS (⟨rfl, by simp [spLook, hrk, hpl]⟩) dX3_look_24
    · refine lw_ti (b2i_t ⟨r, q, hrk, hpl⟩) ?_
      refine lv_if_eq (tgt := 23) hx hb dX3_look_6 (by decide) (fun c0 => absurd c0 (by decide)) (fun _ => ?_)
      refine lv_aload_n hx hb dX3_look_9 rfl (lv_at hl 0 rfl) ?_
      refine fg_X3_16 C h dX3_look_10 ?_
      refine lv_bipush (v := nI 40) hx hb dX3_look_13 (by decide) ?_
      refine lv_iload_n hx hb dX3_look_15 rfl (lv_at hl 1 rfl) ?_
      refine lv_imul hx hb dX3_look_16 ?_
      refine lw_ti (show _ = nI (40 * r) from pk_mul _ _) ?_
      refine lv_iload_n hx hb dX3_look_17 rfl (lv_at hl 2 rfl) ?_
      refine lv_iadd hx hb dX3_look_18 ?_
      refine lw_ti (show _ = nI (40 * r + q) from nI_add _ _) ?_
      refine ml_ce C h (by first | assumption | omega) dX3_look_19 ?_
      refine lv_goto (tgt := 24) hx hb dX3_look_20 (by decide) ?_
      exact eL C hret hlk (Mz) h hS (⟨rfl, by rw [hR.1 r q hr hq]; simp [spLook, hrk, hpl]⟩) dX3_look_24

theorem fit_bd {k : Nat} {v : Int64} (h : k = 7 ∨ k = 8) : fit k v = v := by
  rcases h with rfl | rfl <;> rfl

set_option maxHeartbeats 4000000 in
set_option maxRecDepth 100000 in
theorem c3_put (l : Launch) (G : Gx) (a : Nat → Nat) (Mz : MS) (hI : Inv Mz.1) (hR : RM Mz) (xz pz : Int32) (vz : Int64) : CtI l G 10 a (EM G a) yX3_put cX3_put 5 (some .boolean) 3 63 [.ref (a 0), .int xz, .int pz, .long vz] Mz (fun v u => v = (spPut Mz.1 xz pz vz).1 ∧ (spPut Mz.1 xz pz vz).2 = u.1 ∧ RM u) := by
  refine ent_of (by decide) (Nat.le_of_ble_eq_true rfl) ?_
  intro p e s m below meth c ls C h hS hret hlk hl
  have C : Cx p s m _ c cX3_put RX3 5 G := C
  have hx := C.1
  have hb := C.2.1
  have hl : lv_has ls 5 [(0, .ref (a 0)), (1, .int xz), (2, .int pz), (3, .long vz)] := hl
  refine lv_aload_n hx hb dX3_put_0 rfl (lv_at hl 0 rfl) ?_
  refine lv_iload_n hx hb dX3_put_1 rfl (lv_at hl 1 rfl) ?_
  refine lv_iload_n hx hb dX3_put_2 rfl (lv_at hl 2 rfl) ?_
  refine kI (rV (As := [.int xz, .int pz]) (rest := []) C h lk_X3_69 0 (by decide) rfl rfl rfl (c3_isPlace l G a Mz hI xz pz) ⟨Nat.le_of_ble_eq_true rfl, Nat.le_of_ble_eq_true rfl⟩ hl.1 rfl rfl (Nat.le_of_ble_eq_true rfl) dX3_put_3 ⟨Nat.zero_le _, Nat.zero_le _⟩) hS (fun rv u H locs hp h hS => ?_)
  obtain ⟨rfl, rfl⟩ := hp
  rcases row_cases (S := Mz.1) xz with hrk | ⟨r, hr, rfl, hrk, hk0, hk9⟩
  · refine lw_ti (b2i_f (by rintro ⟨t, q, z, _⟩; rw [hrk] at z; cases z)) ?_
    refine lv_if_ne (tgt := 11) hx hb dX3_put_6 (by decide) (fun c0 => absurd c0 (by decide)) (fun _ => ?_)
    refine lv_iconst (v := nI 0) hx hb dX3_put_9 (by decide) ?_
    exact eZ C hret hlk (Mz) h hS rfl (⟨by simp [spPut, hrk], by simp [spPut, hrk], hR⟩) dX3_put_10
  · have lr := (hI.1 r hr).2
    rcases ix_cases pz (n := sPl Mz.1 r) (by omega) with hpl | ⟨q, hq, rfl, hpl⟩
    · refine lw_ti (b2i_f (by rintro ⟨t, q, z, z2⟩; rw [hrk] at z; cases z; rw [hpl] at z2; cases z2)) ?_
      refine lv_if_ne (tgt := 11) hx hb dX3_put_6 (by decide) (fun c0 => absurd c0 (by decide)) (fun _ => ?_)
      refine lv_iconst (v := nI 0) hx hb dX3_put_9 (by decide) ?_
      exact eZ C hret hlk (Mz) h hS rfl (⟨by simp [spPut, hrk, hpl], by simp [spPut, hrk, hpl], hR⟩) dX3_put_10
    · refine lw_ti (b2i_t ⟨r, q, hrk, hpl⟩) ?_
      refine lv_if_ne (tgt := 11) hx hb dX3_put_6 (by decide) (fun _ => ?_) (fun c0 => absurd c0 (by decide))
      refine lv_aload_n hx hb dX3_put_11 rfl (lv_at hl 0 rfl) ?_
      refine lv_iload_n hx hb dX3_put_12 rfl (lv_at hl 1 rfl) ?_
      refine kI (rV (As := [.int (nI r)]) (rest := []) C h lk_X3_50 0 (by decide) rfl rfl rfl (c3_isBeads l G a Mz r hr (hI.1 r hr).1) ⟨Nat.le_of_ble_eq_true rfl, Nat.le_of_ble_eq_true rfl⟩ hl.1 rfl rfl (Nat.le_of_ble_eq_true rfl) dX3_put_13 ⟨Nat.zero_le _, Nat.zero_le _⟩) hS (fun rv u H locs hp h hS => ?_)
      obtain ⟨rfl, rfl⟩ := hp
      by_cases hBr : sKd Mz.1 r = 7 ∨ sKd Mz.1 r = 8
      · refine lw_ti (b2i_t hBr) ?_
        refine lv_if_ne (tgt := 42) hx hb dX3_put_16 (by decide) (fun _ => ?_) (fun c0 => absurd c0 (by decide))
        refine lv_lload_n hx hb dX3_put_42 rfl (lv_at hl 3 rfl) ?_
        refine lv_ldc2 (v := -1) hx hb C.2.2.2.1 (C.2.2.2.2.1 _ (by decide +kernel)) dX3_put_43 ?_
        refine W.lcmp hx hb dX3_put_46 ?_
        refine lv_if_eq (tgt := 60) hx hb dX3_put_47 (by decide) (fun c47 => ?_) (fun c47 => ?_)
        · have c47 := (lg_cmp_eq _ _).mp c47
          refine lv_lload_n hx hb dX3_put_60 rfl (lv_at hl 3 rfl) ?_
          refine lv_ldc2 (v := -1) hx hb C.2.2.2.1 (C.2.2.2.2.1 _ (by decide +kernel)) dX3_put_61 ?_
          refine W.lcmp hx hb dX3_put_64 ?_
          refine lv_if_eq (tgt := 91) hx hb dX3_put_65 (by decide) (fun c65 => ?_) (fun c0 => absurd ((lg_cmp_eq _ _).mpr c47) c0)
          refine lv_aload_n hx hb dX3_put_91 rfl (lv_at hl 0 rfl) ?_
          refine fg_X3_16 C h dX3_put_92 ?_
          refine lv_bipush (v := nI 40) hx hb dX3_put_95 (by decide) ?_
          refine lv_iload_n hx hb dX3_put_97 rfl (lv_at hl 1 rfl) ?_
          refine lv_imul hx hb dX3_put_98 ?_
          refine lw_ti (show _ = nI (40 * r) from pk_mul _ _) ?_
          refine lv_iload_n hx hb dX3_put_99 rfl (lv_at hl 2 rfl) ?_
          refine lv_iadd hx hb dX3_put_100 ?_
          refine lw_ti (show _ = nI (40 * r + q) from nI_add _ _) ?_
          refine lv_lload_n hx hb dX3_put_101 rfl (lv_at hl 3 rfl) ?_
          refine ms_ce C h hS (by first | assumption | omega) dX3_put_102 (fun H locs h hS => ?_)
          refine lv_iconst (v := nI 1) hx hb dX3_put_103 (by decide) ?_
          exact eZ C hret hlk ((putC Mz.1 r q vz, vp_updL (mF Mz) (40 * r + q) vz, mB Mz, mA Mz, mC Mz, mP Mz)) h hS rfl (⟨by unfold spPut; rw [hrk]; simp only; rw [hpl]; simp only; rw [cif_t (show  mayL Mz.1 (sKd Mz.1 r) vz from Or.inr (Or.inl c47))] <;> rfl, by unfold spPut; rw [hrk]; simp only; rw [hpl]; simp only; rw [cif_t (show mayL Mz.1 (sKd Mz.1 r) vz from Or.inr (Or.inl c47)), fit_bd hBr], RM_put hI hR hr (by omega) _⟩) dX3_put_104
        · have c47 : ¬ vz = (-1) := fun q => c47 ((lg_cmp_eq _ _).mpr q)
          refine lv_aload_n hx hb dX3_put_50 rfl (lv_at hl 0 rfl) ?_
          refine lv_lload_n hx hb dX3_put_51 rfl (lv_at hl 3 rfl) ?_
          refine kI (rV (As := [.long vz]) (rest := []) C h lk_X3_65 0 (by decide) rfl rfl rfl (c3_isBead l G a Mz hI.2.1 vz) ⟨Nat.le_of_ble_eq_true rfl, Nat.le_of_ble_eq_true rfl⟩ hl.1 rfl rfl (Nat.le_of_ble_eq_true rfl) dX3_put_52 ⟨Nat.zero_le _, Nat.zero_le _⟩) hS (fun rv u H locs hp h hS => ?_)
          obtain ⟨rfl, rfl⟩ := hp
          have hN := hI.2.1
          rcases ixl_cases vz (n := sNb Mz.1) (by omega) with hbd | ⟨j, hj, rfl, hbd⟩
          · refine lw_ti (b2i_f (fun q => q hbd)) ?_
            refine lv_if_ne (tgt := 60) hx hb dX3_put_55 (by decide) (fun c0 => absurd c0 (by decide)) (fun _ => ?_)
            refine lv_iconst (v := nI 0) hx hb dX3_put_58 (by decide) ?_
            exact eZ C hret hlk (Mz) h hS rfl (⟨by unfold spPut; rw [hrk]; simp only; rw [hpl]; simp only; rw [cif_f (show ¬ mayL Mz.1 (sKd Mz.1 r) vz from by rintro (z | z | ⟨i, z, z2⟩); exact z hBr; exact c47 z; rw [hbd] at z; cases z)] <;> rfl, by unfold spPut; rw [hrk]; simp only; rw [hpl]; simp only; rw [cif_f (show ¬ mayL Mz.1 (sKd Mz.1 r) vz from by rintro (z | z | ⟨i, z, z2⟩); exact z hBr; exact c47 z; rw [hbd] at z; cases z)] <;> rfl, hR⟩) dX3_put_59
          · refine lw_ti (b2i_t (by rw [hbd]; exact fun q => by cases q)) ?_
            refine lv_if_ne (tgt := 60) hx hb dX3_put_55 (by decide) (fun _ => ?_) (fun c0 => absurd c0 (by decide))
            refine lv_lload_n hx hb dX3_put_60 rfl (lv_at hl 3 rfl) ?_
            refine lv_ldc2 (v := -1) hx hb C.2.2.2.1 (C.2.2.2.2.1 _ (by decide +kernel)) dX3_put_61 ?_
            refine W.lcmp hx hb dX3_put_64 ?_
            refine lv_if_eq (tgt := 91) hx hb dX3_put_65 (by decide) (fun c0 => absurd c0 (fun z => c47 ((lg_cmp_eq _ _).mp z))) (fun c65 => ?_)
            refine lv_aload_n hx hb dX3_put_68 rfl (lv_at hl 0 rfl) ?_
            refine fg_X3_7 C h dX3_put_69 ?_
            refine lv_iload_n hx hb dX3_put_72 rfl (lv_at hl 1 rfl) ?_
            refine ml_kd C h (by first | assumption | omega) dX3_put_73 ?_
            refine lv_bipush (v := nI 8) hx hb dX3_put_74 (by decide) ?_
            refine lv_icmp_ne (tgt := 91) hx hb dX3_put_76 (by decide) (fun c76 => ?_) (fun c76 => ?_)
            · skip
              refine lv_aload_n hx hb dX3_put_91 rfl (lv_at hl 0 rfl) ?_
              refine fg_X3_16 C h dX3_put_92 ?_
              refine lv_bipush (v := nI 40) hx hb dX3_put_95 (by decide) ?_
              refine lv_iload_n hx hb dX3_put_97 rfl (lv_at hl 1 rfl) ?_
              refine lv_imul hx hb dX3_put_98 ?_
              refine lw_ti (show _ = nI (40 * r) from pk_mul _ _) ?_
              refine lv_iload_n hx hb dX3_put_99 rfl (lv_at hl 2 rfl) ?_
              refine lv_iadd hx hb dX3_put_100 ?_
              refine lw_ti (show _ = nI (40 * r + q) from nI_add _ _) ?_
              refine lv_lload_n hx hb dX3_put_101 rfl (lv_at hl 3 rfl) ?_
              refine ms_ce C h hS (by first | assumption | omega) dX3_put_102 (fun H locs h hS => ?_)
              refine lv_iconst (v := nI 1) hx hb dX3_put_103 (by decide) ?_
              exact eZ C hret hlk ((putC Mz.1 r q (lN j), vp_updL (mF Mz) (40 * r + q) (lN j), mB Mz, mA Mz, mC Mz, mP Mz)) h hS rfl (⟨by unfold spPut; rw [hrk]; simp only; rw [hpl]; simp only; rw [cif_t (show  mayL Mz.1 (sKd Mz.1 r) (lN j) from Or.inr (Or.inr ⟨j, hbd, Or.inl (by rcases hBr with z | z; exact z; exact absurd (by rw [z]) c76)⟩))] <;> rfl, by unfold spPut; rw [hrk]; simp only; rw [hpl]; simp only; rw [cif_t (show mayL Mz.1 (sKd Mz.1 r) (lN j) from Or.inr (Or.inr ⟨j, hbd, Or.inl (by rcases hBr with z | z; exact z; exact absurd (by rw [z]) c76)⟩)), fit_bd hBr], RM_put hI hR hr (by omega) _⟩) dX3_put_104
            · skip
              refine lv_aload_n hx hb dX3_put_79 rfl (lv_at hl 0 rfl) ?_
              refine fg_X3_29 C h dX3_put_80 ?_
              refine lv_lload_n hx hb dX3_put_83 rfl (lv_at hl 3 rfl) ?_
              refine lv_l2i hx hb dX3_put_84 rfl ?_
              refine lw_ti (lN_i _) ?_
              refine ml_pe C h (by first | assumption | omega) dX3_put_85 ?_
              refine lv_if_ne (tgt := 91) hx hb dX3_put_86 (by decide) (fun c86 => ?_) (fun c86 => ?_)
              · skip
                refine lv_aload_n hx hb dX3_put_91 rfl (lv_at hl 0 rfl) ?_
                refine fg_X3_16 C h dX3_put_92 ?_
                refine lv_bipush (v := nI 40) hx hb dX3_put_95 (by decide) ?_
                refine lv_iload_n hx hb dX3_put_97 rfl (lv_at hl 1 rfl) ?_
                refine lv_imul hx hb dX3_put_98 ?_
                refine lw_ti (show _ = nI (40 * r) from pk_mul _ _) ?_
                refine lv_iload_n hx hb dX3_put_99 rfl (lv_at hl 2 rfl) ?_
                refine lv_iadd hx hb dX3_put_100 ?_
                refine lw_ti (show _ = nI (40 * r + q) from nI_add _ _) ?_
                refine lv_lload_n hx hb dX3_put_101 rfl (lv_at hl 3 rfl) ?_
                refine ms_ce C h hS (by first | assumption | omega) dX3_put_102 (fun H locs h hS => ?_)
                refine lv_iconst (v := nI 1) hx hb dX3_put_103 (by decide) ?_
                exact eZ C hret hlk ((putC Mz.1 r q (lN j), vp_updL (mF Mz) (40 * r + q) (lN j), mB Mz, mA Mz, mC Mz, mP Mz)) h hS rfl (⟨by unfold spPut; rw [hrk]; simp only; rw [hpl]; simp only; rw [cif_t (show  mayL Mz.1 (sKd Mz.1 r) (lN j) from Or.inr (Or.inr ⟨j, hbd, Or.inr c86⟩))] <;> rfl, by unfold spPut; rw [hrk]; simp only; rw [hpl]; simp only; rw [cif_t (show mayL Mz.1 (sKd Mz.1 r) (lN j) from Or.inr (Or.inr ⟨j, hbd, Or.inr c86⟩)), fit_bd hBr], RM_put hI hR hr (by omega) _⟩) dX3_put_104
              · skip
                refine lv_iconst (v := nI 0) hx hb dX3_put_89 (by decide) ?_
                exact eZ C hret hlk (Mz) h hS rfl (⟨by unfold spPut; rw [hrk]; simp only; rw [hpl]; simp only; rw [cif_f (show ¬ mayL Mz.1 (sKd Mz.1 r) (lN j) from by have hk8 := (nI_eq (by have := (hI.1 r hr).1; omega) (by decide)).mp c76; rintro (z | z | ⟨i, z, z2⟩); exact z hBr; exact c47 z; rw [hbd] at z; cases z; rcases z2 with z2 | z2; omega; exact z2 c86)] <;> rfl, by unfold spPut; rw [hrk]; simp only; rw [hpl]; simp only; rw [cif_f (show ¬ mayL Mz.1 (sKd Mz.1 r) (lN j) from by have hk8 := (nI_eq (by have := (hI.1 r hr).1; omega) (by decide)).mp c76; rintro (z | z | ⟨i, z, z2⟩); exact z hBr; exact c47 z; rw [hbd] at z; cases z; rcases z2 with z2 | z2; omega; exact z2 c86)] <;> rfl, hR⟩) dX3_put_90
      · refine lw_ti (b2i_f hBr) ?_
        refine lv_if_ne (tgt := 42) hx hb dX3_put_16 (by decide) (fun c0 => absurd c0 (by decide)) (fun _ => ?_)
        refine lv_aload_n hx hb dX3_put_19 rfl (lv_at hl 0 rfl) ?_
        refine fg_X3_16 C h dX3_put_20 ?_
        refine lv_bipush (v := nI 40) hx hb dX3_put_23 (by decide) ?_
        refine lv_iload_n hx hb dX3_put_25 rfl (lv_at hl 1 rfl) ?_
        refine lv_imul hx hb dX3_put_26 ?_
        refine lw_ti (show _ = nI (40 * r) from pk_mul _ _) ?_
        refine lv_iload_n hx hb dX3_put_27 rfl (lv_at hl 2 rfl) ?_
        refine lv_iadd hx hb dX3_put_28 ?_
        refine lw_ti (show _ = nI (40 * r + q) from nI_add _ _) ?_
        refine lv_aload_n hx hb dX3_put_29 rfl (lv_at hl 0 rfl) ?_
        refine fg_X3_7 C h dX3_put_30 ?_
        refine lv_iload_n hx hb dX3_put_33 rfl (lv_at hl 1 rfl) ?_
        refine ml_kd C h (by first | assumption | omega) dX3_put_34 ?_
        refine lv_lload_n hx hb dX3_put_35 rfl (lv_at hl 3 rfl) ?_
        refine kL (rS (As := [.int (nI (sKd Mz.1 r)), .long vz]) (rest := [.int (nI (40 * r + q)), .ref (a 3)]) C h lk_X3_73 (c3_kept l G a Mz (sKd Mz.1 r) (by omega) (by have := (hI.1 r hr).1; omega) vz) ⟨Nat.le_of_ble_eq_true rfl, Nat.le_of_ble_eq_true rfl⟩ hl.1 rfl rfl (Nat.le_of_ble_eq_true rfl) dX3_put_36 ⟨Nat.zero_le _, Nat.zero_le _⟩) hS (fun rv u H locs hp h hS => ?_)
        obtain ⟨rfl, rfl⟩ := hp
        refine ms_ce C h hS (by first | assumption | omega) dX3_put_39 (fun H locs h hS => ?_)
        refine lv_iconst (v := nI 1) hx hb dX3_put_40 (by decide) ?_
        exact eZ C hret hlk ((putC Mz.1 r q (fit (sKd Mz.1 r) vz), vp_updL (mF Mz) (40 * r + q) (fit (sKd Mz.1 r) vz), mB Mz, mA Mz, mC Mz, mP Mz)) h hS rfl (⟨by unfold spPut; rw [hrk]; simp only; rw [hpl]; simp only; rw [cif_t (show  mayL Mz.1 (sKd Mz.1 r) vz from Or.inl hBr)] <;> rfl, by unfold spPut; rw [hrk]; simp only; rw [hpl]; simp only; rw [cif_t (show  mayL Mz.1 (sKd Mz.1 r) vz from Or.inl hBr)] <;> rfl, RM_put hI hR hr (by omega) _⟩) dX3_put_41
end
