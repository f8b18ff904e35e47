section
-- ===== PART A: goes FIRST, ahead of the names: the tables' words, and 'selects' of the private methods out of them =====
/-- a private method of a class that the tables say can be made, by its rows of tables_1 -/
def lw_okq (q : MethodName × Nat) : Prop := (q.1.cls ≠ "java/lang/invoke/MethodHandle" ∧ q.1.cls ≠ "java/lang/invoke/VarHandle") ∧ Cond.instantiable q.1.cls q.2 ∈ tables_1 ∧ Cond.privateMethod q.1 ∈ tables_1 ∧ Cond.instanceMethod q.1 ∈ tables_1
theorem lw_p0 : lw_okq (⟨"JumpBoard", "isBibTaken", "(I)Z"⟩, 8) := ⟨⟨by decide +kernel, by decide +kernel⟩, List.mem_of_getElem? (i := 5) (by decide +kernel), List.mem_of_getElem? (i := 43) (by decide +kernel), List.mem_of_getElem? (i := 44) (by decide +kernel)⟩
theorem lw_p1 : lw_okq (⟨"JumpBoard", "isJumper", "(I)Z"⟩, 8) := ⟨⟨by decide +kernel, by decide +kernel⟩, List.mem_of_getElem? (i := 5) (by decide +kernel), List.mem_of_getElem? (i := 51) (by decide +kernel), List.mem_of_getElem? (i := 52) (by decide +kernel)⟩
theorem lw_p2 : lw_okq (⟨"JumpBoard", "valueOf", "(III)I"⟩, 8) := ⟨⟨by decide +kernel, by decide +kernel⟩, List.mem_of_getElem? (i := 5) (by decide +kernel), List.mem_of_getElem? (i := 86) (by decide +kernel), List.mem_of_getElem? (i := 87) (by decide +kernel)⟩
theorem lw_p3 : lw_okq (⟨"JumpBoard", "isQuestion", "(IIII)Z"⟩, 8) := ⟨⟨by decide +kernel, by decide +kernel⟩, List.mem_of_getElem? (i := 5) (by decide +kernel), List.mem_of_getElem? (i := 110) (by decide +kernel), List.mem_of_getElem? (i := 111) (by decide +kernel)⟩
theorem lw_p4 : lw_okq (⟨"JumpBoard", "bestOf", "(I)I"⟩, 8) := ⟨⟨by decide +kernel, by decide +kernel⟩, List.mem_of_getElem? (i := 5) (by decide +kernel), List.mem_of_getElem? (i := 137) (by decide +kernel), List.mem_of_getElem? (i := 138) (by decide +kernel)⟩
theorem lw_p5 : lw_okq (⟨"JumpBoard", "isLegal", "(II)Z"⟩, 8) := ⟨⟨by decide +kernel, by decide +kernel⟩, List.mem_of_getElem? (i := 5) (by decide +kernel), List.mem_of_getElem? (i := 141) (by decide +kernel), List.mem_of_getElem? (i := 142) (by decide +kernel)⟩
theorem lw_p6 : lw_okq (⟨"JumpBoard", "layOut", "(I)V"⟩, 8) := ⟨⟨by decide +kernel, by decide +kernel⟩, List.mem_of_getElem? (i := 5) (by decide +kernel), List.mem_of_getElem? (i := 149) (by decide +kernel), List.mem_of_getElem? (i := 150) (by decide +kernel)⟩
theorem lw_p7 : lw_okq (⟨"JumpBoard", "putInRow", "(II)V"⟩, 8) := ⟨⟨by decide +kernel, by decide +kernel⟩, List.mem_of_getElem? (i := 5) (by decide +kernel), List.mem_of_getElem? (i := 153) (by decide +kernel), List.mem_of_getElem? (i := 154) (by decide +kernel)⟩
theorem lw_p8 : lw_okq (⟨"JumpBoard", "isAhead", "(II)Z"⟩, 8) := ⟨⟨by decide +kernel, by decide +kernel⟩, List.mem_of_getElem? (i := 5) (by decide +kernel), List.mem_of_getElem? (i := 157) (by decide +kernel), List.mem_of_getElem? (i := 158) (by decide +kernel)⟩
theorem lw_p9 : lw_okq (⟨"JumpBoard", "layOutAll", "()V"⟩, 8) := ⟨⟨by decide +kernel, by decide +kernel⟩, List.mem_of_getElem? (i := 5) (by decide +kernel), List.mem_of_getElem? (i := 165) (by decide +kernel), List.mem_of_getElem? (i := 166) (by decide +kernel)⟩
theorem lw_p10 : lw_okq (⟨"JumpBoard", "howManyJumpBefore", "(I)I"⟩, 8) := ⟨⟨by decide +kernel, by decide +kernel⟩, List.mem_of_getElem? (i := 5) (by decide +kernel), List.mem_of_getElem? (i := 173) (by decide +kernel), List.mem_of_getElem? (i := 174) (by decide +kernel)⟩
theorem lw_p11 : lw_okq (⟨"JumpBoard", "jumpsBefore", "(II)Z"⟩, 8) := ⟨⟨by decide +kernel, by decide +kernel⟩, List.mem_of_getElem? (i := 5) (by decide +kernel), List.mem_of_getElem? (i := 177) (by decide +kernel), List.mem_of_getElem? (i := 178) (by decide +kernel)⟩
theorem lw_p12 : lw_okq (⟨"JumpBoard", "beatsEarlierRounds", "(II)Z"⟩, 8) := ⟨⟨by decide +kernel, by decide +kernel⟩, List.mem_of_getElem? (i := 5) (by decide +kernel), List.mem_of_getElem? (i := 185) (by decide +kernel), List.mem_of_getElem? (i := 186) (by decide +kernel)⟩
theorem lw_p13 : lw_okq (⟨"JumpBoard", "howManyJumped", "()I"⟩, 8) := ⟨⟨by decide +kernel, by decide +kernel⟩, List.mem_of_getElem? (i := 5) (by decide +kernel), List.mem_of_getElem? (i := 193) (by decide +kernel), List.mem_of_getElem? (i := 194) (by decide +kernel)⟩
theorem lw_p14 : lw_okq (⟨"JumpBoard", "howManyMarked", "()I"⟩, 8) := ⟨⟨by decide +kernel, by decide +kernel⟩, List.mem_of_getElem? (i := 5) (by decide +kernel), List.mem_of_getElem? (i := 197) (by decide +kernel), List.mem_of_getElem? (i := 198) (by decide +kernel)⟩
theorem lw_p15 : lw_okq (⟨"JumpBoard", "howManyLegal", "()I"⟩, 8) := ⟨⟨by decide +kernel, by decide +kernel⟩, List.mem_of_getElem? (i := 5) (by decide +kernel), List.mem_of_getElem? (i := 201) (by decide +kernel), List.mem_of_getElem? (i := 202) (by decide +kernel)⟩
def lw_privs_1 : List (MethodName × Nat) := [(⟨"JumpBoard", "isBibTaken", "(I)Z"⟩, 8), (⟨"JumpBoard", "isJumper", "(I)Z"⟩, 8), (⟨"JumpBoard", "valueOf", "(III)I"⟩, 8), (⟨"JumpBoard", "isQuestion", "(IIII)Z"⟩, 8), (⟨"JumpBoard", "bestOf", "(I)I"⟩, 8), (⟨"JumpBoard", "isLegal", "(II)Z"⟩, 8), (⟨"JumpBoard", "layOut", "(I)V"⟩, 8), (⟨"JumpBoard", "putInRow", "(II)V"⟩, 8), (⟨"JumpBoard", "isAhead", "(II)Z"⟩, 8), (⟨"JumpBoard", "layOutAll", "()V"⟩, 8), (⟨"JumpBoard", "howManyJumpBefore", "(I)I"⟩, 8), (⟨"JumpBoard", "jumpsBefore", "(II)Z"⟩, 8), (⟨"JumpBoard", "beatsEarlierRounds", "(II)Z"⟩, 8), (⟨"JumpBoard", "howManyJumped", "()I"⟩, 8), (⟨"JumpBoard", "howManyMarked", "()I"⟩, 8), (⟨"JumpBoard", "howManyLegal", "()I"⟩, 8)]
theorem lw_r1 : ∀ q ∈ lw_privs_1, lw_okq q := List.forall_mem_cons.mpr ⟨lw_p0, List.forall_mem_cons.mpr ⟨lw_p1, List.forall_mem_cons.mpr ⟨lw_p2, List.forall_mem_cons.mpr ⟨lw_p3, List.forall_mem_cons.mpr ⟨lw_p4, List.forall_mem_cons.mpr ⟨lw_p5, List.forall_mem_cons.mpr ⟨lw_p6, List.forall_mem_cons.mpr ⟨lw_p7, List.forall_mem_cons.mpr ⟨lw_p8, List.forall_mem_cons.mpr ⟨lw_p9, List.forall_mem_cons.mpr ⟨lw_p10, List.forall_mem_cons.mpr ⟨lw_p11, List.forall_mem_cons.mpr ⟨lw_p12, List.forall_mem_cons.mpr ⟨lw_p13, List.forall_mem_cons.mpr ⟨lw_p14, List.forall_mem_cons.mpr ⟨lw_p15, fun _ h => absurd h List.not_mem_nil⟩⟩⟩⟩⟩⟩⟩⟩⟩⟩⟩⟩⟩⟩⟩⟩
theorem lw_p16 : lw_okq (⟨"JumpBoardModel", "isJumper", "(I)Z"⟩, 8) := ⟨⟨by decide +kernel, by decide +kernel⟩, List.mem_of_getElem? (i := 205) (by decide +kernel), List.mem_of_getElem? (i := 247) (by decide +kernel), List.mem_of_getElem? (i := 248) (by decide +kernel)⟩
theorem lw_p17 : lw_okq (⟨"JumpBoardModel", "code", "(III)I"⟩, 8) := ⟨⟨by decide +kernel, by decide +kernel⟩, List.mem_of_getElem? (i := 205) (by decide +kernel), List.mem_of_getElem? (i := 273) (by decide +kernel), List.mem_of_getElem? (i := 274) (by decide +kernel)⟩
theorem lw_p18 : lw_okq (⟨"JumpBoardModel", "isAsked", "(III)Z"⟩, 8) := ⟨⟨by decide +kernel, by decide +kernel⟩, List.mem_of_getElem? (i := 205) (by decide +kernel), List.mem_of_getElem? (i := 284) (by decide +kernel), List.mem_of_getElem? (i := 285) (by decide +kernel)⟩
theorem lw_p19 : lw_okq (⟨"JumpBoardModel", "fit", "(IIII)Z"⟩, 8) := ⟨⟨by decide +kernel, by decide +kernel⟩, List.mem_of_getElem? (i := 205) (by decide +kernel), List.mem_of_getElem? (i := 288) (by decide +kernel), List.mem_of_getElem? (i := 289) (by decide +kernel)⟩
theorem lw_p20 : lw_okq (⟨"JumpBoardModel", "isAskedOf", "(IIII)Z"⟩, 8) := ⟨⟨by decide +kernel, by decide +kernel⟩, List.mem_of_getElem? (i := 205) (by decide +kernel), List.mem_of_getElem? (i := 296) (by decide +kernel), List.mem_of_getElem? (i := 297) (by decide +kernel)⟩
theorem lw_p21 : lw_okq (⟨"JumpBoardModel", "unfit", "(IIIII)I"⟩, 8) := ⟨⟨by decide +kernel, by decide +kernel⟩, List.mem_of_getElem? (i := 205) (by decide +kernel), List.mem_of_getElem? (i := 308) (by decide +kernel), List.mem_of_getElem? (i := 309) (by decide +kernel)⟩
theorem lw_p22 : lw_okq (⟨"JumpBoardModel", "greatest", "(II)I"⟩, 8) := ⟨⟨by decide +kernel, by decide +kernel⟩, List.mem_of_getElem? (i := 205) (by decide +kernel), List.mem_of_getElem? (i := 324) (by decide +kernel), List.mem_of_getElem? (i := 325) (by decide +kernel)⟩
theorem lw_p23 : lw_okq (⟨"JumpBoardModel", "isLegal", "(II)Z"⟩, 8) := ⟨⟨by decide +kernel, by decide +kernel⟩, List.mem_of_getElem? (i := 205) (by decide +kernel), List.mem_of_getElem? (i := 328) (by decide +kernel), List.mem_of_getElem? (i := 329) (by decide +kernel)⟩
theorem lw_p24 : lw_okq (⟨"JumpBoardModel", "compared", "(II)I"⟩, 8) := ⟨⟨by decide +kernel, by decide +kernel⟩, List.mem_of_getElem? (i := 205) (by decide +kernel), List.mem_of_getElem? (i := 336) (by decide +kernel), List.mem_of_getElem? (i := 337) (by decide +kernel)⟩
theorem lw_p25 : lw_okq (⟨"JumpBoardModel", "many", "(II)I"⟩, 8) := ⟨⟨by decide +kernel, by decide +kernel⟩, List.mem_of_getElem? (i := 205) (by decide +kernel), List.mem_of_getElem? (i := 340) (by decide +kernel), List.mem_of_getElem? (i := 341) (by decide +kernel)⟩
theorem lw_p26 : lw_okq (⟨"JumpBoardModel", "behind", "(I)I"⟩, 8) := ⟨⟨by decide +kernel, by decide +kernel⟩, List.mem_of_getElem? (i := 205) (by decide +kernel), List.mem_of_getElem? (i := 353) (by decide +kernel), List.mem_of_getElem? (i := 354) (by decide +kernel)⟩
theorem lw_p27 : lw_okq (⟨"JumpBoardModel", "isNewBest", "(II)Z"⟩, 8) := ⟨⟨by decide +kernel, by decide +kernel⟩, List.mem_of_getElem? (i := 205) (by decide +kernel), List.mem_of_getElem? (i := 361) (by decide +kernel), List.mem_of_getElem? (i := 362) (by decide +kernel)⟩
def lw_privs_2 : List (MethodName × Nat) := [(⟨"JumpBoardModel", "isJumper", "(I)Z"⟩, 8), (⟨"JumpBoardModel", "code", "(III)I"⟩, 8), (⟨"JumpBoardModel", "isAsked", "(III)Z"⟩, 8), (⟨"JumpBoardModel", "fit", "(IIII)Z"⟩, 8), (⟨"JumpBoardModel", "isAskedOf", "(IIII)Z"⟩, 8), (⟨"JumpBoardModel", "unfit", "(IIIII)I"⟩, 8), (⟨"JumpBoardModel", "greatest", "(II)I"⟩, 8), (⟨"JumpBoardModel", "isLegal", "(II)Z"⟩, 8), (⟨"JumpBoardModel", "compared", "(II)I"⟩, 8), (⟨"JumpBoardModel", "many", "(II)I"⟩, 8), (⟨"JumpBoardModel", "behind", "(I)I"⟩, 8), (⟨"JumpBoardModel", "isNewBest", "(II)Z"⟩, 8)]
theorem lw_r2 : ∀ q ∈ lw_privs_2, lw_okq q := List.forall_mem_cons.mpr ⟨lw_p16, List.forall_mem_cons.mpr ⟨lw_p17, List.forall_mem_cons.mpr ⟨lw_p18, List.forall_mem_cons.mpr ⟨lw_p19, List.forall_mem_cons.mpr ⟨lw_p20, List.forall_mem_cons.mpr ⟨lw_p21, List.forall_mem_cons.mpr ⟨lw_p22, List.forall_mem_cons.mpr ⟨lw_p23, List.forall_mem_cons.mpr ⟨lw_p24, List.forall_mem_cons.mpr ⟨lw_p25, List.forall_mem_cons.mpr ⟨lw_p26, List.forall_mem_cons.mpr ⟨lw_p27, fun _ h => absurd h List.not_mem_nil⟩⟩⟩⟩⟩⟩⟩⟩⟩⟩⟩⟩
def lw_privs : List (MethodName × Nat) := lw_privs_1 ++ (lw_privs_2)
def lw_tbl : List Cond := k2_sels lw_privs ++ tables_1
theorem lw_privs_ok : ∀ q ∈ lw_privs, lw_okq q := by
  show ∀ q ∈ lw_privs_1 ++ (lw_privs_2), lw_okq q
  exact List.forall_mem_append.mpr ⟨lw_r1, lw_r2⟩
end
section
/-! ===== BEGIN words of one list among another's, by their places ===== -/
theorem goodIn_r {big : List Cond} (ws : List Cond) (ps : List Nat) (hp : ws = ps.filterMap (fun i => big[i]?)) (h : ws.all goodWord = true) : GoodIn big ws := by
  intro w hw
  have h1 := List.all_eq_true.mp h w hw
  rw [hp] at hw
  obtain ⟨i, -, hi⟩ := List.mem_filterMap.mp hw
  have hm : w ∈ big := by first | exact List.mem_of_getElem? hi | exact List.getElem?_mem hi
  exact ⟨hm, good_of_word h1⟩
theorem goodIn_app {big a b : List Cond} (ha : GoodIn big a) (hb : GoodIn big b) : GoodIn big (a ++ b) := fun w h => (List.mem_append.mp h).elim (ha w) (hb w)
theorem goodIn_ca {big a b : List Cond} {c : Cond} (ha : GoodIn big (c :: a)) (hb : GoodIn big b) : GoodIn big (c :: (a ++ b)) := fun w h => (List.mem_cons.mp h).elim (fun e => ha w (List.mem_cons.mpr (Or.inl e))) (fun h => (List.mem_append.mp h).elim (fun h => ha w (List.mem_cons.mpr (Or.inr h))) (hb w))
theorem goodIn_sub {big ws : List Cond} (hm : ∀ w ∈ ws, w ∈ big) (h : ws.all goodWord = true) : GoodIn big ws := fun w hw => ⟨hm w hw, good_of_word (List.all_eq_true.mp h w hw)⟩
/-! ===== END ===== -/

/-! ===== BEGIN printed: names, fields, word lists, decode rows ===== -/
def RX0 : String := "JumpBoard"
def TX0 : u_T := fun k => match k with
  | 0 => ("JumpBoard", "jumpers", "I", false)
  | 1 => ("JumpBoard", "recordMark", "I", false)
  | 2 => ("JumpBoard", "limitWind", "I", false)
  | 3 => ("JumpBoard", "bibs", "[I", true)
  | 4 => ("JumpBoard", "jumped", "[I", true)
  | 5 => ("JumpBoard", "marks", "[I", true)
  | 6 => ("JumpBoard", "winds", "[I", true)
  | _ => ("JumpBoard", "rows", "[I", true)
def tyX0 : Nat → FieldType := fun k => match k with
  | 0 => .int
  | 1 => .int
  | 2 => .int
  | 3 => .array .int
  | 4 => .array .int
  | 5 => .array .int
  | 6 => .array .int
  | _ => .array .int
abbrev wsX00 : List Cond := u_ws RX0 TX0 8
theorem nmX0 : ∀ a, a < 8 → ∀ b, b < 8 → a ≠ b → (TX0 a).2.1 ≠ (TX0 b).2.1 := by decide +kernel
theorem tyX0_ok : ∀ k, k < 8 → parseFieldDescriptor (TX0 k).2.2.1 = some (tyX0 k) := by decide +kernel
abbrev cX0_init : ByteArray := prog_1_method_1_code
def yX0_init : MethodName := ⟨RX0, "<init>", "()V"⟩
abbrev cX0_enter : ByteArray := prog_1_method_2_code
def yX0_enter : MethodName := ⟨RX0, "enter", "(I)I"⟩
abbrev cX0_jump : ByteArray := prog_1_method_3_code
def yX0_jump : MethodName := ⟨RX0, "jump", "(III)I"⟩
abbrev cX0_undo : ByteArray := prog_1_method_4_code
def yX0_undo : MethodName := ⟨RX0, "undo", "(I)I"⟩
abbrev cX0_record : ByteArray := prog_1_method_5_code
def yX0_record : MethodName := ⟨RX0, "record", "(I)I"⟩
abbrev cX0_limit : ByteArray := prog_1_method_6_code
def yX0_limit : MethodName := ⟨RX0, "limit", "(I)I"⟩
abbrev cX0_value : ByteArray := prog_1_method_7_code
def yX0_value : MethodName := ⟨RX0, "value", "(III)I"⟩
abbrev cX0_fits : ByteArray := prog_1_method_8_code
def yX0_fits : MethodName := ⟨RX0, "fits", "(IIIII)I"⟩
abbrev cX0_count : ByteArray := prog_1_method_9_code
def yX0_count : MethodName := ⟨RX0, "count", "(IIII)I"⟩
abbrev cX0_turned : ByteArray := prog_1_method_10_code
def yX0_turned : MethodName := ⟨RX0, "turned", "(IIII)I"⟩
abbrev cX0_longest : ByteArray := prog_1_method_11_code
def yX0_longest : MethodName := ⟨RX0, "longest", "(IIII)I"⟩
abbrev cX0_skip : ByteArray := prog_1_method_12_code
def yX0_skip : MethodName := ⟨RX0, "skip", "(IIIII)I"⟩
abbrev cX0_pick : ByteArray := prog_1_method_13_code
def yX0_pick : MethodName := ⟨RX0, "pick", "(IIII)I"⟩
abbrev cX0_best : ByteArray := prog_1_method_14_code
def yX0_best : MethodName := ⟨RX0, "best", "(I)I"⟩
abbrev cX0_ahead : ByteArray := prog_1_method_15_code
def yX0_ahead : MethodName := ⟨RX0, "ahead", "(II)I"⟩
abbrev cX0_place : ByteArray := prog_1_method_16_code
def yX0_place : MethodName := ⟨RX0, "place", "(I)I"⟩
abbrev cX0_order : ByteArray := prog_1_method_17_code
def yX0_order : MethodName := ⟨RX0, "order", "(I)I"⟩
abbrev cX0_verdict : ByteArray := prog_1_method_18_code
def yX0_verdict : MethodName := ⟨RX0, "verdict", "(II)I"⟩
abbrev cX0_told : ByteArray := prog_1_method_19_code
def yX0_told : MethodName := ⟨RX0, "told", "(I)I"⟩
abbrev cX0_isJumper : ByteArray := prog_1_method_20_code
def yX0_isJumper : MethodName := ⟨RX0, "isJumper", "(I)Z"⟩
abbrev cX0_isRound : ByteArray := prog_1_method_21_code
def yX0_isRound : MethodName := ⟨RX0, "isRound", "(I)Z"⟩
abbrev cX0_isWhat : ByteArray := prog_1_method_22_code
def yX0_isWhat : MethodName := ⟨RX0, "isWhat", "(I)Z"⟩
abbrev cX0_isHow : ByteArray := prog_1_method_23_code
def yX0_isHow : MethodName := ⟨RX0, "isHow", "(I)Z"⟩
abbrev cX0_isMark : ByteArray := prog_1_method_24_code
def yX0_isMark : MethodName := ⟨RX0, "isMark", "(I)Z"⟩
abbrev cX0_isWind : ByteArray := prog_1_method_25_code
def yX0_isWind : MethodName := ⟨RX0, "isWind", "(I)Z"⟩
abbrev cX0_isQuestion : ByteArray := prog_1_method_26_code
def yX0_isQuestion : MethodName := ⟨RX0, "isQuestion", "(IIII)Z"⟩
abbrev cX0_isBibTaken : ByteArray := prog_1_method_27_code
def yX0_isBibTaken : MethodName := ⟨RX0, "isBibTaken", "(I)Z"⟩
abbrev cX0_at : ByteArray := prog_1_method_28_code
def yX0_at : MethodName := ⟨RX0, "at", "(II)I"⟩
abbrev cX0_valueOf : ByteArray := prog_1_method_29_code
def yX0_valueOf : MethodName := ⟨RX0, "valueOf", "(III)I"⟩
abbrev cX0_isNone : ByteArray := prog_1_method_30_code
def yX0_isNone : MethodName := ⟨RX0, "isNone", "(II)Z"⟩
abbrev cX0_valueFits : ByteArray := prog_1_method_31_code
def yX0_valueFits : MethodName := ⟨RX0, "valueFits", "(IIII)Z"⟩
abbrev cX0_numberFits : ByteArray := prog_1_method_32_code
def yX0_numberFits : MethodName := ⟨RX0, "numberFits", "(III)Z"⟩
abbrev cX0_isLegal : ByteArray := prog_1_method_33_code
def yX0_isLegal : MethodName := ⟨RX0, "isLegal", "(II)Z"⟩
abbrev cX0_bestOf : ByteArray := prog_1_method_34_code
def yX0_bestOf : MethodName := ⟨RX0, "bestOf", "(I)I"⟩
abbrev cX0_layOutAll : ByteArray := prog_1_method_35_code
def yX0_layOutAll : MethodName := ⟨RX0, "layOutAll", "()V"⟩
abbrev cX0_layOut : ByteArray := prog_1_method_36_code
def yX0_layOut : MethodName := ⟨RX0, "layOut", "(I)V"⟩
abbrev cX0_putInRow : ByteArray := prog_1_method_37_code
def yX0_putInRow : MethodName := ⟨RX0, "putInRow", "(II)V"⟩
abbrev cX0_isAhead : ByteArray := prog_1_method_38_code
def yX0_isAhead : MethodName := ⟨RX0, "isAhead", "(II)Z"⟩
abbrev cX0_howManyJumpBefore : ByteArray := prog_1_method_39_code
def yX0_howManyJumpBefore : MethodName := ⟨RX0, "howManyJumpBefore", "(I)I"⟩
abbrev cX0_jumpsBefore : ByteArray := prog_1_method_40_code
def yX0_jumpsBefore : MethodName := ⟨RX0, "jumpsBefore", "(II)Z"⟩
abbrev cX0_beatsEarlierRounds : ByteArray := prog_1_method_41_code
def yX0_beatsEarlierRounds : MethodName := ⟨RX0, "beatsEarlierRounds", "(II)Z"⟩
abbrev cX0_howManyJumped : ByteArray := prog_1_method_42_code
def yX0_howManyJumped : MethodName := ⟨RX0, "howManyJumped", "()I"⟩
abbrev cX0_howManyMarked : ByteArray := prog_1_method_43_code
def yX0_howManyMarked : MethodName := ⟨RX0, "howManyMarked", "()I"⟩
abbrev cX0_howManyLegal : ByteArray := prog_1_method_44_code
def yX0_howManyLegal : MethodName := ⟨RX0, "howManyLegal", "()I"⟩
def RX1 : String := "JumpBoardModel"
def TX1 : u_T := fun k => match k with
  | 0 => ("JumpBoardModel", "bibs", "[I", true)
  | 1 => ("JumpBoardModel", "jumped", "[I", true)
  | 2 => ("JumpBoardModel", "marks", "[I", true)
  | 3 => ("JumpBoardModel", "winds", "[I", true)
  | 4 => ("JumpBoardModel", "takes", "[I", true)
  | 5 => ("JumpBoardModel", "jumpers", "I", false)
  | 6 => ("JumpBoardModel", "recordMark", "I", false)
  | _ => ("JumpBoardModel", "limitWind", "I", false)
def tyX1 : Nat → FieldType := fun k => match k with
  | 0 => .array .int
  | 1 => .array .int
  | 2 => .array .int
  | 3 => .array .int
  | 4 => .array .int
  | 5 => .int
  | 6 => .int
  | _ => .int
abbrev wsX10 : List Cond := u_ws RX1 TX1 8
theorem nmX1 : ∀ a, a < 8 → ∀ b, b < 8 → a ≠ b → (TX1 a).2.1 ≠ (TX1 b).2.1 := by decide +kernel
theorem tyX1_ok : ∀ k, k < 8 → parseFieldDescriptor (TX1 k).2.2.1 = some (tyX1 k) := by decide +kernel
abbrev cX1_init : ByteArray := prog_3_method_1_code
def yX1_init : MethodName := ⟨RX1, "<init>", "()V"⟩
abbrev cX1_isIn : ByteArray := prog_3_method_2_code
def yX1_isIn : MethodName := ⟨RX1, "isIn", "(III)Z"⟩
abbrev cX1_isJumper : ByteArray := prog_3_method_3_code
def yX1_isJumper : MethodName := ⟨RX1, "isJumper", "(I)Z"⟩
abbrev cX1_isRound : ByteArray := prog_3_method_4_code
def yX1_isRound : MethodName := ⟨RX1, "isRound", "(I)Z"⟩
abbrev cX1_isCode : ByteArray := prog_3_method_5_code
def yX1_isCode : MethodName := ⟨RX1, "isCode", "(II)Z"⟩
abbrev cX1_none : ByteArray := prog_3_method_6_code
def yX1_none : MethodName := ⟨RX1, "none", "(I)I"⟩
abbrev cX1_code : ByteArray := prog_3_method_7_code
def yX1_code : MethodName := ⟨RX1, "code", "(III)I"⟩
abbrev cX1_fit : ByteArray := prog_3_method_8_code
def yX1_fit : MethodName := ⟨RX1, "fit", "(IIII)Z"⟩
abbrev cX1_isAsked : ByteArray := prog_3_method_9_code
def yX1_isAsked : MethodName := ⟨RX1, "isAsked", "(III)Z"⟩
abbrev cX1_isAskedOf : ByteArray := prog_3_method_10_code
def yX1_isAskedOf : MethodName := ⟨RX1, "isAskedOf", "(IIII)Z"⟩
abbrev cX1_enter : ByteArray := prog_3_method_11_code
def yX1_enter : MethodName := ⟨RX1, "enter", "(I)I"⟩
abbrev cX1_jump : ByteArray := prog_3_method_12_code
def yX1_jump : MethodName := ⟨RX1, "jump", "(III)I"⟩
abbrev cX1_undo : ByteArray := prog_3_method_13_code
def yX1_undo : MethodName := ⟨RX1, "undo", "(I)I"⟩
abbrev cX1_record : ByteArray := prog_3_method_14_code
def yX1_record : MethodName := ⟨RX1, "record", "(I)I"⟩
abbrev cX1_limit : ByteArray := prog_3_method_15_code
def yX1_limit : MethodName := ⟨RX1, "limit", "(I)I"⟩
abbrev cX1_value : ByteArray := prog_3_method_16_code
def yX1_value : MethodName := ⟨RX1, "value", "(III)I"⟩
abbrev cX1_fits : ByteArray := prog_3_method_17_code
def yX1_fits : MethodName := ⟨RX1, "fits", "(IIIII)I"⟩
abbrev cX1_count : ByteArray := prog_3_method_18_code
def yX1_count : MethodName := ⟨RX1, "count", "(IIII)I"⟩
abbrev cX1_turned : ByteArray := prog_3_method_19_code
def yX1_turned : MethodName := ⟨RX1, "turned", "(IIII)I"⟩
abbrev cX1_unfit : ByteArray := prog_3_method_20_code
def yX1_unfit : MethodName := ⟨RX1, "unfit", "(IIIII)I"⟩
abbrev cX1_longest : ByteArray := prog_3_method_21_code
def yX1_longest : MethodName := ⟨RX1, "longest", "(IIII)I"⟩
abbrev cX1_skip : ByteArray := prog_3_method_22_code
def yX1_skip : MethodName := ⟨RX1, "skip", "(IIIII)I"⟩
abbrev cX1_pick : ByteArray := prog_3_method_23_code
def yX1_pick : MethodName := ⟨RX1, "pick", "(IIII)I"⟩
abbrev cX1_isLegal : ByteArray := prog_3_method_24_code
def yX1_isLegal : MethodName := ⟨RX1, "isLegal", "(II)Z"⟩
abbrev cX1_greatest : ByteArray := prog_3_method_25_code
def yX1_greatest : MethodName := ⟨RX1, "greatest", "(II)I"⟩
abbrev cX1_many : ByteArray := prog_3_method_26_code
def yX1_many : MethodName := ⟨RX1, "many", "(II)I"⟩
abbrev cX1_compared : ByteArray := prog_3_method_27_code
def yX1_compared : MethodName := ⟨RX1, "compared", "(II)I"⟩
abbrev cX1_best : ByteArray := prog_3_method_28_code
def yX1_best : MethodName := ⟨RX1, "best", "(I)I"⟩
abbrev cX1_ahead : ByteArray := prog_3_method_29_code
def yX1_ahead : MethodName := ⟨RX1, "ahead", "(II)I"⟩
abbrev cX1_place : ByteArray := prog_3_method_30_code
def yX1_place : MethodName := ⟨RX1, "place", "(I)I"⟩
abbrev cX1_behind : ByteArray := prog_3_method_31_code
def yX1_behind : MethodName := ⟨RX1, "behind", "(I)I"⟩
abbrev cX1_order : ByteArray := prog_3_method_32_code
def yX1_order : MethodName := ⟨RX1, "order", "(I)I"⟩
abbrev cX1_isNewBest : ByteArray := prog_3_method_33_code
def yX1_isNewBest : MethodName := ⟨RX1, "isNewBest", "(II)Z"⟩
abbrev cX1_verdict : ByteArray := prog_3_method_34_code
def yX1_verdict : MethodName := ⟨RX1, "verdict", "(II)I"⟩
abbrev cX1_told : ByteArray := prog_3_method_35_code
def yX1_told : MethodName := ⟨RX1, "told", "(I)I"⟩
def RJ9 : String := "java/lang/Math"
def TJ9 : u_T := fun k => match k with
  | _ => ("", "", "", false)
def tyJ9 : Nat → FieldType := fun k => match k with
  | _ => .int
abbrev wsJ90 : List Cond := u_ws RJ9 TJ9 0
theorem nmJ9 : ∀ a, a < 0 → ∀ b, b < 0 → a ≠ b → (TJ9 a).2.1 ≠ (TJ9 b).2.1 := by decide +kernel
theorem tyJ9_ok : ∀ k, k < 0 → parseFieldDescriptor (TJ9 k).2.2.1 = some (tyJ9 k) := by decide +kernel
abbrev cJ9_max_7cf53 : ByteArray := prog_4_method_65_code
def yJ9_max_7cf53 : MethodName := ⟨RJ9, "max", "(II)I"⟩
def RL : String := "JumpBoardLaw"
abbrev cL_law : ByteArray := code
def yL_law : MethodName := ⟨RL, "law", "([I)Z"⟩
def wsX0_init : List Cond := .code yX0_init cX0_init 2 none :: ([.methodLink RX0 1 objectInit, .instanceMethod objectInit, .code objectInit ⟨#[0xb1]⟩ 1 none, .fieldLink RX0 7 "JumpBoard" "jumpers" "I", .fieldLink RX0 13 "JumpBoard" "recordMark" "I", .fieldLink RX0 16 "JumpBoard" "limitWind" "I", .arrayClass .int, .fieldLink RX0 19 "JumpBoard" "bibs" "[I", .fieldLink RX0 23 "JumpBoard" "jumped" "[I", .fieldLink RX0 26 "JumpBoard" "marks" "[I", .fieldLink RX0 29 "JumpBoard" "winds" "[I", .fieldLink RX0 32 "JumpBoard" "rows" "[I"] ++ wsX00)
def wsX0_isBibTaken : List Cond := .code yX0_isBibTaken cX0_isBibTaken 3 (some .boolean) :: ([.fieldLink RX0 7 "JumpBoard" "jumpers" "I", .fieldLink RX0 19 "JumpBoard" "bibs" "[I"] ++ wsX00)
def wsX0_enter : List Cond := .code yX0_enter cX0_enter 3 (some .int) :: ([.fieldLink RX0 7 "JumpBoard" "jumpers" "I", .fieldLink RX0 19 "JumpBoard" "bibs" "[I", .methodLink RX0 35 yX0_isBibTaken, .instanceMethod yX0_isBibTaken, .selects RX0 yX0_isBibTaken yX0_isBibTaken, .initialized RX0, .code yX0_isBibTaken cX0_isBibTaken 3 (some .boolean)] ++ wsX00)
def wsX0_isJumper : List Cond := .code yX0_isJumper cX0_isJumper 2 (some .boolean) :: ([.fieldLink RX0 7 "JumpBoard" "jumpers" "I"] ++ wsX00)
def wsX0_isMark : List Cond := .code yX0_isMark cX0_isMark 1 (some .boolean) :: ([])
def wsX0_isWind : List Cond := .code yX0_isWind cX0_isWind 1 (some .boolean) :: ([])
def wsX0_at : List Cond := .code yX0_at cX0_at 2 (some .int) :: ([])
def wsX0_jump : List Cond := .code yX0_jump cX0_jump 5 (some .int) :: ([.fieldLink RX0 23 "JumpBoard" "jumped" "[I", .fieldLink RX0 26 "JumpBoard" "marks" "[I", .fieldLink RX0 29 "JumpBoard" "winds" "[I", .methodLink RX0 39 yX0_isJumper, .instanceMethod yX0_isJumper, .selects RX0 yX0_isJumper yX0_isJumper, .initialized RX0, .code yX0_isJumper cX0_isJumper 2 (some .boolean), .fieldLink RX0 7 "JumpBoard" "jumpers" "I", .methodLink RX0 42 yX0_isMark, .static yX0_isMark, .code yX0_isMark cX0_isMark 1 (some .boolean), .methodLink RX0 45 yX0_isWind, .static yX0_isWind, .code yX0_isWind cX0_isWind 1 (some .boolean), .methodLink RX0 48 yX0_at, .static yX0_at, .code yX0_at cX0_at 2 (some .int)] ++ wsX00)
def wsX0_undo : List Cond := .code yX0_undo cX0_undo 3 (some .int) :: ([.fieldLink RX0 23 "JumpBoard" "jumped" "[I", .fieldLink RX0 26 "JumpBoard" "marks" "[I", .fieldLink RX0 29 "JumpBoard" "winds" "[I", .methodLink RX0 39 yX0_isJumper, .instanceMethod yX0_isJumper, .selects RX0 yX0_isJumper yX0_isJumper, .initialized RX0, .code yX0_isJumper cX0_isJumper 2 (some .boolean), .fieldLink RX0 7 "JumpBoard" "jumpers" "I", .methodLink RX0 48 yX0_at, .static yX0_at, .code yX0_at cX0_at 2 (some .int)] ++ wsX00)
def wsX0_record : List Cond := .code yX0_record cX0_record 3 (some .int) :: ([.fieldLink RX0 13 "JumpBoard" "recordMark" "I", .methodLink RX0 42 yX0_isMark, .static yX0_isMark, .initialized RX0, .code yX0_isMark cX0_isMark 1 (some .boolean)] ++ wsX00)
def wsX0_limit : List Cond := .code yX0_limit cX0_limit 3 (some .int) :: ([.fieldLink RX0 16 "JumpBoard" "limitWind" "I", .methodLink RX0 45 yX0_isWind, .static yX0_isWind, .initialized RX0, .code yX0_isWind cX0_isWind 1 (some .boolean)] ++ wsX00)
def wsX0_isWhat : List Cond := .code yX0_isWhat cX0_isWhat 1 (some .boolean) :: ([])
def wsX0_isRound : List Cond := .code yX0_isRound cX0_isRound 1 (some .boolean) :: ([])
def wsX0_valueOf : List Cond := .code yX0_valueOf cX0_valueOf 4 (some .int) :: ([.fieldLink RX0 26 "JumpBoard" "marks" "[I", .fieldLink RX0 29 "JumpBoard" "winds" "[I", .methodLink RX0 48 yX0_at, .static yX0_at, .initialized RX0, .code yX0_at cX0_at 2 (some .int)] ++ wsX00)
def wsX0_value : List Cond := .code yX0_value cX0_value 4 (some .int) :: ([.methodLink RX0 52 yX0_isWhat, .static yX0_isWhat, .initialized RX0, .code yX0_isWhat cX0_isWhat 1 (some .boolean), .methodLink RX0 39 yX0_isJumper, .instanceMethod yX0_isJumper, .selects RX0 yX0_isJumper yX0_isJumper, .code yX0_isJumper cX0_isJumper 2 (some .boolean), .fieldLink RX0 7 "JumpBoard" "jumpers" "I", .methodLink RX0 55 yX0_isRound, .static yX0_isRound, .code yX0_isRound cX0_isRound 1 (some .boolean), .methodLink RX0 58 yX0_valueOf, .instanceMethod yX0_valueOf, .selects RX0 yX0_valueOf yX0_valueOf, .code yX0_valueOf cX0_valueOf 4 (some .int), .fieldLink RX0 26 "JumpBoard" "marks" "[I", .fieldLink RX0 29 "JumpBoard" "winds" "[I", .methodLink RX0 48 yX0_at, .static yX0_at, .code yX0_at cX0_at 2 (some .int)] ++ wsX00)
def wsX0_isHow : List Cond := .code yX0_isHow cX0_isHow 1 (some .boolean) :: ([])
def wsX0_isNone : List Cond := .code yX0_isNone cX0_isNone 2 (some .boolean) :: ([])
def wsX0_numberFits : List Cond := .code yX0_numberFits cX0_numberFits 3 (some .boolean) :: ([])
def wsX0_valueFits : List Cond := .code yX0_valueFits cX0_valueFits 4 (some .boolean) :: ([.methodLink RX0 111 yX0_isNone, .static yX0_isNone, .initialized RX0, .code yX0_isNone cX0_isNone 2 (some .boolean), .methodLink RX0 114 yX0_numberFits, .static yX0_numberFits, .code yX0_numberFits cX0_numberFits 3 (some .boolean)])
def wsX0_fits_r1 : List Cond := [Cond.methodLink RX0 62 yX0_isHow, Cond.static yX0_isHow, Cond.initialized RX0, Cond.code yX0_isHow cX0_isHow 1 (some .boolean), Cond.methodLink RX0 52 yX0_isWhat, Cond.static yX0_isWhat, Cond.code yX0_isWhat cX0_isWhat 1 (some .boolean), Cond.methodLink RX0 39 yX0_isJumper, Cond.instanceMethod yX0_isJumper, Cond.selects RX0 yX0_isJumper yX0_isJumper, Cond.code yX0_isJumper cX0_isJumper 2 (some .boolean), Cond.fieldLink RX0 7 "JumpBoard" "jumpers" "I", Cond.methodLink RX0 55 yX0_isRound, Cond.static yX0_isRound, Cond.code yX0_isRound cX0_isRound 1 (some .boolean), Cond.methodLink RX0 58 yX0_valueOf, Cond.instanceMethod yX0_valueOf, Cond.selects RX0 yX0_valueOf yX0_valueOf, Cond.code yX0_valueOf cX0_valueOf 4 (some .int), Cond.fieldLink RX0 26 "JumpBoard" "marks" "[I", Cond.fieldLink RX0 29 "JumpBoard" "winds" "[I", Cond.methodLink RX0 48 yX0_at, Cond.static yX0_at, Cond.code yX0_at cX0_at 2 (some .int)]
def wsX0_fits_r2 : List Cond := [Cond.methodLink RX0 65 yX0_valueFits, Cond.static yX0_valueFits, Cond.code yX0_valueFits cX0_valueFits 4 (some .boolean), Cond.methodLink RX0 111 yX0_isNone, Cond.static yX0_isNone, Cond.code yX0_isNone cX0_isNone 2 (some .boolean), Cond.methodLink RX0 114 yX0_numberFits, Cond.static yX0_numberFits, Cond.code yX0_numberFits cX0_numberFits 3 (some .boolean)]
def wsX0_fits : List Cond := .code yX0_fits cX0_fits 6 (some .int) :: ((wsX0_fits_r1 ++ wsX0_fits_r2) ++ wsX00)
def wsX0_isQuestion : List Cond := .code yX0_isQuestion cX0_isQuestion 5 (some .boolean) :: ([.methodLink RX0 62 yX0_isHow, .static yX0_isHow, .initialized RX0, .code yX0_isHow cX0_isHow 1 (some .boolean), .methodLink RX0 52 yX0_isWhat, .static yX0_isWhat, .code yX0_isWhat cX0_isWhat 1 (some .boolean), .methodLink RX0 39 yX0_isJumper, .instanceMethod yX0_isJumper, .selects RX0 yX0_isJumper yX0_isJumper, .code yX0_isJumper cX0_isJumper 2 (some .boolean), .fieldLink RX0 7 "JumpBoard" "jumpers" "I", .methodLink RX0 42 yX0_isMark, .static yX0_isMark, .code yX0_isMark cX0_isMark 1 (some .boolean), .methodLink RX0 45 yX0_isWind, .static yX0_isWind, .code yX0_isWind cX0_isWind 1 (some .boolean)] ++ wsX00)
def wsX0_count_r1 : List Cond := [Cond.methodLink RX0 69 yX0_isQuestion, Cond.instanceMethod yX0_isQuestion, Cond.selects RX0 yX0_isQuestion yX0_isQuestion, Cond.initialized RX0, Cond.code yX0_isQuestion cX0_isQuestion 5 (some .boolean), Cond.methodLink RX0 62 yX0_isHow, Cond.static yX0_isHow, Cond.code yX0_isHow cX0_isHow 1 (some .boolean), Cond.methodLink RX0 52 yX0_isWhat, Cond.static yX0_isWhat, Cond.code yX0_isWhat cX0_isWhat 1 (some .boolean), Cond.methodLink RX0 39 yX0_isJumper, Cond.instanceMethod yX0_isJumper, Cond.selects RX0 yX0_isJumper yX0_isJumper, Cond.code yX0_isJumper cX0_isJumper 2 (some .boolean), Cond.fieldLink RX0 7 "JumpBoard" "jumpers" "I", Cond.methodLink RX0 42 yX0_isMark, Cond.static yX0_isMark, Cond.code yX0_isMark cX0_isMark 1 (some .boolean), Cond.methodLink RX0 45 yX0_isWind, Cond.static yX0_isWind, Cond.code yX0_isWind cX0_isWind 1 (some .boolean), Cond.methodLink RX0 58 yX0_valueOf, Cond.instanceMethod yX0_valueOf]
def wsX0_count_r2 : List Cond := [Cond.selects RX0 yX0_valueOf yX0_valueOf, Cond.code yX0_valueOf cX0_valueOf 4 (some .int), Cond.fieldLink RX0 26 "JumpBoard" "marks" "[I", Cond.fieldLink RX0 29 "JumpBoard" "winds" "[I", Cond.methodLink RX0 48 yX0_at, Cond.static yX0_at, Cond.code yX0_at cX0_at 2 (some .int), Cond.methodLink RX0 65 yX0_valueFits, Cond.static yX0_valueFits, Cond.code yX0_valueFits cX0_valueFits 4 (some .boolean), Cond.methodLink RX0 111 yX0_isNone, Cond.static yX0_isNone, Cond.code yX0_isNone cX0_isNone 2 (some .boolean), Cond.methodLink RX0 114 yX0_numberFits, Cond.static yX0_numberFits, Cond.code yX0_numberFits cX0_numberFits 3 (some .boolean)]
def wsX0_count : List Cond := .code yX0_count cX0_count 7 (some .int) :: ((wsX0_count_r1 ++ wsX0_count_r2) ++ wsX00)
def wsX0_turned_r1 : List Cond := [Cond.methodLink RX0 69 yX0_isQuestion, Cond.instanceMethod yX0_isQuestion, Cond.selects RX0 yX0_isQuestion yX0_isQuestion, Cond.initialized RX0, Cond.code yX0_isQuestion cX0_isQuestion 5 (some .boolean), Cond.methodLink RX0 62 yX0_isHow, Cond.static yX0_isHow, Cond.code yX0_isHow cX0_isHow 1 (some .boolean), Cond.methodLink RX0 52 yX0_isWhat, Cond.static yX0_isWhat, Cond.code yX0_isWhat cX0_isWhat 1 (some .boolean), Cond.methodLink RX0 39 yX0_isJumper, Cond.instanceMethod yX0_isJumper, Cond.selects RX0 yX0_isJumper yX0_isJumper, Cond.code yX0_isJumper cX0_isJumper 2 (some .boolean), Cond.fieldLink RX0 7 "JumpBoard" "jumpers" "I", Cond.methodLink RX0 42 yX0_isMark, Cond.static yX0_isMark, Cond.code yX0_isMark cX0_isMark 1 (some .boolean), Cond.methodLink RX0 45 yX0_isWind, Cond.static yX0_isWind, Cond.code yX0_isWind cX0_isWind 1 (some .boolean), Cond.methodLink RX0 58 yX0_valueOf, Cond.instanceMethod yX0_valueOf]
def wsX0_turned_r2 : List Cond := [Cond.selects RX0 yX0_valueOf yX0_valueOf, Cond.code yX0_valueOf cX0_valueOf 4 (some .int), Cond.fieldLink RX0 26 "JumpBoard" "marks" "[I", Cond.fieldLink RX0 29 "JumpBoard" "winds" "[I", Cond.methodLink RX0 48 yX0_at, Cond.static yX0_at, Cond.code yX0_at cX0_at 2 (some .int), Cond.methodLink RX0 65 yX0_valueFits, Cond.static yX0_valueFits, Cond.code yX0_valueFits cX0_valueFits 4 (some .boolean), Cond.methodLink RX0 111 yX0_isNone, Cond.static yX0_isNone, Cond.code yX0_isNone cX0_isNone 2 (some .boolean), Cond.methodLink RX0 114 yX0_numberFits, Cond.static yX0_numberFits, Cond.code yX0_numberFits cX0_numberFits 3 (some .boolean)]
def wsX0_turned : List Cond := .code yX0_turned cX0_turned 7 (some .int) :: ((wsX0_turned_r1 ++ wsX0_turned_r2) ++ wsX00)
def wsX0_longest_r1 : List Cond := [Cond.methodLink RX0 72 Lib.Math.max.name, Cond.static Lib.Math.max.name, Cond.initialized "java/lang/Math", Cond.code Lib.Math.max.name Lib.Math.max.code 2 (some .int), Cond.methodLink RX0 69 yX0_isQuestion, Cond.instanceMethod yX0_isQuestion, Cond.selects RX0 yX0_isQuestion yX0_isQuestion, Cond.initialized RX0, Cond.code yX0_isQuestion cX0_isQuestion 5 (some .boolean), Cond.methodLink RX0 62 yX0_isHow, Cond.static yX0_isHow, Cond.code yX0_isHow cX0_isHow 1 (some .boolean), Cond.methodLink RX0 52 yX0_isWhat, Cond.static yX0_isWhat, Cond.code yX0_isWhat cX0_isWhat 1 (some .boolean), Cond.methodLink RX0 39 yX0_isJumper, Cond.instanceMethod yX0_isJumper, Cond.selects RX0 yX0_isJumper yX0_isJumper, Cond.code yX0_isJumper cX0_isJumper 2 (some .boolean), Cond.fieldLink RX0 7 "JumpBoard" "jumpers" "I", Cond.methodLink RX0 42 yX0_isMark, Cond.static yX0_isMark, Cond.code yX0_isMark cX0_isMark 1 (some .boolean), Cond.methodLink RX0 45 yX0_isWind]
def wsX0_longest_r2 : List Cond := [Cond.static yX0_isWind, Cond.code yX0_isWind cX0_isWind 1 (some .boolean), Cond.methodLink RX0 58 yX0_valueOf, Cond.instanceMethod yX0_valueOf, Cond.selects RX0 yX0_valueOf yX0_valueOf, Cond.code yX0_valueOf cX0_valueOf 4 (some .int), Cond.fieldLink RX0 26 "JumpBoard" "marks" "[I", Cond.fieldLink RX0 29 "JumpBoard" "winds" "[I", Cond.methodLink RX0 48 yX0_at, Cond.static yX0_at, Cond.code yX0_at cX0_at 2 (some .int), Cond.methodLink RX0 65 yX0_valueFits, Cond.static yX0_valueFits, Cond.code yX0_valueFits cX0_valueFits 4 (some .boolean), Cond.methodLink RX0 111 yX0_isNone, Cond.static yX0_isNone, Cond.code yX0_isNone cX0_isNone 2 (some .boolean), Cond.methodLink RX0 114 yX0_numberFits, Cond.static yX0_numberFits, Cond.code yX0_numberFits cX0_numberFits 3 (some .boolean)]
def wsX0_longest : List Cond := .code yX0_longest cX0_longest 8 (some .int) :: ((wsX0_longest_r1 ++ wsX0_longest_r2) ++ wsX00)
def wsX0_skip_r1 : List Cond := [Cond.methodLink RX0 69 yX0_isQuestion, Cond.instanceMethod yX0_isQuestion, Cond.selects RX0 yX0_isQuestion yX0_isQuestion, Cond.initialized RX0, Cond.code yX0_isQuestion cX0_isQuestion 5 (some .boolean), Cond.methodLink RX0 62 yX0_isHow, Cond.static yX0_isHow, Cond.code yX0_isHow cX0_isHow 1 (some .boolean), Cond.methodLink RX0 52 yX0_isWhat, Cond.static yX0_isWhat, Cond.code yX0_isWhat cX0_isWhat 1 (some .boolean), Cond.methodLink RX0 39 yX0_isJumper, Cond.instanceMethod yX0_isJumper, Cond.selects RX0 yX0_isJumper yX0_isJumper, Cond.code yX0_isJumper cX0_isJumper 2 (some .boolean), Cond.fieldLink RX0 7 "JumpBoard" "jumpers" "I", Cond.methodLink RX0 42 yX0_isMark, Cond.static yX0_isMark, Cond.code yX0_isMark cX0_isMark 1 (some .boolean), Cond.methodLink RX0 45 yX0_isWind, Cond.static yX0_isWind, Cond.code yX0_isWind cX0_isWind 1 (some .boolean), Cond.methodLink RX0 55 yX0_isRound, Cond.static yX0_isRound]
def wsX0_skip_r2 : List Cond := [Cond.code yX0_isRound cX0_isRound 1 (some .boolean), Cond.methodLink RX0 58 yX0_valueOf, Cond.instanceMethod yX0_valueOf, Cond.selects RX0 yX0_valueOf yX0_valueOf, Cond.code yX0_valueOf cX0_valueOf 4 (some .int), Cond.fieldLink RX0 26 "JumpBoard" "marks" "[I", Cond.fieldLink RX0 29 "JumpBoard" "winds" "[I", Cond.methodLink RX0 48 yX0_at, Cond.static yX0_at, Cond.code yX0_at cX0_at 2 (some .int), Cond.methodLink RX0 65 yX0_valueFits, Cond.static yX0_valueFits, Cond.code yX0_valueFits cX0_valueFits 4 (some .boolean), Cond.methodLink RX0 111 yX0_isNone, Cond.static yX0_isNone, Cond.code yX0_isNone cX0_isNone 2 (some .boolean), Cond.methodLink RX0 114 yX0_numberFits, Cond.static yX0_numberFits, Cond.code yX0_numberFits cX0_numberFits 3 (some .boolean)]
def wsX0_skip : List Cond := .code yX0_skip cX0_skip 7 (some .int) :: ((wsX0_skip_r1 ++ wsX0_skip_r2) ++ wsX00)
def wsX0_pick_r1 : List Cond := [Cond.methodLink RX0 69 yX0_isQuestion, Cond.instanceMethod yX0_isQuestion, Cond.selects RX0 yX0_isQuestion yX0_isQuestion, Cond.initialized RX0, Cond.code yX0_isQuestion cX0_isQuestion 5 (some .boolean), Cond.methodLink RX0 62 yX0_isHow, Cond.static yX0_isHow, Cond.code yX0_isHow cX0_isHow 1 (some .boolean), Cond.methodLink RX0 52 yX0_isWhat, Cond.static yX0_isWhat, Cond.code yX0_isWhat cX0_isWhat 1 (some .boolean), Cond.methodLink RX0 39 yX0_isJumper, Cond.instanceMethod yX0_isJumper, Cond.selects RX0 yX0_isJumper yX0_isJumper, Cond.code yX0_isJumper cX0_isJumper 2 (some .boolean), Cond.fieldLink RX0 7 "JumpBoard" "jumpers" "I", Cond.methodLink RX0 42 yX0_isMark, Cond.static yX0_isMark, Cond.code yX0_isMark cX0_isMark 1 (some .boolean), Cond.methodLink RX0 45 yX0_isWind, Cond.static yX0_isWind, Cond.code yX0_isWind cX0_isWind 1 (some .boolean), Cond.methodLink RX0 58 yX0_valueOf, Cond.instanceMethod yX0_valueOf]
def wsX0_pick_r2 : List Cond := [Cond.selects RX0 yX0_valueOf yX0_valueOf, Cond.code yX0_valueOf cX0_valueOf 4 (some .int), Cond.fieldLink RX0 26 "JumpBoard" "marks" "[I", Cond.fieldLink RX0 29 "JumpBoard" "winds" "[I", Cond.methodLink RX0 48 yX0_at, Cond.static yX0_at, Cond.code yX0_at cX0_at 2 (some .int), Cond.methodLink RX0 65 yX0_valueFits, Cond.static yX0_valueFits, Cond.code yX0_valueFits cX0_valueFits 4 (some .boolean), Cond.methodLink RX0 111 yX0_isNone, Cond.static yX0_isNone, Cond.code yX0_isNone cX0_isNone 2 (some .boolean), Cond.methodLink RX0 114 yX0_numberFits, Cond.static yX0_numberFits, Cond.code yX0_numberFits cX0_numberFits 3 (some .boolean)]
def wsX0_pick : List Cond := .code yX0_pick cX0_pick 8 (some .int) :: ((wsX0_pick_r1 ++ wsX0_pick_r2) ++ wsX00)
def wsX0_isLegal : List Cond := .code yX0_isLegal cX0_isLegal 3 (some .boolean) :: ([.fieldLink RX0 26 "JumpBoard" "marks" "[I", .fieldLink RX0 29 "JumpBoard" "winds" "[I", .fieldLink RX0 16 "JumpBoard" "limitWind" "I", .methodLink RX0 48 yX0_at, .static yX0_at, .initialized RX0, .code yX0_at cX0_at 2 (some .int), .methodLink RX0 65 yX0_valueFits, .static yX0_valueFits, .code yX0_valueFits cX0_valueFits 4 (some .boolean), .methodLink RX0 111 yX0_isNone, .static yX0_isNone, .code yX0_isNone cX0_isNone 2 (some .boolean), .methodLink RX0 114 yX0_numberFits, .static yX0_numberFits, .code yX0_numberFits cX0_numberFits 3 (some .boolean)] ++ wsX00)
def wsX0_bestOf : List Cond := .code yX0_bestOf cX0_bestOf 4 (some .int) :: ([.fieldLink RX0 26 "JumpBoard" "marks" "[I", .methodLink RX0 72 Lib.Math.max.name, .static Lib.Math.max.name, .initialized "java/lang/Math", .code Lib.Math.max.name Lib.Math.max.code 2 (some .int), .methodLink RX0 95 yX0_isLegal, .instanceMethod yX0_isLegal, .selects RX0 yX0_isLegal yX0_isLegal, .initialized RX0, .code yX0_isLegal cX0_isLegal 3 (some .boolean), .fieldLink RX0 29 "JumpBoard" "winds" "[I", .fieldLink RX0 16 "JumpBoard" "limitWind" "I", .methodLink RX0 48 yX0_at, .static yX0_at, .code yX0_at cX0_at 2 (some .int), .methodLink RX0 65 yX0_valueFits, .static yX0_valueFits, .code yX0_valueFits cX0_valueFits 4 (some .boolean), .methodLink RX0 111 yX0_isNone, .static yX0_isNone, .code yX0_isNone cX0_isNone 2 (some .boolean), .methodLink RX0 114 yX0_numberFits, .static yX0_numberFits, .code yX0_numberFits cX0_numberFits 3 (some .boolean)] ++ wsX00)
def wsX0_best_r1 : List Cond := [Cond.methodLink RX0 39 yX0_isJumper, Cond.instanceMethod yX0_isJumper, Cond.selects RX0 yX0_isJumper yX0_isJumper, Cond.initialized RX0, Cond.code yX0_isJumper cX0_isJumper 2 (some .boolean), Cond.fieldLink RX0 7 "JumpBoard" "jumpers" "I", Cond.methodLink RX0 77 yX0_bestOf, Cond.instanceMethod yX0_bestOf, Cond.selects RX0 yX0_bestOf yX0_bestOf, Cond.code yX0_bestOf cX0_bestOf 4 (some .int), Cond.fieldLink RX0 26 "JumpBoard" "marks" "[I", Cond.methodLink RX0 72 Lib.Math.max.name, Cond.static Lib.Math.max.name, Cond.initialized "java/lang/Math", Cond.code Lib.Math.max.name Lib.Math.max.code 2 (some .int), Cond.methodLink RX0 95 yX0_isLegal, Cond.instanceMethod yX0_isLegal, Cond.selects RX0 yX0_isLegal yX0_isLegal, Cond.code yX0_isLegal cX0_isLegal 3 (some .boolean), Cond.fieldLink RX0 29 "JumpBoard" "winds" "[I", Cond.fieldLink RX0 16 "JumpBoard" "limitWind" "I", Cond.methodLink RX0 48 yX0_at, Cond.static yX0_at, Cond.code yX0_at cX0_at 2 (some .int)]
def wsX0_best_r2 : List Cond := [Cond.methodLink RX0 65 yX0_valueFits, Cond.static yX0_valueFits, Cond.code yX0_valueFits cX0_valueFits 4 (some .boolean), Cond.methodLink RX0 111 yX0_isNone, Cond.static yX0_isNone, Cond.code yX0_isNone cX0_isNone 2 (some .boolean), Cond.methodLink RX0 114 yX0_numberFits, Cond.static yX0_numberFits, Cond.code yX0_numberFits cX0_numberFits 3 (some .boolean)]
def wsX0_best : List Cond := .code yX0_best cX0_best 2 (some .int) :: ((wsX0_best_r1 ++ wsX0_best_r2) ++ wsX00)
def wsX0_putInRow : List Cond := .code yX0_putInRow cX0_putInRow 6 none :: ([.fieldLink RX0 32 "JumpBoard" "rows" "[I", .methodLink RX0 48 yX0_at, .static yX0_at, .initialized RX0, .code yX0_at cX0_at 2 (some .int)] ++ wsX00)
def wsX0_layOut_r1 : List Cond := [Cond.fieldLink RX0 32 "JumpBoard" "rows" "[I", Cond.fieldLink RX0 26 "JumpBoard" "marks" "[I", Cond.methodLink RX0 48 yX0_at, Cond.static yX0_at, Cond.initialized RX0, Cond.code yX0_at cX0_at 2 (some .int), Cond.methodLink RX0 95 yX0_isLegal, Cond.instanceMethod yX0_isLegal, Cond.selects RX0 yX0_isLegal yX0_isLegal, Cond.code yX0_isLegal cX0_isLegal 3 (some .boolean), Cond.fieldLink RX0 29 "JumpBoard" "winds" "[I", Cond.fieldLink RX0 16 "JumpBoard" "limitWind" "I", Cond.methodLink RX0 65 yX0_valueFits, Cond.static yX0_valueFits, Cond.code yX0_valueFits cX0_valueFits 4 (some .boolean), Cond.methodLink RX0 111 yX0_isNone, Cond.static yX0_isNone, Cond.code yX0_isNone cX0_isNone 2 (some .boolean), Cond.methodLink RX0 114 yX0_numberFits, Cond.static yX0_numberFits, Cond.code yX0_numberFits cX0_numberFits 3 (some .boolean), Cond.methodLink RX0 118 yX0_putInRow, Cond.instanceMethod yX0_putInRow, Cond.selects RX0 yX0_putInRow yX0_putInRow]
def wsX0_layOut_r2 : List Cond := [Cond.code yX0_putInRow cX0_putInRow 6 none]
def wsX0_layOut : List Cond := .code yX0_layOut cX0_layOut 3 none :: ((wsX0_layOut_r1 ++ wsX0_layOut_r2) ++ wsX00)
def wsX0_isAhead : List Cond := .code yX0_isAhead cX0_isAhead 6 (some .boolean) :: ([.fieldLink RX0 32 "JumpBoard" "rows" "[I", .methodLink RX0 48 yX0_at, .static yX0_at, .initialized RX0, .code yX0_at cX0_at 2 (some .int)] ++ wsX00)
def wsX0_ahead_r1 : List Cond := [Cond.methodLink RX0 39 yX0_isJumper, Cond.instanceMethod yX0_isJumper, Cond.selects RX0 yX0_isJumper yX0_isJumper, Cond.initialized RX0, Cond.code yX0_isJumper cX0_isJumper 2 (some .boolean), Cond.fieldLink RX0 7 "JumpBoard" "jumpers" "I", Cond.methodLink RX0 81 yX0_layOut, Cond.instanceMethod yX0_layOut, Cond.selects RX0 yX0_layOut yX0_layOut, Cond.code yX0_layOut cX0_layOut 3 none, Cond.fieldLink RX0 32 "JumpBoard" "rows" "[I", Cond.fieldLink RX0 26 "JumpBoard" "marks" "[I", Cond.methodLink RX0 48 yX0_at, Cond.static yX0_at, Cond.code yX0_at cX0_at 2 (some .int), Cond.methodLink RX0 95 yX0_isLegal, Cond.instanceMethod yX0_isLegal, Cond.selects RX0 yX0_isLegal yX0_isLegal, Cond.code yX0_isLegal cX0_isLegal 3 (some .boolean), Cond.fieldLink RX0 29 "JumpBoard" "winds" "[I", Cond.fieldLink RX0 16 "JumpBoard" "limitWind" "I", Cond.methodLink RX0 65 yX0_valueFits, Cond.static yX0_valueFits, Cond.code yX0_valueFits cX0_valueFits 4 (some .boolean)]
def wsX0_ahead_r2 : List Cond := [Cond.methodLink RX0 111 yX0_isNone, Cond.static yX0_isNone, Cond.code yX0_isNone cX0_isNone 2 (some .boolean), Cond.methodLink RX0 114 yX0_numberFits, Cond.static yX0_numberFits, Cond.code yX0_numberFits cX0_numberFits 3 (some .boolean), Cond.methodLink RX0 118 yX0_putInRow, Cond.instanceMethod yX0_putInRow, Cond.selects RX0 yX0_putInRow yX0_putInRow, Cond.code yX0_putInRow cX0_putInRow 6 none, Cond.methodLink RX0 85 yX0_isAhead, Cond.instanceMethod yX0_isAhead, Cond.selects RX0 yX0_isAhead yX0_isAhead, Cond.code yX0_isAhead cX0_isAhead 6 (some .boolean)]
def wsX0_ahead : List Cond := .code yX0_ahead cX0_ahead 3 (some .int) :: ((wsX0_ahead_r1 ++ wsX0_ahead_r2) ++ wsX00)
def wsX0_layOutAll_r1 : List Cond := [Cond.fieldLink RX0 7 "JumpBoard" "jumpers" "I", Cond.methodLink RX0 81 yX0_layOut, Cond.instanceMethod yX0_layOut, Cond.selects RX0 yX0_layOut yX0_layOut, Cond.initialized RX0, Cond.code yX0_layOut cX0_layOut 3 none, Cond.fieldLink RX0 32 "JumpBoard" "rows" "[I", Cond.fieldLink RX0 26 "JumpBoard" "marks" "[I", Cond.methodLink RX0 48 yX0_at, Cond.static yX0_at, Cond.code yX0_at cX0_at 2 (some .int), Cond.methodLink RX0 95 yX0_isLegal, Cond.instanceMethod yX0_isLegal, Cond.selects RX0 yX0_isLegal yX0_isLegal, Cond.code yX0_isLegal cX0_isLegal 3 (some .boolean), Cond.fieldLink RX0 29 "JumpBoard" "winds" "[I", Cond.fieldLink RX0 16 "JumpBoard" "limitWind" "I", Cond.methodLink RX0 65 yX0_valueFits, Cond.static yX0_valueFits, Cond.code yX0_valueFits cX0_valueFits 4 (some .boolean), Cond.methodLink RX0 111 yX0_isNone, Cond.static yX0_isNone, Cond.code yX0_isNone cX0_isNone 2 (some .boolean), Cond.methodLink RX0 114 yX0_numberFits]
def wsX0_layOutAll_r2 : List Cond := [Cond.static yX0_numberFits, Cond.code yX0_numberFits cX0_numberFits 3 (some .boolean), Cond.methodLink RX0 118 yX0_putInRow, Cond.instanceMethod yX0_putInRow, Cond.selects RX0 yX0_putInRow yX0_putInRow, Cond.code yX0_putInRow cX0_putInRow 6 none]
def wsX0_layOutAll : List Cond := .code yX0_layOutAll cX0_layOutAll 2 none :: ((wsX0_layOutAll_r1 ++ wsX0_layOutAll_r2) ++ wsX00)
def wsX0_place_r1 : List Cond := [Cond.fieldLink RX0 7 "JumpBoard" "jumpers" "I", Cond.methodLink RX0 39 yX0_isJumper, Cond.instanceMethod yX0_isJumper, Cond.selects RX0 yX0_isJumper yX0_isJumper, Cond.initialized RX0, Cond.code yX0_isJumper cX0_isJumper 2 (some .boolean), Cond.methodLink RX0 77 yX0_bestOf, Cond.instanceMethod yX0_bestOf, Cond.selects RX0 yX0_bestOf yX0_bestOf, Cond.code yX0_bestOf cX0_bestOf 4 (some .int), Cond.fieldLink RX0 26 "JumpBoard" "marks" "[I", Cond.methodLink RX0 72 Lib.Math.max.name, Cond.static Lib.Math.max.name, Cond.initialized "java/lang/Math", Cond.code Lib.Math.max.name Lib.Math.max.code 2 (some .int), Cond.methodLink RX0 95 yX0_isLegal, Cond.instanceMethod yX0_isLegal, Cond.selects RX0 yX0_isLegal yX0_isLegal, Cond.code yX0_isLegal cX0_isLegal 3 (some .boolean), Cond.fieldLink RX0 29 "JumpBoard" "winds" "[I", Cond.fieldLink RX0 16 "JumpBoard" "limitWind" "I", Cond.methodLink RX0 48 yX0_at, Cond.static yX0_at, Cond.code yX0_at cX0_at 2 (some .int)]
def wsX0_place_r2 : List Cond := [Cond.methodLink RX0 65 yX0_valueFits, Cond.static yX0_valueFits, Cond.code yX0_valueFits cX0_valueFits 4 (some .boolean), Cond.methodLink RX0 111 yX0_isNone, Cond.static yX0_isNone, Cond.code yX0_isNone cX0_isNone 2 (some .boolean), Cond.methodLink RX0 114 yX0_numberFits, Cond.static yX0_numberFits, Cond.code yX0_numberFits cX0_numberFits 3 (some .boolean), Cond.methodLink RX0 89 yX0_layOutAll, Cond.instanceMethod yX0_layOutAll, Cond.selects RX0 yX0_layOutAll yX0_layOutAll, Cond.code yX0_layOutAll cX0_layOutAll 2 none, Cond.methodLink RX0 81 yX0_layOut, Cond.instanceMethod yX0_layOut, Cond.selects RX0 yX0_layOut yX0_layOut, Cond.code yX0_layOut cX0_layOut 3 none, Cond.fieldLink RX0 32 "JumpBoard" "rows" "[I", Cond.methodLink RX0 118 yX0_putInRow, Cond.instanceMethod yX0_putInRow, Cond.selects RX0 yX0_putInRow yX0_putInRow, Cond.code yX0_putInRow cX0_putInRow 6 none, Cond.methodLink RX0 85 yX0_isAhead, Cond.instanceMethod yX0_isAhead]
def wsX0_place_r3 : List Cond := [Cond.selects RX0 yX0_isAhead yX0_isAhead, Cond.code yX0_isAhead cX0_isAhead 6 (some .boolean)]
def wsX0_place : List Cond := .code yX0_place cX0_place 4 (some .int) :: ((wsX0_place_r1 ++ (wsX0_place_r2 ++ wsX0_place_r3)) ++ wsX00)
def wsX0_jumpsBefore : List Cond := .code yX0_jumpsBefore cX0_jumpsBefore 3 (some .boolean) :: ([.methodLink RX0 85 yX0_isAhead, .instanceMethod yX0_isAhead, .selects RX0 yX0_isAhead yX0_isAhead, .initialized RX0, .code yX0_isAhead cX0_isAhead 6 (some .boolean), .fieldLink RX0 32 "JumpBoard" "rows" "[I", .methodLink RX0 48 yX0_at, .static yX0_at, .code yX0_at cX0_at 2 (some .int)] ++ wsX00)
def wsX0_howManyJumpBefore : List Cond := .code yX0_howManyJumpBefore cX0_howManyJumpBefore 4 (some .int) :: ([.fieldLink RX0 7 "JumpBoard" "jumpers" "I", .methodLink RX0 122 yX0_jumpsBefore, .instanceMethod yX0_jumpsBefore, .selects RX0 yX0_jumpsBefore yX0_jumpsBefore, .initialized RX0, .code yX0_jumpsBefore cX0_jumpsBefore 3 (some .boolean), .methodLink RX0 85 yX0_isAhead, .instanceMethod yX0_isAhead, .selects RX0 yX0_isAhead yX0_isAhead, .code yX0_isAhead cX0_isAhead 6 (some .boolean), .fieldLink RX0 32 "JumpBoard" "rows" "[I", .methodLink RX0 48 yX0_at, .static yX0_at, .code yX0_at cX0_at 2 (some .int)] ++ wsX00)
def wsX0_order_r1 : List Cond := [Cond.fieldLink RX0 7 "JumpBoard" "jumpers" "I", Cond.methodLink RX0 89 yX0_layOutAll, Cond.instanceMethod yX0_layOutAll, Cond.selects RX0 yX0_layOutAll yX0_layOutAll, Cond.initialized RX0, Cond.code yX0_layOutAll cX0_layOutAll 2 none, Cond.methodLink RX0 81 yX0_layOut, Cond.instanceMethod yX0_layOut, Cond.selects RX0 yX0_layOut yX0_layOut, Cond.code yX0_layOut cX0_layOut 3 none, Cond.fieldLink RX0 32 "JumpBoard" "rows" "[I", Cond.fieldLink RX0 26 "JumpBoard" "marks" "[I", Cond.methodLink RX0 48 yX0_at, Cond.static yX0_at, Cond.code yX0_at cX0_at 2 (some .int), Cond.methodLink RX0 95 yX0_isLegal, Cond.instanceMethod yX0_isLegal, Cond.selects RX0 yX0_isLegal yX0_isLegal, Cond.code yX0_isLegal cX0_isLegal 3 (some .boolean), Cond.fieldLink RX0 29 "JumpBoard" "winds" "[I", Cond.fieldLink RX0 16 "JumpBoard" "limitWind" "I", Cond.methodLink RX0 65 yX0_valueFits, Cond.static yX0_valueFits, Cond.code yX0_valueFits cX0_valueFits 4 (some .boolean)]
def wsX0_order_r2 : List Cond := [Cond.methodLink RX0 111 yX0_isNone, Cond.static yX0_isNone, Cond.code yX0_isNone cX0_isNone 2 (some .boolean), Cond.methodLink RX0 114 yX0_numberFits, Cond.static yX0_numberFits, Cond.code yX0_numberFits cX0_numberFits 3 (some .boolean), Cond.methodLink RX0 118 yX0_putInRow, Cond.instanceMethod yX0_putInRow, Cond.selects RX0 yX0_putInRow yX0_putInRow, Cond.code yX0_putInRow cX0_putInRow 6 none, Cond.methodLink RX0 92 yX0_howManyJumpBefore, Cond.instanceMethod yX0_howManyJumpBefore, Cond.selects RX0 yX0_howManyJumpBefore yX0_howManyJumpBefore, Cond.code yX0_howManyJumpBefore cX0_howManyJumpBefore 4 (some .int), Cond.methodLink RX0 122 yX0_jumpsBefore, Cond.instanceMethod yX0_jumpsBefore, Cond.selects RX0 yX0_jumpsBefore yX0_jumpsBefore, Cond.code yX0_jumpsBefore cX0_jumpsBefore 3 (some .boolean), Cond.methodLink RX0 85 yX0_isAhead, Cond.instanceMethod yX0_isAhead, Cond.selects RX0 yX0_isAhead yX0_isAhead, Cond.code yX0_isAhead cX0_isAhead 6 (some .boolean)]
def wsX0_order : List Cond := .code yX0_order cX0_order 4 (some .int) :: ((wsX0_order_r1 ++ wsX0_order_r2) ++ wsX00)
def wsX0_beatsEarlierRounds : List Cond := .code yX0_beatsEarlierRounds cX0_beatsEarlierRounds 5 (some .boolean) :: ([.fieldLink RX0 26 "JumpBoard" "marks" "[I", .methodLink RX0 48 yX0_at, .static yX0_at, .initialized RX0, .code yX0_at cX0_at 2 (some .int), .methodLink RX0 65 yX0_valueFits, .static yX0_valueFits, .code yX0_valueFits cX0_valueFits 4 (some .boolean), .methodLink RX0 111 yX0_isNone, .static yX0_isNone, .code yX0_isNone cX0_isNone 2 (some .boolean), .methodLink RX0 114 yX0_numberFits, .static yX0_numberFits, .code yX0_numberFits cX0_numberFits 3 (some .boolean)] ++ wsX00)
def wsX0_verdict_r1 : List Cond := [Cond.fieldLink RX0 26 "JumpBoard" "marks" "[I", Cond.fieldLink RX0 29 "JumpBoard" "winds" "[I", Cond.fieldLink RX0 13 "JumpBoard" "recordMark" "I", Cond.fieldLink RX0 16 "JumpBoard" "limitWind" "I", Cond.methodLink RX0 39 yX0_isJumper, Cond.instanceMethod yX0_isJumper, Cond.selects RX0 yX0_isJumper yX0_isJumper, Cond.initialized RX0, Cond.code yX0_isJumper cX0_isJumper 2 (some .boolean), Cond.fieldLink RX0 7 "JumpBoard" "jumpers" "I", Cond.methodLink RX0 55 yX0_isRound, Cond.static yX0_isRound, Cond.code yX0_isRound cX0_isRound 1 (some .boolean), Cond.methodLink RX0 48 yX0_at, Cond.static yX0_at, Cond.code yX0_at cX0_at 2 (some .int), Cond.methodLink RX0 95 yX0_isLegal, Cond.instanceMethod yX0_isLegal, Cond.selects RX0 yX0_isLegal yX0_isLegal, Cond.code yX0_isLegal cX0_isLegal 3 (some .boolean), Cond.methodLink RX0 65 yX0_valueFits, Cond.static yX0_valueFits, Cond.code yX0_valueFits cX0_valueFits 4 (some .boolean), Cond.methodLink RX0 111 yX0_isNone]
def wsX0_verdict_r2 : List Cond := [Cond.static yX0_isNone, Cond.code yX0_isNone cX0_isNone 2 (some .boolean), Cond.methodLink RX0 114 yX0_numberFits, Cond.static yX0_numberFits, Cond.code yX0_numberFits cX0_numberFits 3 (some .boolean), Cond.methodLink RX0 98 yX0_beatsEarlierRounds, Cond.instanceMethod yX0_beatsEarlierRounds, Cond.selects RX0 yX0_beatsEarlierRounds yX0_beatsEarlierRounds, Cond.code yX0_beatsEarlierRounds cX0_beatsEarlierRounds 5 (some .boolean)]
def wsX0_verdict : List Cond := .code yX0_verdict cX0_verdict 6 (some .int) :: ((wsX0_verdict_r1 ++ wsX0_verdict_r2) ++ wsX00)
def wsX0_howManyJumped : List Cond := .code yX0_howManyJumped cX0_howManyJumped 3 (some .int) :: ([.fieldLink RX0 7 "JumpBoard" "jumpers" "I", .fieldLink RX0 23 "JumpBoard" "jumped" "[I"] ++ wsX00)
def wsX0_howManyMarked : List Cond := .code yX0_howManyMarked cX0_howManyMarked 3 (some .int) :: ([.fieldLink RX0 26 "JumpBoard" "marks" "[I"] ++ wsX00)
def wsX0_howManyLegal : List Cond := .code yX0_howManyLegal cX0_howManyLegal 4 (some .int) :: ([.fieldLink RX0 7 "JumpBoard" "jumpers" "I", .methodLink RX0 95 yX0_isLegal, .instanceMethod yX0_isLegal, .selects RX0 yX0_isLegal yX0_isLegal, .initialized RX0, .code yX0_isLegal cX0_isLegal 3 (some .boolean), .fieldLink RX0 26 "JumpBoard" "marks" "[I", .fieldLink RX0 29 "JumpBoard" "winds" "[I", .fieldLink RX0 16 "JumpBoard" "limitWind" "I", .methodLink RX0 48 yX0_at, .static yX0_at, .code yX0_at cX0_at 2 (some .int), .methodLink RX0 65 yX0_valueFits, .static yX0_valueFits, .code yX0_valueFits cX0_valueFits 4 (some .boolean), .methodLink RX0 111 yX0_isNone, .static yX0_isNone, .code yX0_isNone cX0_isNone 2 (some .boolean), .methodLink RX0 114 yX0_numberFits, .static yX0_numberFits, .code yX0_numberFits cX0_numberFits 3 (some .boolean)] ++ wsX00)
def wsX0_told_r1 : List Cond := [Cond.fieldLink RX0 7 "JumpBoard" "jumpers" "I", Cond.fieldLink RX0 13 "JumpBoard" "recordMark" "I", Cond.fieldLink RX0 16 "JumpBoard" "limitWind" "I", Cond.methodLink RX0 101 yX0_howManyJumped, Cond.instanceMethod yX0_howManyJumped, Cond.selects RX0 yX0_howManyJumped yX0_howManyJumped, Cond.initialized RX0, Cond.code yX0_howManyJumped cX0_howManyJumped 3 (some .int), Cond.fieldLink RX0 23 "JumpBoard" "jumped" "[I", Cond.methodLink RX0 105 yX0_howManyMarked, Cond.instanceMethod yX0_howManyMarked, Cond.selects RX0 yX0_howManyMarked yX0_howManyMarked, Cond.code yX0_howManyMarked cX0_howManyMarked 3 (some .int), Cond.fieldLink RX0 26 "JumpBoard" "marks" "[I", Cond.methodLink RX0 108 yX0_howManyLegal, Cond.instanceMethod yX0_howManyLegal, Cond.selects RX0 yX0_howManyLegal yX0_howManyLegal, Cond.code yX0_howManyLegal cX0_howManyLegal 4 (some .int), Cond.methodLink RX0 95 yX0_isLegal, Cond.instanceMethod yX0_isLegal, Cond.selects RX0 yX0_isLegal yX0_isLegal, Cond.code yX0_isLegal cX0_isLegal 3 (some .boolean), Cond.fieldLink RX0 29 "JumpBoard" "winds" "[I", Cond.methodLink RX0 48 yX0_at]
def wsX0_told_r2 : List Cond := [Cond.static yX0_at, Cond.code yX0_at cX0_at 2 (some .int), Cond.methodLink RX0 65 yX0_valueFits, Cond.static yX0_valueFits, Cond.code yX0_valueFits cX0_valueFits 4 (some .boolean), Cond.methodLink RX0 111 yX0_isNone, Cond.static yX0_isNone, Cond.code yX0_isNone cX0_isNone 2 (some .boolean), Cond.methodLink RX0 114 yX0_numberFits, Cond.static yX0_numberFits, Cond.code yX0_numberFits cX0_numberFits 3 (some .boolean)]
def wsX0_told : List Cond := .code yX0_told cX0_told 2 (some .int) :: ((wsX0_told_r1 ++ wsX0_told_r2) ++ wsX00)
def wsX1_init : List Cond := .code yX1_init cX1_init 1 none :: ([.methodLink RX1 1 objectInit, .instanceMethod objectInit, .code objectInit ⟨#[0xb1]⟩ 1 none, .arrayClass .int, .fieldLink RX1 7 "JumpBoardModel" "bibs" "[I", .fieldLink RX1 13 "JumpBoardModel" "jumped" "[I", .fieldLink RX1 16 "JumpBoardModel" "marks" "[I", .fieldLink RX1 19 "JumpBoardModel" "winds" "[I", .fieldLink RX1 22 "JumpBoardModel" "takes" "[I", .fieldLink RX1 25 "JumpBoardModel" "recordMark" "I", .fieldLink RX1 29 "JumpBoardModel" "limitWind" "I"] ++ wsX10)
def wsX1_isIn : List Cond := .code yX1_isIn cX1_isIn 3 (some .boolean) :: ([])
def wsX1_isJumper : List Cond := .code yX1_isJumper cX1_isJumper 2 (some .boolean) :: ([.fieldLink RX1 32 "JumpBoardModel" "jumpers" "I", .methodLink RX1 35 yX1_isIn, .static yX1_isIn, .initialized RX1, .code yX1_isIn cX1_isIn 3 (some .boolean)] ++ wsX10)
def wsX1_isRound : List Cond := .code yX1_isRound cX1_isRound 1 (some .boolean) :: ([.methodLink RX1 35 yX1_isIn, .static yX1_isIn, .initialized RX1, .code yX1_isIn cX1_isIn 3 (some .boolean)])
def wsX1_isCode : List Cond := .code yX1_isCode cX1_isCode 2 (some .boolean) :: ([.methodLink RX1 35 yX1_isIn, .static yX1_isIn, .initialized RX1, .code yX1_isIn cX1_isIn 3 (some .boolean)])
def wsX1_none : List Cond := .code yX1_none cX1_none 1 (some .int) :: ([])
def wsX1_code : List Cond := .code yX1_code cX1_code 4 (some .int) :: ([.fieldLink RX1 13 "JumpBoardModel" "jumped" "[I", .fieldLink RX1 16 "JumpBoardModel" "marks" "[I", .fieldLink RX1 19 "JumpBoardModel" "winds" "[I", .methodLink RX1 39 yX1_none, .static yX1_none, .initialized RX1, .code yX1_none cX1_none 1 (some .int)] ++ wsX10)
def wsX1_fit : List Cond := .code yX1_fit cX1_fit 6 (some .boolean) :: ([.fieldLink RX1 22 "JumpBoardModel" "takes" "[I", .methodLink RX1 39 yX1_none, .static yX1_none, .initialized RX1, .code yX1_none cX1_none 1 (some .int)] ++ wsX10)
def wsX1_isAsked : List Cond := .code yX1_isAsked cX1_isAsked 4 (some .boolean) :: ([.methodLink RX1 35 yX1_isIn, .static yX1_isIn, .initialized RX1, .code yX1_isIn cX1_isIn 3 (some .boolean), .methodLink RX1 43 yX1_isJumper, .instanceMethod yX1_isJumper, .selects RX1 yX1_isJumper yX1_isJumper, .code yX1_isJumper cX1_isJumper 2 (some .boolean), .fieldLink RX1 32 "JumpBoardModel" "jumpers" "I"] ++ wsX10)
def wsX1_isAskedOf : List Cond := .code yX1_isAskedOf cX1_isAskedOf 5 (some .boolean) :: ([.methodLink RX1 47 yX1_isAsked, .instanceMethod yX1_isAsked, .selects RX1 yX1_isAsked yX1_isAsked, .initialized RX1, .code yX1_isAsked cX1_isAsked 4 (some .boolean), .methodLink RX1 35 yX1_isIn, .static yX1_isIn, .code yX1_isIn cX1_isIn 3 (some .boolean), .methodLink RX1 43 yX1_isJumper, .instanceMethod yX1_isJumper, .selects RX1 yX1_isJumper yX1_isJumper, .code yX1_isJumper cX1_isJumper 2 (some .boolean), .fieldLink RX1 32 "JumpBoardModel" "jumpers" "I", .methodLink RX1 50 yX1_isCode, .static yX1_isCode, .code yX1_isCode cX1_isCode 2 (some .boolean)] ++ wsX10)
def wsX1_enter : List Cond := .code yX1_enter cX1_enter 3 (some .int) :: ([.fieldLink RX1 32 "JumpBoardModel" "jumpers" "I", .fieldLink RX1 7 "JumpBoardModel" "bibs" "[I", .fieldLink RX1 13 "JumpBoardModel" "jumped" "[I", .methodLink RX1 35 yX1_isIn, .static yX1_isIn, .initialized RX1, .code yX1_isIn cX1_isIn 3 (some .boolean)] ++ wsX10)
def wsX1_jump : List Cond := .code yX1_jump cX1_jump 5 (some .int) :: ([.fieldLink RX1 13 "JumpBoardModel" "jumped" "[I", .fieldLink RX1 16 "JumpBoardModel" "marks" "[I", .fieldLink RX1 19 "JumpBoardModel" "winds" "[I", .methodLink RX1 43 yX1_isJumper, .instanceMethod yX1_isJumper, .selects RX1 yX1_isJumper yX1_isJumper, .initialized RX1, .code yX1_isJumper cX1_isJumper 2 (some .boolean), .fieldLink RX1 32 "JumpBoardModel" "jumpers" "I", .methodLink RX1 35 yX1_isIn, .static yX1_isIn, .code yX1_isIn cX1_isIn 3 (some .boolean), .methodLink RX1 50 yX1_isCode, .static yX1_isCode, .code yX1_isCode cX1_isCode 2 (some .boolean)] ++ wsX10)
def wsX1_undo : List Cond := .code yX1_undo cX1_undo 2 (some .int) :: ([.fieldLink RX1 13 "JumpBoardModel" "jumped" "[I", .methodLink RX1 43 yX1_isJumper, .instanceMethod yX1_isJumper, .selects RX1 yX1_isJumper yX1_isJumper, .initialized RX1, .code yX1_isJumper cX1_isJumper 2 (some .boolean), .fieldLink RX1 32 "JumpBoardModel" "jumpers" "I", .methodLink RX1 35 yX1_isIn, .static yX1_isIn, .code yX1_isIn cX1_isIn 3 (some .boolean)] ++ wsX10)
def wsX1_record : List Cond := .code yX1_record cX1_record 3 (some .int) :: ([.fieldLink RX1 25 "JumpBoardModel" "recordMark" "I", .methodLink RX1 50 yX1_isCode, .static yX1_isCode, .initialized RX1, .code yX1_isCode cX1_isCode 2 (some .boolean), .methodLink RX1 35 yX1_isIn, .static yX1_isIn, .code yX1_isIn cX1_isIn 3 (some .boolean)] ++ wsX10)
def wsX1_limit : List Cond := .code yX1_limit cX1_limit 3 (some .int) :: ([.fieldLink RX1 29 "JumpBoardModel" "limitWind" "I", .methodLink RX1 50 yX1_isCode, .static yX1_isCode, .initialized RX1, .code yX1_isCode cX1_isCode 2 (some .boolean), .methodLink RX1 35 yX1_isIn, .static yX1_isIn, .code yX1_isIn cX1_isIn 3 (some .boolean)] ++ wsX10)
def wsX1_value : List Cond := .code yX1_value cX1_value 4 (some .int) :: ([.methodLink RX1 35 yX1_isIn, .static yX1_isIn, .initialized RX1, .code yX1_isIn cX1_isIn 3 (some .boolean), .methodLink RX1 43 yX1_isJumper, .instanceMethod yX1_isJumper, .selects RX1 yX1_isJumper yX1_isJumper, .code yX1_isJumper cX1_isJumper 2 (some .boolean), .fieldLink RX1 32 "JumpBoardModel" "jumpers" "I", .methodLink RX1 54 yX1_isRound, .static yX1_isRound, .code yX1_isRound cX1_isRound 1 (some .boolean), .methodLink RX1 57 yX1_code, .instanceMethod yX1_code, .selects RX1 yX1_code yX1_code, .code yX1_code cX1_code 4 (some .int), .fieldLink RX1 13 "JumpBoardModel" "jumped" "[I", .fieldLink RX1 16 "JumpBoardModel" "marks" "[I", .fieldLink RX1 19 "JumpBoardModel" "winds" "[I", .methodLink RX1 39 yX1_none, .static yX1_none, .code yX1_none cX1_none 1 (some .int)] ++ wsX10)
def wsX1_fits_r1 : List Cond := [Cond.methodLink RX1 47 yX1_isAsked, Cond.instanceMethod yX1_isAsked, Cond.selects RX1 yX1_isAsked yX1_isAsked, Cond.initialized RX1, Cond.code yX1_isAsked cX1_isAsked 4 (some .boolean), Cond.methodLink RX1 35 yX1_isIn, Cond.static yX1_isIn, Cond.code yX1_isIn cX1_isIn 3 (some .boolean), Cond.methodLink RX1 43 yX1_isJumper, Cond.instanceMethod yX1_isJumper, Cond.selects RX1 yX1_isJumper yX1_isJumper, Cond.code yX1_isJumper cX1_isJumper 2 (some .boolean), Cond.fieldLink RX1 32 "JumpBoardModel" "jumpers" "I", Cond.methodLink RX1 54 yX1_isRound, Cond.static yX1_isRound, Cond.code yX1_isRound cX1_isRound 1 (some .boolean), Cond.methodLink RX1 57 yX1_code, Cond.instanceMethod yX1_code, Cond.selects RX1 yX1_code yX1_code, Cond.code yX1_code cX1_code 4 (some .int), Cond.fieldLink RX1 13 "JumpBoardModel" "jumped" "[I", Cond.fieldLink RX1 16 "JumpBoardModel" "marks" "[I", Cond.fieldLink RX1 19 "JumpBoardModel" "winds" "[I", Cond.methodLink RX1 39 yX1_none]
def wsX1_fits_r2 : List Cond := [Cond.static yX1_none, Cond.code yX1_none cX1_none 1 (some .int), Cond.methodLink RX1 61 yX1_fit, Cond.instanceMethod yX1_fit, Cond.selects RX1 yX1_fit yX1_fit, Cond.code yX1_fit cX1_fit 6 (some .boolean), Cond.fieldLink RX1 22 "JumpBoardModel" "takes" "[I"]
def wsX1_fits : List Cond := .code yX1_fits cX1_fits 6 (some .int) :: ((wsX1_fits_r1 ++ wsX1_fits_r2) ++ wsX10)
def wsX1_count_r1 : List Cond := [Cond.methodLink RX1 65 yX1_isAskedOf, Cond.instanceMethod yX1_isAskedOf, Cond.selects RX1 yX1_isAskedOf yX1_isAskedOf, Cond.initialized RX1, Cond.code yX1_isAskedOf cX1_isAskedOf 5 (some .boolean), Cond.methodLink RX1 47 yX1_isAsked, Cond.instanceMethod yX1_isAsked, Cond.selects RX1 yX1_isAsked yX1_isAsked, Cond.code yX1_isAsked cX1_isAsked 4 (some .boolean), Cond.methodLink RX1 35 yX1_isIn, Cond.static yX1_isIn, Cond.code yX1_isIn cX1_isIn 3 (some .boolean), Cond.methodLink RX1 43 yX1_isJumper, Cond.instanceMethod yX1_isJumper, Cond.selects RX1 yX1_isJumper yX1_isJumper, Cond.code yX1_isJumper cX1_isJumper 2 (some .boolean), Cond.fieldLink RX1 32 "JumpBoardModel" "jumpers" "I", Cond.methodLink RX1 50 yX1_isCode, Cond.static yX1_isCode, Cond.code yX1_isCode cX1_isCode 2 (some .boolean), Cond.methodLink RX1 57 yX1_code, Cond.instanceMethod yX1_code, Cond.selects RX1 yX1_code yX1_code, Cond.code yX1_code cX1_code 4 (some .int)]
def wsX1_count_r2 : List Cond := [Cond.fieldLink RX1 13 "JumpBoardModel" "jumped" "[I", Cond.fieldLink RX1 16 "JumpBoardModel" "marks" "[I", Cond.fieldLink RX1 19 "JumpBoardModel" "winds" "[I", Cond.methodLink RX1 39 yX1_none, Cond.static yX1_none, Cond.code yX1_none cX1_none 1 (some .int), Cond.methodLink RX1 61 yX1_fit, Cond.instanceMethod yX1_fit, Cond.selects RX1 yX1_fit yX1_fit, Cond.code yX1_fit cX1_fit 6 (some .boolean), Cond.fieldLink RX1 22 "JumpBoardModel" "takes" "[I"]
def wsX1_count : List Cond := .code yX1_count cX1_count 7 (some .int) :: ((wsX1_count_r1 ++ wsX1_count_r2) ++ wsX10)
def wsX1_turned_r1 : List Cond := [Cond.methodLink RX1 65 yX1_isAskedOf, Cond.instanceMethod yX1_isAskedOf, Cond.selects RX1 yX1_isAskedOf yX1_isAskedOf, Cond.initialized RX1, Cond.code yX1_isAskedOf cX1_isAskedOf 5 (some .boolean), Cond.methodLink RX1 47 yX1_isAsked, Cond.instanceMethod yX1_isAsked, Cond.selects RX1 yX1_isAsked yX1_isAsked, Cond.code yX1_isAsked cX1_isAsked 4 (some .boolean), Cond.methodLink RX1 35 yX1_isIn, Cond.static yX1_isIn, Cond.code yX1_isIn cX1_isIn 3 (some .boolean), Cond.methodLink RX1 43 yX1_isJumper, Cond.instanceMethod yX1_isJumper, Cond.selects RX1 yX1_isJumper yX1_isJumper, Cond.code yX1_isJumper cX1_isJumper 2 (some .boolean), Cond.fieldLink RX1 32 "JumpBoardModel" "jumpers" "I", Cond.methodLink RX1 50 yX1_isCode, Cond.static yX1_isCode, Cond.code yX1_isCode cX1_isCode 2 (some .boolean), Cond.methodLink RX1 57 yX1_code, Cond.instanceMethod yX1_code, Cond.selects RX1 yX1_code yX1_code, Cond.code yX1_code cX1_code 4 (some .int)]
def wsX1_turned_r2 : List Cond := [Cond.fieldLink RX1 13 "JumpBoardModel" "jumped" "[I", Cond.fieldLink RX1 16 "JumpBoardModel" "marks" "[I", Cond.fieldLink RX1 19 "JumpBoardModel" "winds" "[I", Cond.methodLink RX1 39 yX1_none, Cond.static yX1_none, Cond.code yX1_none cX1_none 1 (some .int), Cond.methodLink RX1 61 yX1_fit, Cond.instanceMethod yX1_fit, Cond.selects RX1 yX1_fit yX1_fit, Cond.code yX1_fit cX1_fit 6 (some .boolean), Cond.fieldLink RX1 22 "JumpBoardModel" "takes" "[I"]
def wsX1_turned : List Cond := .code yX1_turned cX1_turned 7 (some .int) :: ((wsX1_turned_r1 ++ wsX1_turned_r2) ++ wsX10)
def wsX1_unfit : List Cond := .code yX1_unfit cX1_unfit 7 (some .int) :: ([.methodLink RX1 57 yX1_code, .instanceMethod yX1_code, .selects RX1 yX1_code yX1_code, .initialized RX1, .code yX1_code cX1_code 4 (some .int), .fieldLink RX1 13 "JumpBoardModel" "jumped" "[I", .fieldLink RX1 16 "JumpBoardModel" "marks" "[I", .fieldLink RX1 19 "JumpBoardModel" "winds" "[I", .methodLink RX1 39 yX1_none, .static yX1_none, .code yX1_none cX1_none 1 (some .int), .methodLink RX1 61 yX1_fit, .instanceMethod yX1_fit, .selects RX1 yX1_fit yX1_fit, .code yX1_fit cX1_fit 6 (some .boolean), .fieldLink RX1 22 "JumpBoardModel" "takes" "[I"] ++ wsX10)
def wsX1_longest_r1 : List Cond := [Cond.methodLink RX1 65 yX1_isAskedOf, Cond.instanceMethod yX1_isAskedOf, Cond.selects RX1 yX1_isAskedOf yX1_isAskedOf, Cond.initialized RX1, Cond.code yX1_isAskedOf cX1_isAskedOf 5 (some .boolean), Cond.methodLink RX1 47 yX1_isAsked, Cond.instanceMethod yX1_isAsked, Cond.selects RX1 yX1_isAsked yX1_isAsked, Cond.code yX1_isAsked cX1_isAsked 4 (some .boolean), Cond.methodLink RX1 35 yX1_isIn, Cond.static yX1_isIn, Cond.code yX1_isIn cX1_isIn 3 (some .boolean), Cond.methodLink RX1 43 yX1_isJumper, Cond.instanceMethod yX1_isJumper, Cond.selects RX1 yX1_isJumper yX1_isJumper, Cond.code yX1_isJumper cX1_isJumper 2 (some .boolean), Cond.fieldLink RX1 32 "JumpBoardModel" "jumpers" "I", Cond.methodLink RX1 50 yX1_isCode, Cond.static yX1_isCode, Cond.code yX1_isCode cX1_isCode 2 (some .boolean), Cond.methodLink RX1 68 yX1_unfit, Cond.instanceMethod yX1_unfit, Cond.selects RX1 yX1_unfit yX1_unfit, Cond.code yX1_unfit cX1_unfit 7 (some .int)]
def wsX1_longest_r2 : List Cond := [Cond.methodLink RX1 57 yX1_code, Cond.instanceMethod yX1_code, Cond.selects RX1 yX1_code yX1_code, Cond.code yX1_code cX1_code 4 (some .int), Cond.fieldLink RX1 13 "JumpBoardModel" "jumped" "[I", Cond.fieldLink RX1 16 "JumpBoardModel" "marks" "[I", Cond.fieldLink RX1 19 "JumpBoardModel" "winds" "[I", Cond.methodLink RX1 39 yX1_none, Cond.static yX1_none, Cond.code yX1_none cX1_none 1 (some .int), Cond.methodLink RX1 61 yX1_fit, Cond.instanceMethod yX1_fit, Cond.selects RX1 yX1_fit yX1_fit, Cond.code yX1_fit cX1_fit 6 (some .boolean), Cond.fieldLink RX1 22 "JumpBoardModel" "takes" "[I"]
def wsX1_longest : List Cond := .code yX1_longest cX1_longest 8 (some .int) :: ((wsX1_longest_r1 ++ wsX1_longest_r2) ++ wsX10)
def wsX1_skip_r1 : List Cond := [Cond.methodLink RX1 65 yX1_isAskedOf, Cond.instanceMethod yX1_isAskedOf, Cond.selects RX1 yX1_isAskedOf yX1_isAskedOf, Cond.initialized RX1, Cond.code yX1_isAskedOf cX1_isAskedOf 5 (some .boolean), Cond.methodLink RX1 47 yX1_isAsked, Cond.instanceMethod yX1_isAsked, Cond.selects RX1 yX1_isAsked yX1_isAsked, Cond.code yX1_isAsked cX1_isAsked 4 (some .boolean), Cond.methodLink RX1 35 yX1_isIn, Cond.static yX1_isIn, Cond.code yX1_isIn cX1_isIn 3 (some .boolean), Cond.methodLink RX1 43 yX1_isJumper, Cond.instanceMethod yX1_isJumper, Cond.selects RX1 yX1_isJumper yX1_isJumper, Cond.code yX1_isJumper cX1_isJumper 2 (some .boolean), Cond.fieldLink RX1 32 "JumpBoardModel" "jumpers" "I", Cond.methodLink RX1 50 yX1_isCode, Cond.static yX1_isCode, Cond.code yX1_isCode cX1_isCode 2 (some .boolean), Cond.methodLink RX1 54 yX1_isRound, Cond.static yX1_isRound, Cond.code yX1_isRound cX1_isRound 1 (some .boolean), Cond.methodLink RX1 57 yX1_code]
def wsX1_skip_r2 : List Cond := [Cond.instanceMethod yX1_code, Cond.selects RX1 yX1_code yX1_code, Cond.code yX1_code cX1_code 4 (some .int), Cond.fieldLink RX1 13 "JumpBoardModel" "jumped" "[I", Cond.fieldLink RX1 16 "JumpBoardModel" "marks" "[I", Cond.fieldLink RX1 19 "JumpBoardModel" "winds" "[I", Cond.methodLink RX1 39 yX1_none, Cond.static yX1_none, Cond.code yX1_none cX1_none 1 (some .int), Cond.methodLink RX1 61 yX1_fit, Cond.instanceMethod yX1_fit, Cond.selects RX1 yX1_fit yX1_fit, Cond.code yX1_fit cX1_fit 6 (some .boolean), Cond.fieldLink RX1 22 "JumpBoardModel" "takes" "[I"]
def wsX1_skip : List Cond := .code yX1_skip cX1_skip 8 (some .int) :: ((wsX1_skip_r1 ++ wsX1_skip_r2) ++ wsX10)
def wsX1_pick_r1 : List Cond := [Cond.methodLink RX1 65 yX1_isAskedOf, Cond.instanceMethod yX1_isAskedOf, Cond.selects RX1 yX1_isAskedOf yX1_isAskedOf, Cond.initialized RX1, Cond.code yX1_isAskedOf cX1_isAskedOf 5 (some .boolean), Cond.methodLink RX1 47 yX1_isAsked, Cond.instanceMethod yX1_isAsked, Cond.selects RX1 yX1_isAsked yX1_isAsked, Cond.code yX1_isAsked cX1_isAsked 4 (some .boolean), Cond.methodLink RX1 35 yX1_isIn, Cond.static yX1_isIn, Cond.code yX1_isIn cX1_isIn 3 (some .boolean), Cond.methodLink RX1 43 yX1_isJumper, Cond.instanceMethod yX1_isJumper, Cond.selects RX1 yX1_isJumper yX1_isJumper, Cond.code yX1_isJumper cX1_isJumper 2 (some .boolean), Cond.fieldLink RX1 32 "JumpBoardModel" "jumpers" "I", Cond.methodLink RX1 50 yX1_isCode, Cond.static yX1_isCode, Cond.code yX1_isCode cX1_isCode 2 (some .boolean), Cond.methodLink RX1 57 yX1_code, Cond.instanceMethod yX1_code, Cond.selects RX1 yX1_code yX1_code, Cond.code yX1_code cX1_code 4 (some .int)]
def wsX1_pick_r2 : List Cond := [Cond.fieldLink RX1 13 "JumpBoardModel" "jumped" "[I", Cond.fieldLink RX1 16 "JumpBoardModel" "marks" "[I", Cond.fieldLink RX1 19 "JumpBoardModel" "winds" "[I", Cond.methodLink RX1 39 yX1_none, Cond.static yX1_none, Cond.code yX1_none cX1_none 1 (some .int), Cond.methodLink RX1 61 yX1_fit, Cond.instanceMethod yX1_fit, Cond.selects RX1 yX1_fit yX1_fit, Cond.code yX1_fit cX1_fit 6 (some .boolean), Cond.fieldLink RX1 22 "JumpBoardModel" "takes" "[I"]
def wsX1_pick : List Cond := .code yX1_pick cX1_pick 8 (some .int) :: ((wsX1_pick_r1 ++ wsX1_pick_r2) ++ wsX10)
def wsX1_isLegal : List Cond := .code yX1_isLegal cX1_isLegal 3 (some .boolean) :: ([.fieldLink RX1 29 "JumpBoardModel" "limitWind" "I", .methodLink RX1 57 yX1_code, .instanceMethod yX1_code, .selects RX1 yX1_code yX1_code, .initialized RX1, .code yX1_code cX1_code 4 (some .int), .fieldLink RX1 13 "JumpBoardModel" "jumped" "[I", .fieldLink RX1 16 "JumpBoardModel" "marks" "[I", .fieldLink RX1 19 "JumpBoardModel" "winds" "[I", .methodLink RX1 39 yX1_none, .static yX1_none, .code yX1_none cX1_none 1 (some .int), .methodLink RX1 61 yX1_fit, .instanceMethod yX1_fit, .selects RX1 yX1_fit yX1_fit, .code yX1_fit cX1_fit 6 (some .boolean), .fieldLink RX1 22 "JumpBoardModel" "takes" "[I"] ++ wsX10)
def wsX1_greatest : List Cond := .code yX1_greatest cX1_greatest 6 (some .int) :: ([.methodLink RX1 57 yX1_code, .instanceMethod yX1_code, .selects RX1 yX1_code yX1_code, .initialized RX1, .code yX1_code cX1_code 4 (some .int), .fieldLink RX1 13 "JumpBoardModel" "jumped" "[I", .fieldLink RX1 16 "JumpBoardModel" "marks" "[I", .fieldLink RX1 19 "JumpBoardModel" "winds" "[I", .methodLink RX1 39 yX1_none, .static yX1_none, .code yX1_none cX1_none 1 (some .int), .methodLink RX1 72 yX1_isLegal, .instanceMethod yX1_isLegal, .selects RX1 yX1_isLegal yX1_isLegal, .code yX1_isLegal cX1_isLegal 3 (some .boolean), .fieldLink RX1 29 "JumpBoardModel" "limitWind" "I", .methodLink RX1 61 yX1_fit, .instanceMethod yX1_fit, .selects RX1 yX1_fit yX1_fit, .code yX1_fit cX1_fit 6 (some .boolean), .fieldLink RX1 22 "JumpBoardModel" "takes" "[I"] ++ wsX10)
def wsX1_many : List Cond := .code yX1_many cX1_many 5 (some .int) :: ([.methodLink RX1 72 yX1_isLegal, .instanceMethod yX1_isLegal, .selects RX1 yX1_isLegal yX1_isLegal, .initialized RX1, .code yX1_isLegal cX1_isLegal 3 (some .boolean), .fieldLink RX1 29 "JumpBoardModel" "limitWind" "I", .methodLink RX1 57 yX1_code, .instanceMethod yX1_code, .selects RX1 yX1_code yX1_code, .code yX1_code cX1_code 4 (some .int), .fieldLink RX1 13 "JumpBoardModel" "jumped" "[I", .fieldLink RX1 16 "JumpBoardModel" "marks" "[I", .fieldLink RX1 19 "JumpBoardModel" "winds" "[I", .methodLink RX1 39 yX1_none, .static yX1_none, .code yX1_none cX1_none 1 (some .int), .methodLink RX1 61 yX1_fit, .instanceMethod yX1_fit, .selects RX1 yX1_fit yX1_fit, .code yX1_fit cX1_fit 6 (some .boolean), .fieldLink RX1 22 "JumpBoardModel" "takes" "[I"] ++ wsX10)
def wsX1_compared_r1 : List Cond := [Cond.methodLink RX1 75 yX1_greatest, Cond.instanceMethod yX1_greatest, Cond.selects RX1 yX1_greatest yX1_greatest, Cond.initialized RX1, Cond.code yX1_greatest cX1_greatest 6 (some .int), Cond.methodLink RX1 57 yX1_code, Cond.instanceMethod yX1_code, Cond.selects RX1 yX1_code yX1_code, Cond.code yX1_code cX1_code 4 (some .int), Cond.fieldLink RX1 13 "JumpBoardModel" "jumped" "[I", Cond.fieldLink RX1 16 "JumpBoardModel" "marks" "[I", Cond.fieldLink RX1 19 "JumpBoardModel" "winds" "[I", Cond.methodLink RX1 39 yX1_none, Cond.static yX1_none, Cond.code yX1_none cX1_none 1 (some .int), Cond.methodLink RX1 72 yX1_isLegal, Cond.instanceMethod yX1_isLegal, Cond.selects RX1 yX1_isLegal yX1_isLegal, Cond.code yX1_isLegal cX1_isLegal 3 (some .boolean), Cond.fieldLink RX1 29 "JumpBoardModel" "limitWind" "I", Cond.methodLink RX1 61 yX1_fit, Cond.instanceMethod yX1_fit, Cond.selects RX1 yX1_fit yX1_fit, Cond.code yX1_fit cX1_fit 6 (some .boolean)]
def wsX1_compared_r2 : List Cond := [Cond.fieldLink RX1 22 "JumpBoardModel" "takes" "[I", Cond.methodLink RX1 79 yX1_many, Cond.instanceMethod yX1_many, Cond.selects RX1 yX1_many yX1_many, Cond.code yX1_many cX1_many 5 (some .int)]
def wsX1_compared : List Cond := .code yX1_compared cX1_compared 7 (some .int) :: ((wsX1_compared_r1 ++ wsX1_compared_r2) ++ wsX10)
def wsX1_best_r1 : List Cond := [Cond.methodLink RX1 43 yX1_isJumper, Cond.instanceMethod yX1_isJumper, Cond.selects RX1 yX1_isJumper yX1_isJumper, Cond.initialized RX1, Cond.code yX1_isJumper cX1_isJumper 2 (some .boolean), Cond.fieldLink RX1 32 "JumpBoardModel" "jumpers" "I", Cond.methodLink RX1 35 yX1_isIn, Cond.static yX1_isIn, Cond.code yX1_isIn cX1_isIn 3 (some .boolean), Cond.methodLink RX1 75 yX1_greatest, Cond.instanceMethod yX1_greatest, Cond.selects RX1 yX1_greatest yX1_greatest, Cond.code yX1_greatest cX1_greatest 6 (some .int), Cond.methodLink RX1 57 yX1_code, Cond.instanceMethod yX1_code, Cond.selects RX1 yX1_code yX1_code, Cond.code yX1_code cX1_code 4 (some .int), Cond.fieldLink RX1 13 "JumpBoardModel" "jumped" "[I", Cond.fieldLink RX1 16 "JumpBoardModel" "marks" "[I", Cond.fieldLink RX1 19 "JumpBoardModel" "winds" "[I", Cond.methodLink RX1 39 yX1_none, Cond.static yX1_none, Cond.code yX1_none cX1_none 1 (some .int), Cond.methodLink RX1 72 yX1_isLegal]
def wsX1_best_r2 : List Cond := [Cond.instanceMethod yX1_isLegal, Cond.selects RX1 yX1_isLegal yX1_isLegal, Cond.code yX1_isLegal cX1_isLegal 3 (some .boolean), Cond.fieldLink RX1 29 "JumpBoardModel" "limitWind" "I", Cond.methodLink RX1 61 yX1_fit, Cond.instanceMethod yX1_fit, Cond.selects RX1 yX1_fit yX1_fit, Cond.code yX1_fit cX1_fit 6 (some .boolean), Cond.fieldLink RX1 22 "JumpBoardModel" "takes" "[I"]
def wsX1_best : List Cond := .code yX1_best cX1_best 2 (some .int) :: ((wsX1_best_r1 ++ wsX1_best_r2) ++ wsX10)
def wsX1_ahead_r1 : List Cond := [Cond.methodLink RX1 43 yX1_isJumper, Cond.instanceMethod yX1_isJumper, Cond.selects RX1 yX1_isJumper yX1_isJumper, Cond.initialized RX1, Cond.code yX1_isJumper cX1_isJumper 2 (some .boolean), Cond.fieldLink RX1 32 "JumpBoardModel" "jumpers" "I", Cond.methodLink RX1 35 yX1_isIn, Cond.static yX1_isIn, Cond.code yX1_isIn cX1_isIn 3 (some .boolean), Cond.methodLink RX1 82 yX1_compared, Cond.instanceMethod yX1_compared, Cond.selects RX1 yX1_compared yX1_compared, Cond.code yX1_compared cX1_compared 7 (some .int), Cond.methodLink RX1 75 yX1_greatest, Cond.instanceMethod yX1_greatest, Cond.selects RX1 yX1_greatest yX1_greatest, Cond.code yX1_greatest cX1_greatest 6 (some .int), Cond.methodLink RX1 57 yX1_code, Cond.instanceMethod yX1_code, Cond.selects RX1 yX1_code yX1_code, Cond.code yX1_code cX1_code 4 (some .int), Cond.fieldLink RX1 13 "JumpBoardModel" "jumped" "[I", Cond.fieldLink RX1 16 "JumpBoardModel" "marks" "[I", Cond.fieldLink RX1 19 "JumpBoardModel" "winds" "[I"]
def wsX1_ahead_r2 : List Cond := [Cond.methodLink RX1 39 yX1_none, Cond.static yX1_none, Cond.code yX1_none cX1_none 1 (some .int), Cond.methodLink RX1 72 yX1_isLegal, Cond.instanceMethod yX1_isLegal, Cond.selects RX1 yX1_isLegal yX1_isLegal, Cond.code yX1_isLegal cX1_isLegal 3 (some .boolean), Cond.fieldLink RX1 29 "JumpBoardModel" "limitWind" "I", Cond.methodLink RX1 61 yX1_fit, Cond.instanceMethod yX1_fit, Cond.selects RX1 yX1_fit yX1_fit, Cond.code yX1_fit cX1_fit 6 (some .boolean), Cond.fieldLink RX1 22 "JumpBoardModel" "takes" "[I", Cond.methodLink RX1 79 yX1_many, Cond.instanceMethod yX1_many, Cond.selects RX1 yX1_many yX1_many, Cond.code yX1_many cX1_many 5 (some .int)]
def wsX1_ahead : List Cond := .code yX1_ahead cX1_ahead 3 (some .int) :: ((wsX1_ahead_r1 ++ wsX1_ahead_r2) ++ wsX10)
def wsX1_place_r1 : List Cond := [Cond.fieldLink RX1 32 "JumpBoardModel" "jumpers" "I", Cond.methodLink RX1 43 yX1_isJumper, Cond.instanceMethod yX1_isJumper, Cond.selects RX1 yX1_isJumper yX1_isJumper, Cond.initialized RX1, Cond.code yX1_isJumper cX1_isJumper 2 (some .boolean), Cond.methodLink RX1 35 yX1_isIn, Cond.static yX1_isIn, Cond.code yX1_isIn cX1_isIn 3 (some .boolean), Cond.methodLink RX1 85 yX1_best, Cond.instanceMethod yX1_best, Cond.selects RX1 yX1_best yX1_best, Cond.code yX1_best cX1_best 2 (some .int), Cond.methodLink RX1 75 yX1_greatest, Cond.instanceMethod yX1_greatest, Cond.selects RX1 yX1_greatest yX1_greatest, Cond.code yX1_greatest cX1_greatest 6 (some .int), Cond.methodLink RX1 57 yX1_code, Cond.instanceMethod yX1_code, Cond.selects RX1 yX1_code yX1_code, Cond.code yX1_code cX1_code 4 (some .int), Cond.fieldLink RX1 13 "JumpBoardModel" "jumped" "[I", Cond.fieldLink RX1 16 "JumpBoardModel" "marks" "[I", Cond.fieldLink RX1 19 "JumpBoardModel" "winds" "[I"]
def wsX1_place_r2 : List Cond := [Cond.methodLink RX1 39 yX1_none, Cond.static yX1_none, Cond.code yX1_none cX1_none 1 (some .int), Cond.methodLink RX1 72 yX1_isLegal, Cond.instanceMethod yX1_isLegal, Cond.selects RX1 yX1_isLegal yX1_isLegal, Cond.code yX1_isLegal cX1_isLegal 3 (some .boolean), Cond.fieldLink RX1 29 "JumpBoardModel" "limitWind" "I", Cond.methodLink RX1 61 yX1_fit, Cond.instanceMethod yX1_fit, Cond.selects RX1 yX1_fit yX1_fit, Cond.code yX1_fit cX1_fit 6 (some .boolean), Cond.fieldLink RX1 22 "JumpBoardModel" "takes" "[I", Cond.methodLink RX1 82 yX1_compared, Cond.instanceMethod yX1_compared, Cond.selects RX1 yX1_compared yX1_compared, Cond.code yX1_compared cX1_compared 7 (some .int), Cond.methodLink RX1 79 yX1_many, Cond.instanceMethod yX1_many, Cond.selects RX1 yX1_many yX1_many, Cond.code yX1_many cX1_many 5 (some .int)]
def wsX1_place : List Cond := .code yX1_place cX1_place 4 (some .int) :: ((wsX1_place_r1 ++ wsX1_place_r2) ++ wsX10)
def wsX1_behind_r1 : List Cond := [Cond.fieldLink RX1 32 "JumpBoardModel" "jumpers" "I", Cond.methodLink RX1 85 yX1_best, Cond.instanceMethod yX1_best, Cond.selects RX1 yX1_best yX1_best, Cond.initialized RX1, Cond.code yX1_best cX1_best 2 (some .int), Cond.methodLink RX1 43 yX1_isJumper, Cond.instanceMethod yX1_isJumper, Cond.selects RX1 yX1_isJumper yX1_isJumper, Cond.code yX1_isJumper cX1_isJumper 2 (some .boolean), Cond.methodLink RX1 35 yX1_isIn, Cond.static yX1_isIn, Cond.code yX1_isIn cX1_isIn 3 (some .boolean), Cond.methodLink RX1 75 yX1_greatest, Cond.instanceMethod yX1_greatest, Cond.selects RX1 yX1_greatest yX1_greatest, Cond.code yX1_greatest cX1_greatest 6 (some .int), Cond.methodLink RX1 57 yX1_code, Cond.instanceMethod yX1_code, Cond.selects RX1 yX1_code yX1_code, Cond.code yX1_code cX1_code 4 (some .int), Cond.fieldLink RX1 13 "JumpBoardModel" "jumped" "[I", Cond.fieldLink RX1 16 "JumpBoardModel" "marks" "[I", Cond.fieldLink RX1 19 "JumpBoardModel" "winds" "[I"]
def wsX1_behind_r2 : List Cond := [Cond.methodLink RX1 39 yX1_none, Cond.static yX1_none, Cond.code yX1_none cX1_none 1 (some .int), Cond.methodLink RX1 72 yX1_isLegal, Cond.instanceMethod yX1_isLegal, Cond.selects RX1 yX1_isLegal yX1_isLegal, Cond.code yX1_isLegal cX1_isLegal 3 (some .boolean), Cond.fieldLink RX1 29 "JumpBoardModel" "limitWind" "I", Cond.methodLink RX1 61 yX1_fit, Cond.instanceMethod yX1_fit, Cond.selects RX1 yX1_fit yX1_fit, Cond.code yX1_fit cX1_fit 6 (some .boolean), Cond.fieldLink RX1 22 "JumpBoardModel" "takes" "[I", Cond.methodLink RX1 82 yX1_compared, Cond.instanceMethod yX1_compared, Cond.selects RX1 yX1_compared yX1_compared, Cond.code yX1_compared cX1_compared 7 (some .int), Cond.methodLink RX1 79 yX1_many, Cond.instanceMethod yX1_many, Cond.selects RX1 yX1_many yX1_many, Cond.code yX1_many cX1_many 5 (some .int)]
def wsX1_behind : List Cond := .code yX1_behind cX1_behind 7 (some .int) :: ((wsX1_behind_r1 ++ wsX1_behind_r2) ++ wsX10)
def wsX1_order_r1 : List Cond := [Cond.fieldLink RX1 32 "JumpBoardModel" "jumpers" "I", Cond.methodLink RX1 35 yX1_isIn, Cond.static yX1_isIn, Cond.initialized RX1, Cond.code yX1_isIn cX1_isIn 3 (some .boolean), Cond.methodLink RX1 88 yX1_behind, Cond.instanceMethod yX1_behind, Cond.selects RX1 yX1_behind yX1_behind, Cond.code yX1_behind cX1_behind 7 (some .int), Cond.methodLink RX1 85 yX1_best, Cond.instanceMethod yX1_best, Cond.selects RX1 yX1_best yX1_best, Cond.code yX1_best cX1_best 2 (some .int), Cond.methodLink RX1 43 yX1_isJumper, Cond.instanceMethod yX1_isJumper, Cond.selects RX1 yX1_isJumper yX1_isJumper, Cond.code yX1_isJumper cX1_isJumper 2 (some .boolean), Cond.methodLink RX1 75 yX1_greatest, Cond.instanceMethod yX1_greatest, Cond.selects RX1 yX1_greatest yX1_greatest, Cond.code yX1_greatest cX1_greatest 6 (some .int), Cond.methodLink RX1 57 yX1_code, Cond.instanceMethod yX1_code, Cond.selects RX1 yX1_code yX1_code]
def wsX1_order_r2 : List Cond := [Cond.code yX1_code cX1_code 4 (some .int), Cond.fieldLink RX1 13 "JumpBoardModel" "jumped" "[I", Cond.fieldLink RX1 16 "JumpBoardModel" "marks" "[I", Cond.fieldLink RX1 19 "JumpBoardModel" "winds" "[I", Cond.methodLink RX1 39 yX1_none, Cond.static yX1_none, Cond.code yX1_none cX1_none 1 (some .int), Cond.methodLink RX1 72 yX1_isLegal, Cond.instanceMethod yX1_isLegal, Cond.selects RX1 yX1_isLegal yX1_isLegal, Cond.code yX1_isLegal cX1_isLegal 3 (some .boolean), Cond.fieldLink RX1 29 "JumpBoardModel" "limitWind" "I", Cond.methodLink RX1 61 yX1_fit, Cond.instanceMethod yX1_fit, Cond.selects RX1 yX1_fit yX1_fit, Cond.code yX1_fit cX1_fit 6 (some .boolean), Cond.fieldLink RX1 22 "JumpBoardModel" "takes" "[I", Cond.methodLink RX1 82 yX1_compared, Cond.instanceMethod yX1_compared, Cond.selects RX1 yX1_compared yX1_compared, Cond.code yX1_compared cX1_compared 7 (some .int), Cond.methodLink RX1 79 yX1_many, Cond.instanceMethod yX1_many, Cond.selects RX1 yX1_many yX1_many]
def wsX1_order_r3 : List Cond := [Cond.code yX1_many cX1_many 5 (some .int)]
def wsX1_order : List Cond := .code yX1_order cX1_order 4 (some .int) :: ((wsX1_order_r1 ++ (wsX1_order_r2 ++ wsX1_order_r3)) ++ wsX10)
def wsX1_isNewBest : List Cond := .code yX1_isNewBest cX1_isNewBest 6 (some .boolean) :: ([.methodLink RX1 57 yX1_code, .instanceMethod yX1_code, .selects RX1 yX1_code yX1_code, .initialized RX1, .code yX1_code cX1_code 4 (some .int), .fieldLink RX1 13 "JumpBoardModel" "jumped" "[I", .fieldLink RX1 16 "JumpBoardModel" "marks" "[I", .fieldLink RX1 19 "JumpBoardModel" "winds" "[I", .methodLink RX1 39 yX1_none, .static yX1_none, .code yX1_none cX1_none 1 (some .int), .methodLink RX1 61 yX1_fit, .instanceMethod yX1_fit, .selects RX1 yX1_fit yX1_fit, .code yX1_fit cX1_fit 6 (some .boolean), .fieldLink RX1 22 "JumpBoardModel" "takes" "[I"] ++ wsX10)
def wsX1_verdict_r1 : List Cond := [Cond.fieldLink RX1 25 "JumpBoardModel" "recordMark" "I", Cond.fieldLink RX1 29 "JumpBoardModel" "limitWind" "I", Cond.methodLink RX1 43 yX1_isJumper, Cond.instanceMethod yX1_isJumper, Cond.selects RX1 yX1_isJumper yX1_isJumper, Cond.initialized RX1, Cond.code yX1_isJumper cX1_isJumper 2 (some .boolean), Cond.fieldLink RX1 32 "JumpBoardModel" "jumpers" "I", Cond.methodLink RX1 35 yX1_isIn, Cond.static yX1_isIn, Cond.code yX1_isIn cX1_isIn 3 (some .boolean), Cond.methodLink RX1 54 yX1_isRound, Cond.static yX1_isRound, Cond.code yX1_isRound cX1_isRound 1 (some .boolean), Cond.methodLink RX1 57 yX1_code, Cond.instanceMethod yX1_code, Cond.selects RX1 yX1_code yX1_code, Cond.code yX1_code cX1_code 4 (some .int), Cond.fieldLink RX1 13 "JumpBoardModel" "jumped" "[I", Cond.fieldLink RX1 16 "JumpBoardModel" "marks" "[I", Cond.fieldLink RX1 19 "JumpBoardModel" "winds" "[I", Cond.methodLink RX1 39 yX1_none, Cond.static yX1_none, Cond.code yX1_none cX1_none 1 (some .int)]
def wsX1_verdict_r2 : List Cond := [Cond.methodLink RX1 72 yX1_isLegal, Cond.instanceMethod yX1_isLegal, Cond.selects RX1 yX1_isLegal yX1_isLegal, Cond.code yX1_isLegal cX1_isLegal 3 (some .boolean), Cond.methodLink RX1 61 yX1_fit, Cond.instanceMethod yX1_fit, Cond.selects RX1 yX1_fit yX1_fit, Cond.code yX1_fit cX1_fit 6 (some .boolean), Cond.fieldLink RX1 22 "JumpBoardModel" "takes" "[I", Cond.methodLink RX1 91 yX1_isNewBest, Cond.instanceMethod yX1_isNewBest, Cond.selects RX1 yX1_isNewBest yX1_isNewBest, Cond.code yX1_isNewBest cX1_isNewBest 6 (some .boolean)]
def wsX1_verdict : List Cond := .code yX1_verdict cX1_verdict 6 (some .int) :: ((wsX1_verdict_r1 ++ wsX1_verdict_r2) ++ wsX10)
def wsX1_told_r1 : List Cond := [Cond.fieldLink RX1 32 "JumpBoardModel" "jumpers" "I", Cond.fieldLink RX1 25 "JumpBoardModel" "recordMark" "I", Cond.fieldLink RX1 29 "JumpBoardModel" "limitWind" "I", Cond.fieldLink RX1 13 "JumpBoardModel" "jumped" "[I", Cond.methodLink RX1 35 yX1_isIn, Cond.static yX1_isIn, Cond.initialized RX1, Cond.code yX1_isIn cX1_isIn 3 (some .boolean), Cond.methodLink RX1 57 yX1_code, Cond.instanceMethod yX1_code, Cond.selects RX1 yX1_code yX1_code, Cond.code yX1_code cX1_code 4 (some .int), Cond.fieldLink RX1 16 "JumpBoardModel" "marks" "[I", Cond.fieldLink RX1 19 "JumpBoardModel" "winds" "[I", Cond.methodLink RX1 39 yX1_none, Cond.static yX1_none, Cond.code yX1_none cX1_none 1 (some .int), Cond.methodLink RX1 72 yX1_isLegal, Cond.instanceMethod yX1_isLegal, Cond.selects RX1 yX1_isLegal yX1_isLegal, Cond.code yX1_isLegal cX1_isLegal 3 (some .boolean), Cond.methodLink RX1 61 yX1_fit, Cond.instanceMethod yX1_fit, Cond.selects RX1 yX1_fit yX1_fit]
def wsX1_told_r2 : List Cond := [Cond.code yX1_fit cX1_fit 6 (some .boolean), Cond.fieldLink RX1 22 "JumpBoardModel" "takes" "[I"]
def wsX1_told : List Cond := .code yX1_told cX1_told 6 (some .int) :: ((wsX1_told_r1 ++ wsX1_told_r2) ++ wsX10)
def wsJ9_max_7cf53 : List Cond := .code yJ9_max_7cf53 cJ9_max_7cf53 2 (some .int) :: ([])
def wsL_law_r1 : List Cond := [Cond.classLink RL 7 RX0, Cond.instantiable RX0 8, Cond.initialized RX0, Cond.classLink RL 10 RX1, Cond.instantiable RX1 8, Cond.initialized RX1, Cond.methodLink RL 9 yX0_init, Cond.instanceMethod yX0_init, Cond.code yX0_init cX0_init 2 none, Cond.methodLink RX0 1 objectInit, Cond.instanceMethod objectInit, Cond.code objectInit ⟨#[0xb1]⟩ 1 none, Cond.fieldLink RX0 7 "JumpBoard" "jumpers" "I", Cond.fieldLink RX0 13 "JumpBoard" "recordMark" "I", Cond.fieldLink RX0 16 "JumpBoard" "limitWind" "I", Cond.arrayClass .int, Cond.fieldLink RX0 19 "JumpBoard" "bibs" "[I", Cond.fieldLink RX0 23 "JumpBoard" "jumped" "[I", Cond.fieldLink RX0 26 "JumpBoard" "marks" "[I", Cond.fieldLink RX0 29 "JumpBoard" "winds" "[I", Cond.fieldLink RX0 32 "JumpBoard" "rows" "[I", Cond.methodLink RL 12 yX1_init, Cond.instanceMethod yX1_init, Cond.code yX1_init cX1_init 1 none]
def wsL_law_r2 : List Cond := [Cond.methodLink RX1 1 objectInit, Cond.fieldLink RX1 7 "JumpBoardModel" "bibs" "[I", Cond.fieldLink RX1 13 "JumpBoardModel" "jumped" "[I", Cond.fieldLink RX1 16 "JumpBoardModel" "marks" "[I", Cond.fieldLink RX1 19 "JumpBoardModel" "winds" "[I", Cond.fieldLink RX1 22 "JumpBoardModel" "takes" "[I", Cond.fieldLink RX1 25 "JumpBoardModel" "recordMark" "I", Cond.fieldLink RX1 29 "JumpBoardModel" "limitWind" "I", Cond.methodLink RL 13 yX0_enter, Cond.instanceMethod yX0_enter, Cond.selects RX0 yX0_enter yX0_enter, Cond.code yX0_enter cX0_enter 3 (some .int), Cond.methodLink RX0 35 yX0_isBibTaken, Cond.instanceMethod yX0_isBibTaken, Cond.selects RX0 yX0_isBibTaken yX0_isBibTaken, Cond.code yX0_isBibTaken cX0_isBibTaken 3 (some .boolean), Cond.methodLink RL 17 yX1_enter, Cond.instanceMethod yX1_enter, Cond.selects RX1 yX1_enter yX1_enter, Cond.code yX1_enter cX1_enter 3 (some .int), Cond.fieldLink RX1 32 "JumpBoardModel" "jumpers" "I", Cond.methodLink RX1 35 yX1_isIn, Cond.static yX1_isIn, Cond.code yX1_isIn cX1_isIn 3 (some .boolean)]
def wsL_law_r3 : List Cond := [Cond.methodLink RL 18 yX0_jump, Cond.instanceMethod yX0_jump, Cond.selects RX0 yX0_jump yX0_jump, Cond.code yX0_jump cX0_jump 5 (some .int), Cond.methodLink RX0 39 yX0_isJumper, Cond.instanceMethod yX0_isJumper, Cond.selects RX0 yX0_isJumper yX0_isJumper, Cond.code yX0_isJumper cX0_isJumper 2 (some .boolean), Cond.methodLink RX0 42 yX0_isMark, Cond.static yX0_isMark, Cond.code yX0_isMark cX0_isMark 1 (some .boolean), Cond.methodLink RX0 45 yX0_isWind, Cond.static yX0_isWind, Cond.code yX0_isWind cX0_isWind 1 (some .boolean), Cond.methodLink RX0 48 yX0_at, Cond.static yX0_at, Cond.code yX0_at cX0_at 2 (some .int), Cond.methodLink RL 22 yX1_jump, Cond.instanceMethod yX1_jump, Cond.selects RX1 yX1_jump yX1_jump, Cond.code yX1_jump cX1_jump 5 (some .int), Cond.methodLink RX1 43 yX1_isJumper, Cond.instanceMethod yX1_isJumper, Cond.selects RX1 yX1_isJumper yX1_isJumper]
def wsL_law_r4 : List Cond := [Cond.code yX1_isJumper cX1_isJumper 2 (some .boolean), Cond.methodLink RX1 50 yX1_isCode, Cond.static yX1_isCode, Cond.code yX1_isCode cX1_isCode 2 (some .boolean), Cond.methodLink RL 23 yX0_undo, Cond.instanceMethod yX0_undo, Cond.selects RX0 yX0_undo yX0_undo, Cond.code yX0_undo cX0_undo 3 (some .int), Cond.methodLink RL 26 yX1_undo, Cond.instanceMethod yX1_undo, Cond.selects RX1 yX1_undo yX1_undo, Cond.code yX1_undo cX1_undo 2 (some .int), Cond.methodLink RL 27 yX0_record, Cond.instanceMethod yX0_record, Cond.selects RX0 yX0_record yX0_record, Cond.code yX0_record cX0_record 3 (some .int), Cond.methodLink RL 30 yX1_record, Cond.instanceMethod yX1_record, Cond.selects RX1 yX1_record yX1_record, Cond.code yX1_record cX1_record 3 (some .int), Cond.methodLink RL 31 yX0_limit, Cond.instanceMethod yX0_limit, Cond.selects RX0 yX0_limit yX0_limit, Cond.code yX0_limit cX0_limit 3 (some .int)]
def wsL_law_r5 : List Cond := [Cond.methodLink RL 34 yX1_limit, Cond.instanceMethod yX1_limit, Cond.selects RX1 yX1_limit yX1_limit, Cond.code yX1_limit cX1_limit 3 (some .int), Cond.methodLink RL 35 yX0_value, Cond.instanceMethod yX0_value, Cond.selects RX0 yX0_value yX0_value, Cond.code yX0_value cX0_value 4 (some .int), Cond.methodLink RX0 52 yX0_isWhat, Cond.static yX0_isWhat, Cond.code yX0_isWhat cX0_isWhat 1 (some .boolean), Cond.methodLink RX0 55 yX0_isRound, Cond.static yX0_isRound, Cond.code yX0_isRound cX0_isRound 1 (some .boolean), Cond.methodLink RX0 58 yX0_valueOf, Cond.instanceMethod yX0_valueOf, Cond.selects RX0 yX0_valueOf yX0_valueOf, Cond.code yX0_valueOf cX0_valueOf 4 (some .int), Cond.methodLink RL 38 yX1_value, Cond.instanceMethod yX1_value, Cond.selects RX1 yX1_value yX1_value, Cond.code yX1_value cX1_value 4 (some .int), Cond.methodLink RX1 54 yX1_isRound, Cond.static yX1_isRound]
def wsL_law_r6 : List Cond := [Cond.code yX1_isRound cX1_isRound 1 (some .boolean), Cond.methodLink RX1 57 yX1_code, Cond.instanceMethod yX1_code, Cond.selects RX1 yX1_code yX1_code, Cond.code yX1_code cX1_code 4 (some .int), Cond.methodLink RX1 39 yX1_none, Cond.static yX1_none, Cond.code yX1_none cX1_none 1 (some .int), Cond.methodLink RL 39 yX0_fits, Cond.instanceMethod yX0_fits, Cond.selects RX0 yX0_fits yX0_fits, Cond.code yX0_fits cX0_fits 6 (some .int), Cond.methodLink RX0 62 yX0_isHow, Cond.static yX0_isHow, Cond.code yX0_isHow cX0_isHow 1 (some .boolean), Cond.methodLink RX0 65 yX0_valueFits, Cond.static yX0_valueFits, Cond.code yX0_valueFits cX0_valueFits 4 (some .boolean), Cond.methodLink RX0 111 yX0_isNone, Cond.static yX0_isNone, Cond.code yX0_isNone cX0_isNone 2 (some .boolean), Cond.methodLink RX0 114 yX0_numberFits, Cond.static yX0_numberFits, Cond.code yX0_numberFits cX0_numberFits 3 (some .boolean)]
def wsL_law_r7 : List Cond := [Cond.methodLink RL 43 yX1_fits, Cond.instanceMethod yX1_fits, Cond.selects RX1 yX1_fits yX1_fits, Cond.code yX1_fits cX1_fits 6 (some .int), Cond.methodLink RX1 47 yX1_isAsked, Cond.instanceMethod yX1_isAsked, Cond.selects RX1 yX1_isAsked yX1_isAsked, Cond.code yX1_isAsked cX1_isAsked 4 (some .boolean), Cond.methodLink RX1 61 yX1_fit, Cond.instanceMethod yX1_fit, Cond.selects RX1 yX1_fit yX1_fit, Cond.code yX1_fit cX1_fit 6 (some .boolean), Cond.methodLink RL 44 yX0_count, Cond.instanceMethod yX0_count, Cond.selects RX0 yX0_count yX0_count, Cond.code yX0_count cX0_count 7 (some .int), Cond.methodLink RX0 69 yX0_isQuestion, Cond.instanceMethod yX0_isQuestion, Cond.selects RX0 yX0_isQuestion yX0_isQuestion, Cond.code yX0_isQuestion cX0_isQuestion 5 (some .boolean), Cond.methodLink RL 48 yX1_count, Cond.instanceMethod yX1_count, Cond.selects RX1 yX1_count yX1_count, Cond.code yX1_count cX1_count 7 (some .int)]
def wsL_law_r8 : List Cond := [Cond.methodLink RX1 65 yX1_isAskedOf, Cond.instanceMethod yX1_isAskedOf, Cond.selects RX1 yX1_isAskedOf yX1_isAskedOf, Cond.code yX1_isAskedOf cX1_isAskedOf 5 (some .boolean), Cond.methodLink RL 49 yX0_turned, Cond.instanceMethod yX0_turned, Cond.selects RX0 yX0_turned yX0_turned, Cond.code yX0_turned cX0_turned 7 (some .int), Cond.methodLink RL 52 yX1_turned, Cond.instanceMethod yX1_turned, Cond.selects RX1 yX1_turned yX1_turned, Cond.code yX1_turned cX1_turned 7 (some .int), Cond.methodLink RL 53 yX0_longest, Cond.instanceMethod yX0_longest, Cond.selects RX0 yX0_longest yX0_longest, Cond.code yX0_longest cX0_longest 8 (some .int), Cond.methodLink RX0 72 Lib.Math.max.name, Cond.static Lib.Math.max.name, Cond.initialized "java/lang/Math", Cond.code Lib.Math.max.name Lib.Math.max.code 2 (some .int), Cond.methodLink RL 56 yX1_longest, Cond.instanceMethod yX1_longest, Cond.selects RX1 yX1_longest yX1_longest, Cond.code yX1_longest cX1_longest 8 (some .int)]
def wsL_law_r9 : List Cond := [Cond.methodLink RX1 68 yX1_unfit, Cond.instanceMethod yX1_unfit, Cond.selects RX1 yX1_unfit yX1_unfit, Cond.code yX1_unfit cX1_unfit 7 (some .int), Cond.methodLink RL 57 yX0_skip, Cond.instanceMethod yX0_skip, Cond.selects RX0 yX0_skip yX0_skip, Cond.code yX0_skip cX0_skip 7 (some .int), Cond.methodLink RL 60 yX1_skip, Cond.instanceMethod yX1_skip, Cond.selects RX1 yX1_skip yX1_skip, Cond.code yX1_skip cX1_skip 8 (some .int), Cond.methodLink RL 61 yX0_pick, Cond.instanceMethod yX0_pick, Cond.selects RX0 yX0_pick yX0_pick, Cond.code yX0_pick cX0_pick 8 (some .int), Cond.methodLink RL 64 yX1_pick, Cond.instanceMethod yX1_pick, Cond.selects RX1 yX1_pick yX1_pick, Cond.code yX1_pick cX1_pick 8 (some .int), Cond.methodLink RL 65 yX0_best, Cond.instanceMethod yX0_best, Cond.selects RX0 yX0_best yX0_best, Cond.code yX0_best cX0_best 2 (some .int)]
def wsL_law_r10 : List Cond := [Cond.methodLink RX0 77 yX0_bestOf, Cond.instanceMethod yX0_bestOf, Cond.selects RX0 yX0_bestOf yX0_bestOf, Cond.code yX0_bestOf cX0_bestOf 4 (some .int), Cond.methodLink RX0 95 yX0_isLegal, Cond.instanceMethod yX0_isLegal, Cond.selects RX0 yX0_isLegal yX0_isLegal, Cond.code yX0_isLegal cX0_isLegal 3 (some .boolean), Cond.methodLink RL 68 yX1_best, Cond.instanceMethod yX1_best, Cond.selects RX1 yX1_best yX1_best, Cond.code yX1_best cX1_best 2 (some .int), Cond.methodLink RX1 75 yX1_greatest, Cond.instanceMethod yX1_greatest, Cond.selects RX1 yX1_greatest yX1_greatest, Cond.code yX1_greatest cX1_greatest 6 (some .int), Cond.methodLink RX1 72 yX1_isLegal, Cond.instanceMethod yX1_isLegal, Cond.selects RX1 yX1_isLegal yX1_isLegal, Cond.code yX1_isLegal cX1_isLegal 3 (some .boolean), Cond.methodLink RL 69 yX0_ahead, Cond.instanceMethod yX0_ahead, Cond.selects RX0 yX0_ahead yX0_ahead, Cond.code yX0_ahead cX0_ahead 3 (some .int)]
def wsL_law_r11 : List Cond := [Cond.methodLink RX0 81 yX0_layOut, Cond.instanceMethod yX0_layOut, Cond.selects RX0 yX0_layOut yX0_layOut, Cond.code yX0_layOut cX0_layOut 3 none, Cond.methodLink RX0 118 yX0_putInRow, Cond.instanceMethod yX0_putInRow, Cond.selects RX0 yX0_putInRow yX0_putInRow, Cond.code yX0_putInRow cX0_putInRow 6 none, Cond.methodLink RX0 85 yX0_isAhead, Cond.instanceMethod yX0_isAhead, Cond.selects RX0 yX0_isAhead yX0_isAhead, Cond.code yX0_isAhead cX0_isAhead 6 (some .boolean), Cond.methodLink RL 73 yX1_ahead, Cond.instanceMethod yX1_ahead, Cond.selects RX1 yX1_ahead yX1_ahead, Cond.code yX1_ahead cX1_ahead 3 (some .int), Cond.methodLink RX1 82 yX1_compared, Cond.instanceMethod yX1_compared, Cond.selects RX1 yX1_compared yX1_compared, Cond.code yX1_compared cX1_compared 7 (some .int), Cond.methodLink RX1 79 yX1_many, Cond.instanceMethod yX1_many, Cond.selects RX1 yX1_many yX1_many, Cond.code yX1_many cX1_many 5 (some .int)]
def wsL_law_r12 : List Cond := [Cond.methodLink RL 74 yX0_place, Cond.instanceMethod yX0_place, Cond.selects RX0 yX0_place yX0_place, Cond.code yX0_place cX0_place 4 (some .int), Cond.methodLink RX0 89 yX0_layOutAll, Cond.instanceMethod yX0_layOutAll, Cond.selects RX0 yX0_layOutAll yX0_layOutAll, Cond.code yX0_layOutAll cX0_layOutAll 2 none, Cond.methodLink RL 77 yX1_place, Cond.instanceMethod yX1_place, Cond.selects RX1 yX1_place yX1_place, Cond.code yX1_place cX1_place 4 (some .int), Cond.methodLink RX1 85 yX1_best, Cond.methodLink RL 78 yX0_order, Cond.instanceMethod yX0_order, Cond.selects RX0 yX0_order yX0_order, Cond.code yX0_order cX0_order 4 (some .int), Cond.methodLink RX0 92 yX0_howManyJumpBefore, Cond.instanceMethod yX0_howManyJumpBefore, Cond.selects RX0 yX0_howManyJumpBefore yX0_howManyJumpBefore, Cond.code yX0_howManyJumpBefore cX0_howManyJumpBefore 4 (some .int), Cond.methodLink RX0 122 yX0_jumpsBefore, Cond.instanceMethod yX0_jumpsBefore, Cond.selects RX0 yX0_jumpsBefore yX0_jumpsBefore]
def wsL_law_r13 : List Cond := [Cond.code yX0_jumpsBefore cX0_jumpsBefore 3 (some .boolean), Cond.methodLink RL 81 yX1_order, Cond.instanceMethod yX1_order, Cond.selects RX1 yX1_order yX1_order, Cond.code yX1_order cX1_order 4 (some .int), Cond.methodLink RX1 88 yX1_behind, Cond.instanceMethod yX1_behind, Cond.selects RX1 yX1_behind yX1_behind, Cond.code yX1_behind cX1_behind 7 (some .int), Cond.methodLink RL 82 yX0_verdict, Cond.instanceMethod yX0_verdict, Cond.selects RX0 yX0_verdict yX0_verdict, Cond.code yX0_verdict cX0_verdict 6 (some .int), Cond.methodLink RX0 98 yX0_beatsEarlierRounds, Cond.instanceMethod yX0_beatsEarlierRounds, Cond.selects RX0 yX0_beatsEarlierRounds yX0_beatsEarlierRounds, Cond.code yX0_beatsEarlierRounds cX0_beatsEarlierRounds 5 (some .boolean), Cond.methodLink RL 85 yX1_verdict, Cond.instanceMethod yX1_verdict, Cond.selects RX1 yX1_verdict yX1_verdict, Cond.code yX1_verdict cX1_verdict 6 (some .int), Cond.methodLink RX1 91 yX1_isNewBest, Cond.instanceMethod yX1_isNewBest, Cond.selects RX1 yX1_isNewBest yX1_isNewBest]
def wsL_law_r14 : List Cond := [Cond.code yX1_isNewBest cX1_isNewBest 6 (some .boolean), Cond.methodLink RL 86 yX0_told, Cond.instanceMethod yX0_told, Cond.selects RX0 yX0_told yX0_told, Cond.code yX0_told cX0_told 2 (some .int), Cond.methodLink RX0 101 yX0_howManyJumped, Cond.instanceMethod yX0_howManyJumped, Cond.selects RX0 yX0_howManyJumped yX0_howManyJumped, Cond.code yX0_howManyJumped cX0_howManyJumped 3 (some .int), Cond.methodLink RX0 105 yX0_howManyMarked, Cond.instanceMethod yX0_howManyMarked, Cond.selects RX0 yX0_howManyMarked yX0_howManyMarked, Cond.code yX0_howManyMarked cX0_howManyMarked 3 (some .int), Cond.methodLink RX0 108 yX0_howManyLegal, Cond.instanceMethod yX0_howManyLegal, Cond.selects RX0 yX0_howManyLegal yX0_howManyLegal, Cond.code yX0_howManyLegal cX0_howManyLegal 4 (some .int), Cond.methodLink RL 89 yX1_told, Cond.instanceMethod yX1_told, Cond.selects RX1 yX1_told yX1_told, Cond.code yX1_told cX1_told 6 (some .int)]
def wsL_law : List Cond := (wsL_law_r1 ++ (wsL_law_r2 ++ (wsL_law_r3 ++ (wsL_law_r4 ++ (wsL_law_r5 ++ (wsL_law_r6 ++ (wsL_law_r7 ++ (wsL_law_r8 ++ (wsL_law_r9 ++ (wsL_law_r10 ++ (wsL_law_r11 ++ (wsL_law_r12 ++ (wsL_law_r13 ++ wsL_law_r14))))))))))))) ++ wsX00 ++ wsX10 ++ ([] : List Cond)
set_option maxRecDepth 20000 in
theorem wsL_law_in : ∀ w ∈ wsL_law, w ∈ lw_tbl := fun w h => (goodIn_p wsL_law [36, 39, 236, 69, 73, 266, 269, 77, 81, 84, 87, 90, 273, 277, 280, 94, 284, 98, 288, 102, 292, 106, 109, 112, 116, 296, 299, 303, 306, 120, 123, 126, 129, 132, 310, 314, 318, 136, 140, 322, 326, 144, 330, 148, 151, 334, 338, 155, 342, 159, 346, 163, 167, 171, 350, 354, 358, 175, 179, 183, 187, 362, 366, 370, 191, 195, 374, 199, 203, 207, 379, 383, 211, 215, 387, 391, 219, 223, 227, 231, 395] (by decide +kernel) (by decide +kernel) w h).1
theorem inlX0 : ∀ w ∈ wsX00, w ∈ wsL_law := fun _ h => List.mem_append_left _ (List.mem_append_left _ (List.mem_append_right _ h))
theorem inX0 : ∀ w ∈ wsX00, w ∈ lw_tbl := fun w h => wsL_law_in w (inlX0 w h)
theorem inlX1 : ∀ w ∈ wsX10, w ∈ wsL_law := fun _ h => List.mem_append_left _ (List.mem_append_right _ h)
theorem inX1 : ∀ w ∈ wsX10, w ∈ lw_tbl := fun w h => wsL_law_in w (inlX1 w h)
theorem inJ9 : ∀ w ∈ wsJ90, w ∈ lw_tbl := by decide +kernel
abbrev vwCl : List vw_C := [(RX0, TX0, 8), (RX1, TX1, 8)]
end
section
theorem dX0_init_0 : decode cX0_init 0 = .ok (.aload_n 0, 1) := by decide +kernel
theorem dX0_init_1 : decode cX0_init 1 = .ok (.invokespecial 1, 3) := by decide +kernel
theorem dX0_init_4 : decode cX0_init 4 = .ok (.aload_n 0, 1) := by decide +kernel
theorem dX0_init_5 : decode cX0_init 5 = .ok (.iconst 0, 1) := by decide +kernel
theorem dX0_init_6 : decode cX0_init 6 = .ok (.putfield 7, 3) := by decide +kernel
theorem dX0_init_9 : decode cX0_init 9 = .ok (.aload_n 0, 1) := by decide +kernel
theorem dX0_init_10 : decode cX0_init 10 = .ok (.iconst 0, 1) := by decide +kernel
theorem dX0_init_11 : decode cX0_init 11 = .ok (.putfield 13, 3) := by decide +kernel
theorem dX0_init_14 : decode cX0_init 14 = .ok (.aload_n 0, 1) := by decide +kernel
theorem dX0_init_15 : decode cX0_init 15 = .ok (.bipush 100, 2) := by decide +kernel
theorem dX0_init_17 : decode cX0_init 17 = .ok (.putfield 16, 3) := by decide +kernel
theorem dX0_init_20 : decode cX0_init 20 = .ok (.aload_n 0, 1) := by decide +kernel
theorem dX0_init_21 : decode cX0_init 21 = .ok (.bipush 8, 2) := by decide +kernel
theorem dX0_init_23 : decode cX0_init 23 = .ok (.newarray .int, 2) := by decide +kernel
theorem dX0_init_25 : decode cX0_init 25 = .ok (.putfield 19, 3) := by decide +kernel
theorem dX0_init_28 : decode cX0_init 28 = .ok (.aload_n 0, 1) := by decide +kernel
theorem dX0_init_29 : decode cX0_init 29 = .ok (.bipush 8, 2) := by decide +kernel
theorem dX0_init_31 : decode cX0_init 31 = .ok (.newarray .int, 2) := by decide +kernel
theorem dX0_init_33 : decode cX0_init 33 = .ok (.putfield 23, 3) := by decide +kernel
theorem dX0_init_36 : decode cX0_init 36 = .ok (.aload_n 0, 1) := by decide +kernel
theorem dX0_init_37 : decode cX0_init 37 = .ok (.bipush 48, 2) := by decide +kernel
theorem dX0_init_39 : decode cX0_init 39 = .ok (.newarray .int, 2) := by decide +kernel
theorem dX0_init_41 : decode cX0_init 41 = .ok (.putfield 26, 3) := by decide +kernel
theorem dX0_init_44 : decode cX0_init 44 = .ok (.aload_n 0, 1) := by decide +kernel
theorem dX0_init_45 : decode cX0_init 45 = .ok (.bipush 48, 2) := by decide +kernel
theorem dX0_init_47 : decode cX0_init 47 = .ok (.newarray .int, 2) := by decide +kernel
theorem dX0_init_49 : decode cX0_init 49 = .ok (.putfield 29, 3) := by decide +kernel
theorem dX0_init_52 : decode cX0_init 52 = .ok (.aload_n 0, 1) := by decide +kernel
theorem dX0_init_53 : decode cX0_init 53 = .ok (.bipush 48, 2) := by decide +kernel
theorem dX0_init_55 : decode cX0_init 55 = .ok (.newarray .int, 2) := by decide +kernel
theorem dX0_init_57 : decode cX0_init 57 = .ok (.putfield 32, 3) := by decide +kernel
theorem dX0_init_60 : decode cX0_init 60 = .ok (.iconst 0, 1) := by decide +kernel
theorem dX0_init_61 : decode cX0_init 61 = .ok (.istore_n 1, 1) := by decide +kernel
theorem dX0_init_62 : decode cX0_init 62 = .ok (.iload_n 1, 1) := by decide +kernel
theorem dX0_init_63 : decode cX0_init 63 = .ok (.bipush 48, 2) := by decide +kernel
theorem dX0_init_65 : decode cX0_init 65 = .ok (.if_icmp .ge 24, 3) := by decide +kernel
theorem dX0_init_68 : decode cX0_init 68 = .ok (.aload_n 0, 1) := by decide +kernel
theorem dX0_init_69 : decode cX0_init 69 = .ok (.getfield 26, 3) := by decide +kernel
theorem dX0_init_72 : decode cX0_init 72 = .ok (.iload_n 1, 1) := by decide +kernel
theorem dX0_init_73 : decode cX0_init 73 = .ok (.iconst 0, 1) := by decide +kernel
theorem dX0_init_74 : decode cX0_init 74 = .ok (.iastore, 1) := by decide +kernel
theorem dX0_init_75 : decode cX0_init 75 = .ok (.aload_n 0, 1) := by decide +kernel
theorem dX0_init_76 : decode cX0_init 76 = .ok (.getfield 29, 3) := by decide +kernel
theorem dX0_init_79 : decode cX0_init 79 = .ok (.iload_n 1, 1) := by decide +kernel
theorem dX0_init_80 : decode cX0_init 80 = .ok (.bipush 100, 2) := by decide +kernel
theorem dX0_init_82 : decode cX0_init 82 = .ok (.iastore, 1) := by decide +kernel
theorem dX0_init_83 : decode cX0_init 83 = .ok (.iinc 1 1, 3) := by decide +kernel
theorem dX0_init_86 : decode cX0_init 86 = .ok (.goto (-24), 3) := by decide +kernel
theorem dX0_init_89 : decode cX0_init 89 = .ok (.return_, 1) := by decide +kernel
set_option maxRecDepth 20000 in
theorem ggX0_enter_X0_isBibTaken : GoodIn wsX0_enter wsX0_isBibTaken := goodIn_r _ [7, 1, 2, 8, 9, 10, 11, 12, 13, 14, 15] (by decide +kernel) (by decide +kernel)
set_option maxRecDepth 20000 in
theorem gX0_enter_X0_isBibTaken : GoodIn wsX0_enter (wsV RX0 35 RX0 yX0_isBibTaken wsX0_isBibTaken) := goodIn_app (goodIn_of _ (by decide +kernel)) ggX0_enter_X0_isBibTaken
theorem dX0_enter_0 : decode cX0_enter 0 = .ok (.aload_n 0, 1) := by decide +kernel
theorem dX0_enter_1 : decode cX0_enter 1 = .ok (.getfield 7, 3) := by decide +kernel
theorem dX0_enter_4 : decode cX0_enter 4 = .ok (.bipush 8, 2) := by decide +kernel
theorem dX0_enter_6 : decode cX0_enter 6 = .ok (.if_icmp .ge 23, 3) := by decide +kernel
theorem dX0_enter_9 : decode cX0_enter 9 = .ok (.iload_n 1, 1) := by decide +kernel
theorem dX0_enter_10 : decode cX0_enter 10 = .ok (.iconst 1, 1) := by decide +kernel
theorem dX0_enter_11 : decode cX0_enter 11 = .ok (.if_icmp .lt 18, 3) := by decide +kernel
theorem dX0_enter_14 : decode cX0_enter 14 = .ok (.iload_n 1, 1) := by decide +kernel
theorem dX0_enter_15 : decode cX0_enter 15 = .ok (.sipush 999, 3) := by decide +kernel
theorem dX0_enter_18 : decode cX0_enter 18 = .ok (.if_icmp .gt 11, 3) := by decide +kernel
theorem dX0_enter_21 : decode cX0_enter 21 = .ok (.aload_n 0, 1) := by decide +kernel
theorem dX0_enter_22 : decode cX0_enter 22 = .ok (.iload_n 1, 1) := by decide +kernel
theorem dX0_enter_23 : decode cX0_enter 23 = .ok (.invokevirtual 35, 3) := by decide +kernel
theorem dX0_enter_26 : decode cX0_enter 26 = .ok (.ifCond .eq 7, 3) := by decide +kernel
theorem dX0_enter_29 : decode cX0_enter 29 = .ok (.sipush (-1000), 3) := by decide +kernel
theorem dX0_enter_32 : decode cX0_enter 32 = .ok (.ireturn, 1) := by decide +kernel
theorem dX0_enter_33 : decode cX0_enter 33 = .ok (.aload_n 0, 1) := by decide +kernel
theorem dX0_enter_34 : decode cX0_enter 34 = .ok (.getfield 7, 3) := by decide +kernel
theorem dX0_enter_37 : decode cX0_enter 37 = .ok (.istore_n 2, 1) := by decide +kernel
theorem dX0_enter_38 : decode cX0_enter 38 = .ok (.aload_n 0, 1) := by decide +kernel
theorem dX0_enter_39 : decode cX0_enter 39 = .ok (.getfield 19, 3) := by decide +kernel
theorem dX0_enter_42 : decode cX0_enter 42 = .ok (.iload_n 2, 1) := by decide +kernel
theorem dX0_enter_43 : decode cX0_enter 43 = .ok (.iload_n 1, 1) := by decide +kernel
theorem dX0_enter_44 : decode cX0_enter 44 = .ok (.iastore, 1) := by decide +kernel
theorem dX0_enter_45 : decode cX0_enter 45 = .ok (.aload_n 0, 1) := by decide +kernel
theorem dX0_enter_46 : decode cX0_enter 46 = .ok (.iload_n 2, 1) := by decide +kernel
theorem dX0_enter_47 : decode cX0_enter 47 = .ok (.iconst 1, 1) := by decide +kernel
theorem dX0_enter_48 : decode cX0_enter 48 = .ok (.iadd, 1) := by decide +kernel
theorem dX0_enter_49 : decode cX0_enter 49 = .ok (.putfield 7, 3) := by decide +kernel
theorem dX0_enter_52 : decode cX0_enter 52 = .ok (.iload_n 2, 1) := by decide +kernel
theorem dX0_enter_53 : decode cX0_enter 53 = .ok (.ireturn, 1) := by decide +kernel
set_option maxRecDepth 20000 in
theorem ggX0_jump_X0_isJumper : GoodIn wsX0_jump wsX0_isJumper := goodIn_r _ [8, 9, 19, 20, 21, 22, 23, 24, 25, 26] (by decide +kernel) (by decide +kernel)
set_option maxRecDepth 20000 in
theorem gX0_jump_X0_isJumper : GoodIn wsX0_jump (wsV RX0 39 RX0 yX0_isJumper wsX0_isJumper) := goodIn_app (goodIn_of _ (by decide +kernel)) ggX0_jump_X0_isJumper
set_option maxRecDepth 20000 in
theorem ggX0_jump_X0_isMark : GoodIn wsX0_jump wsX0_isMark := goodIn_r _ [12] (by decide +kernel) (by decide +kernel)
set_option maxRecDepth 20000 in
theorem gX0_jump_X0_isMark : GoodIn wsX0_jump (va_wsS RX0 42 yX0_isMark wsX0_isMark) := goodIn_app (goodIn_of _ (by decide +kernel)) ggX0_jump_X0_isMark
set_option maxRecDepth 20000 in
theorem ggX0_jump_X0_isWind : GoodIn wsX0_jump wsX0_isWind := goodIn_r _ [15] (by decide +kernel) (by decide +kernel)
set_option maxRecDepth 20000 in
theorem gX0_jump_X0_isWind : GoodIn wsX0_jump (va_wsS RX0 45 yX0_isWind wsX0_isWind) := goodIn_app (goodIn_of _ (by decide +kernel)) ggX0_jump_X0_isWind
set_option maxRecDepth 20000 in
theorem ggX0_jump_X0_at : GoodIn wsX0_jump wsX0_at := goodIn_r _ [18] (by decide +kernel) (by decide +kernel)
set_option maxRecDepth 20000 in
theorem gX0_jump_X0_at : GoodIn wsX0_jump (va_wsS RX0 48 yX0_at wsX0_at) := goodIn_app (goodIn_of _ (by decide +kernel)) ggX0_jump_X0_at
theorem dX0_jump_0 : decode cX0_jump 0 = .ok (.aload_n 0, 1) := by decide +kernel
theorem dX0_jump_1 : decode cX0_jump 1 = .ok (.iload_n 1, 1) := by decide +kernel
theorem dX0_jump_2 : decode cX0_jump 2 = .ok (.invokevirtual 39, 3) := by decide +kernel
theorem dX0_jump_5 : decode cX0_jump 5 = .ok (.ifCond .eq 28, 3) := by decide +kernel
theorem dX0_jump_8 : decode cX0_jump 8 = .ok (.iload_n 2, 1) := by decide +kernel
theorem dX0_jump_9 : decode cX0_jump 9 = .ok (.invokestatic 42, 3) := by decide +kernel
theorem dX0_jump_12 : decode cX0_jump 12 = .ok (.ifCond .eq 21, 3) := by decide +kernel
theorem dX0_jump_15 : decode cX0_jump 15 = .ok (.iload_n 3, 1) := by decide +kernel
theorem dX0_jump_16 : decode cX0_jump 16 = .ok (.invokestatic 45, 3) := by decide +kernel
theorem dX0_jump_19 : decode cX0_jump 19 = .ok (.ifCond .eq 14, 3) := by decide +kernel
theorem dX0_jump_22 : decode cX0_jump 22 = .ok (.aload_n 0, 1) := by decide +kernel
theorem dX0_jump_23 : decode cX0_jump 23 = .ok (.getfield 23, 3) := by decide +kernel
theorem dX0_jump_26 : decode cX0_jump 26 = .ok (.iload_n 1, 1) := by decide +kernel
theorem dX0_jump_27 : decode cX0_jump 27 = .ok (.iaload, 1) := by decide +kernel
theorem dX0_jump_28 : decode cX0_jump 28 = .ok (.bipush 6, 2) := by decide +kernel
theorem dX0_jump_30 : decode cX0_jump 30 = .ok (.if_icmp .lt 7, 3) := by decide +kernel
theorem dX0_jump_33 : decode cX0_jump 33 = .ok (.sipush (-1000), 3) := by decide +kernel
theorem dX0_jump_36 : decode cX0_jump 36 = .ok (.ireturn, 1) := by decide +kernel
theorem dX0_jump_37 : decode cX0_jump 37 = .ok (.aload_n 0, 1) := by decide +kernel
theorem dX0_jump_38 : decode cX0_jump 38 = .ok (.getfield 23, 3) := by decide +kernel
theorem dX0_jump_41 : decode cX0_jump 41 = .ok (.iload_n 1, 1) := by decide +kernel
theorem dX0_jump_42 : decode cX0_jump 42 = .ok (.iaload, 1) := by decide +kernel
theorem dX0_jump_43 : decode cX0_jump 43 = .ok (.istore 4, 2) := by decide +kernel
theorem dX0_jump_45 : decode cX0_jump 45 = .ok (.aload_n 0, 1) := by decide +kernel
theorem dX0_jump_46 : decode cX0_jump 46 = .ok (.getfield 26, 3) := by decide +kernel
theorem dX0_jump_49 : decode cX0_jump 49 = .ok (.iload_n 1, 1) := by decide +kernel
theorem dX0_jump_50 : decode cX0_jump 50 = .ok (.iload 4, 2) := by decide +kernel
theorem dX0_jump_52 : decode cX0_jump 52 = .ok (.invokestatic 48, 3) := by decide +kernel
theorem dX0_jump_55 : decode cX0_jump 55 = .ok (.iload_n 2, 1) := by decide +kernel
theorem dX0_jump_56 : decode cX0_jump 56 = .ok (.iastore, 1) := by decide +kernel
theorem dX0_jump_57 : decode cX0_jump 57 = .ok (.aload_n 0, 1) := by decide +kernel
theorem dX0_jump_58 : decode cX0_jump 58 = .ok (.getfield 29, 3) := by decide +kernel
theorem dX0_jump_61 : decode cX0_jump 61 = .ok (.iload_n 1, 1) := by decide +kernel
theorem dX0_jump_62 : decode cX0_jump 62 = .ok (.iload 4, 2) := by decide +kernel
theorem dX0_jump_64 : decode cX0_jump 64 = .ok (.invokestatic 48, 3) := by decide +kernel
theorem dX0_jump_67 : decode cX0_jump 67 = .ok (.iload_n 3, 1) := by decide +kernel
theorem dX0_jump_68 : decode cX0_jump 68 = .ok (.iastore, 1) := by decide +kernel
theorem dX0_jump_69 : decode cX0_jump 69 = .ok (.aload_n 0, 1) := by decide +kernel
theorem dX0_jump_70 : decode cX0_jump 70 = .ok (.getfield 23, 3) := by decide +kernel
theorem dX0_jump_73 : decode cX0_jump 73 = .ok (.iload_n 1, 1) := by decide +kernel
theorem dX0_jump_74 : decode cX0_jump 74 = .ok (.iload 4, 2) := by decide +kernel
theorem dX0_jump_76 : decode cX0_jump 76 = .ok (.iconst 1, 1) := by decide +kernel
theorem dX0_jump_77 : decode cX0_jump 77 = .ok (.iadd, 1) := by decide +kernel
theorem dX0_jump_78 : decode cX0_jump 78 = .ok (.iastore, 1) := by decide +kernel
theorem dX0_jump_79 : decode cX0_jump 79 = .ok (.iload 4, 2) := by decide +kernel
theorem dX0_jump_81 : decode cX0_jump 81 = .ok (.ireturn, 1) := by decide +kernel
set_option maxRecDepth 20000 in
theorem ggX0_undo_X0_isJumper : GoodIn wsX0_undo wsX0_isJumper := goodIn_r _ [8, 9, 13, 14, 15, 16, 17, 18, 19, 20] (by decide +kernel) (by decide +kernel)
set_option maxRecDepth 20000 in
theorem gX0_undo_X0_isJumper : GoodIn wsX0_undo (wsV RX0 39 RX0 yX0_isJumper wsX0_isJumper) := goodIn_app (goodIn_of _ (by decide +kernel)) ggX0_undo_X0_isJumper
set_option maxRecDepth 20000 in
theorem ggX0_undo_X0_at : GoodIn wsX0_undo wsX0_at := goodIn_r _ [12] (by decide +kernel) (by decide +kernel)
set_option maxRecDepth 20000 in
theorem gX0_undo_X0_at : GoodIn wsX0_undo (va_wsS RX0 48 yX0_at wsX0_at) := goodIn_app (goodIn_of _ (by decide +kernel)) ggX0_undo_X0_at
theorem dX0_undo_0 : decode cX0_undo 0 = .ok (.aload_n 0, 1) := by decide +kernel
theorem dX0_undo_1 : decode cX0_undo 1 = .ok (.iload_n 1, 1) := by decide +kernel
theorem dX0_undo_2 : decode cX0_undo 2 = .ok (.invokevirtual 39, 3) := by decide +kernel
theorem dX0_undo_5 : decode cX0_undo 5 = .ok (.ifCond .eq 12, 3) := by decide +kernel
theorem dX0_undo_8 : decode cX0_undo 8 = .ok (.aload_n 0, 1) := by decide +kernel
theorem dX0_undo_9 : decode cX0_undo 9 = .ok (.getfield 23, 3) := by decide +kernel
theorem dX0_undo_12 : decode cX0_undo 12 = .ok (.iload_n 1, 1) := by decide +kernel
theorem dX0_undo_13 : decode cX0_undo 13 = .ok (.iaload, 1) := by decide +kernel
theorem dX0_undo_14 : decode cX0_undo 14 = .ok (.ifCond .gt 7, 3) := by decide +kernel
theorem dX0_undo_17 : decode cX0_undo 17 = .ok (.sipush (-1000), 3) := by decide +kernel
theorem dX0_undo_20 : decode cX0_undo 20 = .ok (.ireturn, 1) := by decide +kernel
theorem dX0_undo_21 : decode cX0_undo 21 = .ok (.aload_n 0, 1) := by decide +kernel
theorem dX0_undo_22 : decode cX0_undo 22 = .ok (.getfield 23, 3) := by decide +kernel
theorem dX0_undo_25 : decode cX0_undo 25 = .ok (.iload_n 1, 1) := by decide +kernel
theorem dX0_undo_26 : decode cX0_undo 26 = .ok (.iaload, 1) := by decide +kernel
theorem dX0_undo_27 : decode cX0_undo 27 = .ok (.iconst 1, 1) := by decide +kernel
theorem dX0_undo_28 : decode cX0_undo 28 = .ok (.isub, 1) := by decide +kernel
theorem dX0_undo_29 : decode cX0_undo 29 = .ok (.istore_n 2, 1) := by decide +kernel
theorem dX0_undo_30 : decode cX0_undo 30 = .ok (.aload_n 0, 1) := by decide +kernel
theorem dX0_undo_31 : decode cX0_undo 31 = .ok (.getfield 26, 3) := by decide +kernel
theorem dX0_undo_34 : decode cX0_undo 34 = .ok (.iload_n 1, 1) := by decide +kernel
theorem dX0_undo_35 : decode cX0_undo 35 = .ok (.iload_n 2, 1) := by decide +kernel
theorem dX0_undo_36 : decode cX0_undo 36 = .ok (.invokestatic 48, 3) := by decide +kernel
theorem dX0_undo_39 : decode cX0_undo 39 = .ok (.iconst 0, 1) := by decide +kernel
theorem dX0_undo_40 : decode cX0_undo 40 = .ok (.iastore, 1) := by decide +kernel
theorem dX0_undo_41 : decode cX0_undo 41 = .ok (.aload_n 0, 1) := by decide +kernel
theorem dX0_undo_42 : decode cX0_undo 42 = .ok (.getfield 29, 3) := by decide +kernel
theorem dX0_undo_45 : decode cX0_undo 45 = .ok (.iload_n 1, 1) := by decide +kernel
theorem dX0_undo_46 : decode cX0_undo 46 = .ok (.iload_n 2, 1) := by decide +kernel
theorem dX0_undo_47 : decode cX0_undo 47 = .ok (.invokestatic 48, 3) := by decide +kernel
theorem dX0_undo_50 : decode cX0_undo 50 = .ok (.bipush 100, 2) := by decide +kernel
theorem dX0_undo_52 : decode cX0_undo 52 = .ok (.iastore, 1) := by decide +kernel
theorem dX0_undo_53 : decode cX0_undo 53 = .ok (.aload_n 0, 1) := by decide +kernel
theorem dX0_undo_54 : decode cX0_undo 54 = .ok (.getfield 23, 3) := by decide +kernel
theorem dX0_undo_57 : decode cX0_undo 57 = .ok (.iload_n 1, 1) := by decide +kernel
theorem dX0_undo_58 : decode cX0_undo 58 = .ok (.iload_n 2, 1) := by decide +kernel
theorem dX0_undo_59 : decode cX0_undo 59 = .ok (.iastore, 1) := by decide +kernel
theorem dX0_undo_60 : decode cX0_undo 60 = .ok (.iload_n 2, 1) := by decide +kernel
theorem dX0_undo_61 : decode cX0_undo 61 = .ok (.ireturn, 1) := by decide +kernel
set_option maxRecDepth 20000 in
theorem ggX0_record_X0_isMark : GoodIn wsX0_record wsX0_isMark := goodIn_r _ [5] (by decide +kernel) (by decide +kernel)
set_option maxRecDepth 20000 in
theorem gX0_record_X0_isMark : GoodIn wsX0_record (va_wsS RX0 42 yX0_isMark wsX0_isMark) := goodIn_app (goodIn_of _ (by decide +kernel)) ggX0_record_X0_isMark
theorem dX0_record_0 : decode cX0_record 0 = .ok (.iload_n 1, 1) := by decide +kernel
theorem dX0_record_1 : decode cX0_record 1 = .ok (.invokestatic 42, 3) := by decide +kernel
theorem dX0_record_4 : decode cX0_record 4 = .ok (.ifCond .ne 7, 3) := by decide +kernel
theorem dX0_record_7 : decode cX0_record 7 = .ok (.sipush (-1000), 3) := by decide +kernel
theorem dX0_record_10 : decode cX0_record 10 = .ok (.ireturn, 1) := by decide +kernel
theorem dX0_record_11 : decode cX0_record 11 = .ok (.aload_n 0, 1) := by decide +kernel
theorem dX0_record_12 : decode cX0_record 12 = .ok (.getfield 13, 3) := by decide +kernel
theorem dX0_record_15 : decode cX0_record 15 = .ok (.istore_n 2, 1) := by decide +kernel
theorem dX0_record_16 : decode cX0_record 16 = .ok (.aload_n 0, 1) := by decide +kernel
theorem dX0_record_17 : decode cX0_record 17 = .ok (.iload_n 1, 1) := by decide +kernel
theorem dX0_record_18 : decode cX0_record 18 = .ok (.putfield 13, 3) := by decide +kernel
theorem dX0_record_21 : decode cX0_record 21 = .ok (.iload_n 2, 1) := by decide +kernel
theorem dX0_record_22 : decode cX0_record 22 = .ok (.ireturn, 1) := by decide +kernel
set_option maxRecDepth 20000 in
theorem ggX0_limit_X0_isWind : GoodIn wsX0_limit wsX0_isWind := goodIn_r _ [5] (by decide +kernel) (by decide +kernel)
set_option maxRecDepth 20000 in
theorem gX0_limit_X0_isWind : GoodIn wsX0_limit (va_wsS RX0 45 yX0_isWind wsX0_isWind) := goodIn_app (goodIn_of _ (by decide +kernel)) ggX0_limit_X0_isWind
theorem dX0_limit_0 : decode cX0_limit 0 = .ok (.iload_n 1, 1) := by decide +kernel
theorem dX0_limit_1 : decode cX0_limit 1 = .ok (.invokestatic 45, 3) := by decide +kernel
theorem dX0_limit_4 : decode cX0_limit 4 = .ok (.ifCond .ne 7, 3) := by decide +kernel
theorem dX0_limit_7 : decode cX0_limit 7 = .ok (.sipush (-1000), 3) := by decide +kernel
theorem dX0_limit_10 : decode cX0_limit 10 = .ok (.ireturn, 1) := by decide +kernel
theorem dX0_limit_11 : decode cX0_limit 11 = .ok (.aload_n 0, 1) := by decide +kernel
theorem dX0_limit_12 : decode cX0_limit 12 = .ok (.getfield 16, 3) := by decide +kernel
theorem dX0_limit_15 : decode cX0_limit 15 = .ok (.istore_n 2, 1) := by decide +kernel
theorem dX0_limit_16 : decode cX0_limit 16 = .ok (.aload_n 0, 1) := by decide +kernel
theorem dX0_limit_17 : decode cX0_limit 17 = .ok (.iload_n 1, 1) := by decide +kernel
theorem dX0_limit_18 : decode cX0_limit 18 = .ok (.putfield 16, 3) := by decide +kernel
theorem dX0_limit_21 : decode cX0_limit 21 = .ok (.iload_n 2, 1) := by decide +kernel
theorem dX0_limit_22 : decode cX0_limit 22 = .ok (.ireturn, 1) := by decide +kernel
set_option maxRecDepth 20000 in
theorem ggX0_value_X0_isWhat : GoodIn wsX0_value wsX0_isWhat := goodIn_r _ [4] (by decide +kernel) (by decide +kernel)
set_option maxRecDepth 20000 in
theorem gX0_value_X0_isWhat : GoodIn wsX0_value (va_wsS RX0 52 yX0_isWhat wsX0_isWhat) := goodIn_app (goodIn_of _ (by decide +kernel)) ggX0_value_X0_isWhat
set_option maxRecDepth 20000 in
theorem ggX0_value_X0_isJumper : GoodIn wsX0_value wsX0_isJumper := goodIn_r _ [8, 9, 22, 23, 24, 25, 26, 27, 28, 29] (by decide +kernel) (by decide +kernel)
set_option maxRecDepth 20000 in
theorem gX0_value_X0_isJumper : GoodIn wsX0_value (wsV RX0 39 RX0 yX0_isJumper wsX0_isJumper) := goodIn_app (goodIn_of _ (by decide +kernel)) ggX0_value_X0_isJumper
set_option maxRecDepth 20000 in
theorem ggX0_value_X0_isRound : GoodIn wsX0_value wsX0_isRound := goodIn_r _ [12] (by decide +kernel) (by decide +kernel)
set_option maxRecDepth 20000 in
theorem gX0_value_X0_isRound : GoodIn wsX0_value (va_wsS RX0 55 yX0_isRound wsX0_isRound) := goodIn_app (goodIn_of _ (by decide +kernel)) ggX0_value_X0_isRound
set_option maxRecDepth 20000 in
theorem ggX0_value_X0_valueOf : GoodIn wsX0_value wsX0_valueOf := goodIn_r _ [16, 17, 18, 19, 20, 3, 21, 22, 23, 24, 25, 26, 27, 28, 29] (by decide +kernel) (by decide +kernel)
set_option maxRecDepth 20000 in
theorem gX0_value_X0_valueOf : GoodIn wsX0_value (wsV RX0 58 RX0 yX0_valueOf wsX0_valueOf) := goodIn_app (goodIn_of _ (by decide +kernel)) ggX0_value_X0_valueOf
theorem dX0_value_0 : decode cX0_value 0 = .ok (.iload_n 1, 1) := by decide +kernel
theorem dX0_value_1 : decode cX0_value 1 = .ok (.invokestatic 52, 3) := by decide +kernel
theorem dX0_value_4 : decode cX0_value 4 = .ok (.ifCond .eq 18, 3) := by decide +kernel
theorem dX0_value_7 : decode cX0_value 7 = .ok (.aload_n 0, 1) := by decide +kernel
theorem dX0_value_8 : decode cX0_value 8 = .ok (.iload_n 2, 1) := by decide +kernel
theorem dX0_value_9 : decode cX0_value 9 = .ok (.invokevirtual 39, 3) := by decide +kernel
theorem dX0_value_12 : decode cX0_value 12 = .ok (.ifCond .eq 10, 3) := by decide +kernel
theorem dX0_value_15 : decode cX0_value 15 = .ok (.iload_n 3, 1) := by decide +kernel
theorem dX0_value_16 : decode cX0_value 16 = .ok (.invokestatic 55, 3) := by decide +kernel
theorem dX0_value_19 : decode cX0_value 19 = .ok (.ifCond .ne 7, 3) := by decide +kernel
theorem dX0_value_22 : decode cX0_value 22 = .ok (.sipush (-1000), 3) := by decide +kernel
theorem dX0_value_25 : decode cX0_value 25 = .ok (.ireturn, 1) := by decide +kernel
theorem dX0_value_26 : decode cX0_value 26 = .ok (.aload_n 0, 1) := by decide +kernel
theorem dX0_value_27 : decode cX0_value 27 = .ok (.iload_n 1, 1) := by decide +kernel
theorem dX0_value_28 : decode cX0_value 28 = .ok (.iload_n 2, 1) := by decide +kernel
theorem dX0_value_29 : decode cX0_value 29 = .ok (.iload_n 3, 1) := by decide +kernel
theorem dX0_value_30 : decode cX0_value 30 = .ok (.invokevirtual 58, 3) := by decide +kernel
theorem dX0_value_33 : decode cX0_value 33 = .ok (.ireturn, 1) := by decide +kernel
set_option maxRecDepth 20000 in
theorem ggX0_fits_X0_isHow : GoodIn wsX0_fits wsX0_isHow := goodIn_r _ [4] (by decide +kernel) (by decide +kernel)
set_option maxRecDepth 20000 in
theorem gX0_fits_X0_isHow : GoodIn wsX0_fits (va_wsS RX0 62 yX0_isHow wsX0_isHow) := goodIn_app (goodIn_of _ (by decide +kernel)) ggX0_fits_X0_isHow
set_option maxRecDepth 20000 in
theorem ggX0_fits_X0_isWhat : GoodIn wsX0_fits wsX0_isWhat := goodIn_r _ [7] (by decide +kernel) (by decide +kernel)
set_option maxRecDepth 20000 in
theorem gX0_fits_X0_isWhat : GoodIn wsX0_fits (va_wsS RX0 52 yX0_isWhat wsX0_isWhat) := goodIn_app (goodIn_of _ (by decide +kernel)) ggX0_fits_X0_isWhat
set_option maxRecDepth 20000 in
theorem ggX0_fits_X0_isJumper : GoodIn wsX0_fits wsX0_isJumper := goodIn_r _ [11, 12, 34, 35, 36, 37, 38, 39, 40, 41] (by decide +kernel) (by decide +kernel)
set_option maxRecDepth 20000 in
theorem gX0_fits_X0_isJumper : GoodIn wsX0_fits (wsV RX0 39 RX0 yX0_isJumper wsX0_isJumper) := goodIn_app (goodIn_of _ (by decide +kernel)) ggX0_fits_X0_isJumper
set_option maxRecDepth 20000 in
theorem ggX0_fits_X0_isRound : GoodIn wsX0_fits wsX0_isRound := goodIn_r _ [15] (by decide +kernel) (by decide +kernel)
set_option maxRecDepth 20000 in
theorem gX0_fits_X0_isRound : GoodIn wsX0_fits (va_wsS RX0 55 yX0_isRound wsX0_isRound) := goodIn_app (goodIn_of _ (by decide +kernel)) ggX0_fits_X0_isRound
set_option maxRecDepth 20000 in
theorem ggX0_fits_X0_valueOf : GoodIn wsX0_fits wsX0_valueOf := goodIn_r _ [19, 20, 21, 22, 23, 3, 24, 34, 35, 36, 37, 38, 39, 40, 41] (by decide +kernel) (by decide +kernel)
set_option maxRecDepth 20000 in
theorem gX0_fits_X0_valueOf : GoodIn wsX0_fits (wsV RX0 58 RX0 yX0_valueOf wsX0_valueOf) := goodIn_app (goodIn_of _ (by decide +kernel)) ggX0_fits_X0_valueOf
set_option maxRecDepth 20000 in
theorem ggX0_fits_X0_valueFits : GoodIn wsX0_fits wsX0_valueFits := goodIn_r _ [27, 28, 29, 3, 30, 31, 32, 33] (by decide +kernel) (by decide +kernel)
set_option maxRecDepth 20000 in
theorem gX0_fits_X0_valueFits : GoodIn wsX0_fits (va_wsS RX0 65 yX0_valueFits wsX0_valueFits) := goodIn_app (goodIn_of _ (by decide +kernel)) ggX0_fits_X0_valueFits
theorem dX0_fits_0 : decode cX0_fits 0 = .ok (.iload_n 1, 1) := by decide +kernel
theorem dX0_fits_1 : decode cX0_fits 1 = .ok (.invokestatic 62, 3) := by decide +kernel
theorem dX0_fits_4 : decode cX0_fits 4 = .ok (.ifCond .eq 34, 3) := by decide +kernel
theorem dX0_fits_7 : decode cX0_fits 7 = .ok (.iload_n 2, 1) := by decide +kernel
theorem dX0_fits_8 : decode cX0_fits 8 = .ok (.invokestatic 52, 3) := by decide +kernel
theorem dX0_fits_11 : decode cX0_fits 11 = .ok (.ifCond .eq 27, 3) := by decide +kernel
theorem dX0_fits_14 : decode cX0_fits 14 = .ok (.aload_n 0, 1) := by decide +kernel
theorem dX0_fits_15 : decode cX0_fits 15 = .ok (.iload_n 3, 1) := by decide +kernel
theorem dX0_fits_16 : decode cX0_fits 16 = .ok (.invokevirtual 39, 3) := by decide +kernel
theorem dX0_fits_19 : decode cX0_fits 19 = .ok (.ifCond .eq 19, 3) := by decide +kernel
theorem dX0_fits_22 : decode cX0_fits 22 = .ok (.iload 4, 2) := by decide +kernel
theorem dX0_fits_24 : decode cX0_fits 24 = .ok (.invokestatic 55, 3) := by decide +kernel
theorem dX0_fits_27 : decode cX0_fits 27 = .ok (.ifCond .eq 11, 3) := by decide +kernel
theorem dX0_fits_30 : decode cX0_fits 30 = .ok (.iload 5, 2) := by decide +kernel
theorem dX0_fits_32 : decode cX0_fits 32 = .ok (.invokestatic 55, 3) := by decide +kernel
theorem dX0_fits_35 : decode cX0_fits 35 = .ok (.ifCond .ne 7, 3) := by decide +kernel
theorem dX0_fits_38 : decode cX0_fits 38 = .ok (.sipush (-1000), 3) := by decide +kernel
theorem dX0_fits_41 : decode cX0_fits 41 = .ok (.ireturn, 1) := by decide +kernel
theorem dX0_fits_42 : decode cX0_fits 42 = .ok (.iload_n 1, 1) := by decide +kernel
theorem dX0_fits_43 : decode cX0_fits 43 = .ok (.iload_n 2, 1) := by decide +kernel
theorem dX0_fits_44 : decode cX0_fits 44 = .ok (.aload_n 0, 1) := by decide +kernel
theorem dX0_fits_45 : decode cX0_fits 45 = .ok (.iload_n 2, 1) := by decide +kernel
theorem dX0_fits_46 : decode cX0_fits 46 = .ok (.iload_n 3, 1) := by decide +kernel
theorem dX0_fits_47 : decode cX0_fits 47 = .ok (.iload 4, 2) := by decide +kernel
theorem dX0_fits_49 : decode cX0_fits 49 = .ok (.invokevirtual 58, 3) := by decide +kernel
theorem dX0_fits_52 : decode cX0_fits 52 = .ok (.aload_n 0, 1) := by decide +kernel
theorem dX0_fits_53 : decode cX0_fits 53 = .ok (.iload_n 2, 1) := by decide +kernel
theorem dX0_fits_54 : decode cX0_fits 54 = .ok (.iload_n 3, 1) := by decide +kernel
theorem dX0_fits_55 : decode cX0_fits 55 = .ok (.iload 5, 2) := by decide +kernel
theorem dX0_fits_57 : decode cX0_fits 57 = .ok (.invokevirtual 58, 3) := by decide +kernel
theorem dX0_fits_60 : decode cX0_fits 60 = .ok (.invokestatic 65, 3) := by decide +kernel
theorem dX0_fits_63 : decode cX0_fits 63 = .ok (.ifCond .eq 7, 3) := by decide +kernel
theorem dX0_fits_66 : decode cX0_fits 66 = .ok (.iconst 1, 1) := by decide +kernel
theorem dX0_fits_67 : decode cX0_fits 67 = .ok (.goto 4, 3) := by decide +kernel
theorem dX0_fits_70 : decode cX0_fits 70 = .ok (.iconst 0, 1) := by decide +kernel
theorem dX0_fits_71 : decode cX0_fits 71 = .ok (.ireturn, 1) := by decide +kernel
set_option maxRecDepth 20000 in
theorem ggX0_count_X0_isQuestion : GoodIn wsX0_count wsX0_isQuestion := goodIn_r _ [5, 6, 7, 4, 8, 9, 10, 11, 12, 13, 14, 15, 16, 17, 18, 19, 20, 21, 22, 41, 42, 43, 44, 45, 46, 47, 48] (by decide +kernel) (by decide +kernel)
set_option maxRecDepth 20000 in
theorem gX0_count_X0_isQuestion : GoodIn wsX0_count (wsV RX0 69 RX0 yX0_isQuestion wsX0_isQuestion) := goodIn_app (goodIn_of _ (by decide +kernel)) ggX0_count_X0_isQuestion
set_option maxRecDepth 20000 in
theorem ggX0_count_X0_valueOf : GoodIn wsX0_count wsX0_valueOf := goodIn_r _ [26, 27, 28, 29, 30, 4, 31, 41, 42, 43, 44, 45, 46, 47, 48] (by decide +kernel) (by decide +kernel)
set_option maxRecDepth 20000 in
theorem gX0_count_X0_valueOf : GoodIn wsX0_count (wsV RX0 58 RX0 yX0_valueOf wsX0_valueOf) := goodIn_app (goodIn_of _ (by decide +kernel)) ggX0_count_X0_valueOf
set_option maxRecDepth 20000 in
theorem ggX0_count_X0_valueFits : GoodIn wsX0_count wsX0_valueFits := goodIn_r _ [34, 35, 36, 4, 37, 38, 39, 40] (by decide +kernel) (by decide +kernel)
set_option maxRecDepth 20000 in
theorem gX0_count_X0_valueFits : GoodIn wsX0_count (va_wsS RX0 65 yX0_valueFits wsX0_valueFits) := goodIn_app (goodIn_of _ (by decide +kernel)) ggX0_count_X0_valueFits
theorem dX0_count_0 : decode cX0_count 0 = .ok (.aload_n 0, 1) := by decide +kernel
theorem dX0_count_1 : decode cX0_count 1 = .ok (.iload_n 1, 1) := by decide +kernel
theorem dX0_count_2 : decode cX0_count 2 = .ok (.iload_n 2, 1) := by decide +kernel
theorem dX0_count_3 : decode cX0_count 3 = .ok (.iload_n 3, 1) := by decide +kernel
theorem dX0_count_4 : decode cX0_count 4 = .ok (.iload 4, 2) := by decide +kernel
theorem dX0_count_6 : decode cX0_count 6 = .ok (.invokevirtual 69, 3) := by decide +kernel
theorem dX0_count_9 : decode cX0_count 9 = .ok (.ifCond .ne 7, 3) := by decide +kernel
theorem dX0_count_12 : decode cX0_count 12 = .ok (.sipush (-1000), 3) := by decide +kernel
theorem dX0_count_15 : decode cX0_count 15 = .ok (.ireturn, 1) := by decide +kernel
theorem dX0_count_16 : decode cX0_count 16 = .ok (.iconst 0, 1) := by decide +kernel
theorem dX0_count_17 : decode cX0_count 17 = .ok (.istore 5, 2) := by decide +kernel
theorem dX0_count_19 : decode cX0_count 19 = .ok (.iconst 0, 1) := by decide +kernel
theorem dX0_count_20 : decode cX0_count 20 = .ok (.istore 6, 2) := by decide +kernel
theorem dX0_count_22 : decode cX0_count 22 = .ok (.iload 6, 2) := by decide +kernel
theorem dX0_count_24 : decode cX0_count 24 = .ok (.bipush 6, 2) := by decide +kernel
theorem dX0_count_26 : decode cX0_count 26 = .ok (.if_icmp .ge 30, 3) := by decide +kernel
theorem dX0_count_29 : decode cX0_count 29 = .ok (.iload_n 1, 1) := by decide +kernel
theorem dX0_count_30 : decode cX0_count 30 = .ok (.iload_n 2, 1) := by decide +kernel
theorem dX0_count_31 : decode cX0_count 31 = .ok (.aload_n 0, 1) := by decide +kernel
theorem dX0_count_32 : decode cX0_count 32 = .ok (.iload_n 2, 1) := by decide +kernel
theorem dX0_count_33 : decode cX0_count 33 = .ok (.iload_n 3, 1) := by decide +kernel
theorem dX0_count_34 : decode cX0_count 34 = .ok (.iload 6, 2) := by decide +kernel
theorem dX0_count_36 : decode cX0_count 36 = .ok (.invokevirtual 58, 3) := by decide +kernel
theorem dX0_count_39 : decode cX0_count 39 = .ok (.iload 4, 2) := by decide +kernel
theorem dX0_count_41 : decode cX0_count 41 = .ok (.invokestatic 65, 3) := by decide +kernel
theorem dX0_count_44 : decode cX0_count 44 = .ok (.ifCond .eq 6, 3) := by decide +kernel
theorem dX0_count_47 : decode cX0_count 47 = .ok (.iinc 5 1, 3) := by decide +kernel
theorem dX0_count_50 : decode cX0_count 50 = .ok (.iinc 6 1, 3) := by decide +kernel
theorem dX0_count_53 : decode cX0_count 53 = .ok (.goto (-31), 3) := by decide +kernel
theorem dX0_count_56 : decode cX0_count 56 = .ok (.iload 5, 2) := by decide +kernel
theorem dX0_count_58 : decode cX0_count 58 = .ok (.ireturn, 1) := by decide +kernel
set_option maxRecDepth 20000 in
theorem ggX0_turned_X0_isQuestion : GoodIn wsX0_turned wsX0_isQuestion := goodIn_r _ [5, 6, 7, 4, 8, 9, 10, 11, 12, 13, 14, 15, 16, 17, 18, 19, 20, 21, 22, 41, 42, 43, 44, 45, 46, 47, 48] (by decide +kernel) (by decide +kernel)
set_option maxRecDepth 20000 in
theorem gX0_turned_X0_isQuestion : GoodIn wsX0_turned (wsV RX0 69 RX0 yX0_isQuestion wsX0_isQuestion) := goodIn_app (goodIn_of _ (by decide +kernel)) ggX0_turned_X0_isQuestion
set_option maxRecDepth 20000 in
theorem ggX0_turned_X0_valueOf : GoodIn wsX0_turned wsX0_valueOf := goodIn_r _ [26, 27, 28, 29, 30, 4, 31, 41, 42, 43, 44, 45, 46, 47, 48] (by decide +kernel) (by decide +kernel)
set_option maxRecDepth 20000 in
theorem gX0_turned_X0_valueOf : GoodIn wsX0_turned (wsV RX0 58 RX0 yX0_valueOf wsX0_valueOf) := goodIn_app (goodIn_of _ (by decide +kernel)) ggX0_turned_X0_valueOf
set_option maxRecDepth 20000 in
theorem ggX0_turned_X0_valueFits : GoodIn wsX0_turned wsX0_valueFits := goodIn_r _ [34, 35, 36, 4, 37, 38, 39, 40] (by decide +kernel) (by decide +kernel)
set_option maxRecDepth 20000 in
theorem gX0_turned_X0_valueFits : GoodIn wsX0_turned (va_wsS RX0 65 yX0_valueFits wsX0_valueFits) := goodIn_app (goodIn_of _ (by decide +kernel)) ggX0_turned_X0_valueFits
theorem dX0_turned_0 : decode cX0_turned 0 = .ok (.aload_n 0, 1) := by decide +kernel
theorem dX0_turned_1 : decode cX0_turned 1 = .ok (.iload_n 1, 1) := by decide +kernel
theorem dX0_turned_2 : decode cX0_turned 2 = .ok (.iload_n 2, 1) := by decide +kernel
theorem dX0_turned_3 : decode cX0_turned 3 = .ok (.iload_n 3, 1) := by decide +kernel
theorem dX0_turned_4 : decode cX0_turned 4 = .ok (.iload 4, 2) := by decide +kernel
theorem dX0_turned_6 : decode cX0_turned 6 = .ok (.invokevirtual 69, 3) := by decide +kernel
theorem dX0_turned_9 : decode cX0_turned 9 = .ok (.ifCond .ne 7, 3) := by decide +kernel
theorem dX0_turned_12 : decode cX0_turned 12 = .ok (.sipush (-1000), 3) := by decide +kernel
theorem dX0_turned_15 : decode cX0_turned 15 = .ok (.ireturn, 1) := by decide +kernel
theorem dX0_turned_16 : decode cX0_turned 16 = .ok (.iconst 0, 1) := by decide +kernel
theorem dX0_turned_17 : decode cX0_turned 17 = .ok (.istore 5, 2) := by decide +kernel
theorem dX0_turned_19 : decode cX0_turned 19 = .ok (.iconst 0, 1) := by decide +kernel
theorem dX0_turned_20 : decode cX0_turned 20 = .ok (.istore 6, 2) := by decide +kernel
theorem dX0_turned_22 : decode cX0_turned 22 = .ok (.iload 6, 2) := by decide +kernel
theorem dX0_turned_24 : decode cX0_turned 24 = .ok (.bipush 6, 2) := by decide +kernel
theorem dX0_turned_26 : decode cX0_turned 26 = .ok (.if_icmp .ge 30, 3) := by decide +kernel
theorem dX0_turned_29 : decode cX0_turned 29 = .ok (.iload_n 1, 1) := by decide +kernel
theorem dX0_turned_30 : decode cX0_turned 30 = .ok (.iload_n 2, 1) := by decide +kernel
theorem dX0_turned_31 : decode cX0_turned 31 = .ok (.iload 4, 2) := by decide +kernel
theorem dX0_turned_33 : decode cX0_turned 33 = .ok (.aload_n 0, 1) := by decide +kernel
theorem dX0_turned_34 : decode cX0_turned 34 = .ok (.iload_n 2, 1) := by decide +kernel
theorem dX0_turned_35 : decode cX0_turned 35 = .ok (.iload_n 3, 1) := by decide +kernel
theorem dX0_turned_36 : decode cX0_turned 36 = .ok (.iload 6, 2) := by decide +kernel
theorem dX0_turned_38 : decode cX0_turned 38 = .ok (.invokevirtual 58, 3) := by decide +kernel
theorem dX0_turned_41 : decode cX0_turned 41 = .ok (.invokestatic 65, 3) := by decide +kernel
theorem dX0_turned_44 : decode cX0_turned 44 = .ok (.ifCond .eq 6, 3) := by decide +kernel
theorem dX0_turned_47 : decode cX0_turned 47 = .ok (.iinc 5 1, 3) := by decide +kernel
theorem dX0_turned_50 : decode cX0_turned 50 = .ok (.iinc 6 1, 3) := by decide +kernel
theorem dX0_turned_53 : decode cX0_turned 53 = .ok (.goto (-31), 3) := by decide +kernel
theorem dX0_turned_56 : decode cX0_turned 56 = .ok (.iload 5, 2) := by decide +kernel
theorem dX0_turned_58 : decode cX0_turned 58 = .ok (.ireturn, 1) := by decide +kernel
set_option maxRecDepth 20000 in
theorem ggX0_longest_X0_isQuestion : GoodIn wsX0_longest wsX0_isQuestion := goodIn_r _ [9, 10, 11, 8, 12, 13, 14, 15, 16, 17, 18, 19, 20, 21, 22, 23, 24, 25, 26, 45, 46, 47, 48, 49, 50, 51, 52] (by decide +kernel) (by decide +kernel)
set_option maxRecDepth 20000 in
theorem gX0_longest_X0_isQuestion : GoodIn wsX0_longest (wsV RX0 69 RX0 yX0_isQuestion wsX0_isQuestion) := goodIn_app (goodIn_of _ (by decide +kernel)) ggX0_longest_X0_isQuestion
set_option maxRecDepth 20000 in
theorem ggX0_longest_X0_valueOf : GoodIn wsX0_longest wsX0_valueOf := goodIn_r _ [30, 31, 32, 33, 34, 8, 35, 45, 46, 47, 48, 49, 50, 51, 52] (by decide +kernel) (by decide +kernel)
set_option maxRecDepth 20000 in
theorem gX0_longest_X0_valueOf : GoodIn wsX0_longest (wsV RX0 58 RX0 yX0_valueOf wsX0_valueOf) := goodIn_app (goodIn_of _ (by decide +kernel)) ggX0_longest_X0_valueOf
set_option maxRecDepth 20000 in
theorem ggX0_longest_X0_valueFits : GoodIn wsX0_longest wsX0_valueFits := goodIn_r _ [38, 39, 40, 8, 41, 42, 43, 44] (by decide +kernel) (by decide +kernel)
set_option maxRecDepth 20000 in
theorem gX0_longest_X0_valueFits : GoodIn wsX0_longest (va_wsS RX0 65 yX0_valueFits wsX0_valueFits) := goodIn_app (goodIn_of _ (by decide +kernel)) ggX0_longest_X0_valueFits
theorem dX0_longest_0 : decode cX0_longest 0 = .ok (.aload_n 0, 1) := by decide +kernel
theorem dX0_longest_1 : decode cX0_longest 1 = .ok (.iload_n 1, 1) := by decide +kernel
theorem dX0_longest_2 : decode cX0_longest 2 = .ok (.iload_n 2, 1) := by decide +kernel
theorem dX0_longest_3 : decode cX0_longest 3 = .ok (.iload_n 3, 1) := by decide +kernel
theorem dX0_longest_4 : decode cX0_longest 4 = .ok (.iload 4, 2) := by decide +kernel
theorem dX0_longest_6 : decode cX0_longest 6 = .ok (.invokevirtual 69, 3) := by decide +kernel
theorem dX0_longest_9 : decode cX0_longest 9 = .ok (.ifCond .ne 7, 3) := by decide +kernel
theorem dX0_longest_12 : decode cX0_longest 12 = .ok (.sipush (-1000), 3) := by decide +kernel
theorem dX0_longest_15 : decode cX0_longest 15 = .ok (.ireturn, 1) := by decide +kernel
theorem dX0_longest_16 : decode cX0_longest 16 = .ok (.iconst 0, 1) := by decide +kernel
theorem dX0_longest_17 : decode cX0_longest 17 = .ok (.istore 5, 2) := by decide +kernel
theorem dX0_longest_19 : decode cX0_longest 19 = .ok (.iconst 0, 1) := by decide +kernel
theorem dX0_longest_20 : decode cX0_longest 20 = .ok (.istore 6, 2) := by decide +kernel
theorem dX0_longest_22 : decode cX0_longest 22 = .ok (.iconst 0, 1) := by decide +kernel
theorem dX0_longest_23 : decode cX0_longest 23 = .ok (.istore 7, 2) := by decide +kernel
theorem dX0_longest_25 : decode cX0_longest 25 = .ok (.iload 7, 2) := by decide +kernel
theorem dX0_longest_27 : decode cX0_longest 27 = .ok (.bipush 6, 2) := by decide +kernel
theorem dX0_longest_29 : decode cX0_longest 29 = .ok (.if_icmp .ge 46, 3) := by decide +kernel
theorem dX0_longest_32 : decode cX0_longest 32 = .ok (.iload_n 1, 1) := by decide +kernel
theorem dX0_longest_33 : decode cX0_longest 33 = .ok (.iload_n 2, 1) := by decide +kernel
theorem dX0_longest_34 : decode cX0_longest 34 = .ok (.aload_n 0, 1) := by decide +kernel
theorem dX0_longest_35 : decode cX0_longest 35 = .ok (.iload_n 2, 1) := by decide +kernel
theorem dX0_longest_36 : decode cX0_longest 36 = .ok (.iload_n 3, 1) := by decide +kernel
theorem dX0_longest_37 : decode cX0_longest 37 = .ok (.iload 7, 2) := by decide +kernel
theorem dX0_longest_39 : decode cX0_longest 39 = .ok (.invokevirtual 58, 3) := by decide +kernel
theorem dX0_longest_42 : decode cX0_longest 42 = .ok (.iload 4, 2) := by decide +kernel
theorem dX0_longest_44 : decode cX0_longest 44 = .ok (.invokestatic 65, 3) := by decide +kernel
theorem dX0_longest_47 : decode cX0_longest 47 = .ok (.ifCond .eq 7, 3) := by decide +kernel
theorem dX0_longest_50 : decode cX0_longest 50 = .ok (.iconst 0, 1) := by decide +kernel
theorem dX0_longest_51 : decode cX0_longest 51 = .ok (.goto 7, 3) := by decide +kernel
theorem dX0_longest_54 : decode cX0_longest 54 = .ok (.iload 6, 2) := by decide +kernel
theorem dX0_longest_56 : decode cX0_longest 56 = .ok (.iconst 1, 1) := by decide +kernel
theorem dX0_longest_57 : decode cX0_longest 57 = .ok (.iadd, 1) := by decide +kernel
theorem dX0_longest_58 : decode cX0_longest 58 = .ok (.istore 6, 2) := by decide +kernel
theorem dX0_longest_60 : decode cX0_longest 60 = .ok (.iload 5, 2) := by decide +kernel
theorem dX0_longest_62 : decode cX0_longest 62 = .ok (.iload 6, 2) := by decide +kernel
theorem dX0_longest_64 : decode cX0_longest 64 = .ok (.invokestatic 72, 3) := by decide +kernel
theorem dX0_longest_67 : decode cX0_longest 67 = .ok (.istore 5, 2) := by decide +kernel
theorem dX0_longest_69 : decode cX0_longest 69 = .ok (.iinc 7 1, 3) := by decide +kernel
theorem dX0_longest_72 : decode cX0_longest 72 = .ok (.goto (-47), 3) := by decide +kernel
theorem dX0_longest_75 : decode cX0_longest 75 = .ok (.iload 5, 2) := by decide +kernel
theorem dX0_longest_77 : decode cX0_longest 77 = .ok (.ireturn, 1) := by decide +kernel
set_option maxRecDepth 20000 in
theorem ggX0_skip_X0_isQuestion : GoodIn wsX0_skip wsX0_isQuestion := goodIn_r _ [5, 6, 7, 4, 8, 9, 10, 11, 12, 13, 14, 15, 16, 17, 18, 19, 20, 21, 22, 44, 45, 46, 47, 48, 49, 50, 51] (by decide +kernel) (by decide +kernel)
set_option maxRecDepth 20000 in
theorem gX0_skip_X0_isQuestion : GoodIn wsX0_skip (wsV RX0 69 RX0 yX0_isQuestion wsX0_isQuestion) := goodIn_app (goodIn_of _ (by decide +kernel)) ggX0_skip_X0_isQuestion
set_option maxRecDepth 20000 in
theorem ggX0_skip_X0_isRound : GoodIn wsX0_skip wsX0_isRound := goodIn_r _ [25] (by decide +kernel) (by decide +kernel)
set_option maxRecDepth 20000 in
theorem gX0_skip_X0_isRound : GoodIn wsX0_skip (va_wsS RX0 55 yX0_isRound wsX0_isRound) := goodIn_app (goodIn_of _ (by decide +kernel)) ggX0_skip_X0_isRound
set_option maxRecDepth 20000 in
theorem ggX0_skip_X0_valueOf : GoodIn wsX0_skip wsX0_valueOf := goodIn_r _ [29, 30, 31, 32, 33, 4, 34, 44, 45, 46, 47, 48, 49, 50, 51] (by decide +kernel) (by decide +kernel)
set_option maxRecDepth 20000 in
theorem gX0_skip_X0_valueOf : GoodIn wsX0_skip (wsV RX0 58 RX0 yX0_valueOf wsX0_valueOf) := goodIn_app (goodIn_of _ (by decide +kernel)) ggX0_skip_X0_valueOf
set_option maxRecDepth 20000 in
theorem ggX0_skip_X0_valueFits : GoodIn wsX0_skip wsX0_valueFits := goodIn_r _ [37, 38, 39, 4, 40, 41, 42, 43] (by decide +kernel) (by decide +kernel)
set_option maxRecDepth 20000 in
theorem gX0_skip_X0_valueFits : GoodIn wsX0_skip (va_wsS RX0 65 yX0_valueFits wsX0_valueFits) := goodIn_app (goodIn_of _ (by decide +kernel)) ggX0_skip_X0_valueFits
theorem dX0_skip_0 : decode cX0_skip 0 = .ok (.aload_n 0, 1) := by decide +kernel
theorem dX0_skip_1 : decode cX0_skip 1 = .ok (.iload_n 1, 1) := by decide +kernel
theorem dX0_skip_2 : decode cX0_skip 2 = .ok (.iload_n 2, 1) := by decide +kernel
theorem dX0_skip_3 : decode cX0_skip 3 = .ok (.iload_n 3, 1) := by decide +kernel
theorem dX0_skip_4 : decode cX0_skip 4 = .ok (.iload 5, 2) := by decide +kernel
theorem dX0_skip_6 : decode cX0_skip 6 = .ok (.invokevirtual 69, 3) := by decide +kernel
theorem dX0_skip_9 : decode cX0_skip 9 = .ok (.ifCond .eq 11, 3) := by decide +kernel
theorem dX0_skip_12 : decode cX0_skip 12 = .ok (.iload 4, 2) := by decide +kernel
theorem dX0_skip_14 : decode cX0_skip 14 = .ok (.invokestatic 55, 3) := by decide +kernel
theorem dX0_skip_17 : decode cX0_skip 17 = .ok (.ifCond .ne 7, 3) := by decide +kernel
theorem dX0_skip_20 : decode cX0_skip 20 = .ok (.sipush (-1000), 3) := by decide +kernel
theorem dX0_skip_23 : decode cX0_skip 23 = .ok (.ireturn, 1) := by decide +kernel
theorem dX0_skip_24 : decode cX0_skip 24 = .ok (.iload 4, 2) := by decide +kernel
theorem dX0_skip_26 : decode cX0_skip 26 = .ok (.istore 6, 2) := by decide +kernel
theorem dX0_skip_28 : decode cX0_skip 28 = .ok (.iload 6, 2) := by decide +kernel
theorem dX0_skip_30 : decode cX0_skip 30 = .ok (.bipush 6, 2) := by decide +kernel
theorem dX0_skip_32 : decode cX0_skip 32 = .ok (.if_icmp .ge 30, 3) := by decide +kernel
theorem dX0_skip_35 : decode cX0_skip 35 = .ok (.iload_n 1, 1) := by decide +kernel
theorem dX0_skip_36 : decode cX0_skip 36 = .ok (.iload_n 2, 1) := by decide +kernel
theorem dX0_skip_37 : decode cX0_skip 37 = .ok (.aload_n 0, 1) := by decide +kernel
theorem dX0_skip_38 : decode cX0_skip 38 = .ok (.iload_n 2, 1) := by decide +kernel
theorem dX0_skip_39 : decode cX0_skip 39 = .ok (.iload_n 3, 1) := by decide +kernel
theorem dX0_skip_40 : decode cX0_skip 40 = .ok (.iload 6, 2) := by decide +kernel
theorem dX0_skip_42 : decode cX0_skip 42 = .ok (.invokevirtual 58, 3) := by decide +kernel
theorem dX0_skip_45 : decode cX0_skip 45 = .ok (.iload 5, 2) := by decide +kernel
theorem dX0_skip_47 : decode cX0_skip 47 = .ok (.invokestatic 65, 3) := by decide +kernel
theorem dX0_skip_50 : decode cX0_skip 50 = .ok (.ifCond .ne 6, 3) := by decide +kernel
theorem dX0_skip_53 : decode cX0_skip 53 = .ok (.iload 6, 2) := by decide +kernel
theorem dX0_skip_55 : decode cX0_skip 55 = .ok (.ireturn, 1) := by decide +kernel
theorem dX0_skip_56 : decode cX0_skip 56 = .ok (.iinc 6 1, 3) := by decide +kernel
theorem dX0_skip_59 : decode cX0_skip 59 = .ok (.goto (-31), 3) := by decide +kernel
theorem dX0_skip_62 : decode cX0_skip 62 = .ok (.bipush 6, 2) := by decide +kernel
theorem dX0_skip_64 : decode cX0_skip 64 = .ok (.ireturn, 1) := by decide +kernel
set_option maxRecDepth 20000 in
theorem ggX0_pick_X0_isQuestion : GoodIn wsX0_pick wsX0_isQuestion := goodIn_r _ [5, 6, 7, 4, 8, 9, 10, 11, 12, 13, 14, 15, 16, 17, 18, 19, 20, 21, 22, 41, 42, 43, 44, 45, 46, 47, 48] (by decide +kernel) (by decide +kernel)
set_option maxRecDepth 20000 in
theorem gX0_pick_X0_isQuestion : GoodIn wsX0_pick (wsV RX0 69 RX0 yX0_isQuestion wsX0_isQuestion) := goodIn_app (goodIn_of _ (by decide +kernel)) ggX0_pick_X0_isQuestion
set_option maxRecDepth 20000 in
theorem ggX0_pick_X0_valueOf : GoodIn wsX0_pick wsX0_valueOf := goodIn_r _ [26, 27, 28, 29, 30, 4, 31, 41, 42, 43, 44, 45, 46, 47, 48] (by decide +kernel) (by decide +kernel)
set_option maxRecDepth 20000 in
theorem gX0_pick_X0_valueOf : GoodIn wsX0_pick (wsV RX0 58 RX0 yX0_valueOf wsX0_valueOf) := goodIn_app (goodIn_of _ (by decide +kernel)) ggX0_pick_X0_valueOf
set_option maxRecDepth 20000 in
theorem ggX0_pick_X0_valueFits : GoodIn wsX0_pick wsX0_valueFits := goodIn_r _ [34, 35, 36, 4, 37, 38, 39, 40] (by decide +kernel) (by decide +kernel)
set_option maxRecDepth 20000 in
theorem gX0_pick_X0_valueFits : GoodIn wsX0_pick (va_wsS RX0 65 yX0_valueFits wsX0_valueFits) := goodIn_app (goodIn_of _ (by decide +kernel)) ggX0_pick_X0_valueFits
theorem dX0_pick_0 : decode cX0_pick 0 = .ok (.aload_n 0, 1) := by decide +kernel
theorem dX0_pick_1 : decode cX0_pick 1 = .ok (.iload_n 1, 1) := by decide +kernel
theorem dX0_pick_2 : decode cX0_pick 2 = .ok (.iload_n 2, 1) := by decide +kernel
theorem dX0_pick_3 : decode cX0_pick 3 = .ok (.iload_n 3, 1) := by decide +kernel
theorem dX0_pick_4 : decode cX0_pick 4 = .ok (.iload 4, 2) := by decide +kernel
theorem dX0_pick_6 : decode cX0_pick 6 = .ok (.invokevirtual 69, 3) := by decide +kernel
theorem dX0_pick_9 : decode cX0_pick 9 = .ok (.ifCond .ne 7, 3) := by decide +kernel
theorem dX0_pick_12 : decode cX0_pick 12 = .ok (.sipush (-1000), 3) := by decide +kernel
theorem dX0_pick_15 : decode cX0_pick 15 = .ok (.ireturn, 1) := by decide +kernel
theorem dX0_pick_16 : decode cX0_pick 16 = .ok (.iload 4, 2) := by decide +kernel
theorem dX0_pick_18 : decode cX0_pick 18 = .ok (.istore 5, 2) := by decide +kernel
theorem dX0_pick_20 : decode cX0_pick 20 = .ok (.iconst 0, 1) := by decide +kernel
theorem dX0_pick_21 : decode cX0_pick 21 = .ok (.istore 6, 2) := by decide +kernel
theorem dX0_pick_23 : decode cX0_pick 23 = .ok (.iload 6, 2) := by decide +kernel
theorem dX0_pick_25 : decode cX0_pick 25 = .ok (.bipush 6, 2) := by decide +kernel
theorem dX0_pick_27 : decode cX0_pick 27 = .ok (.if_icmp .ge 35, 3) := by decide +kernel
theorem dX0_pick_30 : decode cX0_pick 30 = .ok (.aload_n 0, 1) := by decide +kernel
theorem dX0_pick_31 : decode cX0_pick 31 = .ok (.iload_n 2, 1) := by decide +kernel
theorem dX0_pick_32 : decode cX0_pick 32 = .ok (.iload_n 3, 1) := by decide +kernel
theorem dX0_pick_33 : decode cX0_pick 33 = .ok (.iload 6, 2) := by decide +kernel
theorem dX0_pick_35 : decode cX0_pick 35 = .ok (.invokevirtual 58, 3) := by decide +kernel
theorem dX0_pick_38 : decode cX0_pick 38 = .ok (.istore 7, 2) := by decide +kernel
theorem dX0_pick_40 : decode cX0_pick 40 = .ok (.iload_n 1, 1) := by decide +kernel
theorem dX0_pick_41 : decode cX0_pick 41 = .ok (.iload_n 2, 1) := by decide +kernel
theorem dX0_pick_42 : decode cX0_pick 42 = .ok (.iload 7, 2) := by decide +kernel
theorem dX0_pick_44 : decode cX0_pick 44 = .ok (.iload 5, 2) := by decide +kernel
theorem dX0_pick_46 : decode cX0_pick 46 = .ok (.invokestatic 65, 3) := by decide +kernel
theorem dX0_pick_49 : decode cX0_pick 49 = .ok (.ifCond .eq 7, 3) := by decide +kernel
theorem dX0_pick_52 : decode cX0_pick 52 = .ok (.iload 7, 2) := by decide +kernel
theorem dX0_pick_54 : decode cX0_pick 54 = .ok (.istore 5, 2) := by decide +kernel
theorem dX0_pick_56 : decode cX0_pick 56 = .ok (.iinc 6 1, 3) := by decide +kernel
theorem dX0_pick_59 : decode cX0_pick 59 = .ok (.goto (-36), 3) := by decide +kernel
theorem dX0_pick_62 : decode cX0_pick 62 = .ok (.iload 5, 2) := by decide +kernel
theorem dX0_pick_64 : decode cX0_pick 64 = .ok (.ireturn, 1) := by decide +kernel
set_option maxRecDepth 20000 in
theorem ggX0_best_X0_isJumper : GoodIn wsX0_best wsX0_isJumper := goodIn_r _ [5, 6, 34, 35, 36, 37, 38, 39, 40, 41] (by decide +kernel) (by decide +kernel)
set_option maxRecDepth 20000 in
theorem gX0_best_X0_isJumper : GoodIn wsX0_best (wsV RX0 39 RX0 yX0_isJumper wsX0_isJumper) := goodIn_app (goodIn_of _ (by decide +kernel)) ggX0_best_X0_isJumper
set_option maxRecDepth 20000 in
theorem ggX0_best_X0_bestOf : GoodIn wsX0_best wsX0_bestOf := goodIn_r _ [10, 11, 12, 13, 14, 15, 16, 17, 18, 4, 19, 20, 21, 22, 23, 24, 25, 26, 27, 28, 29, 30, 31, 32, 33, 34, 35, 36, 37, 38, 39, 40, 41] (by decide +kernel) (by decide +kernel)
set_option maxRecDepth 20000 in
theorem gX0_best_X0_bestOf : GoodIn wsX0_best (wsV RX0 77 RX0 yX0_bestOf wsX0_bestOf) := goodIn_app (goodIn_of _ (by decide +kernel)) ggX0_best_X0_bestOf
theorem dX0_best_0 : decode cX0_best 0 = .ok (.aload_n 0, 1) := by decide +kernel
theorem dX0_best_1 : decode cX0_best 1 = .ok (.iload_n 1, 1) := by decide +kernel
theorem dX0_best_2 : decode cX0_best 2 = .ok (.invokevirtual 39, 3) := by decide +kernel
theorem dX0_best_5 : decode cX0_best 5 = .ok (.ifCond .ne 7, 3) := by decide +kernel
theorem dX0_best_8 : decode cX0_best 8 = .ok (.sipush (-1000), 3) := by decide +kernel
theorem dX0_best_11 : decode cX0_best 11 = .ok (.ireturn, 1) := by decide +kernel
theorem dX0_best_12 : decode cX0_best 12 = .ok (.aload_n 0, 1) := by decide +kernel
theorem dX0_best_13 : decode cX0_best 13 = .ok (.iload_n 1, 1) := by decide +kernel
theorem dX0_best_14 : decode cX0_best 14 = .ok (.invokevirtual 77, 3) := by decide +kernel
theorem dX0_best_17 : decode cX0_best 17 = .ok (.ireturn, 1) := by decide +kernel
set_option maxRecDepth 20000 in
theorem ggX0_ahead_X0_isJumper : GoodIn wsX0_ahead wsX0_isJumper := goodIn_r _ [5, 6, 39, 40, 41, 42, 43, 44, 45, 46] (by decide +kernel) (by decide +kernel)
set_option maxRecDepth 20000 in
theorem gX0_ahead_X0_isJumper : GoodIn wsX0_ahead (wsV RX0 39 RX0 yX0_isJumper wsX0_isJumper) := goodIn_app (goodIn_of _ (by decide +kernel)) ggX0_ahead_X0_isJumper
set_option maxRecDepth 20000 in
theorem ggX0_ahead_X0_layOut : GoodIn wsX0_ahead wsX0_layOut := goodIn_r _ [10, 11, 12, 13, 14, 4, 15, 16, 17, 18, 19, 20, 21, 22, 23, 24, 25, 26, 27, 28, 29, 30, 31, 32, 33, 34, 39, 40, 41, 42, 43, 44, 45, 46] (by decide +kernel) (by decide +kernel)
set_option maxRecDepth 20000 in
theorem gX0_ahead_X0_layOut : GoodIn wsX0_ahead (wsV RX0 81 RX0 yX0_layOut wsX0_layOut) := goodIn_app (goodIn_of _ (by decide +kernel)) ggX0_ahead_X0_layOut
set_option maxRecDepth 20000 in
theorem ggX0_ahead_X0_isAhead : GoodIn wsX0_ahead wsX0_isAhead := goodIn_r _ [38, 11, 13, 14, 4, 15, 39, 40, 41, 42, 43, 44, 45, 46] (by decide +kernel) (by decide +kernel)
set_option maxRecDepth 20000 in
theorem gX0_ahead_X0_isAhead : GoodIn wsX0_ahead (wsV RX0 85 RX0 yX0_isAhead wsX0_isAhead) := goodIn_app (goodIn_of _ (by decide +kernel)) ggX0_ahead_X0_isAhead
theorem dX0_ahead_0 : decode cX0_ahead 0 = .ok (.aload_n 0, 1) := by decide +kernel
theorem dX0_ahead_1 : decode cX0_ahead 1 = .ok (.iload_n 1, 1) := by decide +kernel
theorem dX0_ahead_2 : decode cX0_ahead 2 = .ok (.invokevirtual 39, 3) := by decide +kernel
theorem dX0_ahead_5 : decode cX0_ahead 5 = .ok (.ifCond .eq 11, 3) := by decide +kernel
theorem dX0_ahead_8 : decode cX0_ahead 8 = .ok (.aload_n 0, 1) := by decide +kernel
theorem dX0_ahead_9 : decode cX0_ahead 9 = .ok (.iload_n 2, 1) := by decide +kernel
theorem dX0_ahead_10 : decode cX0_ahead 10 = .ok (.invokevirtual 39, 3) := by decide +kernel
theorem dX0_ahead_13 : decode cX0_ahead 13 = .ok (.ifCond .ne 7, 3) := by decide +kernel
theorem dX0_ahead_16 : decode cX0_ahead 16 = .ok (.sipush (-1000), 3) := by decide +kernel
theorem dX0_ahead_19 : decode cX0_ahead 19 = .ok (.ireturn, 1) := by decide +kernel
theorem dX0_ahead_20 : decode cX0_ahead 20 = .ok (.aload_n 0, 1) := by decide +kernel
theorem dX0_ahead_21 : decode cX0_ahead 21 = .ok (.iload_n 1, 1) := by decide +kernel
theorem dX0_ahead_22 : decode cX0_ahead 22 = .ok (.invokevirtual 81, 3) := by decide +kernel
theorem dX0_ahead_25 : decode cX0_ahead 25 = .ok (.aload_n 0, 1) := by decide +kernel
theorem dX0_ahead_26 : decode cX0_ahead 26 = .ok (.iload_n 2, 1) := by decide +kernel
theorem dX0_ahead_27 : decode cX0_ahead 27 = .ok (.invokevirtual 81, 3) := by decide +kernel
theorem dX0_ahead_30 : decode cX0_ahead 30 = .ok (.aload_n 0, 1) := by decide +kernel
theorem dX0_ahead_31 : decode cX0_ahead 31 = .ok (.iload_n 1, 1) := by decide +kernel
theorem dX0_ahead_32 : decode cX0_ahead 32 = .ok (.iload_n 2, 1) := by decide +kernel
theorem dX0_ahead_33 : decode cX0_ahead 33 = .ok (.invokevirtual 85, 3) := by decide +kernel
theorem dX0_ahead_36 : decode cX0_ahead 36 = .ok (.ifCond .eq 7, 3) := by decide +kernel
theorem dX0_ahead_39 : decode cX0_ahead 39 = .ok (.iconst 1, 1) := by decide +kernel
theorem dX0_ahead_40 : decode cX0_ahead 40 = .ok (.goto 4, 3) := by decide +kernel
theorem dX0_ahead_43 : decode cX0_ahead 43 = .ok (.iconst 0, 1) := by decide +kernel
theorem dX0_ahead_44 : decode cX0_ahead 44 = .ok (.ireturn, 1) := by decide +kernel
set_option maxRecDepth 20000 in
theorem ggX0_place_X0_isJumper : GoodIn wsX0_place wsX0_isJumper := goodIn_r _ [6, 1, 51, 52, 53, 54, 55, 56, 57, 58] (by decide +kernel) (by decide +kernel)
set_option maxRecDepth 20000 in
theorem gX0_place_X0_isJumper : GoodIn wsX0_place (wsV RX0 39 RX0 yX0_isJumper wsX0_isJumper) := goodIn_app (goodIn_of _ (by decide +kernel)) ggX0_place_X0_isJumper
set_option maxRecDepth 20000 in
theorem ggX0_place_X0_bestOf : GoodIn wsX0_place wsX0_bestOf := goodIn_r _ [10, 11, 12, 13, 14, 15, 16, 17, 18, 5, 19, 20, 21, 22, 23, 24, 25, 26, 27, 28, 29, 30, 31, 32, 33, 51, 52, 53, 54, 55, 56, 57, 58] (by decide +kernel) (by decide +kernel)
set_option maxRecDepth 20000 in
theorem gX0_place_X0_bestOf : GoodIn wsX0_place (wsV RX0 77 RX0 yX0_bestOf wsX0_bestOf) := goodIn_app (goodIn_of _ (by decide +kernel)) ggX0_place_X0_bestOf
set_option maxRecDepth 20000 in
theorem ggX0_place_X0_layOutAll : GoodIn wsX0_place wsX0_layOutAll := goodIn_r _ [37, 1, 38, 39, 40, 5, 41, 42, 11, 22, 23, 24, 16, 17, 18, 19, 20, 21, 25, 26, 27, 28, 29, 30, 31, 32, 33, 43, 44, 45, 46, 51, 52, 53, 54, 55, 56, 57, 58] (by decide +kernel) (by decide +kernel)
set_option maxRecDepth 20000 in
theorem gX0_place_X0_layOutAll : GoodIn wsX0_place (wsV RX0 89 RX0 yX0_layOutAll wsX0_layOutAll) := goodIn_app (goodIn_of _ (by decide +kernel)) ggX0_place_X0_layOutAll
set_option maxRecDepth 20000 in
theorem ggX0_place_X0_isAhead : GoodIn wsX0_place wsX0_isAhead := goodIn_r _ [50, 42, 22, 23, 5, 24, 51, 52, 53, 54, 55, 56, 57, 58] (by decide +kernel) (by decide +kernel)
set_option maxRecDepth 20000 in
theorem gX0_place_X0_isAhead : GoodIn wsX0_place (wsV RX0 85 RX0 yX0_isAhead wsX0_isAhead) := goodIn_app (goodIn_of _ (by decide +kernel)) ggX0_place_X0_isAhead
theorem dX0_place_0 : decode cX0_place 0 = .ok (.aload_n 0, 1) := by decide +kernel
theorem dX0_place_1 : decode cX0_place 1 = .ok (.iload_n 1, 1) := by decide +kernel
theorem dX0_place_2 : decode cX0_place 2 = .ok (.invokevirtual 39, 3) := by decide +kernel
theorem dX0_place_5 : decode cX0_place 5 = .ok (.ifCond .ne 7, 3) := by decide +kernel
theorem dX0_place_8 : decode cX0_place 8 = .ok (.sipush (-1000), 3) := by decide +kernel
theorem dX0_place_11 : decode cX0_place 11 = .ok (.ireturn, 1) := by decide +kernel
theorem dX0_place_12 : decode cX0_place 12 = .ok (.aload_n 0, 1) := by decide +kernel
theorem dX0_place_13 : decode cX0_place 13 = .ok (.iload_n 1, 1) := by decide +kernel
theorem dX0_place_14 : decode cX0_place 14 = .ok (.invokevirtual 77, 3) := by decide +kernel
theorem dX0_place_17 : decode cX0_place 17 = .ok (.ifCond .ne 5, 3) := by decide +kernel
theorem dX0_place_20 : decode cX0_place 20 = .ok (.iconst 0, 1) := by decide +kernel
theorem dX0_place_21 : decode cX0_place 21 = .ok (.ireturn, 1) := by decide +kernel
theorem dX0_place_22 : decode cX0_place 22 = .ok (.aload_n 0, 1) := by decide +kernel
theorem dX0_place_23 : decode cX0_place 23 = .ok (.invokevirtual 89, 3) := by decide +kernel
theorem dX0_place_26 : decode cX0_place 26 = .ok (.iconst 0, 1) := by decide +kernel
theorem dX0_place_27 : decode cX0_place 27 = .ok (.istore_n 2, 1) := by decide +kernel
theorem dX0_place_28 : decode cX0_place 28 = .ok (.iconst 0, 1) := by decide +kernel
theorem dX0_place_29 : decode cX0_place 29 = .ok (.istore_n 3, 1) := by decide +kernel
theorem dX0_place_30 : decode cX0_place 30 = .ok (.iload_n 3, 1) := by decide +kernel
theorem dX0_place_31 : decode cX0_place 31 = .ok (.aload_n 0, 1) := by decide +kernel
theorem dX0_place_32 : decode cX0_place 32 = .ok (.getfield 7, 3) := by decide +kernel
theorem dX0_place_35 : decode cX0_place 35 = .ok (.if_icmp .ge 21, 3) := by decide +kernel
theorem dX0_place_38 : decode cX0_place 38 = .ok (.aload_n 0, 1) := by decide +kernel
theorem dX0_place_39 : decode cX0_place 39 = .ok (.iload_n 3, 1) := by decide +kernel
theorem dX0_place_40 : decode cX0_place 40 = .ok (.iload_n 1, 1) := by decide +kernel
theorem dX0_place_41 : decode cX0_place 41 = .ok (.invokevirtual 85, 3) := by decide +kernel
theorem dX0_place_44 : decode cX0_place 44 = .ok (.ifCond .eq 6, 3) := by decide +kernel
theorem dX0_place_47 : decode cX0_place 47 = .ok (.iinc 2 1, 3) := by decide +kernel
theorem dX0_place_50 : decode cX0_place 50 = .ok (.iinc 3 1, 3) := by decide +kernel
theorem dX0_place_53 : decode cX0_place 53 = .ok (.goto (-23), 3) := by decide +kernel
theorem dX0_place_56 : decode cX0_place 56 = .ok (.iload_n 2, 1) := by decide +kernel
theorem dX0_place_57 : decode cX0_place 57 = .ok (.iconst 1, 1) := by decide +kernel
theorem dX0_place_58 : decode cX0_place 58 = .ok (.iadd, 1) := by decide +kernel
theorem dX0_place_59 : decode cX0_place 59 = .ok (.ireturn, 1) := by decide +kernel
set_option maxRecDepth 20000 in
theorem ggX0_order_X0_layOutAll : GoodIn wsX0_order wsX0_layOutAll := goodIn_r _ [6, 1, 7, 8, 9, 5, 10, 11, 12, 13, 14, 15, 16, 17, 18, 19, 20, 21, 22, 23, 24, 25, 26, 27, 28, 29, 30, 31, 32, 33, 34, 47, 48, 49, 50, 51, 52, 53, 54] (by decide +kernel) (by decide +kernel)
set_option maxRecDepth 20000 in
theorem gX0_order_X0_layOutAll : GoodIn wsX0_order (wsV RX0 89 RX0 yX0_layOutAll wsX0_layOutAll) := goodIn_app (goodIn_of _ (by decide +kernel)) ggX0_order_X0_layOutAll
set_option maxRecDepth 20000 in
theorem ggX0_order_X0_howManyJumpBefore : GoodIn wsX0_order wsX0_howManyJumpBefore := goodIn_r _ [38, 1, 39, 40, 41, 5, 42, 43, 44, 45, 46, 11, 13, 14, 15, 47, 48, 49, 50, 51, 52, 53, 54] (by decide +kernel) (by decide +kernel)
set_option maxRecDepth 20000 in
theorem gX0_order_X0_howManyJumpBefore : GoodIn wsX0_order (wsV RX0 92 RX0 yX0_howManyJumpBefore wsX0_howManyJumpBefore) := goodIn_app (goodIn_of _ (by decide +kernel)) ggX0_order_X0_howManyJumpBefore
theorem dX0_order_0 : decode cX0_order 0 = .ok (.iload_n 1, 1) := by decide +kernel
theorem dX0_order_1 : decode cX0_order 1 = .ok (.ifCond .lt 11, 3) := by decide +kernel
theorem dX0_order_4 : decode cX0_order 4 = .ok (.iload_n 1, 1) := by decide +kernel
theorem dX0_order_5 : decode cX0_order 5 = .ok (.aload_n 0, 1) := by decide +kernel
theorem dX0_order_6 : decode cX0_order 6 = .ok (.getfield 7, 3) := by decide +kernel
theorem dX0_order_9 : decode cX0_order 9 = .ok (.if_icmp .lt 7, 3) := by decide +kernel
theorem dX0_order_12 : decode cX0_order 12 = .ok (.sipush (-1000), 3) := by decide +kernel
theorem dX0_order_15 : decode cX0_order 15 = .ok (.ireturn, 1) := by decide +kernel
theorem dX0_order_16 : decode cX0_order 16 = .ok (.aload_n 0, 1) := by decide +kernel
theorem dX0_order_17 : decode cX0_order 17 = .ok (.invokevirtual 89, 3) := by decide +kernel
theorem dX0_order_20 : decode cX0_order 20 = .ok (.iconst 0, 1) := by decide +kernel
theorem dX0_order_21 : decode cX0_order 21 = .ok (.istore_n 2, 1) := by decide +kernel
theorem dX0_order_22 : decode cX0_order 22 = .ok (.iconst 0, 1) := by decide +kernel
theorem dX0_order_23 : decode cX0_order 23 = .ok (.istore_n 3, 1) := by decide +kernel
theorem dX0_order_24 : decode cX0_order 24 = .ok (.iload_n 3, 1) := by decide +kernel
theorem dX0_order_25 : decode cX0_order 25 = .ok (.aload_n 0, 1) := by decide +kernel
theorem dX0_order_26 : decode cX0_order 26 = .ok (.getfield 7, 3) := by decide +kernel
theorem dX0_order_29 : decode cX0_order 29 = .ok (.if_icmp .ge 20, 3) := by decide +kernel
theorem dX0_order_32 : decode cX0_order 32 = .ok (.aload_n 0, 1) := by decide +kernel
theorem dX0_order_33 : decode cX0_order 33 = .ok (.iload_n 3, 1) := by decide +kernel
theorem dX0_order_34 : decode cX0_order 34 = .ok (.invokevirtual 92, 3) := by decide +kernel
theorem dX0_order_37 : decode cX0_order 37 = .ok (.iload_n 1, 1) := by decide +kernel
theorem dX0_order_38 : decode cX0_order 38 = .ok (.if_icmp .ne 5, 3) := by decide +kernel
theorem dX0_order_41 : decode cX0_order 41 = .ok (.iload_n 3, 1) := by decide +kernel
theorem dX0_order_42 : decode cX0_order 42 = .ok (.istore_n 2, 1) := by decide +kernel
theorem dX0_order_43 : decode cX0_order 43 = .ok (.iinc 3 1, 3) := by decide +kernel
theorem dX0_order_46 : decode cX0_order 46 = .ok (.goto (-22), 3) := by decide +kernel
theorem dX0_order_49 : decode cX0_order 49 = .ok (.iload_n 2, 1) := by decide +kernel
theorem dX0_order_50 : decode cX0_order 50 = .ok (.ireturn, 1) := by decide +kernel
set_option maxRecDepth 20000 in
theorem ggX0_verdict_X0_isJumper : GoodIn wsX0_verdict wsX0_isJumper := goodIn_r _ [9, 10, 34, 35, 36, 37, 38, 39, 40, 41] (by decide +kernel) (by decide +kernel)
set_option maxRecDepth 20000 in
theorem gX0_verdict_X0_isJumper : GoodIn wsX0_verdict (wsV RX0 39 RX0 yX0_isJumper wsX0_isJumper) := goodIn_app (goodIn_of _ (by decide +kernel)) ggX0_verdict_X0_isJumper
set_option maxRecDepth 20000 in
theorem ggX0_verdict_X0_isRound : GoodIn wsX0_verdict wsX0_isRound := goodIn_r _ [13] (by decide +kernel) (by decide +kernel)
set_option maxRecDepth 20000 in
theorem gX0_verdict_X0_isRound : GoodIn wsX0_verdict (va_wsS RX0 55 yX0_isRound wsX0_isRound) := goodIn_app (goodIn_of _ (by decide +kernel)) ggX0_verdict_X0_isRound
set_option maxRecDepth 20000 in
theorem ggX0_verdict_X0_at : GoodIn wsX0_verdict wsX0_at := goodIn_r _ [16] (by decide +kernel) (by decide +kernel)
set_option maxRecDepth 20000 in
theorem gX0_verdict_X0_at : GoodIn wsX0_verdict (va_wsS RX0 48 yX0_at wsX0_at) := goodIn_app (goodIn_of _ (by decide +kernel)) ggX0_verdict_X0_at
set_option maxRecDepth 20000 in
theorem ggX0_verdict_X0_isLegal : GoodIn wsX0_verdict wsX0_isLegal := goodIn_r _ [20, 1, 2, 4, 14, 15, 8, 16, 21, 22, 23, 24, 25, 26, 27, 28, 29, 34, 35, 36, 37, 38, 39, 40, 41] (by decide +kernel) (by decide +kernel)
set_option maxRecDepth 20000 in
theorem gX0_verdict_X0_isLegal : GoodIn wsX0_verdict (wsV RX0 95 RX0 yX0_isLegal wsX0_isLegal) := goodIn_app (goodIn_of _ (by decide +kernel)) ggX0_verdict_X0_isLegal
set_option maxRecDepth 20000 in
theorem ggX0_verdict_X0_valueFits : GoodIn wsX0_verdict wsX0_valueFits := goodIn_r _ [23, 24, 25, 8, 26, 27, 28, 29] (by decide +kernel) (by decide +kernel)
set_option maxRecDepth 20000 in
theorem gX0_verdict_X0_valueFits : GoodIn wsX0_verdict (va_wsS RX0 65 yX0_valueFits wsX0_valueFits) := goodIn_app (goodIn_of _ (by decide +kernel)) ggX0_verdict_X0_valueFits
set_option maxRecDepth 20000 in
theorem ggX0_verdict_X0_beatsEarlierRounds : GoodIn wsX0_verdict wsX0_beatsEarlierRounds := goodIn_r _ [33, 1, 14, 15, 8, 16, 21, 22, 23, 24, 25, 26, 27, 28, 29, 34, 35, 36, 37, 38, 39, 40, 41] (by decide +kernel) (by decide +kernel)
set_option maxRecDepth 20000 in
theorem gX0_verdict_X0_beatsEarlierRounds : GoodIn wsX0_verdict (wsV RX0 98 RX0 yX0_beatsEarlierRounds wsX0_beatsEarlierRounds) := goodIn_app (goodIn_of _ (by decide +kernel)) ggX0_verdict_X0_beatsEarlierRounds
theorem dX0_verdict_0 : decode cX0_verdict 0 = .ok (.aload_n 0, 1) := by decide +kernel
theorem dX0_verdict_1 : decode cX0_verdict 1 = .ok (.iload_n 1, 1) := by decide +kernel
theorem dX0_verdict_2 : decode cX0_verdict 2 = .ok (.invokevirtual 39, 3) := by decide +kernel
theorem dX0_verdict_5 : decode cX0_verdict 5 = .ok (.ifCond .eq 10, 3) := by decide +kernel
theorem dX0_verdict_8 : decode cX0_verdict 8 = .ok (.iload_n 2, 1) := by decide +kernel
theorem dX0_verdict_9 : decode cX0_verdict 9 = .ok (.invokestatic 55, 3) := by decide +kernel
theorem dX0_verdict_12 : decode cX0_verdict 12 = .ok (.ifCond .ne 7, 3) := by decide +kernel
theorem dX0_verdict_15 : decode cX0_verdict 15 = .ok (.sipush (-1000), 3) := by decide +kernel
theorem dX0_verdict_18 : decode cX0_verdict 18 = .ok (.ireturn, 1) := by decide +kernel
theorem dX0_verdict_19 : decode cX0_verdict 19 = .ok (.aload_n 0, 1) := by decide +kernel
theorem dX0_verdict_20 : decode cX0_verdict 20 = .ok (.getfield 26, 3) := by decide +kernel
theorem dX0_verdict_23 : decode cX0_verdict 23 = .ok (.iload_n 1, 1) := by decide +kernel
theorem dX0_verdict_24 : decode cX0_verdict 24 = .ok (.iload_n 2, 1) := by decide +kernel
theorem dX0_verdict_25 : decode cX0_verdict 25 = .ok (.invokestatic 48, 3) := by decide +kernel
theorem dX0_verdict_28 : decode cX0_verdict 28 = .ok (.iaload, 1) := by decide +kernel
theorem dX0_verdict_29 : decode cX0_verdict 29 = .ok (.istore_n 3, 1) := by decide +kernel
theorem dX0_verdict_30 : decode cX0_verdict 30 = .ok (.aload_n 0, 1) := by decide +kernel
theorem dX0_verdict_31 : decode cX0_verdict 31 = .ok (.getfield 29, 3) := by decide +kernel
theorem dX0_verdict_34 : decode cX0_verdict 34 = .ok (.iload_n 1, 1) := by decide +kernel
theorem dX0_verdict_35 : decode cX0_verdict 35 = .ok (.iload_n 2, 1) := by decide +kernel
theorem dX0_verdict_36 : decode cX0_verdict 36 = .ok (.invokestatic 48, 3) := by decide +kernel
theorem dX0_verdict_39 : decode cX0_verdict 39 = .ok (.iaload, 1) := by decide +kernel
theorem dX0_verdict_40 : decode cX0_verdict 40 = .ok (.istore 4, 2) := by decide +kernel
theorem dX0_verdict_42 : decode cX0_verdict 42 = .ok (.iconst 0, 1) := by decide +kernel
theorem dX0_verdict_43 : decode cX0_verdict 43 = .ok (.istore 5, 2) := by decide +kernel
theorem dX0_verdict_45 : decode cX0_verdict 45 = .ok (.iload 5, 2) := by decide +kernel
theorem dX0_verdict_47 : decode cX0_verdict 47 = .ok (.iload_n 3, 1) := by decide +kernel
theorem dX0_verdict_48 : decode cX0_verdict 48 = .ok (.ifCond .eq 7, 3) := by decide +kernel
theorem dX0_verdict_51 : decode cX0_verdict 51 = .ok (.iconst 1, 1) := by decide +kernel
theorem dX0_verdict_52 : decode cX0_verdict 52 = .ok (.goto 4, 3) := by decide +kernel
theorem dX0_verdict_55 : decode cX0_verdict 55 = .ok (.iconst 0, 1) := by decide +kernel
theorem dX0_verdict_56 : decode cX0_verdict 56 = .ok (.iadd, 1) := by decide +kernel
theorem dX0_verdict_57 : decode cX0_verdict 57 = .ok (.istore 5, 2) := by decide +kernel
theorem dX0_verdict_59 : decode cX0_verdict 59 = .ok (.iload 5, 2) := by decide +kernel
theorem dX0_verdict_61 : decode cX0_verdict 61 = .ok (.iload 4, 2) := by decide +kernel
theorem dX0_verdict_63 : decode cX0_verdict 63 = .ok (.bipush 100, 2) := by decide +kernel
theorem dX0_verdict_65 : decode cX0_verdict 65 = .ok (.if_icmp .eq 7, 3) := by decide +kernel
theorem dX0_verdict_68 : decode cX0_verdict 68 = .ok (.iconst 2, 1) := by decide +kernel
theorem dX0_verdict_69 : decode cX0_verdict 69 = .ok (.goto 4, 3) := by decide +kernel
theorem dX0_verdict_72 : decode cX0_verdict 72 = .ok (.iconst 0, 1) := by decide +kernel
theorem dX0_verdict_73 : decode cX0_verdict 73 = .ok (.iadd, 1) := by decide +kernel
theorem dX0_verdict_74 : decode cX0_verdict 74 = .ok (.istore 5, 2) := by decide +kernel
theorem dX0_verdict_76 : decode cX0_verdict 76 = .ok (.iload 5, 2) := by decide +kernel
theorem dX0_verdict_78 : decode cX0_verdict 78 = .ok (.aload_n 0, 1) := by decide +kernel
theorem dX0_verdict_79 : decode cX0_verdict 79 = .ok (.iload_n 1, 1) := by decide +kernel
theorem dX0_verdict_80 : decode cX0_verdict 80 = .ok (.iload_n 2, 1) := by decide +kernel
theorem dX0_verdict_81 : decode cX0_verdict 81 = .ok (.invokevirtual 95, 3) := by decide +kernel
theorem dX0_verdict_84 : decode cX0_verdict 84 = .ok (.ifCond .eq 7, 3) := by decide +kernel
theorem dX0_verdict_87 : decode cX0_verdict 87 = .ok (.iconst 4, 1) := by decide +kernel
theorem dX0_verdict_88 : decode cX0_verdict 88 = .ok (.goto 4, 3) := by decide +kernel
theorem dX0_verdict_91 : decode cX0_verdict 91 = .ok (.iconst 0, 1) := by decide +kernel
theorem dX0_verdict_92 : decode cX0_verdict 92 = .ok (.iadd, 1) := by decide +kernel
theorem dX0_verdict_93 : decode cX0_verdict 93 = .ok (.istore 5, 2) := by decide +kernel
theorem dX0_verdict_95 : decode cX0_verdict 95 = .ok (.iload 5, 2) := by decide +kernel
theorem dX0_verdict_97 : decode cX0_verdict 97 = .ok (.iconst 3, 1) := by decide +kernel
theorem dX0_verdict_98 : decode cX0_verdict 98 = .ok (.iconst 0, 1) := by decide +kernel
theorem dX0_verdict_99 : decode cX0_verdict 99 = .ok (.iload_n 3, 1) := by decide +kernel
theorem dX0_verdict_100 : decode cX0_verdict 100 = .ok (.aload_n 0, 1) := by decide +kernel
theorem dX0_verdict_101 : decode cX0_verdict 101 = .ok (.getfield 13, 3) := by decide +kernel
theorem dX0_verdict_104 : decode cX0_verdict 104 = .ok (.invokestatic 65, 3) := by decide +kernel
theorem dX0_verdict_107 : decode cX0_verdict 107 = .ok (.ifCond .eq 8, 3) := by decide +kernel
theorem dX0_verdict_110 : decode cX0_verdict 110 = .ok (.bipush 8, 2) := by decide +kernel
theorem dX0_verdict_112 : decode cX0_verdict 112 = .ok (.goto 4, 3) := by decide +kernel
theorem dX0_verdict_115 : decode cX0_verdict 115 = .ok (.iconst 0, 1) := by decide +kernel
theorem dX0_verdict_116 : decode cX0_verdict 116 = .ok (.iadd, 1) := by decide +kernel
theorem dX0_verdict_117 : decode cX0_verdict 117 = .ok (.istore 5, 2) := by decide +kernel
theorem dX0_verdict_119 : decode cX0_verdict 119 = .ok (.iload 5, 2) := by decide +kernel
theorem dX0_verdict_121 : decode cX0_verdict 121 = .ok (.iconst 2, 1) := by decide +kernel
theorem dX0_verdict_122 : decode cX0_verdict 122 = .ok (.iconst 0, 1) := by decide +kernel
theorem dX0_verdict_123 : decode cX0_verdict 123 = .ok (.iload_n 3, 1) := by decide +kernel
theorem dX0_verdict_124 : decode cX0_verdict 124 = .ok (.aload_n 0, 1) := by decide +kernel
theorem dX0_verdict_125 : decode cX0_verdict 125 = .ok (.getfield 13, 3) := by decide +kernel
theorem dX0_verdict_128 : decode cX0_verdict 128 = .ok (.invokestatic 65, 3) := by decide +kernel
theorem dX0_verdict_131 : decode cX0_verdict 131 = .ok (.ifCond .eq 8, 3) := by decide +kernel
theorem dX0_verdict_134 : decode cX0_verdict 134 = .ok (.bipush 16, 2) := by decide +kernel
theorem dX0_verdict_136 : decode cX0_verdict 136 = .ok (.goto 4, 3) := by decide +kernel
theorem dX0_verdict_139 : decode cX0_verdict 139 = .ok (.iconst 0, 1) := by decide +kernel
theorem dX0_verdict_140 : decode cX0_verdict 140 = .ok (.iadd, 1) := by decide +kernel
theorem dX0_verdict_141 : decode cX0_verdict 141 = .ok (.istore 5, 2) := by decide +kernel
theorem dX0_verdict_143 : decode cX0_verdict 143 = .ok (.iload 5, 2) := by decide +kernel
theorem dX0_verdict_145 : decode cX0_verdict 145 = .ok (.iconst 4, 1) := by decide +kernel
theorem dX0_verdict_146 : decode cX0_verdict 146 = .ok (.iconst 0, 1) := by decide +kernel
theorem dX0_verdict_147 : decode cX0_verdict 147 = .ok (.iload_n 3, 1) := by decide +kernel
theorem dX0_verdict_148 : decode cX0_verdict 148 = .ok (.aload_n 0, 1) := by decide +kernel
theorem dX0_verdict_149 : decode cX0_verdict 149 = .ok (.getfield 13, 3) := by decide +kernel
theorem dX0_verdict_152 : decode cX0_verdict 152 = .ok (.invokestatic 65, 3) := by decide +kernel
theorem dX0_verdict_155 : decode cX0_verdict 155 = .ok (.ifCond .eq 8, 3) := by decide +kernel
theorem dX0_verdict_158 : decode cX0_verdict 158 = .ok (.bipush 32, 2) := by decide +kernel
theorem dX0_verdict_160 : decode cX0_verdict 160 = .ok (.goto 4, 3) := by decide +kernel
theorem dX0_verdict_163 : decode cX0_verdict 163 = .ok (.iconst 0, 1) := by decide +kernel
theorem dX0_verdict_164 : decode cX0_verdict 164 = .ok (.iadd, 1) := by decide +kernel
theorem dX0_verdict_165 : decode cX0_verdict 165 = .ok (.istore 5, 2) := by decide +kernel
theorem dX0_verdict_167 : decode cX0_verdict 167 = .ok (.iload 5, 2) := by decide +kernel
theorem dX0_verdict_169 : decode cX0_verdict 169 = .ok (.iconst 1, 1) := by decide +kernel
theorem dX0_verdict_170 : decode cX0_verdict 170 = .ok (.iconst 1, 1) := by decide +kernel
theorem dX0_verdict_171 : decode cX0_verdict 171 = .ok (.iload 4, 2) := by decide +kernel
theorem dX0_verdict_173 : decode cX0_verdict 173 = .ok (.aload_n 0, 1) := by decide +kernel
theorem dX0_verdict_174 : decode cX0_verdict 174 = .ok (.getfield 16, 3) := by decide +kernel
theorem dX0_verdict_177 : decode cX0_verdict 177 = .ok (.invokestatic 65, 3) := by decide +kernel
theorem dX0_verdict_180 : decode cX0_verdict 180 = .ok (.ifCond .eq 8, 3) := by decide +kernel
theorem dX0_verdict_183 : decode cX0_verdict 183 = .ok (.bipush 64, 2) := by decide +kernel
theorem dX0_verdict_185 : decode cX0_verdict 185 = .ok (.goto 4, 3) := by decide +kernel
theorem dX0_verdict_188 : decode cX0_verdict 188 = .ok (.iconst 0, 1) := by decide +kernel
theorem dX0_verdict_189 : decode cX0_verdict 189 = .ok (.iadd, 1) := by decide +kernel
theorem dX0_verdict_190 : decode cX0_verdict 190 = .ok (.istore 5, 2) := by decide +kernel
theorem dX0_verdict_192 : decode cX0_verdict 192 = .ok (.iload 5, 2) := by decide +kernel
theorem dX0_verdict_194 : decode cX0_verdict 194 = .ok (.aload_n 0, 1) := by decide +kernel
theorem dX0_verdict_195 : decode cX0_verdict 195 = .ok (.iload_n 1, 1) := by decide +kernel
theorem dX0_verdict_196 : decode cX0_verdict 196 = .ok (.iload_n 2, 1) := by decide +kernel
theorem dX0_verdict_197 : decode cX0_verdict 197 = .ok (.invokevirtual 98, 3) := by decide +kernel
theorem dX0_verdict_200 : decode cX0_verdict 200 = .ok (.ifCond .eq 9, 3) := by decide +kernel
theorem dX0_verdict_203 : decode cX0_verdict 203 = .ok (.sipush 128, 3) := by decide +kernel
theorem dX0_verdict_206 : decode cX0_verdict 206 = .ok (.goto 4, 3) := by decide +kernel
theorem dX0_verdict_209 : decode cX0_verdict 209 = .ok (.iconst 0, 1) := by decide +kernel
theorem dX0_verdict_210 : decode cX0_verdict 210 = .ok (.iadd, 1) := by decide +kernel
theorem dX0_verdict_211 : decode cX0_verdict 211 = .ok (.istore 5, 2) := by decide +kernel
theorem dX0_verdict_213 : decode cX0_verdict 213 = .ok (.iload 5, 2) := by decide +kernel
theorem dX0_verdict_215 : decode cX0_verdict 215 = .ok (.ireturn, 1) := by decide +kernel
set_option maxRecDepth 20000 in
theorem ggX0_told_X0_howManyJumped : GoodIn wsX0_told wsX0_howManyJumped := goodIn_r _ [8, 1, 9, 36, 37, 38, 39, 40, 41, 42, 43] (by decide +kernel) (by decide +kernel)
set_option maxRecDepth 20000 in
theorem gX0_told_X0_howManyJumped : GoodIn wsX0_told (wsV RX0 101 RX0 yX0_howManyJumped wsX0_howManyJumped) := goodIn_app (goodIn_of _ (by decide +kernel)) ggX0_told_X0_howManyJumped
set_option maxRecDepth 20000 in
theorem ggX0_told_X0_howManyMarked : GoodIn wsX0_told wsX0_howManyMarked := goodIn_r _ [13, 14, 36, 37, 38, 39, 40, 41, 42, 43] (by decide +kernel) (by decide +kernel)
set_option maxRecDepth 20000 in
theorem gX0_told_X0_howManyMarked : GoodIn wsX0_told (wsV RX0 105 RX0 yX0_howManyMarked wsX0_howManyMarked) := goodIn_app (goodIn_of _ (by decide +kernel)) ggX0_told_X0_howManyMarked
set_option maxRecDepth 20000 in
theorem ggX0_told_X0_howManyLegal : GoodIn wsX0_told wsX0_howManyLegal := goodIn_r _ [18, 1, 19, 20, 21, 7, 22, 14, 23, 3, 24, 25, 26, 27, 28, 29, 30, 31, 32, 33, 34, 35, 36, 37, 38, 39, 40, 41, 42, 43] (by decide +kernel) (by decide +kernel)
set_option maxRecDepth 20000 in
theorem gX0_told_X0_howManyLegal : GoodIn wsX0_told (wsV RX0 108 RX0 yX0_howManyLegal wsX0_howManyLegal) := goodIn_app (goodIn_of _ (by decide +kernel)) ggX0_told_X0_howManyLegal
theorem dX0_told_0 : decode cX0_told 0 = .ok (.iload_n 1, 1) := by decide +kernel
theorem dX0_told_1 : decode cX0_told 1 = .ok (.tableswitch 74 0 5 #[39, 44, 49, 59, 64, 69], 39) := by decide +kernel
theorem dX0_told_40 : decode cX0_told 40 = .ok (.aload_n 0, 1) := by decide +kernel
theorem dX0_told_41 : decode cX0_told 41 = .ok (.getfield 7, 3) := by decide +kernel
theorem dX0_told_44 : decode cX0_told 44 = .ok (.ireturn, 1) := by decide +kernel
theorem dX0_told_45 : decode cX0_told 45 = .ok (.aload_n 0, 1) := by decide +kernel
theorem dX0_told_46 : decode cX0_told 46 = .ok (.invokevirtual 101, 3) := by decide +kernel
theorem dX0_told_49 : decode cX0_told 49 = .ok (.ireturn, 1) := by decide +kernel
theorem dX0_told_50 : decode cX0_told 50 = .ok (.aload_n 0, 1) := by decide +kernel
theorem dX0_told_51 : decode cX0_told 51 = .ok (.invokevirtual 101, 3) := by decide +kernel
theorem dX0_told_54 : decode cX0_told 54 = .ok (.aload_n 0, 1) := by decide +kernel
theorem dX0_told_55 : decode cX0_told 55 = .ok (.invokevirtual 105, 3) := by decide +kernel
theorem dX0_told_58 : decode cX0_told 58 = .ok (.isub, 1) := by decide +kernel
theorem dX0_told_59 : decode cX0_told 59 = .ok (.ireturn, 1) := by decide +kernel
theorem dX0_told_60 : decode cX0_told 60 = .ok (.aload_n 0, 1) := by decide +kernel
theorem dX0_told_61 : decode cX0_told 61 = .ok (.invokevirtual 108, 3) := by decide +kernel
theorem dX0_told_64 : decode cX0_told 64 = .ok (.ireturn, 1) := by decide +kernel
theorem dX0_told_65 : decode cX0_told 65 = .ok (.aload_n 0, 1) := by decide +kernel
theorem dX0_told_66 : decode cX0_told 66 = .ok (.getfield 13, 3) := by decide +kernel
theorem dX0_told_69 : decode cX0_told 69 = .ok (.ireturn, 1) := by decide +kernel
theorem dX0_told_70 : decode cX0_told 70 = .ok (.aload_n 0, 1) := by decide +kernel
theorem dX0_told_71 : decode cX0_told 71 = .ok (.getfield 16, 3) := by decide +kernel
theorem dX0_told_74 : decode cX0_told 74 = .ok (.ireturn, 1) := by decide +kernel
theorem dX0_told_75 : decode cX0_told 75 = .ok (.sipush (-1000), 3) := by decide +kernel
theorem dX0_told_78 : decode cX0_told 78 = .ok (.ireturn, 1) := by decide +kernel
theorem dX0_isJumper_0 : decode cX0_isJumper 0 = .ok (.iload_n 1, 1) := by decide +kernel
theorem dX0_isJumper_1 : decode cX0_isJumper 1 = .ok (.ifCond .lt 15, 3) := by decide +kernel
theorem dX0_isJumper_4 : decode cX0_isJumper 4 = .ok (.iload_n 1, 1) := by decide +kernel
theorem dX0_isJumper_5 : decode cX0_isJumper 5 = .ok (.aload_n 0, 1) := by decide +kernel
theorem dX0_isJumper_6 : decode cX0_isJumper 6 = .ok (.getfield 7, 3) := by decide +kernel
theorem dX0_isJumper_9 : decode cX0_isJumper 9 = .ok (.if_icmp .ge 7, 3) := by decide +kernel
theorem dX0_isJumper_12 : decode cX0_isJumper 12 = .ok (.iconst 1, 1) := by decide +kernel
theorem dX0_isJumper_13 : decode cX0_isJumper 13 = .ok (.goto 4, 3) := by decide +kernel
theorem dX0_isJumper_16 : decode cX0_isJumper 16 = .ok (.iconst 0, 1) := by decide +kernel
theorem dX0_isJumper_17 : decode cX0_isJumper 17 = .ok (.ireturn, 1) := by decide +kernel
theorem dX0_isRound_0 : decode cX0_isRound 0 = .ok (.iload_n 0, 1) := by decide +kernel
theorem dX0_isRound_1 : decode cX0_isRound 1 = .ok (.ifCond .lt 13, 3) := by decide +kernel
theorem dX0_isRound_4 : decode cX0_isRound 4 = .ok (.iload_n 0, 1) := by decide +kernel
theorem dX0_isRound_5 : decode cX0_isRound 5 = .ok (.bipush 6, 2) := by decide +kernel
theorem dX0_isRound_7 : decode cX0_isRound 7 = .ok (.if_icmp .ge 7, 3) := by decide +kernel
theorem dX0_isRound_10 : decode cX0_isRound 10 = .ok (.iconst 1, 1) := by decide +kernel
theorem dX0_isRound_11 : decode cX0_isRound 11 = .ok (.goto 4, 3) := by decide +kernel
theorem dX0_isRound_14 : decode cX0_isRound 14 = .ok (.iconst 0, 1) := by decide +kernel
theorem dX0_isRound_15 : decode cX0_isRound 15 = .ok (.ireturn, 1) := by decide +kernel
theorem dX0_isWhat_0 : decode cX0_isWhat 0 = .ok (.iload_n 0, 1) := by decide +kernel
theorem dX0_isWhat_1 : decode cX0_isWhat 1 = .ok (.ifCond .eq 8, 3) := by decide +kernel
theorem dX0_isWhat_4 : decode cX0_isWhat 4 = .ok (.iload_n 0, 1) := by decide +kernel
theorem dX0_isWhat_5 : decode cX0_isWhat 5 = .ok (.iconst 1, 1) := by decide +kernel
theorem dX0_isWhat_6 : decode cX0_isWhat 6 = .ok (.if_icmp .ne 7, 3) := by decide +kernel
theorem dX0_isWhat_9 : decode cX0_isWhat 9 = .ok (.iconst 1, 1) := by decide +kernel
theorem dX0_isWhat_10 : decode cX0_isWhat 10 = .ok (.goto 4, 3) := by decide +kernel
theorem dX0_isWhat_13 : decode cX0_isWhat 13 = .ok (.iconst 0, 1) := by decide +kernel
theorem dX0_isWhat_14 : decode cX0_isWhat 14 = .ok (.ireturn, 1) := by decide +kernel
theorem dX0_isHow_0 : decode cX0_isHow 0 = .ok (.iload_n 0, 1) := by decide +kernel
theorem dX0_isHow_1 : decode cX0_isHow 1 = .ok (.ifCond .lt 12, 3) := by decide +kernel
theorem dX0_isHow_4 : decode cX0_isHow 4 = .ok (.iload_n 0, 1) := by decide +kernel
theorem dX0_isHow_5 : decode cX0_isHow 5 = .ok (.iconst 5, 1) := by decide +kernel
theorem dX0_isHow_6 : decode cX0_isHow 6 = .ok (.if_icmp .gt 7, 3) := by decide +kernel
theorem dX0_isHow_9 : decode cX0_isHow 9 = .ok (.iconst 1, 1) := by decide +kernel
theorem dX0_isHow_10 : decode cX0_isHow 10 = .ok (.goto 4, 3) := by decide +kernel
theorem dX0_isHow_13 : decode cX0_isHow 13 = .ok (.iconst 0, 1) := by decide +kernel
theorem dX0_isHow_14 : decode cX0_isHow 14 = .ok (.ireturn, 1) := by decide +kernel
theorem dX0_isMark_0 : decode cX0_isMark 0 = .ok (.iload_n 0, 1) := by decide +kernel
theorem dX0_isMark_1 : decode cX0_isMark 1 = .ok (.ifCond .lt 14, 3) := by decide +kernel
theorem dX0_isMark_4 : decode cX0_isMark 4 = .ok (.iload_n 0, 1) := by decide +kernel
theorem dX0_isMark_5 : decode cX0_isMark 5 = .ok (.sipush 1200, 3) := by decide +kernel
theorem dX0_isMark_8 : decode cX0_isMark 8 = .ok (.if_icmp .gt 7, 3) := by decide +kernel
theorem dX0_isMark_11 : decode cX0_isMark 11 = .ok (.iconst 1, 1) := by decide +kernel
theorem dX0_isMark_12 : decode cX0_isMark 12 = .ok (.goto 4, 3) := by decide +kernel
theorem dX0_isMark_15 : decode cX0_isMark 15 = .ok (.iconst 0, 1) := by decide +kernel
theorem dX0_isMark_16 : decode cX0_isMark 16 = .ok (.ireturn, 1) := by decide +kernel
theorem dX0_isWind_0 : decode cX0_isWind 0 = .ok (.iload_n 0, 1) := by decide +kernel
theorem dX0_isWind_1 : decode cX0_isWind 1 = .ok (.bipush (-99), 2) := by decide +kernel
theorem dX0_isWind_3 : decode cX0_isWind 3 = .ok (.if_icmp .lt 13, 3) := by decide +kernel
theorem dX0_isWind_6 : decode cX0_isWind 6 = .ok (.iload_n 0, 1) := by decide +kernel
theorem dX0_isWind_7 : decode cX0_isWind 7 = .ok (.bipush 100, 2) := by decide +kernel
theorem dX0_isWind_9 : decode cX0_isWind 9 = .ok (.if_icmp .gt 7, 3) := by decide +kernel
theorem dX0_isWind_12 : decode cX0_isWind 12 = .ok (.iconst 1, 1) := by decide +kernel
theorem dX0_isWind_13 : decode cX0_isWind 13 = .ok (.goto 4, 3) := by decide +kernel
theorem dX0_isWind_16 : decode cX0_isWind 16 = .ok (.iconst 0, 1) := by decide +kernel
theorem dX0_isWind_17 : decode cX0_isWind 17 = .ok (.ireturn, 1) := by decide +kernel
set_option maxRecDepth 20000 in
theorem ggX0_isQuestion_X0_isHow : GoodIn wsX0_isQuestion wsX0_isHow := goodIn_r _ [4] (by decide +kernel) (by decide +kernel)
set_option maxRecDepth 20000 in
theorem gX0_isQuestion_X0_isHow : GoodIn wsX0_isQuestion (va_wsS RX0 62 yX0_isHow wsX0_isHow) := goodIn_app (goodIn_of _ (by decide +kernel)) ggX0_isQuestion_X0_isHow
set_option maxRecDepth 20000 in
theorem ggX0_isQuestion_X0_isWhat : GoodIn wsX0_isQuestion wsX0_isWhat := goodIn_r _ [7] (by decide +kernel) (by decide +kernel)
set_option maxRecDepth 20000 in
theorem gX0_isQuestion_X0_isWhat : GoodIn wsX0_isQuestion (va_wsS RX0 52 yX0_isWhat wsX0_isWhat) := goodIn_app (goodIn_of _ (by decide +kernel)) ggX0_isQuestion_X0_isWhat
set_option maxRecDepth 20000 in
theorem ggX0_isQuestion_X0_isJumper : GoodIn wsX0_isQuestion wsX0_isJumper := goodIn_r _ [11, 12, 19, 20, 21, 22, 23, 24, 25, 26] (by decide +kernel) (by decide +kernel)
set_option maxRecDepth 20000 in
theorem gX0_isQuestion_X0_isJumper : GoodIn wsX0_isQuestion (wsV RX0 39 RX0 yX0_isJumper wsX0_isJumper) := goodIn_app (goodIn_of _ (by decide +kernel)) ggX0_isQuestion_X0_isJumper
set_option maxRecDepth 20000 in
theorem ggX0_isQuestion_X0_isMark : GoodIn wsX0_isQuestion wsX0_isMark := goodIn_r _ [15] (by decide +kernel) (by decide +kernel)
set_option maxRecDepth 20000 in
theorem gX0_isQuestion_X0_isMark : GoodIn wsX0_isQuestion (va_wsS RX0 42 yX0_isMark wsX0_isMark) := goodIn_app (goodIn_of _ (by decide +kernel)) ggX0_isQuestion_X0_isMark
set_option maxRecDepth 20000 in
theorem ggX0_isQuestion_X0_isWind : GoodIn wsX0_isQuestion wsX0_isWind := goodIn_r _ [18] (by decide +kernel) (by decide +kernel)
set_option maxRecDepth 20000 in
theorem gX0_isQuestion_X0_isWind : GoodIn wsX0_isQuestion (va_wsS RX0 45 yX0_isWind wsX0_isWind) := goodIn_app (goodIn_of _ (by decide +kernel)) ggX0_isQuestion_X0_isWind
theorem dX0_isQuestion_0 : decode cX0_isQuestion 0 = .ok (.iload_n 1, 1) := by decide +kernel
theorem dX0_isQuestion_1 : decode cX0_isQuestion 1 = .ok (.invokestatic 62, 3) := by decide +kernel
theorem dX0_isQuestion_4 : decode cX0_isQuestion 4 = .ok (.ifCond .eq 45, 3) := by decide +kernel
theorem dX0_isQuestion_7 : decode cX0_isQuestion 7 = .ok (.iload_n 2, 1) := by decide +kernel
theorem dX0_isQuestion_8 : decode cX0_isQuestion 8 = .ok (.invokestatic 52, 3) := by decide +kernel
theorem dX0_isQuestion_11 : decode cX0_isQuestion 11 = .ok (.ifCond .eq 38, 3) := by decide +kernel
theorem dX0_isQuestion_14 : decode cX0_isQuestion 14 = .ok (.aload_n 0, 1) := by decide +kernel
theorem dX0_isQuestion_15 : decode cX0_isQuestion 15 = .ok (.iload_n 3, 1) := by decide +kernel
theorem dX0_isQuestion_16 : decode cX0_isQuestion 16 = .ok (.invokevirtual 39, 3) := by decide +kernel
theorem dX0_isQuestion_19 : decode cX0_isQuestion 19 = .ok (.ifCond .eq 30, 3) := by decide +kernel
theorem dX0_isQuestion_22 : decode cX0_isQuestion 22 = .ok (.iload_n 2, 1) := by decide +kernel
theorem dX0_isQuestion_23 : decode cX0_isQuestion 23 = .ok (.ifCond .ne 14, 3) := by decide +kernel
theorem dX0_isQuestion_26 : decode cX0_isQuestion 26 = .ok (.iload 4, 2) := by decide +kernel
theorem dX0_isQuestion_28 : decode cX0_isQuestion 28 = .ok (.invokestatic 42, 3) := by decide +kernel
theorem dX0_isQuestion_31 : decode cX0_isQuestion 31 = .ok (.ifCond .eq 18, 3) := by decide +kernel
theorem dX0_isQuestion_34 : decode cX0_isQuestion 34 = .ok (.goto 11, 3) := by decide +kernel
theorem dX0_isQuestion_37 : decode cX0_isQuestion 37 = .ok (.iload 4, 2) := by decide +kernel
theorem dX0_isQuestion_39 : decode cX0_isQuestion 39 = .ok (.invokestatic 45, 3) := by decide +kernel
theorem dX0_isQuestion_42 : decode cX0_isQuestion 42 = .ok (.ifCond .eq 7, 3) := by decide +kernel
theorem dX0_isQuestion_45 : decode cX0_isQuestion 45 = .ok (.iconst 1, 1) := by decide +kernel
theorem dX0_isQuestion_46 : decode cX0_isQuestion 46 = .ok (.goto 4, 3) := by decide +kernel
theorem dX0_isQuestion_49 : decode cX0_isQuestion 49 = .ok (.iconst 0, 1) := by decide +kernel
theorem dX0_isQuestion_50 : decode cX0_isQuestion 50 = .ok (.ireturn, 1) := by decide +kernel
theorem dX0_isBibTaken_0 : decode cX0_isBibTaken 0 = .ok (.iconst 0, 1) := by decide +kernel
theorem dX0_isBibTaken_1 : decode cX0_isBibTaken 1 = .ok (.istore_n 2, 1) := by decide +kernel
theorem dX0_isBibTaken_2 : decode cX0_isBibTaken 2 = .ok (.iload_n 2, 1) := by decide +kernel
theorem dX0_isBibTaken_3 : decode cX0_isBibTaken 3 = .ok (.aload_n 0, 1) := by decide +kernel
theorem dX0_isBibTaken_4 : decode cX0_isBibTaken 4 = .ok (.getfield 7, 3) := by decide +kernel
theorem dX0_isBibTaken_7 : decode cX0_isBibTaken 7 = .ok (.if_icmp .ge 21, 3) := by decide +kernel
theorem dX0_isBibTaken_10 : decode cX0_isBibTaken 10 = .ok (.aload_n 0, 1) := by decide +kernel
theorem dX0_isBibTaken_11 : decode cX0_isBibTaken 11 = .ok (.getfield 19, 3) := by decide +kernel
theorem dX0_isBibTaken_14 : decode cX0_isBibTaken 14 = .ok (.iload_n 2, 1) := by decide +kernel
theorem dX0_isBibTaken_15 : decode cX0_isBibTaken 15 = .ok (.iaload, 1) := by decide +kernel
theorem dX0_isBibTaken_16 : decode cX0_isBibTaken 16 = .ok (.iload_n 1, 1) := by decide +kernel
theorem dX0_isBibTaken_17 : decode cX0_isBibTaken 17 = .ok (.if_icmp .ne 5, 3) := by decide +kernel
theorem dX0_isBibTaken_20 : decode cX0_isBibTaken 20 = .ok (.iconst 1, 1) := by decide +kernel
theorem dX0_isBibTaken_21 : decode cX0_isBibTaken 21 = .ok (.ireturn, 1) := by decide +kernel
theorem dX0_isBibTaken_22 : decode cX0_isBibTaken 22 = .ok (.iinc 2 1, 3) := by decide +kernel
theorem dX0_isBibTaken_25 : decode cX0_isBibTaken 25 = .ok (.goto (-23), 3) := by decide +kernel
theorem dX0_isBibTaken_28 : decode cX0_isBibTaken 28 = .ok (.iconst 0, 1) := by decide +kernel
theorem dX0_isBibTaken_29 : decode cX0_isBibTaken 29 = .ok (.ireturn, 1) := by decide +kernel
theorem dX0_at_0 : decode cX0_at 0 = .ok (.iload_n 0, 1) := by decide +kernel
theorem dX0_at_1 : decode cX0_at 1 = .ok (.bipush 6, 2) := by decide +kernel
theorem dX0_at_3 : decode cX0_at 3 = .ok (.imul, 1) := by decide +kernel
theorem dX0_at_4 : decode cX0_at 4 = .ok (.iload_n 1, 1) := by decide +kernel
theorem dX0_at_5 : decode cX0_at 5 = .ok (.iadd, 1) := by decide +kernel
theorem dX0_at_6 : decode cX0_at 6 = .ok (.ireturn, 1) := by decide +kernel
set_option maxRecDepth 20000 in
theorem ggX0_valueOf_X0_at : GoodIn wsX0_valueOf wsX0_at := goodIn_r _ [6] (by decide +kernel) (by decide +kernel)
set_option maxRecDepth 20000 in
theorem gX0_valueOf_X0_at : GoodIn wsX0_valueOf (va_wsS RX0 48 yX0_at wsX0_at) := goodIn_app (goodIn_of _ (by decide +kernel)) ggX0_valueOf_X0_at
theorem dX0_valueOf_0 : decode cX0_valueOf 0 = .ok (.iload_n 1, 1) := by decide +kernel
theorem dX0_valueOf_1 : decode cX0_valueOf 1 = .ok (.ifCond .ne 16, 3) := by decide +kernel
theorem dX0_valueOf_4 : decode cX0_valueOf 4 = .ok (.aload_n 0, 1) := by decide +kernel
theorem dX0_valueOf_5 : decode cX0_valueOf 5 = .ok (.getfield 26, 3) := by decide +kernel
theorem dX0_valueOf_8 : decode cX0_valueOf 8 = .ok (.iload_n 2, 1) := by decide +kernel
theorem dX0_valueOf_9 : decode cX0_valueOf 9 = .ok (.iload_n 3, 1) := by decide +kernel
theorem dX0_valueOf_10 : decode cX0_valueOf 10 = .ok (.invokestatic 48, 3) := by decide +kernel
theorem dX0_valueOf_13 : decode cX0_valueOf 13 = .ok (.iaload, 1) := by decide +kernel
theorem dX0_valueOf_14 : decode cX0_valueOf 14 = .ok (.goto 13, 3) := by decide +kernel
theorem dX0_valueOf_17 : decode cX0_valueOf 17 = .ok (.aload_n 0, 1) := by decide +kernel
theorem dX0_valueOf_18 : decode cX0_valueOf 18 = .ok (.getfield 29, 3) := by decide +kernel
theorem dX0_valueOf_21 : decode cX0_valueOf 21 = .ok (.iload_n 2, 1) := by decide +kernel
theorem dX0_valueOf_22 : decode cX0_valueOf 22 = .ok (.iload_n 3, 1) := by decide +kernel
theorem dX0_valueOf_23 : decode cX0_valueOf 23 = .ok (.invokestatic 48, 3) := by decide +kernel
theorem dX0_valueOf_26 : decode cX0_valueOf 26 = .ok (.iaload, 1) := by decide +kernel
theorem dX0_valueOf_27 : decode cX0_valueOf 27 = .ok (.ireturn, 1) := by decide +kernel
theorem dX0_isNone_0 : decode cX0_isNone 0 = .ok (.iload_n 1, 1) := by decide +kernel
theorem dX0_isNone_1 : decode cX0_isNone 1 = .ok (.iload_n 0, 1) := by decide +kernel
theorem dX0_isNone_2 : decode cX0_isNone 2 = .ok (.ifCond .ne 7, 3) := by decide +kernel
theorem dX0_isNone_5 : decode cX0_isNone 5 = .ok (.iconst 0, 1) := by decide +kernel
theorem dX0_isNone_6 : decode cX0_isNone 6 = .ok (.goto 5, 3) := by decide +kernel
theorem dX0_isNone_9 : decode cX0_isNone 9 = .ok (.bipush 100, 2) := by decide +kernel
theorem dX0_isNone_11 : decode cX0_isNone 11 = .ok (.if_icmp .ne 7, 3) := by decide +kernel
theorem dX0_isNone_14 : decode cX0_isNone 14 = .ok (.iconst 1, 1) := by decide +kernel
theorem dX0_isNone_15 : decode cX0_isNone 15 = .ok (.goto 4, 3) := by decide +kernel
theorem dX0_isNone_18 : decode cX0_isNone 18 = .ok (.iconst 0, 1) := by decide +kernel
theorem dX0_isNone_19 : decode cX0_isNone 19 = .ok (.ireturn, 1) := by decide +kernel
set_option maxRecDepth 20000 in
theorem ggX0_valueFits_X0_isNone : GoodIn wsX0_valueFits wsX0_isNone := goodIn_r _ [4] (by decide +kernel) (by decide +kernel)
set_option maxRecDepth 20000 in
theorem gX0_valueFits_X0_isNone : GoodIn wsX0_valueFits (va_wsS RX0 111 yX0_isNone wsX0_isNone) := goodIn_app (goodIn_of _ (by decide +kernel)) ggX0_valueFits_X0_isNone
set_option maxRecDepth 20000 in
theorem ggX0_valueFits_X0_numberFits : GoodIn wsX0_valueFits wsX0_numberFits := goodIn_r _ [7] (by decide +kernel) (by decide +kernel)
set_option maxRecDepth 20000 in
theorem gX0_valueFits_X0_numberFits : GoodIn wsX0_valueFits (va_wsS RX0 114 yX0_numberFits wsX0_numberFits) := goodIn_app (goodIn_of _ (by decide +kernel)) ggX0_valueFits_X0_numberFits
theorem dX0_valueFits_0 : decode cX0_valueFits 0 = .ok (.iload_n 1, 1) := by decide +kernel
theorem dX0_valueFits_1 : decode cX0_valueFits 1 = .ok (.iload_n 2, 1) := by decide +kernel
theorem dX0_valueFits_2 : decode cX0_valueFits 2 = .ok (.invokestatic 111, 3) := by decide +kernel
theorem dX0_valueFits_5 : decode cX0_valueFits 5 = .ok (.ifCond .ne 11, 3) := by decide +kernel
theorem dX0_valueFits_8 : decode cX0_valueFits 8 = .ok (.iload_n 1, 1) := by decide +kernel
theorem dX0_valueFits_9 : decode cX0_valueFits 9 = .ok (.iload_n 3, 1) := by decide +kernel
theorem dX0_valueFits_10 : decode cX0_valueFits 10 = .ok (.invokestatic 111, 3) := by decide +kernel
theorem dX0_valueFits_13 : decode cX0_valueFits 13 = .ok (.ifCond .eq 14, 3) := by decide +kernel
theorem dX0_valueFits_16 : decode cX0_valueFits 16 = .ok (.iload_n 0, 1) := by decide +kernel
theorem dX0_valueFits_17 : decode cX0_valueFits 17 = .ok (.iconst 5, 1) := by decide +kernel
theorem dX0_valueFits_18 : decode cX0_valueFits 18 = .ok (.if_icmp .ne 7, 3) := by decide +kernel
theorem dX0_valueFits_21 : decode cX0_valueFits 21 = .ok (.iconst 1, 1) := by decide +kernel
theorem dX0_valueFits_22 : decode cX0_valueFits 22 = .ok (.goto 4, 3) := by decide +kernel
theorem dX0_valueFits_25 : decode cX0_valueFits 25 = .ok (.iconst 0, 1) := by decide +kernel
theorem dX0_valueFits_26 : decode cX0_valueFits 26 = .ok (.ireturn, 1) := by decide +kernel
theorem dX0_valueFits_27 : decode cX0_valueFits 27 = .ok (.iload_n 0, 1) := by decide +kernel
theorem dX0_valueFits_28 : decode cX0_valueFits 28 = .ok (.iload_n 2, 1) := by decide +kernel
theorem dX0_valueFits_29 : decode cX0_valueFits 29 = .ok (.iload_n 3, 1) := by decide +kernel
theorem dX0_valueFits_30 : decode cX0_valueFits 30 = .ok (.invokestatic 114, 3) := by decide +kernel
theorem dX0_valueFits_33 : decode cX0_valueFits 33 = .ok (.ireturn, 1) := by decide +kernel
theorem dX0_numberFits_0 : decode cX0_numberFits 0 = .ok (.iload_n 0, 1) := by decide +kernel
theorem dX0_numberFits_1 : decode cX0_numberFits 1 = .ok (.tableswitch 90 0 4 #[35, 46, 57, 68, 79], 35) := by decide +kernel
theorem dX0_numberFits_36 : decode cX0_numberFits 36 = .ok (.iload_n 1, 1) := by decide +kernel
theorem dX0_numberFits_37 : decode cX0_numberFits 37 = .ok (.iload_n 2, 1) := by decide +kernel
theorem dX0_numberFits_38 : decode cX0_numberFits 38 = .ok (.if_icmp .ge 7, 3) := by decide +kernel
theorem dX0_numberFits_41 : decode cX0_numberFits 41 = .ok (.iconst 1, 1) := by decide +kernel
theorem dX0_numberFits_42 : decode cX0_numberFits 42 = .ok (.goto 4, 3) := by decide +kernel
theorem dX0_numberFits_45 : decode cX0_numberFits 45 = .ok (.iconst 0, 1) := by decide +kernel
theorem dX0_numberFits_46 : decode cX0_numberFits 46 = .ok (.ireturn, 1) := by decide +kernel
theorem dX0_numberFits_47 : decode cX0_numberFits 47 = .ok (.iload_n 1, 1) := by decide +kernel
theorem dX0_numberFits_48 : decode cX0_numberFits 48 = .ok (.iload_n 2, 1) := by decide +kernel
theorem dX0_numberFits_49 : decode cX0_numberFits 49 = .ok (.if_icmp .gt 7, 3) := by decide +kernel
theorem dX0_numberFits_52 : decode cX0_numberFits 52 = .ok (.iconst 1, 1) := by decide +kernel
theorem dX0_numberFits_53 : decode cX0_numberFits 53 = .ok (.goto 4, 3) := by decide +kernel
theorem dX0_numberFits_56 : decode cX0_numberFits 56 = .ok (.iconst 0, 1) := by decide +kernel
theorem dX0_numberFits_57 : decode cX0_numberFits 57 = .ok (.ireturn, 1) := by decide +kernel
theorem dX0_numberFits_58 : decode cX0_numberFits 58 = .ok (.iload_n 1, 1) := by decide +kernel
theorem dX0_numberFits_59 : decode cX0_numberFits 59 = .ok (.iload_n 2, 1) := by decide +kernel
theorem dX0_numberFits_60 : decode cX0_numberFits 60 = .ok (.if_icmp .le 7, 3) := by decide +kernel
theorem dX0_numberFits_63 : decode cX0_numberFits 63 = .ok (.iconst 1, 1) := by decide +kernel
theorem dX0_numberFits_64 : decode cX0_numberFits 64 = .ok (.goto 4, 3) := by decide +kernel
theorem dX0_numberFits_67 : decode cX0_numberFits 67 = .ok (.iconst 0, 1) := by decide +kernel
theorem dX0_numberFits_68 : decode cX0_numberFits 68 = .ok (.ireturn, 1) := by decide +kernel
theorem dX0_numberFits_69 : decode cX0_numberFits 69 = .ok (.iload_n 1, 1) := by decide +kernel
theorem dX0_numberFits_70 : decode cX0_numberFits 70 = .ok (.iload_n 2, 1) := by decide +kernel
theorem dX0_numberFits_71 : decode cX0_numberFits 71 = .ok (.if_icmp .lt 7, 3) := by decide +kernel
theorem dX0_numberFits_74 : decode cX0_numberFits 74 = .ok (.iconst 1, 1) := by decide +kernel
theorem dX0_numberFits_75 : decode cX0_numberFits 75 = .ok (.goto 4, 3) := by decide +kernel
theorem dX0_numberFits_78 : decode cX0_numberFits 78 = .ok (.iconst 0, 1) := by decide +kernel
theorem dX0_numberFits_79 : decode cX0_numberFits 79 = .ok (.ireturn, 1) := by decide +kernel
theorem dX0_numberFits_80 : decode cX0_numberFits 80 = .ok (.iload_n 1, 1) := by decide +kernel
theorem dX0_numberFits_81 : decode cX0_numberFits 81 = .ok (.iload_n 2, 1) := by decide +kernel
theorem dX0_numberFits_82 : decode cX0_numberFits 82 = .ok (.if_icmp .ne 7, 3) := by decide +kernel
theorem dX0_numberFits_85 : decode cX0_numberFits 85 = .ok (.iconst 1, 1) := by decide +kernel
theorem dX0_numberFits_86 : decode cX0_numberFits 86 = .ok (.goto 4, 3) := by decide +kernel
theorem dX0_numberFits_89 : decode cX0_numberFits 89 = .ok (.iconst 0, 1) := by decide +kernel
theorem dX0_numberFits_90 : decode cX0_numberFits 90 = .ok (.ireturn, 1) := by decide +kernel
theorem dX0_numberFits_91 : decode cX0_numberFits 91 = .ok (.iload_n 1, 1) := by decide +kernel
theorem dX0_numberFits_92 : decode cX0_numberFits 92 = .ok (.iload_n 2, 1) := by decide +kernel
theorem dX0_numberFits_93 : decode cX0_numberFits 93 = .ok (.if_icmp .eq 7, 3) := by decide +kernel
theorem dX0_numberFits_96 : decode cX0_numberFits 96 = .ok (.iconst 1, 1) := by decide +kernel
theorem dX0_numberFits_97 : decode cX0_numberFits 97 = .ok (.goto 4, 3) := by decide +kernel
theorem dX0_numberFits_100 : decode cX0_numberFits 100 = .ok (.iconst 0, 1) := by decide +kernel
theorem dX0_numberFits_101 : decode cX0_numberFits 101 = .ok (.ireturn, 1) := by decide +kernel
set_option maxRecDepth 20000 in
theorem ggX0_isLegal_X0_at : GoodIn wsX0_isLegal wsX0_at := goodIn_r _ [7] (by decide +kernel) (by decide +kernel)
set_option maxRecDepth 20000 in
theorem gX0_isLegal_X0_at : GoodIn wsX0_isLegal (va_wsS RX0 48 yX0_at wsX0_at) := goodIn_app (goodIn_of _ (by decide +kernel)) ggX0_isLegal_X0_at
set_option maxRecDepth 20000 in
theorem ggX0_isLegal_X0_valueFits : GoodIn wsX0_isLegal wsX0_valueFits := goodIn_r _ [10, 11, 12, 6, 13, 14, 15, 16] (by decide +kernel) (by decide +kernel)
set_option maxRecDepth 20000 in
theorem gX0_isLegal_X0_valueFits : GoodIn wsX0_isLegal (va_wsS RX0 65 yX0_valueFits wsX0_valueFits) := goodIn_app (goodIn_of _ (by decide +kernel)) ggX0_isLegal_X0_valueFits
theorem dX0_isLegal_0 : decode cX0_isLegal 0 = .ok (.aload_n 0, 1) := by decide +kernel
theorem dX0_isLegal_1 : decode cX0_isLegal 1 = .ok (.getfield 26, 3) := by decide +kernel
theorem dX0_isLegal_4 : decode cX0_isLegal 4 = .ok (.iload_n 1, 1) := by decide +kernel
theorem dX0_isLegal_5 : decode cX0_isLegal 5 = .ok (.iload_n 2, 1) := by decide +kernel
theorem dX0_isLegal_6 : decode cX0_isLegal 6 = .ok (.invokestatic 48, 3) := by decide +kernel
theorem dX0_isLegal_9 : decode cX0_isLegal 9 = .ok (.iaload, 1) := by decide +kernel
theorem dX0_isLegal_10 : decode cX0_isLegal 10 = .ok (.ifCond .eq 29, 3) := by decide +kernel
theorem dX0_isLegal_13 : decode cX0_isLegal 13 = .ok (.iconst 2, 1) := by decide +kernel
theorem dX0_isLegal_14 : decode cX0_isLegal 14 = .ok (.iconst 1, 1) := by decide +kernel
theorem dX0_isLegal_15 : decode cX0_isLegal 15 = .ok (.aload_n 0, 1) := by decide +kernel
theorem dX0_isLegal_16 : decode cX0_isLegal 16 = .ok (.getfield 29, 3) := by decide +kernel
theorem dX0_isLegal_19 : decode cX0_isLegal 19 = .ok (.iload_n 1, 1) := by decide +kernel
theorem dX0_isLegal_20 : decode cX0_isLegal 20 = .ok (.iload_n 2, 1) := by decide +kernel
theorem dX0_isLegal_21 : decode cX0_isLegal 21 = .ok (.invokestatic 48, 3) := by decide +kernel
theorem dX0_isLegal_24 : decode cX0_isLegal 24 = .ok (.iaload, 1) := by decide +kernel
theorem dX0_isLegal_25 : decode cX0_isLegal 25 = .ok (.aload_n 0, 1) := by decide +kernel
theorem dX0_isLegal_26 : decode cX0_isLegal 26 = .ok (.getfield 16, 3) := by decide +kernel
theorem dX0_isLegal_29 : decode cX0_isLegal 29 = .ok (.invokestatic 65, 3) := by decide +kernel
theorem dX0_isLegal_32 : decode cX0_isLegal 32 = .ok (.ifCond .ne 7, 3) := by decide +kernel
theorem dX0_isLegal_35 : decode cX0_isLegal 35 = .ok (.iconst 1, 1) := by decide +kernel
theorem dX0_isLegal_36 : decode cX0_isLegal 36 = .ok (.goto 4, 3) := by decide +kernel
theorem dX0_isLegal_39 : decode cX0_isLegal 39 = .ok (.iconst 0, 1) := by decide +kernel
theorem dX0_isLegal_40 : decode cX0_isLegal 40 = .ok (.ireturn, 1) := by decide +kernel
set_option maxRecDepth 20000 in
theorem ggX0_bestOf_X0_isLegal : GoodIn wsX0_bestOf wsX0_isLegal := goodIn_r _ [10, 1, 11, 12, 13, 14, 9, 15, 16, 17, 18, 19, 20, 21, 22, 23, 24, 25, 26, 27, 28, 29, 30, 31, 32] (by decide +kernel) (by decide +kernel)
set_option maxRecDepth 20000 in
theorem gX0_bestOf_X0_isLegal : GoodIn wsX0_bestOf (wsV RX0 95 RX0 yX0_isLegal wsX0_isLegal) := goodIn_app (goodIn_of _ (by decide +kernel)) ggX0_bestOf_X0_isLegal
set_option maxRecDepth 20000 in
theorem ggX0_bestOf_X0_at : GoodIn wsX0_bestOf wsX0_at := goodIn_r _ [15] (by decide +kernel) (by decide +kernel)
set_option maxRecDepth 20000 in
theorem gX0_bestOf_X0_at : GoodIn wsX0_bestOf (va_wsS RX0 48 yX0_at wsX0_at) := goodIn_app (goodIn_of _ (by decide +kernel)) ggX0_bestOf_X0_at
theorem dX0_bestOf_0 : decode cX0_bestOf 0 = .ok (.iconst 0, 1) := by decide +kernel
theorem dX0_bestOf_1 : decode cX0_bestOf 1 = .ok (.istore_n 2, 1) := by decide +kernel
theorem dX0_bestOf_2 : decode cX0_bestOf 2 = .ok (.iconst 0, 1) := by decide +kernel
theorem dX0_bestOf_3 : decode cX0_bestOf 3 = .ok (.istore_n 3, 1) := by decide +kernel
theorem dX0_bestOf_4 : decode cX0_bestOf 4 = .ok (.iload_n 3, 1) := by decide +kernel
theorem dX0_bestOf_5 : decode cX0_bestOf 5 = .ok (.bipush 6, 2) := by decide +kernel
theorem dX0_bestOf_7 : decode cX0_bestOf 7 = .ok (.if_icmp .ge 33, 3) := by decide +kernel
theorem dX0_bestOf_10 : decode cX0_bestOf 10 = .ok (.aload_n 0, 1) := by decide +kernel
theorem dX0_bestOf_11 : decode cX0_bestOf 11 = .ok (.iload_n 1, 1) := by decide +kernel
theorem dX0_bestOf_12 : decode cX0_bestOf 12 = .ok (.iload_n 3, 1) := by decide +kernel
theorem dX0_bestOf_13 : decode cX0_bestOf 13 = .ok (.invokevirtual 95, 3) := by decide +kernel
theorem dX0_bestOf_16 : decode cX0_bestOf 16 = .ok (.ifCond .eq 18, 3) := by decide +kernel
theorem dX0_bestOf_19 : decode cX0_bestOf 19 = .ok (.iload_n 2, 1) := by decide +kernel
theorem dX0_bestOf_20 : decode cX0_bestOf 20 = .ok (.aload_n 0, 1) := by decide +kernel
theorem dX0_bestOf_21 : decode cX0_bestOf 21 = .ok (.getfield 26, 3) := by decide +kernel
theorem dX0_bestOf_24 : decode cX0_bestOf 24 = .ok (.iload_n 1, 1) := by decide +kernel
theorem dX0_bestOf_25 : decode cX0_bestOf 25 = .ok (.iload_n 3, 1) := by decide +kernel
theorem dX0_bestOf_26 : decode cX0_bestOf 26 = .ok (.invokestatic 48, 3) := by decide +kernel
theorem dX0_bestOf_29 : decode cX0_bestOf 29 = .ok (.iaload, 1) := by decide +kernel
theorem dX0_bestOf_30 : decode cX0_bestOf 30 = .ok (.invokestatic 72, 3) := by decide +kernel
theorem dX0_bestOf_33 : decode cX0_bestOf 33 = .ok (.istore_n 2, 1) := by decide +kernel
theorem dX0_bestOf_34 : decode cX0_bestOf 34 = .ok (.iinc 3 1, 3) := by decide +kernel
theorem dX0_bestOf_37 : decode cX0_bestOf 37 = .ok (.goto (-33), 3) := by decide +kernel
theorem dX0_bestOf_40 : decode cX0_bestOf 40 = .ok (.iload_n 2, 1) := by decide +kernel
theorem dX0_bestOf_41 : decode cX0_bestOf 41 = .ok (.ireturn, 1) := by decide +kernel
set_option maxRecDepth 20000 in
theorem ggX0_layOutAll_X0_layOut : GoodIn wsX0_layOutAll wsX0_layOut := goodIn_r _ [6, 7, 8, 9, 10, 5, 11, 12, 13, 14, 15, 16, 17, 18, 19, 20, 21, 22, 23, 24, 25, 26, 27, 28, 29, 30, 31, 32, 33, 34, 35, 36, 37, 38] (by decide +kernel) (by decide +kernel)
set_option maxRecDepth 20000 in
theorem gX0_layOutAll_X0_layOut : GoodIn wsX0_layOutAll (wsV RX0 81 RX0 yX0_layOut wsX0_layOut) := goodIn_app (goodIn_of _ (by decide +kernel)) ggX0_layOutAll_X0_layOut
theorem dX0_layOutAll_0 : decode cX0_layOutAll 0 = .ok (.iconst 0, 1) := by decide +kernel
theorem dX0_layOutAll_1 : decode cX0_layOutAll 1 = .ok (.istore_n 1, 1) := by decide +kernel
theorem dX0_layOutAll_2 : decode cX0_layOutAll 2 = .ok (.iload_n 1, 1) := by decide +kernel
theorem dX0_layOutAll_3 : decode cX0_layOutAll 3 = .ok (.aload_n 0, 1) := by decide +kernel
theorem dX0_layOutAll_4 : decode cX0_layOutAll 4 = .ok (.getfield 7, 3) := by decide +kernel
theorem dX0_layOutAll_7 : decode cX0_layOutAll 7 = .ok (.if_icmp .ge 14, 3) := by decide +kernel
theorem dX0_layOutAll_10 : decode cX0_layOutAll 10 = .ok (.aload_n 0, 1) := by decide +kernel
theorem dX0_layOutAll_11 : decode cX0_layOutAll 11 = .ok (.iload_n 1, 1) := by decide +kernel
theorem dX0_layOutAll_12 : decode cX0_layOutAll 12 = .ok (.invokevirtual 81, 3) := by decide +kernel
theorem dX0_layOutAll_15 : decode cX0_layOutAll 15 = .ok (.iinc 1 1, 3) := by decide +kernel
theorem dX0_layOutAll_18 : decode cX0_layOutAll 18 = .ok (.goto (-16), 3) := by decide +kernel
theorem dX0_layOutAll_21 : decode cX0_layOutAll 21 = .ok (.return_, 1) := by decide +kernel
set_option maxRecDepth 20000 in
theorem ggX0_layOut_X0_at : GoodIn wsX0_layOut wsX0_at := goodIn_r _ [6] (by decide +kernel) (by decide +kernel)
set_option maxRecDepth 20000 in
theorem gX0_layOut_X0_at : GoodIn wsX0_layOut (va_wsS RX0 48 yX0_at wsX0_at) := goodIn_app (goodIn_of _ (by decide +kernel)) ggX0_layOut_X0_at
set_option maxRecDepth 20000 in
theorem ggX0_layOut_X0_isLegal : GoodIn wsX0_layOut wsX0_isLegal := goodIn_r _ [10, 2, 11, 12, 3, 4, 5, 6, 13, 14, 15, 16, 17, 18, 19, 20, 21, 26, 27, 28, 29, 30, 31, 32, 33] (by decide +kernel) (by decide +kernel)
set_option maxRecDepth 20000 in
theorem gX0_layOut_X0_isLegal : GoodIn wsX0_layOut (wsV RX0 95 RX0 yX0_isLegal wsX0_isLegal) := goodIn_app (goodIn_of _ (by decide +kernel)) ggX0_layOut_X0_isLegal
set_option maxRecDepth 20000 in
theorem ggX0_layOut_X0_putInRow : GoodIn wsX0_layOut wsX0_putInRow := goodIn_r _ [25, 1, 3, 4, 5, 6, 26, 27, 28, 29, 30, 31, 32, 33] (by decide +kernel) (by decide +kernel)
set_option maxRecDepth 20000 in
theorem gX0_layOut_X0_putInRow : GoodIn wsX0_layOut (wsV RX0 118 RX0 yX0_putInRow wsX0_putInRow) := goodIn_app (goodIn_of _ (by decide +kernel)) ggX0_layOut_X0_putInRow
theorem dX0_layOut_0 : decode cX0_layOut 0 = .ok (.iconst 0, 1) := by decide +kernel
theorem dX0_layOut_1 : decode cX0_layOut 1 = .ok (.istore_n 2, 1) := by decide +kernel
theorem dX0_layOut_2 : decode cX0_layOut 2 = .ok (.iload_n 2, 1) := by decide +kernel
theorem dX0_layOut_3 : decode cX0_layOut 3 = .ok (.bipush 6, 2) := by decide +kernel
theorem dX0_layOut_5 : decode cX0_layOut 5 = .ok (.if_icmp .ge 20, 3) := by decide +kernel
theorem dX0_layOut_8 : decode cX0_layOut 8 = .ok (.aload_n 0, 1) := by decide +kernel
theorem dX0_layOut_9 : decode cX0_layOut 9 = .ok (.getfield 32, 3) := by decide +kernel
theorem dX0_layOut_12 : decode cX0_layOut 12 = .ok (.iload_n 1, 1) := by decide +kernel
theorem dX0_layOut_13 : decode cX0_layOut 13 = .ok (.iload_n 2, 1) := by decide +kernel
theorem dX0_layOut_14 : decode cX0_layOut 14 = .ok (.invokestatic 48, 3) := by decide +kernel
theorem dX0_layOut_17 : decode cX0_layOut 17 = .ok (.iconst 0, 1) := by decide +kernel
theorem dX0_layOut_18 : decode cX0_layOut 18 = .ok (.iastore, 1) := by decide +kernel
theorem dX0_layOut_19 : decode cX0_layOut 19 = .ok (.iinc 2 1, 3) := by decide +kernel
theorem dX0_layOut_22 : decode cX0_layOut 22 = .ok (.goto (-20), 3) := by decide +kernel
theorem dX0_layOut_25 : decode cX0_layOut 25 = .ok (.iconst 0, 1) := by decide +kernel
theorem dX0_layOut_26 : decode cX0_layOut 26 = .ok (.istore_n 2, 1) := by decide +kernel
theorem dX0_layOut_27 : decode cX0_layOut 27 = .ok (.iload_n 2, 1) := by decide +kernel
theorem dX0_layOut_28 : decode cX0_layOut 28 = .ok (.bipush 6, 2) := by decide +kernel
theorem dX0_layOut_30 : decode cX0_layOut 30 = .ok (.if_icmp .ge 33, 3) := by decide +kernel
theorem dX0_layOut_33 : decode cX0_layOut 33 = .ok (.aload_n 0, 1) := by decide +kernel
theorem dX0_layOut_34 : decode cX0_layOut 34 = .ok (.iload_n 1, 1) := by decide +kernel
theorem dX0_layOut_35 : decode cX0_layOut 35 = .ok (.iload_n 2, 1) := by decide +kernel
theorem dX0_layOut_36 : decode cX0_layOut 36 = .ok (.invokevirtual 95, 3) := by decide +kernel
theorem dX0_layOut_39 : decode cX0_layOut 39 = .ok (.ifCond .eq 18, 3) := by decide +kernel
theorem dX0_layOut_42 : decode cX0_layOut 42 = .ok (.aload_n 0, 1) := by decide +kernel
theorem dX0_layOut_43 : decode cX0_layOut 43 = .ok (.iload_n 1, 1) := by decide +kernel
theorem dX0_layOut_44 : decode cX0_layOut 44 = .ok (.aload_n 0, 1) := by decide +kernel
theorem dX0_layOut_45 : decode cX0_layOut 45 = .ok (.getfield 26, 3) := by decide +kernel
theorem dX0_layOut_48 : decode cX0_layOut 48 = .ok (.iload_n 1, 1) := by decide +kernel
theorem dX0_layOut_49 : decode cX0_layOut 49 = .ok (.iload_n 2, 1) := by decide +kernel
theorem dX0_layOut_50 : decode cX0_layOut 50 = .ok (.invokestatic 48, 3) := by decide +kernel
theorem dX0_layOut_53 : decode cX0_layOut 53 = .ok (.iaload, 1) := by decide +kernel
theorem dX0_layOut_54 : decode cX0_layOut 54 = .ok (.invokevirtual 118, 3) := by decide +kernel
theorem dX0_layOut_57 : decode cX0_layOut 57 = .ok (.iinc 2 1, 3) := by decide +kernel
theorem dX0_layOut_60 : decode cX0_layOut 60 = .ok (.goto (-33), 3) := by decide +kernel
theorem dX0_layOut_63 : decode cX0_layOut 63 = .ok (.return_, 1) := by decide +kernel
set_option maxRecDepth 20000 in
theorem ggX0_putInRow_X0_at : GoodIn wsX0_putInRow wsX0_at := goodIn_r _ [5] (by decide +kernel) (by decide +kernel)
set_option maxRecDepth 20000 in
theorem gX0_putInRow_X0_at : GoodIn wsX0_putInRow (va_wsS RX0 48 yX0_at wsX0_at) := goodIn_app (goodIn_of _ (by decide +kernel)) ggX0_putInRow_X0_at
theorem dX0_putInRow_0 : decode cX0_putInRow 0 = .ok (.iload_n 2, 1) := by decide +kernel
theorem dX0_putInRow_1 : decode cX0_putInRow 1 = .ok (.istore_n 3, 1) := by decide +kernel
theorem dX0_putInRow_2 : decode cX0_putInRow 2 = .ok (.iconst 0, 1) := by decide +kernel
theorem dX0_putInRow_3 : decode cX0_putInRow 3 = .ok (.istore 4, 2) := by decide +kernel
theorem dX0_putInRow_5 : decode cX0_putInRow 5 = .ok (.iload 4, 2) := by decide +kernel
theorem dX0_putInRow_7 : decode cX0_putInRow 7 = .ok (.bipush 6, 2) := by decide +kernel
theorem dX0_putInRow_9 : decode cX0_putInRow 9 = .ok (.if_icmp .ge 43, 3) := by decide +kernel
theorem dX0_putInRow_12 : decode cX0_putInRow 12 = .ok (.aload_n 0, 1) := by decide +kernel
theorem dX0_putInRow_13 : decode cX0_putInRow 13 = .ok (.getfield 32, 3) := by decide +kernel
theorem dX0_putInRow_16 : decode cX0_putInRow 16 = .ok (.iload_n 1, 1) := by decide +kernel
theorem dX0_putInRow_17 : decode cX0_putInRow 17 = .ok (.iload 4, 2) := by decide +kernel
theorem dX0_putInRow_19 : decode cX0_putInRow 19 = .ok (.invokestatic 48, 3) := by decide +kernel
theorem dX0_putInRow_22 : decode cX0_putInRow 22 = .ok (.iaload, 1) := by decide +kernel
theorem dX0_putInRow_23 : decode cX0_putInRow 23 = .ok (.istore 5, 2) := by decide +kernel
theorem dX0_putInRow_25 : decode cX0_putInRow 25 = .ok (.iload_n 3, 1) := by decide +kernel
theorem dX0_putInRow_26 : decode cX0_putInRow 26 = .ok (.iload 5, 2) := by decide +kernel
theorem dX0_putInRow_28 : decode cX0_putInRow 28 = .ok (.if_icmp .le 18, 3) := by decide +kernel
theorem dX0_putInRow_31 : decode cX0_putInRow 31 = .ok (.aload_n 0, 1) := by decide +kernel
theorem dX0_putInRow_32 : decode cX0_putInRow 32 = .ok (.getfield 32, 3) := by decide +kernel
theorem dX0_putInRow_35 : decode cX0_putInRow 35 = .ok (.iload_n 1, 1) := by decide +kernel
theorem dX0_putInRow_36 : decode cX0_putInRow 36 = .ok (.iload 4, 2) := by decide +kernel
theorem dX0_putInRow_38 : decode cX0_putInRow 38 = .ok (.invokestatic 48, 3) := by decide +kernel
theorem dX0_putInRow_41 : decode cX0_putInRow 41 = .ok (.iload_n 3, 1) := by decide +kernel
theorem dX0_putInRow_42 : decode cX0_putInRow 42 = .ok (.iastore, 1) := by decide +kernel
theorem dX0_putInRow_43 : decode cX0_putInRow 43 = .ok (.iload 5, 2) := by decide +kernel
theorem dX0_putInRow_45 : decode cX0_putInRow 45 = .ok (.istore_n 3, 1) := by decide +kernel
theorem dX0_putInRow_46 : decode cX0_putInRow 46 = .ok (.iinc 4 1, 3) := by decide +kernel
theorem dX0_putInRow_49 : decode cX0_putInRow 49 = .ok (.goto (-44), 3) := by decide +kernel
theorem dX0_putInRow_52 : decode cX0_putInRow 52 = .ok (.return_, 1) := by decide +kernel
set_option maxRecDepth 20000 in
theorem ggX0_isAhead_X0_at : GoodIn wsX0_isAhead wsX0_at := goodIn_r _ [5] (by decide +kernel) (by decide +kernel)
set_option maxRecDepth 20000 in
theorem gX0_isAhead_X0_at : GoodIn wsX0_isAhead (va_wsS RX0 48 yX0_at wsX0_at) := goodIn_app (goodIn_of _ (by decide +kernel)) ggX0_isAhead_X0_at
theorem dX0_isAhead_0 : decode cX0_isAhead 0 = .ok (.iconst 0, 1) := by decide +kernel
theorem dX0_isAhead_1 : decode cX0_isAhead 1 = .ok (.istore_n 3, 1) := by decide +kernel
theorem dX0_isAhead_2 : decode cX0_isAhead 2 = .ok (.iload_n 3, 1) := by decide +kernel
theorem dX0_isAhead_3 : decode cX0_isAhead 3 = .ok (.bipush 6, 2) := by decide +kernel
theorem dX0_isAhead_5 : decode cX0_isAhead 5 = .ok (.if_icmp .ge 53, 3) := by decide +kernel
theorem dX0_isAhead_8 : decode cX0_isAhead 8 = .ok (.aload_n 0, 1) := by decide +kernel
theorem dX0_isAhead_9 : decode cX0_isAhead 9 = .ok (.getfield 32, 3) := by decide +kernel
theorem dX0_isAhead_12 : decode cX0_isAhead 12 = .ok (.iload_n 1, 1) := by decide +kernel
theorem dX0_isAhead_13 : decode cX0_isAhead 13 = .ok (.iload_n 3, 1) := by decide +kernel
theorem dX0_isAhead_14 : decode cX0_isAhead 14 = .ok (.invokestatic 48, 3) := by decide +kernel
theorem dX0_isAhead_17 : decode cX0_isAhead 17 = .ok (.iaload, 1) := by decide +kernel
theorem dX0_isAhead_18 : decode cX0_isAhead 18 = .ok (.istore 4, 2) := by decide +kernel
theorem dX0_isAhead_20 : decode cX0_isAhead 20 = .ok (.aload_n 0, 1) := by decide +kernel
theorem dX0_isAhead_21 : decode cX0_isAhead 21 = .ok (.getfield 32, 3) := by decide +kernel
theorem dX0_isAhead_24 : decode cX0_isAhead 24 = .ok (.iload_n 2, 1) := by decide +kernel
theorem dX0_isAhead_25 : decode cX0_isAhead 25 = .ok (.iload_n 3, 1) := by decide +kernel
theorem dX0_isAhead_26 : decode cX0_isAhead 26 = .ok (.invokestatic 48, 3) := by decide +kernel
theorem dX0_isAhead_29 : decode cX0_isAhead 29 = .ok (.iaload, 1) := by decide +kernel
theorem dX0_isAhead_30 : decode cX0_isAhead 30 = .ok (.istore 5, 2) := by decide +kernel
theorem dX0_isAhead_32 : decode cX0_isAhead 32 = .ok (.iload 4, 2) := by decide +kernel
theorem dX0_isAhead_34 : decode cX0_isAhead 34 = .ok (.iload 5, 2) := by decide +kernel
theorem dX0_isAhead_36 : decode cX0_isAhead 36 = .ok (.if_icmp .eq 16, 3) := by decide +kernel
theorem dX0_isAhead_39 : decode cX0_isAhead 39 = .ok (.iload 4, 2) := by decide +kernel
theorem dX0_isAhead_41 : decode cX0_isAhead 41 = .ok (.iload 5, 2) := by decide +kernel
theorem dX0_isAhead_43 : decode cX0_isAhead 43 = .ok (.if_icmp .le 7, 3) := by decide +kernel
theorem dX0_isAhead_46 : decode cX0_isAhead 46 = .ok (.iconst 1, 1) := by decide +kernel
theorem dX0_isAhead_47 : decode cX0_isAhead 47 = .ok (.goto 4, 3) := by decide +kernel
theorem dX0_isAhead_50 : decode cX0_isAhead 50 = .ok (.iconst 0, 1) := by decide +kernel
theorem dX0_isAhead_51 : decode cX0_isAhead 51 = .ok (.ireturn, 1) := by decide +kernel
theorem dX0_isAhead_52 : decode cX0_isAhead 52 = .ok (.iinc 3 1, 3) := by decide +kernel
theorem dX0_isAhead_55 : decode cX0_isAhead 55 = .ok (.goto (-53), 3) := by decide +kernel
theorem dX0_isAhead_58 : decode cX0_isAhead 58 = .ok (.iconst 0, 1) := by decide +kernel
theorem dX0_isAhead_59 : decode cX0_isAhead 59 = .ok (.ireturn, 1) := by decide +kernel
set_option maxRecDepth 20000 in
theorem ggX0_howManyJumpBefore_X0_jumpsBefore : GoodIn wsX0_howManyJumpBefore wsX0_jumpsBefore := goodIn_r _ [6, 7, 8, 9, 5, 10, 11, 12, 13, 14, 15, 16, 17, 18, 19, 20, 21, 22] (by decide +kernel) (by decide +kernel)
set_option maxRecDepth 20000 in
theorem gX0_howManyJumpBefore_X0_jumpsBefore : GoodIn wsX0_howManyJumpBefore (wsV RX0 122 RX0 yX0_jumpsBefore wsX0_jumpsBefore) := goodIn_app (goodIn_of _ (by decide +kernel)) ggX0_howManyJumpBefore_X0_jumpsBefore
theorem dX0_howManyJumpBefore_0 : decode cX0_howManyJumpBefore 0 = .ok (.iconst 0, 1) := by decide +kernel
theorem dX0_howManyJumpBefore_1 : decode cX0_howManyJumpBefore 1 = .ok (.istore_n 2, 1) := by decide +kernel
theorem dX0_howManyJumpBefore_2 : decode cX0_howManyJumpBefore 2 = .ok (.iconst 0, 1) := by decide +kernel
theorem dX0_howManyJumpBefore_3 : decode cX0_howManyJumpBefore 3 = .ok (.istore_n 3, 1) := by decide +kernel
theorem dX0_howManyJumpBefore_4 : decode cX0_howManyJumpBefore 4 = .ok (.iload_n 3, 1) := by decide +kernel
theorem dX0_howManyJumpBefore_5 : decode cX0_howManyJumpBefore 5 = .ok (.aload_n 0, 1) := by decide +kernel
theorem dX0_howManyJumpBefore_6 : decode cX0_howManyJumpBefore 6 = .ok (.getfield 7, 3) := by decide +kernel
theorem dX0_howManyJumpBefore_9 : decode cX0_howManyJumpBefore 9 = .ok (.if_icmp .ge 21, 3) := by decide +kernel
theorem dX0_howManyJumpBefore_12 : decode cX0_howManyJumpBefore 12 = .ok (.aload_n 0, 1) := by decide +kernel
theorem dX0_howManyJumpBefore_13 : decode cX0_howManyJumpBefore 13 = .ok (.iload_n 3, 1) := by decide +kernel
theorem dX0_howManyJumpBefore_14 : decode cX0_howManyJumpBefore 14 = .ok (.iload_n 1, 1) := by decide +kernel
theorem dX0_howManyJumpBefore_15 : decode cX0_howManyJumpBefore 15 = .ok (.invokevirtual 122, 3) := by decide +kernel
theorem dX0_howManyJumpBefore_18 : decode cX0_howManyJumpBefore 18 = .ok (.ifCond .eq 6, 3) := by decide +kernel
theorem dX0_howManyJumpBefore_21 : decode cX0_howManyJumpBefore 21 = .ok (.iinc 2 1, 3) := by decide +kernel
theorem dX0_howManyJumpBefore_24 : decode cX0_howManyJumpBefore 24 = .ok (.iinc 3 1, 3) := by decide +kernel
theorem dX0_howManyJumpBefore_27 : decode cX0_howManyJumpBefore 27 = .ok (.goto (-23), 3) := by decide +kernel
theorem dX0_howManyJumpBefore_30 : decode cX0_howManyJumpBefore 30 = .ok (.iload_n 2, 1) := by decide +kernel
theorem dX0_howManyJumpBefore_31 : decode cX0_howManyJumpBefore 31 = .ok (.ireturn, 1) := by decide +kernel
set_option maxRecDepth 20000 in
theorem ggX0_jumpsBefore_X0_isAhead : GoodIn wsX0_jumpsBefore wsX0_isAhead := goodIn_r _ [5, 6, 7, 8, 4, 9, 10, 11, 12, 13, 14, 15, 16, 17] (by decide +kernel) (by decide +kernel)
set_option maxRecDepth 20000 in
theorem gX0_jumpsBefore_X0_isAhead : GoodIn wsX0_jumpsBefore (wsV RX0 85 RX0 yX0_isAhead wsX0_isAhead) := goodIn_app (goodIn_of _ (by decide +kernel)) ggX0_jumpsBefore_X0_isAhead
theorem dX0_jumpsBefore_0 : decode cX0_jumpsBefore 0 = .ok (.aload_n 0, 1) := by decide +kernel
theorem dX0_jumpsBefore_1 : decode cX0_jumpsBefore 1 = .ok (.iload_n 2, 1) := by decide +kernel
theorem dX0_jumpsBefore_2 : decode cX0_jumpsBefore 2 = .ok (.iload_n 1, 1) := by decide +kernel
theorem dX0_jumpsBefore_3 : decode cX0_jumpsBefore 3 = .ok (.invokevirtual 85, 3) := by decide +kernel
theorem dX0_jumpsBefore_6 : decode cX0_jumpsBefore 6 = .ok (.ifCond .ne 17, 3) := by decide +kernel
theorem dX0_jumpsBefore_9 : decode cX0_jumpsBefore 9 = .ok (.aload_n 0, 1) := by decide +kernel
theorem dX0_jumpsBefore_10 : decode cX0_jumpsBefore 10 = .ok (.iload_n 1, 1) := by decide +kernel
theorem dX0_jumpsBefore_11 : decode cX0_jumpsBefore 11 = .ok (.iload_n 2, 1) := by decide +kernel
theorem dX0_jumpsBefore_12 : decode cX0_jumpsBefore 12 = .ok (.invokevirtual 85, 3) := by decide +kernel
theorem dX0_jumpsBefore_15 : decode cX0_jumpsBefore 15 = .ok (.ifCond .ne 12, 3) := by decide +kernel
theorem dX0_jumpsBefore_18 : decode cX0_jumpsBefore 18 = .ok (.iload_n 1, 1) := by decide +kernel
theorem dX0_jumpsBefore_19 : decode cX0_jumpsBefore 19 = .ok (.iload_n 2, 1) := by decide +kernel
theorem dX0_jumpsBefore_20 : decode cX0_jumpsBefore 20 = .ok (.if_icmp .ge 7, 3) := by decide +kernel
theorem dX0_jumpsBefore_23 : decode cX0_jumpsBefore 23 = .ok (.iconst 1, 1) := by decide +kernel
theorem dX0_jumpsBefore_24 : decode cX0_jumpsBefore 24 = .ok (.goto 4, 3) := by decide +kernel
theorem dX0_jumpsBefore_27 : decode cX0_jumpsBefore 27 = .ok (.iconst 0, 1) := by decide +kernel
theorem dX0_jumpsBefore_28 : decode cX0_jumpsBefore 28 = .ok (.ireturn, 1) := by decide +kernel
set_option maxRecDepth 20000 in
theorem ggX0_beatsEarlierRounds_X0_at : GoodIn wsX0_beatsEarlierRounds wsX0_at := goodIn_r _ [5] (by decide +kernel) (by decide +kernel)
set_option maxRecDepth 20000 in
theorem gX0_beatsEarlierRounds_X0_at : GoodIn wsX0_beatsEarlierRounds (va_wsS RX0 48 yX0_at wsX0_at) := goodIn_app (goodIn_of _ (by decide +kernel)) ggX0_beatsEarlierRounds_X0_at
set_option maxRecDepth 20000 in
theorem ggX0_beatsEarlierRounds_X0_valueFits : GoodIn wsX0_beatsEarlierRounds wsX0_valueFits := goodIn_r _ [8, 9, 10, 4, 11, 12, 13, 14] (by decide +kernel) (by decide +kernel)
set_option maxRecDepth 20000 in
theorem gX0_beatsEarlierRounds_X0_valueFits : GoodIn wsX0_beatsEarlierRounds (va_wsS RX0 65 yX0_valueFits wsX0_valueFits) := goodIn_app (goodIn_of _ (by decide +kernel)) ggX0_beatsEarlierRounds_X0_valueFits
theorem dX0_beatsEarlierRounds_0 : decode cX0_beatsEarlierRounds 0 = .ok (.aload_n 0, 1) := by decide +kernel
theorem dX0_beatsEarlierRounds_1 : decode cX0_beatsEarlierRounds 1 = .ok (.getfield 26, 3) := by decide +kernel
theorem dX0_beatsEarlierRounds_4 : decode cX0_beatsEarlierRounds 4 = .ok (.iload_n 1, 1) := by decide +kernel
theorem dX0_beatsEarlierRounds_5 : decode cX0_beatsEarlierRounds 5 = .ok (.iload_n 2, 1) := by decide +kernel
theorem dX0_beatsEarlierRounds_6 : decode cX0_beatsEarlierRounds 6 = .ok (.invokestatic 48, 3) := by decide +kernel
theorem dX0_beatsEarlierRounds_9 : decode cX0_beatsEarlierRounds 9 = .ok (.iaload, 1) := by decide +kernel
theorem dX0_beatsEarlierRounds_10 : decode cX0_beatsEarlierRounds 10 = .ok (.istore_n 3, 1) := by decide +kernel
theorem dX0_beatsEarlierRounds_11 : decode cX0_beatsEarlierRounds 11 = .ok (.iload_n 3, 1) := by decide +kernel
theorem dX0_beatsEarlierRounds_12 : decode cX0_beatsEarlierRounds 12 = .ok (.ifCond .ne 5, 3) := by decide +kernel
theorem dX0_beatsEarlierRounds_15 : decode cX0_beatsEarlierRounds 15 = .ok (.iconst 0, 1) := by decide +kernel
theorem dX0_beatsEarlierRounds_16 : decode cX0_beatsEarlierRounds 16 = .ok (.ireturn, 1) := by decide +kernel
theorem dX0_beatsEarlierRounds_17 : decode cX0_beatsEarlierRounds 17 = .ok (.iconst 0, 1) := by decide +kernel
theorem dX0_beatsEarlierRounds_18 : decode cX0_beatsEarlierRounds 18 = .ok (.istore 4, 2) := by decide +kernel
theorem dX0_beatsEarlierRounds_20 : decode cX0_beatsEarlierRounds 20 = .ok (.iload 4, 2) := by decide +kernel
theorem dX0_beatsEarlierRounds_22 : decode cX0_beatsEarlierRounds 22 = .ok (.iload_n 2, 1) := by decide +kernel
theorem dX0_beatsEarlierRounds_23 : decode cX0_beatsEarlierRounds 23 = .ok (.if_icmp .ge 31, 3) := by decide +kernel
theorem dX0_beatsEarlierRounds_26 : decode cX0_beatsEarlierRounds 26 = .ok (.iconst 3, 1) := by decide +kernel
theorem dX0_beatsEarlierRounds_27 : decode cX0_beatsEarlierRounds 27 = .ok (.iconst 0, 1) := by decide +kernel
theorem dX0_beatsEarlierRounds_28 : decode cX0_beatsEarlierRounds 28 = .ok (.aload_n 0, 1) := by decide +kernel
theorem dX0_beatsEarlierRounds_29 : decode cX0_beatsEarlierRounds 29 = .ok (.getfield 26, 3) := by decide +kernel
theorem dX0_beatsEarlierRounds_32 : decode cX0_beatsEarlierRounds 32 = .ok (.iload_n 1, 1) := by decide +kernel
theorem dX0_beatsEarlierRounds_33 : decode cX0_beatsEarlierRounds 33 = .ok (.iload 4, 2) := by decide +kernel
theorem dX0_beatsEarlierRounds_35 : decode cX0_beatsEarlierRounds 35 = .ok (.invokestatic 48, 3) := by decide +kernel
theorem dX0_beatsEarlierRounds_38 : decode cX0_beatsEarlierRounds 38 = .ok (.iaload, 1) := by decide +kernel
theorem dX0_beatsEarlierRounds_39 : decode cX0_beatsEarlierRounds 39 = .ok (.iload_n 3, 1) := by decide +kernel
theorem dX0_beatsEarlierRounds_40 : decode cX0_beatsEarlierRounds 40 = .ok (.invokestatic 65, 3) := by decide +kernel
theorem dX0_beatsEarlierRounds_43 : decode cX0_beatsEarlierRounds 43 = .ok (.ifCond .eq 5, 3) := by decide +kernel
theorem dX0_beatsEarlierRounds_46 : decode cX0_beatsEarlierRounds 46 = .ok (.iconst 0, 1) := by decide +kernel
theorem dX0_beatsEarlierRounds_47 : decode cX0_beatsEarlierRounds 47 = .ok (.ireturn, 1) := by decide +kernel
theorem dX0_beatsEarlierRounds_48 : decode cX0_beatsEarlierRounds 48 = .ok (.iinc 4 1, 3) := by decide +kernel
theorem dX0_beatsEarlierRounds_51 : decode cX0_beatsEarlierRounds 51 = .ok (.goto (-31), 3) := by decide +kernel
theorem dX0_beatsEarlierRounds_54 : decode cX0_beatsEarlierRounds 54 = .ok (.iconst 1, 1) := by decide +kernel
theorem dX0_beatsEarlierRounds_55 : decode cX0_beatsEarlierRounds 55 = .ok (.ireturn, 1) := by decide +kernel
theorem dX0_howManyJumped_0 : decode cX0_howManyJumped 0 = .ok (.iconst 0, 1) := by decide +kernel
theorem dX0_howManyJumped_1 : decode cX0_howManyJumped 1 = .ok (.istore_n 1, 1) := by decide +kernel
theorem dX0_howManyJumped_2 : decode cX0_howManyJumped 2 = .ok (.iconst 0, 1) := by decide +kernel
theorem dX0_howManyJumped_3 : decode cX0_howManyJumped 3 = .ok (.istore_n 2, 1) := by decide +kernel
theorem dX0_howManyJumped_4 : decode cX0_howManyJumped 4 = .ok (.iload_n 2, 1) := by decide +kernel
theorem dX0_howManyJumped_5 : decode cX0_howManyJumped 5 = .ok (.aload_n 0, 1) := by decide +kernel
theorem dX0_howManyJumped_6 : decode cX0_howManyJumped 6 = .ok (.getfield 7, 3) := by decide +kernel
theorem dX0_howManyJumped_9 : decode cX0_howManyJumped 9 = .ok (.if_icmp .ge 18, 3) := by decide +kernel
theorem dX0_howManyJumped_12 : decode cX0_howManyJumped 12 = .ok (.iload_n 1, 1) := by decide +kernel
theorem dX0_howManyJumped_13 : decode cX0_howManyJumped 13 = .ok (.aload_n 0, 1) := by decide +kernel
theorem dX0_howManyJumped_14 : decode cX0_howManyJumped 14 = .ok (.getfield 23, 3) := by decide +kernel
theorem dX0_howManyJumped_17 : decode cX0_howManyJumped 17 = .ok (.iload_n 2, 1) := by decide +kernel
theorem dX0_howManyJumped_18 : decode cX0_howManyJumped 18 = .ok (.iaload, 1) := by decide +kernel
theorem dX0_howManyJumped_19 : decode cX0_howManyJumped 19 = .ok (.iadd, 1) := by decide +kernel
theorem dX0_howManyJumped_20 : decode cX0_howManyJumped 20 = .ok (.istore_n 1, 1) := by decide +kernel
theorem dX0_howManyJumped_21 : decode cX0_howManyJumped 21 = .ok (.iinc 2 1, 3) := by decide +kernel
theorem dX0_howManyJumped_24 : decode cX0_howManyJumped 24 = .ok (.goto (-20), 3) := by decide +kernel
theorem dX0_howManyJumped_27 : decode cX0_howManyJumped 27 = .ok (.iload_n 1, 1) := by decide +kernel
theorem dX0_howManyJumped_28 : decode cX0_howManyJumped 28 = .ok (.ireturn, 1) := by decide +kernel
theorem dX0_howManyMarked_0 : decode cX0_howManyMarked 0 = .ok (.iconst 0, 1) := by decide +kernel
theorem dX0_howManyMarked_1 : decode cX0_howManyMarked 1 = .ok (.istore_n 1, 1) := by decide +kernel
theorem dX0_howManyMarked_2 : decode cX0_howManyMarked 2 = .ok (.iconst 0, 1) := by decide +kernel
theorem dX0_howManyMarked_3 : decode cX0_howManyMarked 3 = .ok (.istore_n 2, 1) := by decide +kernel
theorem dX0_howManyMarked_4 : decode cX0_howManyMarked 4 = .ok (.iload_n 2, 1) := by decide +kernel
theorem dX0_howManyMarked_5 : decode cX0_howManyMarked 5 = .ok (.aload_n 0, 1) := by decide +kernel
theorem dX0_howManyMarked_6 : decode cX0_howManyMarked 6 = .ok (.getfield 26, 3) := by decide +kernel
theorem dX0_howManyMarked_9 : decode cX0_howManyMarked 9 = .ok (.arraylength, 1) := by decide +kernel
theorem dX0_howManyMarked_10 : decode cX0_howManyMarked 10 = .ok (.if_icmp .ge 21, 3) := by decide +kernel
theorem dX0_howManyMarked_13 : decode cX0_howManyMarked 13 = .ok (.aload_n 0, 1) := by decide +kernel
theorem dX0_howManyMarked_14 : decode cX0_howManyMarked 14 = .ok (.getfield 26, 3) := by decide +kernel
theorem dX0_howManyMarked_17 : decode cX0_howManyMarked 17 = .ok (.iload_n 2, 1) := by decide +kernel
theorem dX0_howManyMarked_18 : decode cX0_howManyMarked 18 = .ok (.iaload, 1) := by decide +kernel
theorem dX0_howManyMarked_19 : decode cX0_howManyMarked 19 = .ok (.ifCond .eq 6, 3) := by decide +kernel
theorem dX0_howManyMarked_22 : decode cX0_howManyMarked 22 = .ok (.iinc 1 1, 3) := by decide +kernel
theorem dX0_howManyMarked_25 : decode cX0_howManyMarked 25 = .ok (.iinc 2 1, 3) := by decide +kernel
theorem dX0_howManyMarked_28 : decode cX0_howManyMarked 28 = .ok (.goto (-24), 3) := by decide +kernel
theorem dX0_howManyMarked_31 : decode cX0_howManyMarked 31 = .ok (.iload_n 1, 1) := by decide +kernel
theorem dX0_howManyMarked_32 : decode cX0_howManyMarked 32 = .ok (.ireturn, 1) := by decide +kernel
set_option maxRecDepth 20000 in
theorem ggX0_howManyLegal_X0_isLegal : GoodIn wsX0_howManyLegal wsX0_isLegal := goodIn_r _ [6, 7, 8, 9, 10, 11, 5, 12, 13, 14, 15, 16, 17, 18, 19, 20, 21, 22, 23, 24, 25, 26, 27, 28, 29] (by decide +kernel) (by decide +kernel)
set_option maxRecDepth 20000 in
theorem gX0_howManyLegal_X0_isLegal : GoodIn wsX0_howManyLegal (wsV RX0 95 RX0 yX0_isLegal wsX0_isLegal) := goodIn_app (goodIn_of _ (by decide +kernel)) ggX0_howManyLegal_X0_isLegal
theorem dX0_howManyLegal_0 : decode cX0_howManyLegal 0 = .ok (.iconst 0, 1) := by decide +kernel
theorem dX0_howManyLegal_1 : decode cX0_howManyLegal 1 = .ok (.istore_n 1, 1) := by decide +kernel
theorem dX0_howManyLegal_2 : decode cX0_howManyLegal 2 = .ok (.iconst 0, 1) := by decide +kernel
theorem dX0_howManyLegal_3 : decode cX0_howManyLegal 3 = .ok (.istore_n 2, 1) := by decide +kernel
theorem dX0_howManyLegal_4 : decode cX0_howManyLegal 4 = .ok (.iload_n 2, 1) := by decide +kernel
theorem dX0_howManyLegal_5 : decode cX0_howManyLegal 5 = .ok (.aload_n 0, 1) := by decide +kernel
theorem dX0_howManyLegal_6 : decode cX0_howManyLegal 6 = .ok (.getfield 7, 3) := by decide +kernel
theorem dX0_howManyLegal_9 : decode cX0_howManyLegal 9 = .ok (.if_icmp .ge 35, 3) := by decide +kernel
theorem dX0_howManyLegal_12 : decode cX0_howManyLegal 12 = .ok (.iconst 0, 1) := by decide +kernel
theorem dX0_howManyLegal_13 : decode cX0_howManyLegal 13 = .ok (.istore_n 3, 1) := by decide +kernel
theorem dX0_howManyLegal_14 : decode cX0_howManyLegal 14 = .ok (.iload_n 3, 1) := by decide +kernel
theorem dX0_howManyLegal_15 : decode cX0_howManyLegal 15 = .ok (.bipush 6, 2) := by decide +kernel
theorem dX0_howManyLegal_17 : decode cX0_howManyLegal 17 = .ok (.if_icmp .ge 21, 3) := by decide +kernel
theorem dX0_howManyLegal_20 : decode cX0_howManyLegal 20 = .ok (.aload_n 0, 1) := by decide +kernel
theorem dX0_howManyLegal_21 : decode cX0_howManyLegal 21 = .ok (.iload_n 2, 1) := by decide +kernel
theorem dX0_howManyLegal_22 : decode cX0_howManyLegal 22 = .ok (.iload_n 3, 1) := by decide +kernel
theorem dX0_howManyLegal_23 : decode cX0_howManyLegal 23 = .ok (.invokevirtual 95, 3) := by decide +kernel
theorem dX0_howManyLegal_26 : decode cX0_howManyLegal 26 = .ok (.ifCond .eq 6, 3) := by decide +kernel
theorem dX0_howManyLegal_29 : decode cX0_howManyLegal 29 = .ok (.iinc 1 1, 3) := by decide +kernel
theorem dX0_howManyLegal_32 : decode cX0_howManyLegal 32 = .ok (.iinc 3 1, 3) := by decide +kernel
theorem dX0_howManyLegal_35 : decode cX0_howManyLegal 35 = .ok (.goto (-21), 3) := by decide +kernel
theorem dX0_howManyLegal_38 : decode cX0_howManyLegal 38 = .ok (.iinc 2 1, 3) := by decide +kernel
theorem dX0_howManyLegal_41 : decode cX0_howManyLegal 41 = .ok (.goto (-37), 3) := by decide +kernel
theorem dX0_howManyLegal_44 : decode cX0_howManyLegal 44 = .ok (.iload_n 1, 1) := by decide +kernel
theorem dX0_howManyLegal_45 : decode cX0_howManyLegal 45 = .ok (.ireturn, 1) := by decide +kernel
end
section
theorem dX1_init_0 : decode cX1_init 0 = .ok (.aload_n 0, 1) := by decide +kernel
theorem dX1_init_1 : decode cX1_init 1 = .ok (.invokespecial 1, 3) := by decide +kernel
theorem dX1_init_4 : decode cX1_init 4 = .ok (.aload_n 0, 1) := by decide +kernel
theorem dX1_init_5 : decode cX1_init 5 = .ok (.bipush 8, 2) := by decide +kernel
theorem dX1_init_7 : decode cX1_init 7 = .ok (.newarray .int, 2) := by decide +kernel
theorem dX1_init_9 : decode cX1_init 9 = .ok (.putfield 7, 3) := by decide +kernel
theorem dX1_init_12 : decode cX1_init 12 = .ok (.aload_n 0, 1) := by decide +kernel
theorem dX1_init_13 : decode cX1_init 13 = .ok (.bipush 8, 2) := by decide +kernel
theorem dX1_init_15 : decode cX1_init 15 = .ok (.newarray .int, 2) := by decide +kernel
theorem dX1_init_17 : decode cX1_init 17 = .ok (.putfield 13, 3) := by decide +kernel
theorem dX1_init_20 : decode cX1_init 20 = .ok (.aload_n 0, 1) := by decide +kernel
theorem dX1_init_21 : decode cX1_init 21 = .ok (.bipush 48, 2) := by decide +kernel
theorem dX1_init_23 : decode cX1_init 23 = .ok (.newarray .int, 2) := by decide +kernel
theorem dX1_init_25 : decode cX1_init 25 = .ok (.putfield 16, 3) := by decide +kernel
theorem dX1_init_28 : decode cX1_init 28 = .ok (.aload_n 0, 1) := by decide +kernel
theorem dX1_init_29 : decode cX1_init 29 = .ok (.bipush 48, 2) := by decide +kernel
theorem dX1_init_31 : decode cX1_init 31 = .ok (.newarray .int, 2) := by decide +kernel
theorem dX1_init_33 : decode cX1_init 33 = .ok (.putfield 19, 3) := by decide +kernel
theorem dX1_init_36 : decode cX1_init 36 = .ok (.aload_n 0, 1) := by decide +kernel
theorem dX1_init_37 : decode cX1_init 37 = .ok (.bipush 6, 2) := by decide +kernel
theorem dX1_init_39 : decode cX1_init 39 = .ok (.newarray .int, 2) := by decide +kernel
theorem dX1_init_41 : decode cX1_init 41 = .ok (.dup, 1) := by decide +kernel
theorem dX1_init_42 : decode cX1_init 42 = .ok (.iconst 0, 1) := by decide +kernel
theorem dX1_init_43 : decode cX1_init 43 = .ok (.iconst 1, 1) := by decide +kernel
theorem dX1_init_44 : decode cX1_init 44 = .ok (.iastore, 1) := by decide +kernel
theorem dX1_init_45 : decode cX1_init 45 = .ok (.dup, 1) := by decide +kernel
theorem dX1_init_46 : decode cX1_init 46 = .ok (.iconst 1, 1) := by decide +kernel
theorem dX1_init_47 : decode cX1_init 47 = .ok (.iconst 3, 1) := by decide +kernel
theorem dX1_init_48 : decode cX1_init 48 = .ok (.iastore, 1) := by decide +kernel
theorem dX1_init_49 : decode cX1_init 49 = .ok (.dup, 1) := by decide +kernel
theorem dX1_init_50 : decode cX1_init 50 = .ok (.iconst 2, 1) := by decide +kernel
theorem dX1_init_51 : decode cX1_init 51 = .ok (.iconst 4, 1) := by decide +kernel
theorem dX1_init_52 : decode cX1_init 52 = .ok (.iastore, 1) := by decide +kernel
theorem dX1_init_53 : decode cX1_init 53 = .ok (.dup, 1) := by decide +kernel
theorem dX1_init_54 : decode cX1_init 54 = .ok (.iconst 3, 1) := by decide +kernel
theorem dX1_init_55 : decode cX1_init 55 = .ok (.bipush 6, 2) := by decide +kernel
theorem dX1_init_57 : decode cX1_init 57 = .ok (.iastore, 1) := by decide +kernel
theorem dX1_init_58 : decode cX1_init 58 = .ok (.dup, 1) := by decide +kernel
theorem dX1_init_59 : decode cX1_init 59 = .ok (.iconst 4, 1) := by decide +kernel
theorem dX1_init_60 : decode cX1_init 60 = .ok (.iconst 2, 1) := by decide +kernel
theorem dX1_init_61 : decode cX1_init 61 = .ok (.iastore, 1) := by decide +kernel
theorem dX1_init_62 : decode cX1_init 62 = .ok (.dup, 1) := by decide +kernel
theorem dX1_init_63 : decode cX1_init 63 = .ok (.iconst 5, 1) := by decide +kernel
theorem dX1_init_64 : decode cX1_init 64 = .ok (.iconst 5, 1) := by decide +kernel
theorem dX1_init_65 : decode cX1_init 65 = .ok (.iastore, 1) := by decide +kernel
theorem dX1_init_66 : decode cX1_init 66 = .ok (.putfield 22, 3) := by decide +kernel
theorem dX1_init_69 : decode cX1_init 69 = .ok (.aload_n 0, 1) := by decide +kernel
theorem dX1_init_70 : decode cX1_init 70 = .ok (.iconst 0, 1) := by decide +kernel
theorem dX1_init_71 : decode cX1_init 71 = .ok (.putfield 25, 3) := by decide +kernel
theorem dX1_init_74 : decode cX1_init 74 = .ok (.aload_n 0, 1) := by decide +kernel
theorem dX1_init_75 : decode cX1_init 75 = .ok (.bipush 100, 2) := by decide +kernel
theorem dX1_init_77 : decode cX1_init 77 = .ok (.putfield 29, 3) := by decide +kernel
theorem dX1_init_80 : decode cX1_init 80 = .ok (.return_, 1) := by decide +kernel
theorem dX1_isIn_0 : decode cX1_isIn 0 = .ok (.iload_n 0, 1) := by decide +kernel
theorem dX1_isIn_1 : decode cX1_isIn 1 = .ok (.iload_n 1, 1) := by decide +kernel
theorem dX1_isIn_2 : decode cX1_isIn 2 = .ok (.if_icmp .lt 12, 3) := by decide +kernel
theorem dX1_isIn_5 : decode cX1_isIn 5 = .ok (.iload_n 0, 1) := by decide +kernel
theorem dX1_isIn_6 : decode cX1_isIn 6 = .ok (.iload_n 2, 1) := by decide +kernel
theorem dX1_isIn_7 : decode cX1_isIn 7 = .ok (.if_icmp .gt 7, 3) := by decide +kernel
theorem dX1_isIn_10 : decode cX1_isIn 10 = .ok (.iconst 1, 1) := by decide +kernel
theorem dX1_isIn_11 : decode cX1_isIn 11 = .ok (.goto 4, 3) := by decide +kernel
theorem dX1_isIn_14 : decode cX1_isIn 14 = .ok (.iconst 0, 1) := by decide +kernel
theorem dX1_isIn_15 : decode cX1_isIn 15 = .ok (.ireturn, 1) := by decide +kernel
set_option maxRecDepth 20000 in
theorem ggX1_isJumper_X1_isIn : GoodIn wsX1_isJumper wsX1_isIn := goodIn_r _ [5] (by decide +kernel) (by decide +kernel)
set_option maxRecDepth 20000 in
theorem gX1_isJumper_X1_isIn : GoodIn wsX1_isJumper (va_wsS RX1 35 yX1_isIn wsX1_isIn) := goodIn_app (goodIn_of _ (by decide +kernel)) ggX1_isJumper_X1_isIn
theorem dX1_isJumper_0 : decode cX1_isJumper 0 = .ok (.iload_n 1, 1) := by decide +kernel
theorem dX1_isJumper_1 : decode cX1_isJumper 1 = .ok (.iconst 0, 1) := by decide +kernel
theorem dX1_isJumper_2 : decode cX1_isJumper 2 = .ok (.aload_n 0, 1) := by decide +kernel
theorem dX1_isJumper_3 : decode cX1_isJumper 3 = .ok (.getfield 32, 3) := by decide +kernel
theorem dX1_isJumper_6 : decode cX1_isJumper 6 = .ok (.iconst 1, 1) := by decide +kernel
theorem dX1_isJumper_7 : decode cX1_isJumper 7 = .ok (.isub, 1) := by decide +kernel
theorem dX1_isJumper_8 : decode cX1_isJumper 8 = .ok (.invokestatic 35, 3) := by decide +kernel
theorem dX1_isJumper_11 : decode cX1_isJumper 11 = .ok (.ireturn, 1) := by decide +kernel
set_option maxRecDepth 20000 in
theorem ggX1_isRound_X1_isIn : GoodIn wsX1_isRound wsX1_isIn := goodIn_r _ [4] (by decide +kernel) (by decide +kernel)
set_option maxRecDepth 20000 in
theorem gX1_isRound_X1_isIn : GoodIn wsX1_isRound (va_wsS RX1 35 yX1_isIn wsX1_isIn) := goodIn_app (goodIn_of _ (by decide +kernel)) ggX1_isRound_X1_isIn
theorem dX1_isRound_0 : decode cX1_isRound 0 = .ok (.iload_n 0, 1) := by decide +kernel
theorem dX1_isRound_1 : decode cX1_isRound 1 = .ok (.iconst 0, 1) := by decide +kernel
theorem dX1_isRound_2 : decode cX1_isRound 2 = .ok (.iconst 5, 1) := by decide +kernel
theorem dX1_isRound_3 : decode cX1_isRound 3 = .ok (.invokestatic 35, 3) := by decide +kernel
theorem dX1_isRound_6 : decode cX1_isRound 6 = .ok (.ireturn, 1) := by decide +kernel
set_option maxRecDepth 20000 in
theorem ggX1_isCode_X1_isIn : GoodIn wsX1_isCode wsX1_isIn := goodIn_r _ [4] (by decide +kernel) (by decide +kernel)
set_option maxRecDepth 20000 in
theorem gX1_isCode_X1_isIn : GoodIn wsX1_isCode (va_wsS RX1 35 yX1_isIn wsX1_isIn) := goodIn_app (goodIn_of _ (by decide +kernel)) ggX1_isCode_X1_isIn
theorem dX1_isCode_0 : decode cX1_isCode 0 = .ok (.iload_n 0, 1) := by decide +kernel
theorem dX1_isCode_1 : decode cX1_isCode 1 = .ok (.ifCond .ne 14, 3) := by decide +kernel
theorem dX1_isCode_4 : decode cX1_isCode 4 = .ok (.iload_n 1, 1) := by decide +kernel
theorem dX1_isCode_5 : decode cX1_isCode 5 = .ok (.iconst 0, 1) := by decide +kernel
theorem dX1_isCode_6 : decode cX1_isCode 6 = .ok (.sipush 1200, 3) := by decide +kernel
theorem dX1_isCode_9 : decode cX1_isCode 9 = .ok (.invokestatic 35, 3) := by decide +kernel
theorem dX1_isCode_12 : decode cX1_isCode 12 = .ok (.goto 11, 3) := by decide +kernel
theorem dX1_isCode_15 : decode cX1_isCode 15 = .ok (.iload_n 1, 1) := by decide +kernel
theorem dX1_isCode_16 : decode cX1_isCode 16 = .ok (.bipush (-99), 2) := by decide +kernel
theorem dX1_isCode_18 : decode cX1_isCode 18 = .ok (.bipush 100, 2) := by decide +kernel
theorem dX1_isCode_20 : decode cX1_isCode 20 = .ok (.invokestatic 35, 3) := by decide +kernel
theorem dX1_isCode_23 : decode cX1_isCode 23 = .ok (.ireturn, 1) := by decide +kernel
theorem dX1_none_0 : decode cX1_none 0 = .ok (.iload_n 0, 1) := by decide +kernel
theorem dX1_none_1 : decode cX1_none 1 = .ok (.ifCond .ne 7, 3) := by decide +kernel
theorem dX1_none_4 : decode cX1_none 4 = .ok (.iconst 0, 1) := by decide +kernel
theorem dX1_none_5 : decode cX1_none 5 = .ok (.goto 5, 3) := by decide +kernel
theorem dX1_none_8 : decode cX1_none 8 = .ok (.bipush 100, 2) := by decide +kernel
theorem dX1_none_10 : decode cX1_none 10 = .ok (.ireturn, 1) := by decide +kernel
set_option maxRecDepth 20000 in
theorem ggX1_code_X1_none : GoodIn wsX1_code wsX1_none := goodIn_r _ [7] (by decide +kernel) (by decide +kernel)
set_option maxRecDepth 20000 in
theorem gX1_code_X1_none : GoodIn wsX1_code (va_wsS RX1 39 yX1_none wsX1_none) := goodIn_app (goodIn_of _ (by decide +kernel)) ggX1_code_X1_none
theorem dX1_code_0 : decode cX1_code 0 = .ok (.iload_n 3, 1) := by decide +kernel
theorem dX1_code_1 : decode cX1_code 1 = .ok (.aload_n 0, 1) := by decide +kernel
theorem dX1_code_2 : decode cX1_code 2 = .ok (.getfield 13, 3) := by decide +kernel
theorem dX1_code_5 : decode cX1_code 5 = .ok (.iload_n 2, 1) := by decide +kernel
theorem dX1_code_6 : decode cX1_code 6 = .ok (.iaload, 1) := by decide +kernel
theorem dX1_code_7 : decode cX1_code 7 = .ok (.if_icmp .lt 8, 3) := by decide +kernel
theorem dX1_code_10 : decode cX1_code 10 = .ok (.iload_n 1, 1) := by decide +kernel
theorem dX1_code_11 : decode cX1_code 11 = .ok (.invokestatic 39, 3) := by decide +kernel
theorem dX1_code_14 : decode cX1_code 14 = .ok (.ireturn, 1) := by decide +kernel
theorem dX1_code_15 : decode cX1_code 15 = .ok (.iload_n 1, 1) := by decide +kernel
theorem dX1_code_16 : decode cX1_code 16 = .ok (.ifCond .ne 17, 3) := by decide +kernel
theorem dX1_code_19 : decode cX1_code 19 = .ok (.aload_n 0, 1) := by decide +kernel
theorem dX1_code_20 : decode cX1_code 20 = .ok (.getfield 16, 3) := by decide +kernel
theorem dX1_code_23 : decode cX1_code 23 = .ok (.bipush 6, 2) := by decide +kernel
theorem dX1_code_25 : decode cX1_code 25 = .ok (.iload_n 2, 1) := by decide +kernel
theorem dX1_code_26 : decode cX1_code 26 = .ok (.imul, 1) := by decide +kernel
theorem dX1_code_27 : decode cX1_code 27 = .ok (.iload_n 3, 1) := by decide +kernel
theorem dX1_code_28 : decode cX1_code 28 = .ok (.iadd, 1) := by decide +kernel
theorem dX1_code_29 : decode cX1_code 29 = .ok (.iaload, 1) := by decide +kernel
theorem dX1_code_30 : decode cX1_code 30 = .ok (.goto 14, 3) := by decide +kernel
theorem dX1_code_33 : decode cX1_code 33 = .ok (.aload_n 0, 1) := by decide +kernel
theorem dX1_code_34 : decode cX1_code 34 = .ok (.getfield 19, 3) := by decide +kernel
theorem dX1_code_37 : decode cX1_code 37 = .ok (.bipush 6, 2) := by decide +kernel
theorem dX1_code_39 : decode cX1_code 39 = .ok (.iload_n 2, 1) := by decide +kernel
theorem dX1_code_40 : decode cX1_code 40 = .ok (.imul, 1) := by decide +kernel
theorem dX1_code_41 : decode cX1_code 41 = .ok (.iload_n 3, 1) := by decide +kernel
theorem dX1_code_42 : decode cX1_code 42 = .ok (.iadd, 1) := by decide +kernel
theorem dX1_code_43 : decode cX1_code 43 = .ok (.iaload, 1) := by decide +kernel
theorem dX1_code_44 : decode cX1_code 44 = .ok (.ireturn, 1) := by decide +kernel
set_option maxRecDepth 20000 in
theorem ggX1_fit_X1_none : GoodIn wsX1_fit wsX1_none := goodIn_r _ [5] (by decide +kernel) (by decide +kernel)
set_option maxRecDepth 20000 in
theorem gX1_fit_X1_none : GoodIn wsX1_fit (va_wsS RX1 39 yX1_none wsX1_none) := goodIn_app (goodIn_of _ (by decide +kernel)) ggX1_fit_X1_none
theorem dX1_fit_0 : decode cX1_fit 0 = .ok (.iload_n 3, 1) := by decide +kernel
theorem dX1_fit_1 : decode cX1_fit 1 = .ok (.iload_n 2, 1) := by decide +kernel
theorem dX1_fit_2 : decode cX1_fit 2 = .ok (.invokestatic 39, 3) := by decide +kernel
theorem dX1_fit_5 : decode cX1_fit 5 = .ok (.if_icmp .eq 12, 3) := by decide +kernel
theorem dX1_fit_8 : decode cX1_fit 8 = .ok (.iload 4, 2) := by decide +kernel
theorem dX1_fit_10 : decode cX1_fit 10 = .ok (.iload_n 2, 1) := by decide +kernel
theorem dX1_fit_11 : decode cX1_fit 11 = .ok (.invokestatic 39, 3) := by decide +kernel
theorem dX1_fit_14 : decode cX1_fit 14 = .ok (.if_icmp .ne 14, 3) := by decide +kernel
theorem dX1_fit_17 : decode cX1_fit 17 = .ok (.iload_n 1, 1) := by decide +kernel
theorem dX1_fit_18 : decode cX1_fit 18 = .ok (.iconst 5, 1) := by decide +kernel
theorem dX1_fit_19 : decode cX1_fit 19 = .ok (.if_icmp .ne 7, 3) := by decide +kernel
theorem dX1_fit_22 : decode cX1_fit 22 = .ok (.iconst 1, 1) := by decide +kernel
theorem dX1_fit_23 : decode cX1_fit 23 = .ok (.goto 4, 3) := by decide +kernel
theorem dX1_fit_26 : decode cX1_fit 26 = .ok (.iconst 0, 1) := by decide +kernel
theorem dX1_fit_27 : decode cX1_fit 27 = .ok (.ireturn, 1) := by decide +kernel
theorem dX1_fit_28 : decode cX1_fit 28 = .ok (.iload_n 3, 1) := by decide +kernel
theorem dX1_fit_29 : decode cX1_fit 29 = .ok (.iload 4, 2) := by decide +kernel
theorem dX1_fit_31 : decode cX1_fit 31 = .ok (.if_icmp .ge 7, 3) := by decide +kernel
theorem dX1_fit_34 : decode cX1_fit 34 = .ok (.iconst 1, 1) := by decide +kernel
theorem dX1_fit_35 : decode cX1_fit 35 = .ok (.goto 14, 3) := by decide +kernel
theorem dX1_fit_38 : decode cX1_fit 38 = .ok (.iload_n 3, 1) := by decide +kernel
theorem dX1_fit_39 : decode cX1_fit 39 = .ok (.iload 4, 2) := by decide +kernel
theorem dX1_fit_41 : decode cX1_fit 41 = .ok (.if_icmp .ne 7, 3) := by decide +kernel
theorem dX1_fit_44 : decode cX1_fit 44 = .ok (.iconst 2, 1) := by decide +kernel
theorem dX1_fit_45 : decode cX1_fit 45 = .ok (.goto 4, 3) := by decide +kernel
theorem dX1_fit_48 : decode cX1_fit 48 = .ok (.iconst 4, 1) := by decide +kernel
theorem dX1_fit_49 : decode cX1_fit 49 = .ok (.istore 5, 2) := by decide +kernel
theorem dX1_fit_51 : decode cX1_fit 51 = .ok (.aload_n 0, 1) := by decide +kernel
theorem dX1_fit_52 : decode cX1_fit 52 = .ok (.getfield 22, 3) := by decide +kernel
theorem dX1_fit_55 : decode cX1_fit 55 = .ok (.iload_n 1, 1) := by decide +kernel
theorem dX1_fit_56 : decode cX1_fit 56 = .ok (.iaload, 1) := by decide +kernel
theorem dX1_fit_57 : decode cX1_fit 57 = .ok (.iload 5, 2) := by decide +kernel
theorem dX1_fit_59 : decode cX1_fit 59 = .ok (.iand, 1) := by decide +kernel
theorem dX1_fit_60 : decode cX1_fit 60 = .ok (.ifCond .eq 7, 3) := by decide +kernel
theorem dX1_fit_63 : decode cX1_fit 63 = .ok (.iconst 1, 1) := by decide +kernel
theorem dX1_fit_64 : decode cX1_fit 64 = .ok (.goto 4, 3) := by decide +kernel
theorem dX1_fit_67 : decode cX1_fit 67 = .ok (.iconst 0, 1) := by decide +kernel
theorem dX1_fit_68 : decode cX1_fit 68 = .ok (.ireturn, 1) := by decide +kernel
set_option maxRecDepth 20000 in
theorem ggX1_isAsked_X1_isIn : GoodIn wsX1_isAsked wsX1_isIn := goodIn_r _ [4] (by decide +kernel) (by decide +kernel)
set_option maxRecDepth 20000 in
theorem gX1_isAsked_X1_isIn : GoodIn wsX1_isAsked (va_wsS RX1 35 yX1_isIn wsX1_isIn) := goodIn_app (goodIn_of _ (by decide +kernel)) ggX1_isAsked_X1_isIn
set_option maxRecDepth 20000 in
theorem ggX1_isAsked_X1_isJumper : GoodIn wsX1_isAsked wsX1_isJumper := goodIn_r _ [8, 9, 1, 2, 3, 4, 10, 11, 12, 13, 14, 15, 16, 17] (by decide +kernel) (by decide +kernel)
set_option maxRecDepth 20000 in
theorem gX1_isAsked_X1_isJumper : GoodIn wsX1_isAsked (wsV RX1 43 RX1 yX1_isJumper wsX1_isJumper) := goodIn_app (goodIn_of _ (by decide +kernel)) ggX1_isAsked_X1_isJumper
theorem dX1_isAsked_0 : decode cX1_isAsked 0 = .ok (.iload_n 1, 1) := by decide +kernel
theorem dX1_isAsked_1 : decode cX1_isAsked 1 = .ok (.iconst 0, 1) := by decide +kernel
theorem dX1_isAsked_2 : decode cX1_isAsked 2 = .ok (.iconst 5, 1) := by decide +kernel
theorem dX1_isAsked_3 : decode cX1_isAsked 3 = .ok (.invokestatic 35, 3) := by decide +kernel
theorem dX1_isAsked_6 : decode cX1_isAsked 6 = .ok (.ifCond .eq 24, 3) := by decide +kernel
theorem dX1_isAsked_9 : decode cX1_isAsked 9 = .ok (.iload_n 2, 1) := by decide +kernel
theorem dX1_isAsked_10 : decode cX1_isAsked 10 = .ok (.iconst 0, 1) := by decide +kernel
theorem dX1_isAsked_11 : decode cX1_isAsked 11 = .ok (.iconst 1, 1) := by decide +kernel
theorem dX1_isAsked_12 : decode cX1_isAsked 12 = .ok (.invokestatic 35, 3) := by decide +kernel
theorem dX1_isAsked_15 : decode cX1_isAsked 15 = .ok (.ifCond .eq 15, 3) := by decide +kernel
theorem dX1_isAsked_18 : decode cX1_isAsked 18 = .ok (.aload_n 0, 1) := by decide +kernel
theorem dX1_isAsked_19 : decode cX1_isAsked 19 = .ok (.iload_n 3, 1) := by decide +kernel
theorem dX1_isAsked_20 : decode cX1_isAsked 20 = .ok (.invokevirtual 43, 3) := by decide +kernel
theorem dX1_isAsked_23 : decode cX1_isAsked 23 = .ok (.ifCond .eq 7, 3) := by decide +kernel
theorem dX1_isAsked_26 : decode cX1_isAsked 26 = .ok (.iconst 1, 1) := by decide +kernel
theorem dX1_isAsked_27 : decode cX1_isAsked 27 = .ok (.goto 4, 3) := by decide +kernel
theorem dX1_isAsked_30 : decode cX1_isAsked 30 = .ok (.iconst 0, 1) := by decide +kernel
theorem dX1_isAsked_31 : decode cX1_isAsked 31 = .ok (.ireturn, 1) := by decide +kernel
set_option maxRecDepth 20000 in
theorem ggX1_isAskedOf_X1_isAsked : GoodIn wsX1_isAskedOf wsX1_isAsked := goodIn_r _ [5, 6, 7, 4, 8, 9, 10, 11, 12, 13, 17, 18, 19, 20, 21, 22, 23, 24] (by decide +kernel) (by decide +kernel)
set_option maxRecDepth 20000 in
theorem gX1_isAskedOf_X1_isAsked : GoodIn wsX1_isAskedOf (wsV RX1 47 RX1 yX1_isAsked wsX1_isAsked) := goodIn_app (goodIn_of _ (by decide +kernel)) ggX1_isAskedOf_X1_isAsked
set_option maxRecDepth 20000 in
theorem ggX1_isAskedOf_X1_isCode : GoodIn wsX1_isAskedOf wsX1_isCode := goodIn_r _ [16, 6, 7, 4, 8] (by decide +kernel) (by decide +kernel)
set_option maxRecDepth 20000 in
theorem gX1_isAskedOf_X1_isCode : GoodIn wsX1_isAskedOf (va_wsS RX1 50 yX1_isCode wsX1_isCode) := goodIn_app (goodIn_of _ (by decide +kernel)) ggX1_isAskedOf_X1_isCode
theorem dX1_isAskedOf_0 : decode cX1_isAskedOf 0 = .ok (.aload_n 0, 1) := by decide +kernel
theorem dX1_isAskedOf_1 : decode cX1_isAskedOf 1 = .ok (.iload_n 1, 1) := by decide +kernel
theorem dX1_isAskedOf_2 : decode cX1_isAskedOf 2 = .ok (.iload_n 2, 1) := by decide +kernel
theorem dX1_isAskedOf_3 : decode cX1_isAskedOf 3 = .ok (.iload_n 3, 1) := by decide +kernel
theorem dX1_isAskedOf_4 : decode cX1_isAskedOf 4 = .ok (.invokevirtual 47, 3) := by decide +kernel
theorem dX1_isAskedOf_7 : decode cX1_isAskedOf 7 = .ok (.ifCond .eq 16, 3) := by decide +kernel
theorem dX1_isAskedOf_10 : decode cX1_isAskedOf 10 = .ok (.iload_n 2, 1) := by decide +kernel
theorem dX1_isAskedOf_11 : decode cX1_isAskedOf 11 = .ok (.iload 4, 2) := by decide +kernel
theorem dX1_isAskedOf_13 : decode cX1_isAskedOf 13 = .ok (.invokestatic 50, 3) := by decide +kernel
theorem dX1_isAskedOf_16 : decode cX1_isAskedOf 16 = .ok (.ifCond .eq 7, 3) := by decide +kernel
theorem dX1_isAskedOf_19 : decode cX1_isAskedOf 19 = .ok (.iconst 1, 1) := by decide +kernel
theorem dX1_isAskedOf_20 : decode cX1_isAskedOf 20 = .ok (.goto 4, 3) := by decide +kernel
theorem dX1_isAskedOf_23 : decode cX1_isAskedOf 23 = .ok (.iconst 0, 1) := by decide +kernel
theorem dX1_isAskedOf_24 : decode cX1_isAskedOf 24 = .ok (.ireturn, 1) := by decide +kernel
set_option maxRecDepth 20000 in
theorem ggX1_enter_X1_isIn : GoodIn wsX1_enter wsX1_isIn := goodIn_r _ [7] (by decide +kernel) (by decide +kernel)
set_option maxRecDepth 20000 in
theorem gX1_enter_X1_isIn : GoodIn wsX1_enter (va_wsS RX1 35 yX1_isIn wsX1_isIn) := goodIn_app (goodIn_of _ (by decide +kernel)) ggX1_enter_X1_isIn
theorem dX1_enter_0 : decode cX1_enter 0 = .ok (.aload_n 0, 1) := by decide +kernel
theorem dX1_enter_1 : decode cX1_enter 1 = .ok (.getfield 32, 3) := by decide +kernel
theorem dX1_enter_4 : decode cX1_enter 4 = .ok (.bipush 8, 2) := by decide +kernel
theorem dX1_enter_6 : decode cX1_enter 6 = .ok (.if_icmp .eq 14, 3) := by decide +kernel
theorem dX1_enter_9 : decode cX1_enter 9 = .ok (.iload_n 1, 1) := by decide +kernel
theorem dX1_enter_10 : decode cX1_enter 10 = .ok (.iconst 1, 1) := by decide +kernel
theorem dX1_enter_11 : decode cX1_enter 11 = .ok (.sipush 999, 3) := by decide +kernel
theorem dX1_enter_14 : decode cX1_enter 14 = .ok (.invokestatic 35, 3) := by decide +kernel
theorem dX1_enter_17 : decode cX1_enter 17 = .ok (.ifCond .ne 7, 3) := by decide +kernel
theorem dX1_enter_20 : decode cX1_enter 20 = .ok (.sipush (-1000), 3) := by decide +kernel
theorem dX1_enter_23 : decode cX1_enter 23 = .ok (.ireturn, 1) := by decide +kernel
theorem dX1_enter_24 : decode cX1_enter 24 = .ok (.iconst 0, 1) := by decide +kernel
theorem dX1_enter_25 : decode cX1_enter 25 = .ok (.istore_n 2, 1) := by decide +kernel
theorem dX1_enter_26 : decode cX1_enter 26 = .ok (.iload_n 2, 1) := by decide +kernel
theorem dX1_enter_27 : decode cX1_enter 27 = .ok (.aload_n 0, 1) := by decide +kernel
theorem dX1_enter_28 : decode cX1_enter 28 = .ok (.getfield 32, 3) := by decide +kernel
theorem dX1_enter_31 : decode cX1_enter 31 = .ok (.if_icmp .ge 23, 3) := by decide +kernel
theorem dX1_enter_34 : decode cX1_enter 34 = .ok (.aload_n 0, 1) := by decide +kernel
theorem dX1_enter_35 : decode cX1_enter 35 = .ok (.getfield 7, 3) := by decide +kernel
theorem dX1_enter_38 : decode cX1_enter 38 = .ok (.iload_n 2, 1) := by decide +kernel
theorem dX1_enter_39 : decode cX1_enter 39 = .ok (.iaload, 1) := by decide +kernel
theorem dX1_enter_40 : decode cX1_enter 40 = .ok (.iload_n 1, 1) := by decide +kernel
theorem dX1_enter_41 : decode cX1_enter 41 = .ok (.if_icmp .ne 7, 3) := by decide +kernel
theorem dX1_enter_44 : decode cX1_enter 44 = .ok (.sipush (-1000), 3) := by decide +kernel
theorem dX1_enter_47 : decode cX1_enter 47 = .ok (.ireturn, 1) := by decide +kernel
theorem dX1_enter_48 : decode cX1_enter 48 = .ok (.iinc 2 1, 3) := by decide +kernel
theorem dX1_enter_51 : decode cX1_enter 51 = .ok (.goto (-25), 3) := by decide +kernel
theorem dX1_enter_54 : decode cX1_enter 54 = .ok (.aload_n 0, 1) := by decide +kernel
theorem dX1_enter_55 : decode cX1_enter 55 = .ok (.getfield 7, 3) := by decide +kernel
theorem dX1_enter_58 : decode cX1_enter 58 = .ok (.aload_n 0, 1) := by decide +kernel
theorem dX1_enter_59 : decode cX1_enter 59 = .ok (.getfield 32, 3) := by decide +kernel
theorem dX1_enter_62 : decode cX1_enter 62 = .ok (.iload_n 1, 1) := by decide +kernel
theorem dX1_enter_63 : decode cX1_enter 63 = .ok (.iastore, 1) := by decide +kernel
theorem dX1_enter_64 : decode cX1_enter 64 = .ok (.aload_n 0, 1) := by decide +kernel
theorem dX1_enter_65 : decode cX1_enter 65 = .ok (.getfield 13, 3) := by decide +kernel
theorem dX1_enter_68 : decode cX1_enter 68 = .ok (.aload_n 0, 1) := by decide +kernel
theorem dX1_enter_69 : decode cX1_enter 69 = .ok (.getfield 32, 3) := by decide +kernel
theorem dX1_enter_72 : decode cX1_enter 72 = .ok (.iconst 0, 1) := by decide +kernel
theorem dX1_enter_73 : decode cX1_enter 73 = .ok (.iastore, 1) := by decide +kernel
theorem dX1_enter_74 : decode cX1_enter 74 = .ok (.aload_n 0, 1) := by decide +kernel
theorem dX1_enter_75 : decode cX1_enter 75 = .ok (.dup, 1) := by decide +kernel
theorem dX1_enter_76 : decode cX1_enter 76 = .ok (.getfield 32, 3) := by decide +kernel
theorem dX1_enter_79 : decode cX1_enter 79 = .ok (.iconst 1, 1) := by decide +kernel
theorem dX1_enter_80 : decode cX1_enter 80 = .ok (.iadd, 1) := by decide +kernel
theorem dX1_enter_81 : decode cX1_enter 81 = .ok (.putfield 32, 3) := by decide +kernel
theorem dX1_enter_84 : decode cX1_enter 84 = .ok (.aload_n 0, 1) := by decide +kernel
theorem dX1_enter_85 : decode cX1_enter 85 = .ok (.getfield 32, 3) := by decide +kernel
theorem dX1_enter_88 : decode cX1_enter 88 = .ok (.iconst 1, 1) := by decide +kernel
theorem dX1_enter_89 : decode cX1_enter 89 = .ok (.isub, 1) := by decide +kernel
theorem dX1_enter_90 : decode cX1_enter 90 = .ok (.ireturn, 1) := by decide +kernel
set_option maxRecDepth 20000 in
theorem ggX1_jump_X1_isJumper : GoodIn wsX1_jump wsX1_isJumper := goodIn_r _ [8, 9, 10, 11, 7, 12, 16, 17, 18, 19, 20, 21, 22, 23] (by decide +kernel) (by decide +kernel)
set_option maxRecDepth 20000 in
theorem gX1_jump_X1_isJumper : GoodIn wsX1_jump (wsV RX1 43 RX1 yX1_isJumper wsX1_isJumper) := goodIn_app (goodIn_of _ (by decide +kernel)) ggX1_jump_X1_isJumper
set_option maxRecDepth 20000 in
theorem ggX1_jump_X1_isCode : GoodIn wsX1_jump wsX1_isCode := goodIn_r _ [15, 10, 11, 7, 12] (by decide +kernel) (by decide +kernel)
set_option maxRecDepth 20000 in
theorem gX1_jump_X1_isCode : GoodIn wsX1_jump (va_wsS RX1 50 yX1_isCode wsX1_isCode) := goodIn_app (goodIn_of _ (by decide +kernel)) ggX1_jump_X1_isCode
theorem dX1_jump_0 : decode cX1_jump 0 = .ok (.aload_n 0, 1) := by decide +kernel
theorem dX1_jump_1 : decode cX1_jump 1 = .ok (.iload_n 1, 1) := by decide +kernel
theorem dX1_jump_2 : decode cX1_jump 2 = .ok (.invokevirtual 43, 3) := by decide +kernel
theorem dX1_jump_5 : decode cX1_jump 5 = .ok (.ifCond .eq 19, 3) := by decide +kernel
theorem dX1_jump_8 : decode cX1_jump 8 = .ok (.iconst 0, 1) := by decide +kernel
theorem dX1_jump_9 : decode cX1_jump 9 = .ok (.iload_n 2, 1) := by decide +kernel
theorem dX1_jump_10 : decode cX1_jump 10 = .ok (.invokestatic 50, 3) := by decide +kernel
theorem dX1_jump_13 : decode cX1_jump 13 = .ok (.ifCond .eq 11, 3) := by decide +kernel
theorem dX1_jump_16 : decode cX1_jump 16 = .ok (.iconst 1, 1) := by decide +kernel
theorem dX1_jump_17 : decode cX1_jump 17 = .ok (.iload_n 3, 1) := by decide +kernel
theorem dX1_jump_18 : decode cX1_jump 18 = .ok (.invokestatic 50, 3) := by decide +kernel
theorem dX1_jump_21 : decode cX1_jump 21 = .ok (.ifCond .ne 7, 3) := by decide +kernel
theorem dX1_jump_24 : decode cX1_jump 24 = .ok (.sipush (-1000), 3) := by decide +kernel
theorem dX1_jump_27 : decode cX1_jump 27 = .ok (.ireturn, 1) := by decide +kernel
theorem dX1_jump_28 : decode cX1_jump 28 = .ok (.aload_n 0, 1) := by decide +kernel
theorem dX1_jump_29 : decode cX1_jump 29 = .ok (.getfield 13, 3) := by decide +kernel
theorem dX1_jump_32 : decode cX1_jump 32 = .ok (.iload_n 1, 1) := by decide +kernel
theorem dX1_jump_33 : decode cX1_jump 33 = .ok (.iaload, 1) := by decide +kernel
theorem dX1_jump_34 : decode cX1_jump 34 = .ok (.istore 4, 2) := by decide +kernel
theorem dX1_jump_36 : decode cX1_jump 36 = .ok (.iload 4, 2) := by decide +kernel
theorem dX1_jump_38 : decode cX1_jump 38 = .ok (.bipush 6, 2) := by decide +kernel
theorem dX1_jump_40 : decode cX1_jump 40 = .ok (.if_icmp .ne 7, 3) := by decide +kernel
theorem dX1_jump_43 : decode cX1_jump 43 = .ok (.sipush (-1000), 3) := by decide +kernel
theorem dX1_jump_46 : decode cX1_jump 46 = .ok (.ireturn, 1) := by decide +kernel
theorem dX1_jump_47 : decode cX1_jump 47 = .ok (.aload_n 0, 1) := by decide +kernel
theorem dX1_jump_48 : decode cX1_jump 48 = .ok (.getfield 16, 3) := by decide +kernel
theorem dX1_jump_51 : decode cX1_jump 51 = .ok (.bipush 6, 2) := by decide +kernel
theorem dX1_jump_53 : decode cX1_jump 53 = .ok (.iload_n 1, 1) := by decide +kernel
theorem dX1_jump_54 : decode cX1_jump 54 = .ok (.imul, 1) := by decide +kernel
theorem dX1_jump_55 : decode cX1_jump 55 = .ok (.iload 4, 2) := by decide +kernel
theorem dX1_jump_57 : decode cX1_jump 57 = .ok (.iadd, 1) := by decide +kernel
theorem dX1_jump_58 : decode cX1_jump 58 = .ok (.iload_n 2, 1) := by decide +kernel
theorem dX1_jump_59 : decode cX1_jump 59 = .ok (.iastore, 1) := by decide +kernel
theorem dX1_jump_60 : decode cX1_jump 60 = .ok (.aload_n 0, 1) := by decide +kernel
theorem dX1_jump_61 : decode cX1_jump 61 = .ok (.getfield 19, 3) := by decide +kernel
theorem dX1_jump_64 : decode cX1_jump 64 = .ok (.bipush 6, 2) := by decide +kernel
theorem dX1_jump_66 : decode cX1_jump 66 = .ok (.iload_n 1, 1) := by decide +kernel
theorem dX1_jump_67 : decode cX1_jump 67 = .ok (.imul, 1) := by decide +kernel
theorem dX1_jump_68 : decode cX1_jump 68 = .ok (.iload 4, 2) := by decide +kernel
theorem dX1_jump_70 : decode cX1_jump 70 = .ok (.iadd, 1) := by decide +kernel
theorem dX1_jump_71 : decode cX1_jump 71 = .ok (.iload_n 3, 1) := by decide +kernel
theorem dX1_jump_72 : decode cX1_jump 72 = .ok (.iastore, 1) := by decide +kernel
theorem dX1_jump_73 : decode cX1_jump 73 = .ok (.aload_n 0, 1) := by decide +kernel
theorem dX1_jump_74 : decode cX1_jump 74 = .ok (.getfield 13, 3) := by decide +kernel
theorem dX1_jump_77 : decode cX1_jump 77 = .ok (.iload_n 1, 1) := by decide +kernel
theorem dX1_jump_78 : decode cX1_jump 78 = .ok (.dup2, 1) := by decide +kernel
theorem dX1_jump_79 : decode cX1_jump 79 = .ok (.iaload, 1) := by decide +kernel
theorem dX1_jump_80 : decode cX1_jump 80 = .ok (.iconst 1, 1) := by decide +kernel
theorem dX1_jump_81 : decode cX1_jump 81 = .ok (.iadd, 1) := by decide +kernel
theorem dX1_jump_82 : decode cX1_jump 82 = .ok (.iastore, 1) := by decide +kernel
theorem dX1_jump_83 : decode cX1_jump 83 = .ok (.iload 4, 2) := by decide +kernel
theorem dX1_jump_85 : decode cX1_jump 85 = .ok (.ireturn, 1) := by decide +kernel
set_option maxRecDepth 20000 in
theorem ggX1_undo_X1_isJumper : GoodIn wsX1_undo wsX1_isJumper := goodIn_r _ [6, 7, 8, 9, 5, 10, 11, 12, 13, 14, 15, 16, 17, 18] (by decide +kernel) (by decide +kernel)
set_option maxRecDepth 20000 in
theorem gX1_undo_X1_isJumper : GoodIn wsX1_undo (wsV RX1 43 RX1 yX1_isJumper wsX1_isJumper) := goodIn_app (goodIn_of _ (by decide +kernel)) ggX1_undo_X1_isJumper
theorem dX1_undo_0 : decode cX1_undo 0 = .ok (.aload_n 0, 1) := by decide +kernel
theorem dX1_undo_1 : decode cX1_undo 1 = .ok (.iload_n 1, 1) := by decide +kernel
theorem dX1_undo_2 : decode cX1_undo 2 = .ok (.invokevirtual 43, 3) := by decide +kernel
theorem dX1_undo_5 : decode cX1_undo 5 = .ok (.ifCond .eq 12, 3) := by decide +kernel
theorem dX1_undo_8 : decode cX1_undo 8 = .ok (.aload_n 0, 1) := by decide +kernel
theorem dX1_undo_9 : decode cX1_undo 9 = .ok (.getfield 13, 3) := by decide +kernel
theorem dX1_undo_12 : decode cX1_undo 12 = .ok (.iload_n 1, 1) := by decide +kernel
theorem dX1_undo_13 : decode cX1_undo 13 = .ok (.iaload, 1) := by decide +kernel
theorem dX1_undo_14 : decode cX1_undo 14 = .ok (.ifCond .ne 7, 3) := by decide +kernel
theorem dX1_undo_17 : decode cX1_undo 17 = .ok (.sipush (-1000), 3) := by decide +kernel
theorem dX1_undo_20 : decode cX1_undo 20 = .ok (.ireturn, 1) := by decide +kernel
theorem dX1_undo_21 : decode cX1_undo 21 = .ok (.aload_n 0, 1) := by decide +kernel
theorem dX1_undo_22 : decode cX1_undo 22 = .ok (.getfield 13, 3) := by decide +kernel
theorem dX1_undo_25 : decode cX1_undo 25 = .ok (.iload_n 1, 1) := by decide +kernel
theorem dX1_undo_26 : decode cX1_undo 26 = .ok (.dup2, 1) := by decide +kernel
theorem dX1_undo_27 : decode cX1_undo 27 = .ok (.iaload, 1) := by decide +kernel
theorem dX1_undo_28 : decode cX1_undo 28 = .ok (.iconst 1, 1) := by decide +kernel
theorem dX1_undo_29 : decode cX1_undo 29 = .ok (.isub, 1) := by decide +kernel
theorem dX1_undo_30 : decode cX1_undo 30 = .ok (.iastore, 1) := by decide +kernel
theorem dX1_undo_31 : decode cX1_undo 31 = .ok (.aload_n 0, 1) := by decide +kernel
theorem dX1_undo_32 : decode cX1_undo 32 = .ok (.getfield 13, 3) := by decide +kernel
theorem dX1_undo_35 : decode cX1_undo 35 = .ok (.iload_n 1, 1) := by decide +kernel
theorem dX1_undo_36 : decode cX1_undo 36 = .ok (.iaload, 1) := by decide +kernel
theorem dX1_undo_37 : decode cX1_undo 37 = .ok (.ireturn, 1) := by decide +kernel
set_option maxRecDepth 20000 in
theorem ggX1_record_X1_isCode : GoodIn wsX1_record wsX1_isCode := goodIn_r _ [5, 6, 7, 4, 8] (by decide +kernel) (by decide +kernel)
set_option maxRecDepth 20000 in
theorem gX1_record_X1_isCode : GoodIn wsX1_record (va_wsS RX1 50 yX1_isCode wsX1_isCode) := goodIn_app (goodIn_of _ (by decide +kernel)) ggX1_record_X1_isCode
theorem dX1_record_0 : decode cX1_record 0 = .ok (.iconst 0, 1) := by decide +kernel
theorem dX1_record_1 : decode cX1_record 1 = .ok (.iload_n 1, 1) := by decide +kernel
theorem dX1_record_2 : decode cX1_record 2 = .ok (.invokestatic 50, 3) := by decide +kernel
theorem dX1_record_5 : decode cX1_record 5 = .ok (.ifCond .ne 7, 3) := by decide +kernel
theorem dX1_record_8 : decode cX1_record 8 = .ok (.sipush (-1000), 3) := by decide +kernel
theorem dX1_record_11 : decode cX1_record 11 = .ok (.ireturn, 1) := by decide +kernel
theorem dX1_record_12 : decode cX1_record 12 = .ok (.aload_n 0, 1) := by decide +kernel
theorem dX1_record_13 : decode cX1_record 13 = .ok (.getfield 25, 3) := by decide +kernel
theorem dX1_record_16 : decode cX1_record 16 = .ok (.istore_n 2, 1) := by decide +kernel
theorem dX1_record_17 : decode cX1_record 17 = .ok (.aload_n 0, 1) := by decide +kernel
theorem dX1_record_18 : decode cX1_record 18 = .ok (.iload_n 1, 1) := by decide +kernel
theorem dX1_record_19 : decode cX1_record 19 = .ok (.putfield 25, 3) := by decide +kernel
theorem dX1_record_22 : decode cX1_record 22 = .ok (.iload_n 2, 1) := by decide +kernel
theorem dX1_record_23 : decode cX1_record 23 = .ok (.ireturn, 1) := by decide +kernel
set_option maxRecDepth 20000 in
theorem ggX1_limit_X1_isCode : GoodIn wsX1_limit wsX1_isCode := goodIn_r _ [5, 6, 7, 4, 8] (by decide +kernel) (by decide +kernel)
set_option maxRecDepth 20000 in
theorem gX1_limit_X1_isCode : GoodIn wsX1_limit (va_wsS RX1 50 yX1_isCode wsX1_isCode) := goodIn_app (goodIn_of _ (by decide +kernel)) ggX1_limit_X1_isCode
theorem dX1_limit_0 : decode cX1_limit 0 = .ok (.iconst 1, 1) := by decide +kernel
theorem dX1_limit_1 : decode cX1_limit 1 = .ok (.iload_n 1, 1) := by decide +kernel
theorem dX1_limit_2 : decode cX1_limit 2 = .ok (.invokestatic 50, 3) := by decide +kernel
theorem dX1_limit_5 : decode cX1_limit 5 = .ok (.ifCond .ne 7, 3) := by decide +kernel
theorem dX1_limit_8 : decode cX1_limit 8 = .ok (.sipush (-1000), 3) := by decide +kernel
theorem dX1_limit_11 : decode cX1_limit 11 = .ok (.ireturn, 1) := by decide +kernel
theorem dX1_limit_12 : decode cX1_limit 12 = .ok (.aload_n 0, 1) := by decide +kernel
theorem dX1_limit_13 : decode cX1_limit 13 = .ok (.getfield 29, 3) := by decide +kernel
theorem dX1_limit_16 : decode cX1_limit 16 = .ok (.istore_n 2, 1) := by decide +kernel
theorem dX1_limit_17 : decode cX1_limit 17 = .ok (.aload_n 0, 1) := by decide +kernel
theorem dX1_limit_18 : decode cX1_limit 18 = .ok (.iload_n 1, 1) := by decide +kernel
theorem dX1_limit_19 : decode cX1_limit 19 = .ok (.putfield 29, 3) := by decide +kernel
theorem dX1_limit_22 : decode cX1_limit 22 = .ok (.iload_n 2, 1) := by decide +kernel
theorem dX1_limit_23 : decode cX1_limit 23 = .ok (.ireturn, 1) := by decide +kernel
set_option maxRecDepth 20000 in
theorem ggX1_value_X1_isIn : GoodIn wsX1_value wsX1_isIn := goodIn_r _ [4] (by decide +kernel) (by decide +kernel)
set_option maxRecDepth 20000 in
theorem gX1_value_X1_isIn : GoodIn wsX1_value (va_wsS RX1 35 yX1_isIn wsX1_isIn) := goodIn_app (goodIn_of _ (by decide +kernel)) ggX1_value_X1_isIn
set_option maxRecDepth 20000 in
theorem ggX1_value_X1_isJumper : GoodIn wsX1_value wsX1_isJumper := goodIn_r _ [8, 9, 1, 2, 3, 4, 23, 24, 25, 26, 27, 28, 29, 30] (by decide +kernel) (by decide +kernel)
set_option maxRecDepth 20000 in
theorem gX1_value_X1_isJumper : GoodIn wsX1_value (wsV RX1 43 RX1 yX1_isJumper wsX1_isJumper) := goodIn_app (goodIn_of _ (by decide +kernel)) ggX1_value_X1_isJumper
set_option maxRecDepth 20000 in
theorem ggX1_value_X1_isRound : GoodIn wsX1_value wsX1_isRound := goodIn_r _ [12, 1, 2, 3, 4] (by decide +kernel) (by decide +kernel)
set_option maxRecDepth 20000 in
theorem gX1_value_X1_isRound : GoodIn wsX1_value (va_wsS RX1 54 yX1_isRound wsX1_isRound) := goodIn_app (goodIn_of _ (by decide +kernel)) ggX1_value_X1_isRound
set_option maxRecDepth 20000 in
theorem ggX1_value_X1_code : GoodIn wsX1_value wsX1_code := goodIn_r _ [16, 17, 18, 19, 20, 21, 3, 22, 23, 24, 25, 26, 27, 28, 29, 30] (by decide +kernel) (by decide +kernel)
set_option maxRecDepth 20000 in
theorem gX1_value_X1_code : GoodIn wsX1_value (wsV RX1 57 RX1 yX1_code wsX1_code) := goodIn_app (goodIn_of _ (by decide +kernel)) ggX1_value_X1_code
theorem dX1_value_0 : decode cX1_value 0 = .ok (.iload_n 1, 1) := by decide +kernel
theorem dX1_value_1 : decode cX1_value 1 = .ok (.iconst 0, 1) := by decide +kernel
theorem dX1_value_2 : decode cX1_value 2 = .ok (.iconst 1, 1) := by decide +kernel
theorem dX1_value_3 : decode cX1_value 3 = .ok (.invokestatic 35, 3) := by decide +kernel
theorem dX1_value_6 : decode cX1_value 6 = .ok (.ifCond .eq 18, 3) := by decide +kernel
theorem dX1_value_9 : decode cX1_value 9 = .ok (.aload_n 0, 1) := by decide +kernel
theorem dX1_value_10 : decode cX1_value 10 = .ok (.iload_n 2, 1) := by decide +kernel
theorem dX1_value_11 : decode cX1_value 11 = .ok (.invokevirtual 43, 3) := by decide +kernel
theorem dX1_value_14 : decode cX1_value 14 = .ok (.ifCond .eq 10, 3) := by decide +kernel
theorem dX1_value_17 : decode cX1_value 17 = .ok (.iload_n 3, 1) := by decide +kernel
theorem dX1_value_18 : decode cX1_value 18 = .ok (.invokestatic 54, 3) := by decide +kernel
theorem dX1_value_21 : decode cX1_value 21 = .ok (.ifCond .ne 7, 3) := by decide +kernel
theorem dX1_value_24 : decode cX1_value 24 = .ok (.sipush (-1000), 3) := by decide +kernel
theorem dX1_value_27 : decode cX1_value 27 = .ok (.ireturn, 1) := by decide +kernel
theorem dX1_value_28 : decode cX1_value 28 = .ok (.aload_n 0, 1) := by decide +kernel
theorem dX1_value_29 : decode cX1_value 29 = .ok (.iload_n 1, 1) := by decide +kernel
theorem dX1_value_30 : decode cX1_value 30 = .ok (.iload_n 2, 1) := by decide +kernel
theorem dX1_value_31 : decode cX1_value 31 = .ok (.iload_n 3, 1) := by decide +kernel
theorem dX1_value_32 : decode cX1_value 32 = .ok (.invokevirtual 57, 3) := by decide +kernel
theorem dX1_value_35 : decode cX1_value 35 = .ok (.ireturn, 1) := by decide +kernel
set_option maxRecDepth 20000 in
theorem ggX1_fits_X1_isAsked : GoodIn wsX1_fits wsX1_isAsked := goodIn_r _ [5, 6, 7, 4, 8, 9, 10, 11, 12, 13, 32, 33, 34, 35, 36, 37, 38, 39] (by decide +kernel) (by decide +kernel)
set_option maxRecDepth 20000 in
theorem gX1_fits_X1_isAsked : GoodIn wsX1_fits (wsV RX1 47 RX1 yX1_isAsked wsX1_isAsked) := goodIn_app (goodIn_of _ (by decide +kernel)) ggX1_fits_X1_isAsked
set_option maxRecDepth 20000 in
theorem ggX1_fits_X1_isRound : GoodIn wsX1_fits wsX1_isRound := goodIn_r _ [16, 6, 7, 4, 8] (by decide +kernel) (by decide +kernel)
set_option maxRecDepth 20000 in
theorem gX1_fits_X1_isRound : GoodIn wsX1_fits (va_wsS RX1 54 yX1_isRound wsX1_isRound) := goodIn_app (goodIn_of _ (by decide +kernel)) ggX1_fits_X1_isRound
set_option maxRecDepth 20000 in
theorem ggX1_fits_X1_code : GoodIn wsX1_fits wsX1_code := goodIn_r _ [20, 21, 22, 23, 24, 25, 4, 26, 32, 33, 34, 35, 36, 37, 38, 39] (by decide +kernel) (by decide +kernel)
set_option maxRecDepth 20000 in
theorem gX1_fits_X1_code : GoodIn wsX1_fits (wsV RX1 57 RX1 yX1_code wsX1_code) := goodIn_app (goodIn_of _ (by decide +kernel)) ggX1_fits_X1_code
set_option maxRecDepth 20000 in
theorem ggX1_fits_X1_fit : GoodIn wsX1_fits wsX1_fit := goodIn_r _ [30, 31, 24, 25, 4, 26, 32, 33, 34, 35, 36, 37, 38, 39] (by decide +kernel) (by decide +kernel)
set_option maxRecDepth 20000 in
theorem gX1_fits_X1_fit : GoodIn wsX1_fits (wsV RX1 61 RX1 yX1_fit wsX1_fit) := goodIn_app (goodIn_of _ (by decide +kernel)) ggX1_fits_X1_fit
theorem dX1_fits_0 : decode cX1_fits 0 = .ok (.aload_n 0, 1) := by decide +kernel
theorem dX1_fits_1 : decode cX1_fits 1 = .ok (.iload_n 1, 1) := by decide +kernel
theorem dX1_fits_2 : decode cX1_fits 2 = .ok (.iload_n 2, 1) := by decide +kernel
theorem dX1_fits_3 : decode cX1_fits 3 = .ok (.iload_n 3, 1) := by decide +kernel
theorem dX1_fits_4 : decode cX1_fits 4 = .ok (.invokevirtual 47, 3) := by decide +kernel
theorem dX1_fits_7 : decode cX1_fits 7 = .ok (.ifCond .eq 19, 3) := by decide +kernel
theorem dX1_fits_10 : decode cX1_fits 10 = .ok (.iload 4, 2) := by decide +kernel
theorem dX1_fits_12 : decode cX1_fits 12 = .ok (.invokestatic 54, 3) := by decide +kernel
theorem dX1_fits_15 : decode cX1_fits 15 = .ok (.ifCond .eq 11, 3) := by decide +kernel
theorem dX1_fits_18 : decode cX1_fits 18 = .ok (.iload 5, 2) := by decide +kernel
theorem dX1_fits_20 : decode cX1_fits 20 = .ok (.invokestatic 54, 3) := by decide +kernel
theorem dX1_fits_23 : decode cX1_fits 23 = .ok (.ifCond .ne 7, 3) := by decide +kernel
theorem dX1_fits_26 : decode cX1_fits 26 = .ok (.sipush (-1000), 3) := by decide +kernel
theorem dX1_fits_29 : decode cX1_fits 29 = .ok (.ireturn, 1) := by decide +kernel
theorem dX1_fits_30 : decode cX1_fits 30 = .ok (.aload_n 0, 1) := by decide +kernel
theorem dX1_fits_31 : decode cX1_fits 31 = .ok (.iload_n 1, 1) := by decide +kernel
theorem dX1_fits_32 : decode cX1_fits 32 = .ok (.iload_n 2, 1) := by decide +kernel
theorem dX1_fits_33 : decode cX1_fits 33 = .ok (.aload_n 0, 1) := by decide +kernel
theorem dX1_fits_34 : decode cX1_fits 34 = .ok (.iload_n 2, 1) := by decide +kernel
theorem dX1_fits_35 : decode cX1_fits 35 = .ok (.iload_n 3, 1) := by decide +kernel
theorem dX1_fits_36 : decode cX1_fits 36 = .ok (.iload 4, 2) := by decide +kernel
theorem dX1_fits_38 : decode cX1_fits 38 = .ok (.invokevirtual 57, 3) := by decide +kernel
theorem dX1_fits_41 : decode cX1_fits 41 = .ok (.aload_n 0, 1) := by decide +kernel
theorem dX1_fits_42 : decode cX1_fits 42 = .ok (.iload_n 2, 1) := by decide +kernel
theorem dX1_fits_43 : decode cX1_fits 43 = .ok (.iload_n 3, 1) := by decide +kernel
theorem dX1_fits_44 : decode cX1_fits 44 = .ok (.iload 5, 2) := by decide +kernel
theorem dX1_fits_46 : decode cX1_fits 46 = .ok (.invokevirtual 57, 3) := by decide +kernel
theorem dX1_fits_49 : decode cX1_fits 49 = .ok (.invokevirtual 61, 3) := by decide +kernel
theorem dX1_fits_52 : decode cX1_fits 52 = .ok (.ifCond .eq 7, 3) := by decide +kernel
theorem dX1_fits_55 : decode cX1_fits 55 = .ok (.iconst 1, 1) := by decide +kernel
theorem dX1_fits_56 : decode cX1_fits 56 = .ok (.goto 4, 3) := by decide +kernel
theorem dX1_fits_59 : decode cX1_fits 59 = .ok (.iconst 0, 1) := by decide +kernel
theorem dX1_fits_60 : decode cX1_fits 60 = .ok (.ireturn, 1) := by decide +kernel
set_option maxRecDepth 20000 in
theorem ggX1_count_X1_isAskedOf : GoodIn wsX1_count wsX1_isAskedOf := goodIn_r _ [5, 6, 7, 8, 4, 9, 10, 11, 12, 13, 14, 15, 16, 17, 18, 19, 20, 36, 37, 38, 39, 40, 41, 42, 43] (by decide +kernel) (by decide +kernel)
set_option maxRecDepth 20000 in
theorem gX1_count_X1_isAskedOf : GoodIn wsX1_count (wsV RX1 65 RX1 yX1_isAskedOf wsX1_isAskedOf) := goodIn_app (goodIn_of _ (by decide +kernel)) ggX1_count_X1_isAskedOf
set_option maxRecDepth 20000 in
theorem ggX1_count_X1_code : GoodIn wsX1_count wsX1_code := goodIn_r _ [24, 25, 26, 27, 28, 29, 4, 30, 36, 37, 38, 39, 40, 41, 42, 43] (by decide +kernel) (by decide +kernel)
set_option maxRecDepth 20000 in
theorem gX1_count_X1_code : GoodIn wsX1_count (wsV RX1 57 RX1 yX1_code wsX1_code) := goodIn_app (goodIn_of _ (by decide +kernel)) ggX1_count_X1_code
set_option maxRecDepth 20000 in
theorem ggX1_count_X1_fit : GoodIn wsX1_count wsX1_fit := goodIn_r _ [34, 35, 28, 29, 4, 30, 36, 37, 38, 39, 40, 41, 42, 43] (by decide +kernel) (by decide +kernel)
set_option maxRecDepth 20000 in
theorem gX1_count_X1_fit : GoodIn wsX1_count (wsV RX1 61 RX1 yX1_fit wsX1_fit) := goodIn_app (goodIn_of _ (by decide +kernel)) ggX1_count_X1_fit
theorem dX1_count_0 : decode cX1_count 0 = .ok (.aload_n 0, 1) := by decide +kernel
theorem dX1_count_1 : decode cX1_count 1 = .ok (.iload_n 1, 1) := by decide +kernel
theorem dX1_count_2 : decode cX1_count 2 = .ok (.iload_n 2, 1) := by decide +kernel
theorem dX1_count_3 : decode cX1_count 3 = .ok (.iload_n 3, 1) := by decide +kernel
theorem dX1_count_4 : decode cX1_count 4 = .ok (.iload 4, 2) := by decide +kernel
theorem dX1_count_6 : decode cX1_count 6 = .ok (.invokevirtual 65, 3) := by decide +kernel
theorem dX1_count_9 : decode cX1_count 9 = .ok (.ifCond .ne 7, 3) := by decide +kernel
theorem dX1_count_12 : decode cX1_count 12 = .ok (.sipush (-1000), 3) := by decide +kernel
theorem dX1_count_15 : decode cX1_count 15 = .ok (.ireturn, 1) := by decide +kernel
theorem dX1_count_16 : decode cX1_count 16 = .ok (.iconst 0, 1) := by decide +kernel
theorem dX1_count_17 : decode cX1_count 17 = .ok (.istore 5, 2) := by decide +kernel
theorem dX1_count_19 : decode cX1_count 19 = .ok (.iconst 0, 1) := by decide +kernel
theorem dX1_count_20 : decode cX1_count 20 = .ok (.istore 6, 2) := by decide +kernel
theorem dX1_count_22 : decode cX1_count 22 = .ok (.iload 6, 2) := by decide +kernel
theorem dX1_count_24 : decode cX1_count 24 = .ok (.bipush 6, 2) := by decide +kernel
theorem dX1_count_26 : decode cX1_count 26 = .ok (.if_icmp .ge 38, 3) := by decide +kernel
theorem dX1_count_29 : decode cX1_count 29 = .ok (.iload 5, 2) := by decide +kernel
theorem dX1_count_31 : decode cX1_count 31 = .ok (.aload_n 0, 1) := by decide +kernel
theorem dX1_count_32 : decode cX1_count 32 = .ok (.iload_n 1, 1) := by decide +kernel
theorem dX1_count_33 : decode cX1_count 33 = .ok (.iload_n 2, 1) := by decide +kernel
theorem dX1_count_34 : decode cX1_count 34 = .ok (.aload_n 0, 1) := by decide +kernel
theorem dX1_count_35 : decode cX1_count 35 = .ok (.iload_n 2, 1) := by decide +kernel
theorem dX1_count_36 : decode cX1_count 36 = .ok (.iload_n 3, 1) := by decide +kernel
theorem dX1_count_37 : decode cX1_count 37 = .ok (.iload 6, 2) := by decide +kernel
theorem dX1_count_39 : decode cX1_count 39 = .ok (.invokevirtual 57, 3) := by decide +kernel
theorem dX1_count_42 : decode cX1_count 42 = .ok (.iload 4, 2) := by decide +kernel
theorem dX1_count_44 : decode cX1_count 44 = .ok (.invokevirtual 61, 3) := by decide +kernel
theorem dX1_count_47 : decode cX1_count 47 = .ok (.ifCond .eq 7, 3) := by decide +kernel
theorem dX1_count_50 : decode cX1_count 50 = .ok (.iconst 1, 1) := by decide +kernel
theorem dX1_count_51 : decode cX1_count 51 = .ok (.goto 4, 3) := by decide +kernel
theorem dX1_count_54 : decode cX1_count 54 = .ok (.iconst 0, 1) := by decide +kernel
theorem dX1_count_55 : decode cX1_count 55 = .ok (.iadd, 1) := by decide +kernel
theorem dX1_count_56 : decode cX1_count 56 = .ok (.istore 5, 2) := by decide +kernel
theorem dX1_count_58 : decode cX1_count 58 = .ok (.iinc 6 1, 3) := by decide +kernel
theorem dX1_count_61 : decode cX1_count 61 = .ok (.goto (-39), 3) := by decide +kernel
theorem dX1_count_64 : decode cX1_count 64 = .ok (.iload 5, 2) := by decide +kernel
theorem dX1_count_66 : decode cX1_count 66 = .ok (.ireturn, 1) := by decide +kernel
set_option maxRecDepth 20000 in
theorem ggX1_turned_X1_isAskedOf : GoodIn wsX1_turned wsX1_isAskedOf := goodIn_r _ [5, 6, 7, 8, 4, 9, 10, 11, 12, 13, 14, 15, 16, 17, 18, 19, 20, 36, 37, 38, 39, 40, 41, 42, 43] (by decide +kernel) (by decide +kernel)
set_option maxRecDepth 20000 in
theorem gX1_turned_X1_isAskedOf : GoodIn wsX1_turned (wsV RX1 65 RX1 yX1_isAskedOf wsX1_isAskedOf) := goodIn_app (goodIn_of _ (by decide +kernel)) ggX1_turned_X1_isAskedOf
set_option maxRecDepth 20000 in
theorem ggX1_turned_X1_code : GoodIn wsX1_turned wsX1_code := goodIn_r _ [24, 25, 26, 27, 28, 29, 4, 30, 36, 37, 38, 39, 40, 41, 42, 43] (by decide +kernel) (by decide +kernel)
set_option maxRecDepth 20000 in
theorem gX1_turned_X1_code : GoodIn wsX1_turned (wsV RX1 57 RX1 yX1_code wsX1_code) := goodIn_app (goodIn_of _ (by decide +kernel)) ggX1_turned_X1_code
set_option maxRecDepth 20000 in
theorem ggX1_turned_X1_fit : GoodIn wsX1_turned wsX1_fit := goodIn_r _ [34, 35, 28, 29, 4, 30, 36, 37, 38, 39, 40, 41, 42, 43] (by decide +kernel) (by decide +kernel)
set_option maxRecDepth 20000 in
theorem gX1_turned_X1_fit : GoodIn wsX1_turned (wsV RX1 61 RX1 yX1_fit wsX1_fit) := goodIn_app (goodIn_of _ (by decide +kernel)) ggX1_turned_X1_fit
theorem dX1_turned_0 : decode cX1_turned 0 = .ok (.aload_n 0, 1) := by decide +kernel
theorem dX1_turned_1 : decode cX1_turned 1 = .ok (.iload_n 1, 1) := by decide +kernel
theorem dX1_turned_2 : decode cX1_turned 2 = .ok (.iload_n 2, 1) := by decide +kernel
theorem dX1_turned_3 : decode cX1_turned 3 = .ok (.iload_n 3, 1) := by decide +kernel
theorem dX1_turned_4 : decode cX1_turned 4 = .ok (.iload 4, 2) := by decide +kernel
theorem dX1_turned_6 : decode cX1_turned 6 = .ok (.invokevirtual 65, 3) := by decide +kernel
theorem dX1_turned_9 : decode cX1_turned 9 = .ok (.ifCond .ne 7, 3) := by decide +kernel
theorem dX1_turned_12 : decode cX1_turned 12 = .ok (.sipush (-1000), 3) := by decide +kernel
theorem dX1_turned_15 : decode cX1_turned 15 = .ok (.ireturn, 1) := by decide +kernel
theorem dX1_turned_16 : decode cX1_turned 16 = .ok (.iconst 0, 1) := by decide +kernel
theorem dX1_turned_17 : decode cX1_turned 17 = .ok (.istore 5, 2) := by decide +kernel
theorem dX1_turned_19 : decode cX1_turned 19 = .ok (.iconst 0, 1) := by decide +kernel
theorem dX1_turned_20 : decode cX1_turned 20 = .ok (.istore 6, 2) := by decide +kernel
theorem dX1_turned_22 : decode cX1_turned 22 = .ok (.iload 6, 2) := by decide +kernel
theorem dX1_turned_24 : decode cX1_turned 24 = .ok (.bipush 6, 2) := by decide +kernel
theorem dX1_turned_26 : decode cX1_turned 26 = .ok (.if_icmp .ge 38, 3) := by decide +kernel
theorem dX1_turned_29 : decode cX1_turned 29 = .ok (.iload 5, 2) := by decide +kernel
theorem dX1_turned_31 : decode cX1_turned 31 = .ok (.aload_n 0, 1) := by decide +kernel
theorem dX1_turned_32 : decode cX1_turned 32 = .ok (.iload_n 1, 1) := by decide +kernel
theorem dX1_turned_33 : decode cX1_turned 33 = .ok (.iload_n 2, 1) := by decide +kernel
theorem dX1_turned_34 : decode cX1_turned 34 = .ok (.iload 4, 2) := by decide +kernel
theorem dX1_turned_36 : decode cX1_turned 36 = .ok (.aload_n 0, 1) := by decide +kernel
theorem dX1_turned_37 : decode cX1_turned 37 = .ok (.iload_n 2, 1) := by decide +kernel
theorem dX1_turned_38 : decode cX1_turned 38 = .ok (.iload_n 3, 1) := by decide +kernel
theorem dX1_turned_39 : decode cX1_turned 39 = .ok (.iload 6, 2) := by decide +kernel
theorem dX1_turned_41 : decode cX1_turned 41 = .ok (.invokevirtual 57, 3) := by decide +kernel
theorem dX1_turned_44 : decode cX1_turned 44 = .ok (.invokevirtual 61, 3) := by decide +kernel
theorem dX1_turned_47 : decode cX1_turned 47 = .ok (.ifCond .eq 7, 3) := by decide +kernel
theorem dX1_turned_50 : decode cX1_turned 50 = .ok (.iconst 1, 1) := by decide +kernel
theorem dX1_turned_51 : decode cX1_turned 51 = .ok (.goto 4, 3) := by decide +kernel
theorem dX1_turned_54 : decode cX1_turned 54 = .ok (.iconst 0, 1) := by decide +kernel
theorem dX1_turned_55 : decode cX1_turned 55 = .ok (.iadd, 1) := by decide +kernel
theorem dX1_turned_56 : decode cX1_turned 56 = .ok (.istore 5, 2) := by decide +kernel
theorem dX1_turned_58 : decode cX1_turned 58 = .ok (.iinc 6 1, 3) := by decide +kernel
theorem dX1_turned_61 : decode cX1_turned 61 = .ok (.goto (-39), 3) := by decide +kernel
theorem dX1_turned_64 : decode cX1_turned 64 = .ok (.iload 5, 2) := by decide +kernel
theorem dX1_turned_66 : decode cX1_turned 66 = .ok (.ireturn, 1) := by decide +kernel
set_option maxRecDepth 20000 in
theorem ggX1_unfit_X1_code : GoodIn wsX1_unfit wsX1_code := goodIn_r _ [5, 6, 7, 8, 9, 10, 4, 11, 17, 18, 19, 20, 21, 22, 23, 24] (by decide +kernel) (by decide +kernel)
set_option maxRecDepth 20000 in
theorem gX1_unfit_X1_code : GoodIn wsX1_unfit (wsV RX1 57 RX1 yX1_code wsX1_code) := goodIn_app (goodIn_of _ (by decide +kernel)) ggX1_unfit_X1_code
set_option maxRecDepth 20000 in
theorem ggX1_unfit_X1_fit : GoodIn wsX1_unfit wsX1_fit := goodIn_r _ [15, 16, 9, 10, 4, 11, 17, 18, 19, 20, 21, 22, 23, 24] (by decide +kernel) (by decide +kernel)
set_option maxRecDepth 20000 in
theorem gX1_unfit_X1_fit : GoodIn wsX1_unfit (wsV RX1 61 RX1 yX1_fit wsX1_fit) := goodIn_app (goodIn_of _ (by decide +kernel)) ggX1_unfit_X1_fit
theorem dX1_unfit_0 : decode cX1_unfit 0 = .ok (.iload 4, 2) := by decide +kernel
theorem dX1_unfit_2 : decode cX1_unfit 2 = .ok (.istore 6, 2) := by decide +kernel
theorem dX1_unfit_4 : decode cX1_unfit 4 = .ok (.iload 6, 2) := by decide +kernel
theorem dX1_unfit_6 : decode cX1_unfit 6 = .ok (.bipush 6, 2) := by decide +kernel
theorem dX1_unfit_8 : decode cX1_unfit 8 = .ok (.if_icmp .ge 28, 3) := by decide +kernel
theorem dX1_unfit_11 : decode cX1_unfit 11 = .ok (.aload_n 0, 1) := by decide +kernel
theorem dX1_unfit_12 : decode cX1_unfit 12 = .ok (.iload_n 1, 1) := by decide +kernel
theorem dX1_unfit_13 : decode cX1_unfit 13 = .ok (.iload_n 2, 1) := by decide +kernel
theorem dX1_unfit_14 : decode cX1_unfit 14 = .ok (.aload_n 0, 1) := by decide +kernel
theorem dX1_unfit_15 : decode cX1_unfit 15 = .ok (.iload_n 2, 1) := by decide +kernel
theorem dX1_unfit_16 : decode cX1_unfit 16 = .ok (.iload_n 3, 1) := by decide +kernel
theorem dX1_unfit_17 : decode cX1_unfit 17 = .ok (.iload 6, 2) := by decide +kernel
theorem dX1_unfit_19 : decode cX1_unfit 19 = .ok (.invokevirtual 57, 3) := by decide +kernel
theorem dX1_unfit_22 : decode cX1_unfit 22 = .ok (.iload 5, 2) := by decide +kernel
theorem dX1_unfit_24 : decode cX1_unfit 24 = .ok (.invokevirtual 61, 3) := by decide +kernel
theorem dX1_unfit_27 : decode cX1_unfit 27 = .ok (.ifCond .ne 9, 3) := by decide +kernel
theorem dX1_unfit_30 : decode cX1_unfit 30 = .ok (.iinc 6 1, 3) := by decide +kernel
theorem dX1_unfit_33 : decode cX1_unfit 33 = .ok (.goto (-29), 3) := by decide +kernel
theorem dX1_unfit_36 : decode cX1_unfit 36 = .ok (.iload 6, 2) := by decide +kernel
theorem dX1_unfit_38 : decode cX1_unfit 38 = .ok (.iload 4, 2) := by decide +kernel
theorem dX1_unfit_40 : decode cX1_unfit 40 = .ok (.isub, 1) := by decide +kernel
theorem dX1_unfit_41 : decode cX1_unfit 41 = .ok (.ireturn, 1) := by decide +kernel
set_option maxRecDepth 20000 in
theorem ggX1_longest_X1_isAskedOf : GoodIn wsX1_longest wsX1_isAskedOf := goodIn_r _ [5, 6, 7, 8, 4, 9, 10, 11, 12, 13, 14, 15, 16, 17, 18, 19, 20, 40, 41, 42, 43, 44, 45, 46, 47] (by decide +kernel) (by decide +kernel)
set_option maxRecDepth 20000 in
theorem gX1_longest_X1_isAskedOf : GoodIn wsX1_longest (wsV RX1 65 RX1 yX1_isAskedOf wsX1_isAskedOf) := goodIn_app (goodIn_of _ (by decide +kernel)) ggX1_longest_X1_isAskedOf
set_option maxRecDepth 20000 in
theorem ggX1_longest_X1_unfit : GoodIn wsX1_longest wsX1_unfit := goodIn_r _ [24, 25, 26, 27, 4, 28, 29, 30, 31, 32, 33, 34, 35, 36, 37, 38, 39, 40, 41, 42, 43, 44, 45, 46, 47] (by decide +kernel) (by decide +kernel)
set_option maxRecDepth 20000 in
theorem gX1_longest_X1_unfit : GoodIn wsX1_longest (wsV RX1 68 RX1 yX1_unfit wsX1_unfit) := goodIn_app (goodIn_of _ (by decide +kernel)) ggX1_longest_X1_unfit
theorem dX1_longest_0 : decode cX1_longest 0 = .ok (.aload_n 0, 1) := by decide +kernel
theorem dX1_longest_1 : decode cX1_longest 1 = .ok (.iload_n 1, 1) := by decide +kernel
theorem dX1_longest_2 : decode cX1_longest 2 = .ok (.iload_n 2, 1) := by decide +kernel
theorem dX1_longest_3 : decode cX1_longest 3 = .ok (.iload_n 3, 1) := by decide +kernel
theorem dX1_longest_4 : decode cX1_longest 4 = .ok (.iload 4, 2) := by decide +kernel
theorem dX1_longest_6 : decode cX1_longest 6 = .ok (.invokevirtual 65, 3) := by decide +kernel
theorem dX1_longest_9 : decode cX1_longest 9 = .ok (.ifCond .ne 7, 3) := by decide +kernel
theorem dX1_longest_12 : decode cX1_longest 12 = .ok (.sipush (-1000), 3) := by decide +kernel
theorem dX1_longest_15 : decode cX1_longest 15 = .ok (.ireturn, 1) := by decide +kernel
theorem dX1_longest_16 : decode cX1_longest 16 = .ok (.iconst 0, 1) := by decide +kernel
theorem dX1_longest_17 : decode cX1_longest 17 = .ok (.istore 5, 2) := by decide +kernel
theorem dX1_longest_19 : decode cX1_longest 19 = .ok (.iconst 0, 1) := by decide +kernel
theorem dX1_longest_20 : decode cX1_longest 20 = .ok (.istore 6, 2) := by decide +kernel
theorem dX1_longest_22 : decode cX1_longest 22 = .ok (.iload 6, 2) := by decide +kernel
theorem dX1_longest_24 : decode cX1_longest 24 = .ok (.bipush 6, 2) := by decide +kernel
theorem dX1_longest_26 : decode cX1_longest 26 = .ok (.if_icmp .ge 38, 3) := by decide +kernel
theorem dX1_longest_29 : decode cX1_longest 29 = .ok (.aload_n 0, 1) := by decide +kernel
theorem dX1_longest_30 : decode cX1_longest 30 = .ok (.iload_n 1, 1) := by decide +kernel
theorem dX1_longest_31 : decode cX1_longest 31 = .ok (.iload_n 2, 1) := by decide +kernel
theorem dX1_longest_32 : decode cX1_longest 32 = .ok (.iload_n 3, 1) := by decide +kernel
theorem dX1_longest_33 : decode cX1_longest 33 = .ok (.iload 6, 2) := by decide +kernel
theorem dX1_longest_35 : decode cX1_longest 35 = .ok (.iload 4, 2) := by decide +kernel
theorem dX1_longest_37 : decode cX1_longest 37 = .ok (.invokevirtual 68, 3) := by decide +kernel
theorem dX1_longest_40 : decode cX1_longest 40 = .ok (.istore 7, 2) := by decide +kernel
theorem dX1_longest_42 : decode cX1_longest 42 = .ok (.iload 7, 2) := by decide +kernel
theorem dX1_longest_44 : decode cX1_longest 44 = .ok (.iload 5, 2) := by decide +kernel
theorem dX1_longest_46 : decode cX1_longest 46 = .ok (.if_icmp .le 8, 3) := by decide +kernel
theorem dX1_longest_49 : decode cX1_longest 49 = .ok (.iload 7, 2) := by decide +kernel
theorem dX1_longest_51 : decode cX1_longest 51 = .ok (.goto 5, 3) := by decide +kernel
theorem dX1_longest_54 : decode cX1_longest 54 = .ok (.iload 5, 2) := by decide +kernel
theorem dX1_longest_56 : decode cX1_longest 56 = .ok (.istore 5, 2) := by decide +kernel
theorem dX1_longest_58 : decode cX1_longest 58 = .ok (.iinc 6 1, 3) := by decide +kernel
theorem dX1_longest_61 : decode cX1_longest 61 = .ok (.goto (-39), 3) := by decide +kernel
theorem dX1_longest_64 : decode cX1_longest 64 = .ok (.iload 5, 2) := by decide +kernel
theorem dX1_longest_66 : decode cX1_longest 66 = .ok (.ireturn, 1) := by decide +kernel
set_option maxRecDepth 20000 in
theorem ggX1_skip_X1_isAskedOf : GoodIn wsX1_skip wsX1_isAskedOf := goodIn_r _ [5, 6, 7, 8, 4, 9, 10, 11, 12, 13, 14, 15, 16, 17, 18, 19, 20, 39, 40, 41, 42, 43, 44, 45, 46] (by decide +kernel) (by decide +kernel)
set_option maxRecDepth 20000 in
theorem gX1_skip_X1_isAskedOf : GoodIn wsX1_skip (wsV RX1 65 RX1 yX1_isAskedOf wsX1_isAskedOf) := goodIn_app (goodIn_of _ (by decide +kernel)) ggX1_skip_X1_isAskedOf
set_option maxRecDepth 20000 in
theorem ggX1_skip_X1_isRound : GoodIn wsX1_skip wsX1_isRound := goodIn_r _ [23, 10, 11, 4, 12] (by decide +kernel) (by decide +kernel)
set_option maxRecDepth 20000 in
theorem gX1_skip_X1_isRound : GoodIn wsX1_skip (va_wsS RX1 54 yX1_isRound wsX1_isRound) := goodIn_app (goodIn_of _ (by decide +kernel)) ggX1_skip_X1_isRound
set_option maxRecDepth 20000 in
theorem ggX1_skip_X1_code : GoodIn wsX1_skip wsX1_code := goodIn_r _ [27, 28, 29, 30, 31, 32, 4, 33, 39, 40, 41, 42, 43, 44, 45, 46] (by decide +kernel) (by decide +kernel)
set_option maxRecDepth 20000 in
theorem gX1_skip_X1_code : GoodIn wsX1_skip (wsV RX1 57 RX1 yX1_code wsX1_code) := goodIn_app (goodIn_of _ (by decide +kernel)) ggX1_skip_X1_code
set_option maxRecDepth 20000 in
theorem ggX1_skip_X1_fit : GoodIn wsX1_skip wsX1_fit := goodIn_r _ [37, 38, 31, 32, 4, 33, 39, 40, 41, 42, 43, 44, 45, 46] (by decide +kernel) (by decide +kernel)
set_option maxRecDepth 20000 in
theorem gX1_skip_X1_fit : GoodIn wsX1_skip (wsV RX1 61 RX1 yX1_fit wsX1_fit) := goodIn_app (goodIn_of _ (by decide +kernel)) ggX1_skip_X1_fit
theorem dX1_skip_0 : decode cX1_skip 0 = .ok (.aload_n 0, 1) := by decide +kernel
theorem dX1_skip_1 : decode cX1_skip 1 = .ok (.iload_n 1, 1) := by decide +kernel
theorem dX1_skip_2 : decode cX1_skip 2 = .ok (.iload_n 2, 1) := by decide +kernel
theorem dX1_skip_3 : decode cX1_skip 3 = .ok (.iload_n 3, 1) := by decide +kernel
theorem dX1_skip_4 : decode cX1_skip 4 = .ok (.iload 5, 2) := by decide +kernel
theorem dX1_skip_6 : decode cX1_skip 6 = .ok (.invokevirtual 65, 3) := by decide +kernel
theorem dX1_skip_9 : decode cX1_skip 9 = .ok (.ifCond .eq 11, 3) := by decide +kernel
theorem dX1_skip_12 : decode cX1_skip 12 = .ok (.iload 4, 2) := by decide +kernel
theorem dX1_skip_14 : decode cX1_skip 14 = .ok (.invokestatic 54, 3) := by decide +kernel
theorem dX1_skip_17 : decode cX1_skip 17 = .ok (.ifCond .ne 7, 3) := by decide +kernel
theorem dX1_skip_20 : decode cX1_skip 20 = .ok (.sipush (-1000), 3) := by decide +kernel
theorem dX1_skip_23 : decode cX1_skip 23 = .ok (.ireturn, 1) := by decide +kernel
theorem dX1_skip_24 : decode cX1_skip 24 = .ok (.bipush 6, 2) := by decide +kernel
theorem dX1_skip_26 : decode cX1_skip 26 = .ok (.istore 6, 2) := by decide +kernel
theorem dX1_skip_28 : decode cX1_skip 28 = .ok (.iconst 5, 1) := by decide +kernel
theorem dX1_skip_29 : decode cX1_skip 29 = .ok (.istore 7, 2) := by decide +kernel
theorem dX1_skip_31 : decode cX1_skip 31 = .ok (.iload 7, 2) := by decide +kernel
theorem dX1_skip_33 : decode cX1_skip 33 = .ok (.iload 4, 2) := by decide +kernel
theorem dX1_skip_35 : decode cX1_skip 35 = .ok (.if_icmp .lt 37, 3) := by decide +kernel
theorem dX1_skip_38 : decode cX1_skip 38 = .ok (.aload_n 0, 1) := by decide +kernel
theorem dX1_skip_39 : decode cX1_skip 39 = .ok (.iload_n 1, 1) := by decide +kernel
theorem dX1_skip_40 : decode cX1_skip 40 = .ok (.iload_n 2, 1) := by decide +kernel
theorem dX1_skip_41 : decode cX1_skip 41 = .ok (.aload_n 0, 1) := by decide +kernel
theorem dX1_skip_42 : decode cX1_skip 42 = .ok (.iload_n 2, 1) := by decide +kernel
theorem dX1_skip_43 : decode cX1_skip 43 = .ok (.iload_n 3, 1) := by decide +kernel
theorem dX1_skip_44 : decode cX1_skip 44 = .ok (.iload 7, 2) := by decide +kernel
theorem dX1_skip_46 : decode cX1_skip 46 = .ok (.invokevirtual 57, 3) := by decide +kernel
theorem dX1_skip_49 : decode cX1_skip 49 = .ok (.iload 5, 2) := by decide +kernel
theorem dX1_skip_51 : decode cX1_skip 51 = .ok (.invokevirtual 61, 3) := by decide +kernel
theorem dX1_skip_54 : decode cX1_skip 54 = .ok (.ifCond .eq 8, 3) := by decide +kernel
theorem dX1_skip_57 : decode cX1_skip 57 = .ok (.iload 6, 2) := by decide +kernel
theorem dX1_skip_59 : decode cX1_skip 59 = .ok (.goto 5, 3) := by decide +kernel
theorem dX1_skip_62 : decode cX1_skip 62 = .ok (.iload 7, 2) := by decide +kernel
theorem dX1_skip_64 : decode cX1_skip 64 = .ok (.istore 6, 2) := by decide +kernel
theorem dX1_skip_66 : decode cX1_skip 66 = .ok (.iinc 7 (-1), 3) := by decide +kernel
theorem dX1_skip_69 : decode cX1_skip 69 = .ok (.goto (-38), 3) := by decide +kernel
theorem dX1_skip_72 : decode cX1_skip 72 = .ok (.iload 6, 2) := by decide +kernel
theorem dX1_skip_74 : decode cX1_skip 74 = .ok (.ireturn, 1) := by decide +kernel
set_option maxRecDepth 20000 in
theorem ggX1_pick_X1_isAskedOf : GoodIn wsX1_pick wsX1_isAskedOf := goodIn_r _ [5, 6, 7, 8, 4, 9, 10, 11, 12, 13, 14, 15, 16, 17, 18, 19, 20, 36, 37, 38, 39, 40, 41, 42, 43] (by decide +kernel) (by decide +kernel)
set_option maxRecDepth 20000 in
theorem gX1_pick_X1_isAskedOf : GoodIn wsX1_pick (wsV RX1 65 RX1 yX1_isAskedOf wsX1_isAskedOf) := goodIn_app (goodIn_of _ (by decide +kernel)) ggX1_pick_X1_isAskedOf
set_option maxRecDepth 20000 in
theorem ggX1_pick_X1_code : GoodIn wsX1_pick wsX1_code := goodIn_r _ [24, 25, 26, 27, 28, 29, 4, 30, 36, 37, 38, 39, 40, 41, 42, 43] (by decide +kernel) (by decide +kernel)
set_option maxRecDepth 20000 in
theorem gX1_pick_X1_code : GoodIn wsX1_pick (wsV RX1 57 RX1 yX1_code wsX1_code) := goodIn_app (goodIn_of _ (by decide +kernel)) ggX1_pick_X1_code
set_option maxRecDepth 20000 in
theorem ggX1_pick_X1_fit : GoodIn wsX1_pick wsX1_fit := goodIn_r _ [34, 35, 28, 29, 4, 30, 36, 37, 38, 39, 40, 41, 42, 43] (by decide +kernel) (by decide +kernel)
set_option maxRecDepth 20000 in
theorem gX1_pick_X1_fit : GoodIn wsX1_pick (wsV RX1 61 RX1 yX1_fit wsX1_fit) := goodIn_app (goodIn_of _ (by decide +kernel)) ggX1_pick_X1_fit
theorem dX1_pick_0 : decode cX1_pick 0 = .ok (.aload_n 0, 1) := by decide +kernel
theorem dX1_pick_1 : decode cX1_pick 1 = .ok (.iload_n 1, 1) := by decide +kernel
theorem dX1_pick_2 : decode cX1_pick 2 = .ok (.iload_n 2, 1) := by decide +kernel
theorem dX1_pick_3 : decode cX1_pick 3 = .ok (.iload_n 3, 1) := by decide +kernel
theorem dX1_pick_4 : decode cX1_pick 4 = .ok (.iload 4, 2) := by decide +kernel
theorem dX1_pick_6 : decode cX1_pick 6 = .ok (.invokevirtual 65, 3) := by decide +kernel
theorem dX1_pick_9 : decode cX1_pick 9 = .ok (.ifCond .ne 7, 3) := by decide +kernel
theorem dX1_pick_12 : decode cX1_pick 12 = .ok (.sipush (-1000), 3) := by decide +kernel
theorem dX1_pick_15 : decode cX1_pick 15 = .ok (.ireturn, 1) := by decide +kernel
theorem dX1_pick_16 : decode cX1_pick 16 = .ok (.iload 4, 2) := by decide +kernel
theorem dX1_pick_18 : decode cX1_pick 18 = .ok (.istore 5, 2) := by decide +kernel
theorem dX1_pick_20 : decode cX1_pick 20 = .ok (.iconst 0, 1) := by decide +kernel
theorem dX1_pick_21 : decode cX1_pick 21 = .ok (.istore 6, 2) := by decide +kernel
theorem dX1_pick_23 : decode cX1_pick 23 = .ok (.iload 6, 2) := by decide +kernel
theorem dX1_pick_25 : decode cX1_pick 25 = .ok (.bipush 6, 2) := by decide +kernel
theorem dX1_pick_27 : decode cX1_pick 27 = .ok (.if_icmp .ge 41, 3) := by decide +kernel
theorem dX1_pick_30 : decode cX1_pick 30 = .ok (.aload_n 0, 1) := by decide +kernel
theorem dX1_pick_31 : decode cX1_pick 31 = .ok (.iload_n 2, 1) := by decide +kernel
theorem dX1_pick_32 : decode cX1_pick 32 = .ok (.iload_n 3, 1) := by decide +kernel
theorem dX1_pick_33 : decode cX1_pick 33 = .ok (.iload 6, 2) := by decide +kernel
theorem dX1_pick_35 : decode cX1_pick 35 = .ok (.invokevirtual 57, 3) := by decide +kernel
theorem dX1_pick_38 : decode cX1_pick 38 = .ok (.istore 7, 2) := by decide +kernel
theorem dX1_pick_40 : decode cX1_pick 40 = .ok (.aload_n 0, 1) := by decide +kernel
theorem dX1_pick_41 : decode cX1_pick 41 = .ok (.iload_n 1, 1) := by decide +kernel
theorem dX1_pick_42 : decode cX1_pick 42 = .ok (.iload_n 2, 1) := by decide +kernel
theorem dX1_pick_43 : decode cX1_pick 43 = .ok (.iload 7, 2) := by decide +kernel
theorem dX1_pick_45 : decode cX1_pick 45 = .ok (.iload 5, 2) := by decide +kernel
theorem dX1_pick_47 : decode cX1_pick 47 = .ok (.invokevirtual 61, 3) := by decide +kernel
theorem dX1_pick_50 : decode cX1_pick 50 = .ok (.ifCond .eq 8, 3) := by decide +kernel
theorem dX1_pick_53 : decode cX1_pick 53 = .ok (.iload 7, 2) := by decide +kernel
theorem dX1_pick_55 : decode cX1_pick 55 = .ok (.goto 5, 3) := by decide +kernel
theorem dX1_pick_58 : decode cX1_pick 58 = .ok (.iload 5, 2) := by decide +kernel
theorem dX1_pick_60 : decode cX1_pick 60 = .ok (.istore 5, 2) := by decide +kernel
theorem dX1_pick_62 : decode cX1_pick 62 = .ok (.iinc 6 1, 3) := by decide +kernel
theorem dX1_pick_65 : decode cX1_pick 65 = .ok (.goto (-42), 3) := by decide +kernel
theorem dX1_pick_68 : decode cX1_pick 68 = .ok (.iload 5, 2) := by decide +kernel
theorem dX1_pick_70 : decode cX1_pick 70 = .ok (.ireturn, 1) := by decide +kernel
set_option maxRecDepth 20000 in
theorem ggX1_isLegal_X1_code : GoodIn wsX1_isLegal wsX1_code := goodIn_r _ [6, 7, 8, 9, 10, 11, 5, 12, 18, 19, 20, 21, 22, 23, 24, 25] (by decide +kernel) (by decide +kernel)
set_option maxRecDepth 20000 in
theorem gX1_isLegal_X1_code : GoodIn wsX1_isLegal (wsV RX1 57 RX1 yX1_code wsX1_code) := goodIn_app (goodIn_of _ (by decide +kernel)) ggX1_isLegal_X1_code
set_option maxRecDepth 20000 in
theorem ggX1_isLegal_X1_fit : GoodIn wsX1_isLegal wsX1_fit := goodIn_r _ [16, 17, 10, 11, 5, 12, 18, 19, 20, 21, 22, 23, 24, 25] (by decide +kernel) (by decide +kernel)
set_option maxRecDepth 20000 in
theorem gX1_isLegal_X1_fit : GoodIn wsX1_isLegal (wsV RX1 61 RX1 yX1_fit wsX1_fit) := goodIn_app (goodIn_of _ (by decide +kernel)) ggX1_isLegal_X1_fit
theorem dX1_isLegal_0 : decode cX1_isLegal 0 = .ok (.aload_n 0, 1) := by decide +kernel
theorem dX1_isLegal_1 : decode cX1_isLegal 1 = .ok (.iconst 0, 1) := by decide +kernel
theorem dX1_isLegal_2 : decode cX1_isLegal 2 = .ok (.iload_n 1, 1) := by decide +kernel
theorem dX1_isLegal_3 : decode cX1_isLegal 3 = .ok (.iload_n 2, 1) := by decide +kernel
theorem dX1_isLegal_4 : decode cX1_isLegal 4 = .ok (.invokevirtual 57, 3) := by decide +kernel
theorem dX1_isLegal_7 : decode cX1_isLegal 7 = .ok (.ifCond .eq 27, 3) := by decide +kernel
theorem dX1_isLegal_10 : decode cX1_isLegal 10 = .ok (.aload_n 0, 1) := by decide +kernel
theorem dX1_isLegal_11 : decode cX1_isLegal 11 = .ok (.iconst 2, 1) := by decide +kernel
theorem dX1_isLegal_12 : decode cX1_isLegal 12 = .ok (.iconst 1, 1) := by decide +kernel
theorem dX1_isLegal_13 : decode cX1_isLegal 13 = .ok (.aload_n 0, 1) := by decide +kernel
theorem dX1_isLegal_14 : decode cX1_isLegal 14 = .ok (.iconst 1, 1) := by decide +kernel
theorem dX1_isLegal_15 : decode cX1_isLegal 15 = .ok (.iload_n 1, 1) := by decide +kernel
theorem dX1_isLegal_16 : decode cX1_isLegal 16 = .ok (.iload_n 2, 1) := by decide +kernel
theorem dX1_isLegal_17 : decode cX1_isLegal 17 = .ok (.invokevirtual 57, 3) := by decide +kernel
theorem dX1_isLegal_20 : decode cX1_isLegal 20 = .ok (.aload_n 0, 1) := by decide +kernel
theorem dX1_isLegal_21 : decode cX1_isLegal 21 = .ok (.getfield 29, 3) := by decide +kernel
theorem dX1_isLegal_24 : decode cX1_isLegal 24 = .ok (.invokevirtual 61, 3) := by decide +kernel
theorem dX1_isLegal_27 : decode cX1_isLegal 27 = .ok (.ifCond .ne 7, 3) := by decide +kernel
theorem dX1_isLegal_30 : decode cX1_isLegal 30 = .ok (.iconst 1, 1) := by decide +kernel
theorem dX1_isLegal_31 : decode cX1_isLegal 31 = .ok (.goto 4, 3) := by decide +kernel
theorem dX1_isLegal_34 : decode cX1_isLegal 34 = .ok (.iconst 0, 1) := by decide +kernel
theorem dX1_isLegal_35 : decode cX1_isLegal 35 = .ok (.ireturn, 1) := by decide +kernel
set_option maxRecDepth 20000 in
theorem ggX1_greatest_X1_code : GoodIn wsX1_greatest wsX1_code := goodIn_r _ [5, 6, 7, 8, 9, 10, 4, 11, 22, 23, 24, 25, 26, 27, 28, 29] (by decide +kernel) (by decide +kernel)
set_option maxRecDepth 20000 in
theorem gX1_greatest_X1_code : GoodIn wsX1_greatest (wsV RX1 57 RX1 yX1_code wsX1_code) := goodIn_app (goodIn_of _ (by decide +kernel)) ggX1_greatest_X1_code
set_option maxRecDepth 20000 in
theorem ggX1_greatest_X1_isLegal : GoodIn wsX1_greatest wsX1_isLegal := goodIn_r _ [15, 16, 1, 2, 3, 4, 5, 6, 7, 8, 9, 10, 11, 17, 18, 19, 20, 21, 22, 23, 24, 25, 26, 27, 28, 29] (by decide +kernel) (by decide +kernel)
set_option maxRecDepth 20000 in
theorem gX1_greatest_X1_isLegal : GoodIn wsX1_greatest (wsV RX1 72 RX1 yX1_isLegal wsX1_isLegal) := goodIn_app (goodIn_of _ (by decide +kernel)) ggX1_greatest_X1_isLegal
theorem dX1_greatest_0 : decode cX1_greatest 0 = .ok (.iconst 0, 1) := by decide +kernel
theorem dX1_greatest_1 : decode cX1_greatest 1 = .ok (.istore_n 3, 1) := by decide +kernel
theorem dX1_greatest_2 : decode cX1_greatest 2 = .ok (.iconst 0, 1) := by decide +kernel
theorem dX1_greatest_3 : decode cX1_greatest 3 = .ok (.istore 4, 2) := by decide +kernel
theorem dX1_greatest_5 : decode cX1_greatest 5 = .ok (.iload 4, 2) := by decide +kernel
theorem dX1_greatest_7 : decode cX1_greatest 7 = .ok (.bipush 6, 2) := by decide +kernel
theorem dX1_greatest_9 : decode cX1_greatest 9 = .ok (.if_icmp .ge 44, 3) := by decide +kernel
theorem dX1_greatest_12 : decode cX1_greatest 12 = .ok (.aload_n 0, 1) := by decide +kernel
theorem dX1_greatest_13 : decode cX1_greatest 13 = .ok (.iconst 0, 1) := by decide +kernel
theorem dX1_greatest_14 : decode cX1_greatest 14 = .ok (.iload_n 1, 1) := by decide +kernel
theorem dX1_greatest_15 : decode cX1_greatest 15 = .ok (.iload 4, 2) := by decide +kernel
theorem dX1_greatest_17 : decode cX1_greatest 17 = .ok (.invokevirtual 57, 3) := by decide +kernel
theorem dX1_greatest_20 : decode cX1_greatest 20 = .ok (.istore 5, 2) := by decide +kernel
theorem dX1_greatest_22 : decode cX1_greatest 22 = .ok (.aload_n 0, 1) := by decide +kernel
theorem dX1_greatest_23 : decode cX1_greatest 23 = .ok (.iload_n 1, 1) := by decide +kernel
theorem dX1_greatest_24 : decode cX1_greatest 24 = .ok (.iload 4, 2) := by decide +kernel
theorem dX1_greatest_26 : decode cX1_greatest 26 = .ok (.invokevirtual 72, 3) := by decide +kernel
theorem dX1_greatest_29 : decode cX1_greatest 29 = .ok (.ifCond .eq 18, 3) := by decide +kernel
theorem dX1_greatest_32 : decode cX1_greatest 32 = .ok (.iload 5, 2) := by decide +kernel
theorem dX1_greatest_34 : decode cX1_greatest 34 = .ok (.iload_n 2, 1) := by decide +kernel
theorem dX1_greatest_35 : decode cX1_greatest 35 = .ok (.if_icmp .ge 12, 3) := by decide +kernel
theorem dX1_greatest_38 : decode cX1_greatest 38 = .ok (.iload 5, 2) := by decide +kernel
theorem dX1_greatest_40 : decode cX1_greatest 40 = .ok (.iload_n 3, 1) := by decide +kernel
theorem dX1_greatest_41 : decode cX1_greatest 41 = .ok (.if_icmp .le 6, 3) := by decide +kernel
theorem dX1_greatest_44 : decode cX1_greatest 44 = .ok (.iload 5, 2) := by decide +kernel
theorem dX1_greatest_46 : decode cX1_greatest 46 = .ok (.istore_n 3, 1) := by decide +kernel
theorem dX1_greatest_47 : decode cX1_greatest 47 = .ok (.iinc 4 1, 3) := by decide +kernel
theorem dX1_greatest_50 : decode cX1_greatest 50 = .ok (.goto (-45), 3) := by decide +kernel
theorem dX1_greatest_53 : decode cX1_greatest 53 = .ok (.iload_n 3, 1) := by decide +kernel
theorem dX1_greatest_54 : decode cX1_greatest 54 = .ok (.ireturn, 1) := by decide +kernel
set_option maxRecDepth 20000 in
theorem ggX1_many_X1_isLegal : GoodIn wsX1_many wsX1_isLegal := goodIn_r _ [5, 6, 7, 8, 9, 4, 10, 11, 12, 13, 14, 15, 16, 17, 18, 19, 20, 21, 22, 23, 24, 25, 26, 27, 28, 29] (by decide +kernel) (by decide +kernel)
set_option maxRecDepth 20000 in
theorem gX1_many_X1_isLegal : GoodIn wsX1_many (wsV RX1 72 RX1 yX1_isLegal wsX1_isLegal) := goodIn_app (goodIn_of _ (by decide +kernel)) ggX1_many_X1_isLegal
set_option maxRecDepth 20000 in
theorem ggX1_many_X1_code : GoodIn wsX1_many wsX1_code := goodIn_r _ [10, 11, 12, 13, 14, 15, 4, 16, 22, 23, 24, 25, 26, 27, 28, 29] (by decide +kernel) (by decide +kernel)
set_option maxRecDepth 20000 in
theorem gX1_many_X1_code : GoodIn wsX1_many (wsV RX1 57 RX1 yX1_code wsX1_code) := goodIn_app (goodIn_of _ (by decide +kernel)) ggX1_many_X1_code
theorem dX1_many_0 : decode cX1_many 0 = .ok (.iconst 0, 1) := by decide +kernel
theorem dX1_many_1 : decode cX1_many 1 = .ok (.istore_n 3, 1) := by decide +kernel
theorem dX1_many_2 : decode cX1_many 2 = .ok (.iconst 0, 1) := by decide +kernel
theorem dX1_many_3 : decode cX1_many 3 = .ok (.istore 4, 2) := by decide +kernel
theorem dX1_many_5 : decode cX1_many 5 = .ok (.iload 4, 2) := by decide +kernel
theorem dX1_many_7 : decode cX1_many 7 = .ok (.bipush 6, 2) := by decide +kernel
theorem dX1_many_9 : decode cX1_many 9 = .ok (.if_icmp .ge 39, 3) := by decide +kernel
theorem dX1_many_12 : decode cX1_many 12 = .ok (.iload_n 3, 1) := by decide +kernel
theorem dX1_many_13 : decode cX1_many 13 = .ok (.aload_n 0, 1) := by decide +kernel
theorem dX1_many_14 : decode cX1_many 14 = .ok (.iload_n 1, 1) := by decide +kernel
theorem dX1_many_15 : decode cX1_many 15 = .ok (.iload 4, 2) := by decide +kernel
theorem dX1_many_17 : decode cX1_many 17 = .ok (.invokevirtual 72, 3) := by decide +kernel
theorem dX1_many_20 : decode cX1_many 20 = .ok (.ifCond .eq 19, 3) := by decide +kernel
theorem dX1_many_23 : decode cX1_many 23 = .ok (.aload_n 0, 1) := by decide +kernel
theorem dX1_many_24 : decode cX1_many 24 = .ok (.iconst 0, 1) := by decide +kernel
theorem dX1_many_25 : decode cX1_many 25 = .ok (.iload_n 1, 1) := by decide +kernel
theorem dX1_many_26 : decode cX1_many 26 = .ok (.iload 4, 2) := by decide +kernel
theorem dX1_many_28 : decode cX1_many 28 = .ok (.invokevirtual 57, 3) := by decide +kernel
theorem dX1_many_31 : decode cX1_many 31 = .ok (.iload_n 2, 1) := by decide +kernel
theorem dX1_many_32 : decode cX1_many 32 = .ok (.if_icmp .ne 7, 3) := by decide +kernel
theorem dX1_many_35 : decode cX1_many 35 = .ok (.iconst 1, 1) := by decide +kernel
theorem dX1_many_36 : decode cX1_many 36 = .ok (.goto 4, 3) := by decide +kernel
theorem dX1_many_39 : decode cX1_many 39 = .ok (.iconst 0, 1) := by decide +kernel
theorem dX1_many_40 : decode cX1_many 40 = .ok (.iadd, 1) := by decide +kernel
theorem dX1_many_41 : decode cX1_many 41 = .ok (.istore_n 3, 1) := by decide +kernel
theorem dX1_many_42 : decode cX1_many 42 = .ok (.iinc 4 1, 3) := by decide +kernel
theorem dX1_many_45 : decode cX1_many 45 = .ok (.goto (-40), 3) := by decide +kernel
theorem dX1_many_48 : decode cX1_many 48 = .ok (.iload_n 3, 1) := by decide +kernel
theorem dX1_many_49 : decode cX1_many 49 = .ok (.ireturn, 1) := by decide +kernel
set_option maxRecDepth 20000 in
theorem ggX1_compared_X1_greatest : GoodIn wsX1_compared wsX1_greatest := goodIn_r _ [5, 6, 7, 8, 4, 9, 10, 11, 12, 13, 14, 15, 16, 17, 18, 19, 20, 21, 22, 23, 24, 25, 30, 31, 32, 33, 34, 35, 36, 37] (by decide +kernel) (by decide +kernel)
set_option maxRecDepth 20000 in
theorem gX1_compared_X1_greatest : GoodIn wsX1_compared (wsV RX1 75 RX1 yX1_greatest wsX1_greatest) := goodIn_app (goodIn_of _ (by decide +kernel)) ggX1_compared_X1_greatest
set_option maxRecDepth 20000 in
theorem ggX1_compared_X1_many : GoodIn wsX1_compared wsX1_many := goodIn_r _ [29, 16, 17, 18, 4, 19, 20, 6, 7, 8, 9, 10, 11, 12, 13, 14, 15, 21, 22, 23, 24, 25, 30, 31, 32, 33, 34, 35, 36, 37] (by decide +kernel) (by decide +kernel)
set_option maxRecDepth 20000 in
theorem gX1_compared_X1_many : GoodIn wsX1_compared (wsV RX1 79 RX1 yX1_many wsX1_many) := goodIn_app (goodIn_of _ (by decide +kernel)) ggX1_compared_X1_many
theorem dX1_compared_0 : decode cX1_compared 0 = .ok (.sipush 1201, 3) := by decide +kernel
theorem dX1_compared_3 : decode cX1_compared 3 = .ok (.istore_n 3, 1) := by decide +kernel
theorem dX1_compared_4 : decode cX1_compared 4 = .ok (.iload_n 3, 1) := by decide +kernel
theorem dX1_compared_5 : decode cX1_compared 5 = .ok (.ifCond .le 76, 3) := by decide +kernel
theorem dX1_compared_8 : decode cX1_compared 8 = .ok (.aload_n 0, 1) := by decide +kernel
theorem dX1_compared_9 : decode cX1_compared 9 = .ok (.iload_n 1, 1) := by decide +kernel
theorem dX1_compared_10 : decode cX1_compared 10 = .ok (.iload_n 3, 1) := by decide +kernel
theorem dX1_compared_11 : decode cX1_compared 11 = .ok (.invokevirtual 75, 3) := by decide +kernel
theorem dX1_compared_14 : decode cX1_compared 14 = .ok (.istore 4, 2) := by decide +kernel
theorem dX1_compared_16 : decode cX1_compared 16 = .ok (.aload_n 0, 1) := by decide +kernel
theorem dX1_compared_17 : decode cX1_compared 17 = .ok (.iload_n 2, 1) := by decide +kernel
theorem dX1_compared_18 : decode cX1_compared 18 = .ok (.iload_n 3, 1) := by decide +kernel
theorem dX1_compared_19 : decode cX1_compared 19 = .ok (.invokevirtual 75, 3) := by decide +kernel
theorem dX1_compared_22 : decode cX1_compared 22 = .ok (.istore 5, 2) := by decide +kernel
theorem dX1_compared_24 : decode cX1_compared 24 = .ok (.iload 4, 2) := by decide +kernel
theorem dX1_compared_26 : decode cX1_compared 26 = .ok (.iload 5, 2) := by decide +kernel
theorem dX1_compared_28 : decode cX1_compared 28 = .ok (.if_icmp .le 8, 3) := by decide +kernel
theorem dX1_compared_31 : decode cX1_compared 31 = .ok (.iload 4, 2) := by decide +kernel
theorem dX1_compared_33 : decode cX1_compared 33 = .ok (.goto 5, 3) := by decide +kernel
theorem dX1_compared_36 : decode cX1_compared 36 = .ok (.iload 5, 2) := by decide +kernel
theorem dX1_compared_38 : decode cX1_compared 38 = .ok (.istore_n 3, 1) := by decide +kernel
theorem dX1_compared_39 : decode cX1_compared 39 = .ok (.iload_n 3, 1) := by decide +kernel
theorem dX1_compared_40 : decode cX1_compared 40 = .ok (.ifCond .ne 7, 3) := by decide +kernel
theorem dX1_compared_43 : decode cX1_compared 43 = .ok (.iconst 0, 1) := by decide +kernel
theorem dX1_compared_44 : decode cX1_compared 44 = .ok (.goto 16, 3) := by decide +kernel
theorem dX1_compared_47 : decode cX1_compared 47 = .ok (.aload_n 0, 1) := by decide +kernel
theorem dX1_compared_48 : decode cX1_compared 48 = .ok (.iload_n 1, 1) := by decide +kernel
theorem dX1_compared_49 : decode cX1_compared 49 = .ok (.iload_n 3, 1) := by decide +kernel
theorem dX1_compared_50 : decode cX1_compared 50 = .ok (.invokevirtual 79, 3) := by decide +kernel
theorem dX1_compared_53 : decode cX1_compared 53 = .ok (.aload_n 0, 1) := by decide +kernel
theorem dX1_compared_54 : decode cX1_compared 54 = .ok (.iload_n 2, 1) := by decide +kernel
theorem dX1_compared_55 : decode cX1_compared 55 = .ok (.iload_n 3, 1) := by decide +kernel
theorem dX1_compared_56 : decode cX1_compared 56 = .ok (.invokevirtual 79, 3) := by decide +kernel
theorem dX1_compared_59 : decode cX1_compared 59 = .ok (.isub, 1) := by decide +kernel
theorem dX1_compared_60 : decode cX1_compared 60 = .ok (.istore 6, 2) := by decide +kernel
theorem dX1_compared_62 : decode cX1_compared 62 = .ok (.iload 6, 2) := by decide +kernel
theorem dX1_compared_64 : decode cX1_compared 64 = .ok (.ifCond .eq 14, 3) := by decide +kernel
theorem dX1_compared_67 : decode cX1_compared 67 = .ok (.iload 6, 2) := by decide +kernel
theorem dX1_compared_69 : decode cX1_compared 69 = .ok (.ifCond .le 7, 3) := by decide +kernel
theorem dX1_compared_72 : decode cX1_compared 72 = .ok (.iconst 1, 1) := by decide +kernel
theorem dX1_compared_73 : decode cX1_compared 73 = .ok (.goto 4, 3) := by decide +kernel
theorem dX1_compared_76 : decode cX1_compared 76 = .ok (.iconst (-1), 1) := by decide +kernel
theorem dX1_compared_77 : decode cX1_compared 77 = .ok (.ireturn, 1) := by decide +kernel
theorem dX1_compared_78 : decode cX1_compared 78 = .ok (.goto (-74), 3) := by decide +kernel
theorem dX1_compared_81 : decode cX1_compared 81 = .ok (.iconst 0, 1) := by decide +kernel
theorem dX1_compared_82 : decode cX1_compared 82 = .ok (.ireturn, 1) := by decide +kernel
set_option maxRecDepth 20000 in
theorem ggX1_best_X1_isJumper : GoodIn wsX1_best wsX1_isJumper := goodIn_r _ [5, 6, 7, 8, 4, 9, 34, 35, 36, 37, 38, 39, 40, 41] (by decide +kernel) (by decide +kernel)
set_option maxRecDepth 20000 in
theorem gX1_best_X1_isJumper : GoodIn wsX1_best (wsV RX1 43 RX1 yX1_isJumper wsX1_isJumper) := goodIn_app (goodIn_of _ (by decide +kernel)) ggX1_best_X1_isJumper
set_option maxRecDepth 20000 in
theorem ggX1_best_X1_greatest : GoodIn wsX1_best wsX1_greatest := goodIn_r _ [13, 14, 15, 16, 4, 17, 18, 19, 20, 21, 22, 23, 24, 25, 26, 27, 28, 29, 30, 31, 32, 33, 34, 35, 36, 37, 38, 39, 40, 41] (by decide +kernel) (by decide +kernel)
set_option maxRecDepth 20000 in
theorem gX1_best_X1_greatest : GoodIn wsX1_best (wsV RX1 75 RX1 yX1_greatest wsX1_greatest) := goodIn_app (goodIn_of _ (by decide +kernel)) ggX1_best_X1_greatest
theorem dX1_best_0 : decode cX1_best 0 = .ok (.aload_n 0, 1) := by decide +kernel
theorem dX1_best_1 : decode cX1_best 1 = .ok (.iload_n 1, 1) := by decide +kernel
theorem dX1_best_2 : decode cX1_best 2 = .ok (.invokevirtual 43, 3) := by decide +kernel
theorem dX1_best_5 : decode cX1_best 5 = .ok (.ifCond .eq 14, 3) := by decide +kernel
theorem dX1_best_8 : decode cX1_best 8 = .ok (.aload_n 0, 1) := by decide +kernel
theorem dX1_best_9 : decode cX1_best 9 = .ok (.iload_n 1, 1) := by decide +kernel
theorem dX1_best_10 : decode cX1_best 10 = .ok (.sipush 1201, 3) := by decide +kernel
theorem dX1_best_13 : decode cX1_best 13 = .ok (.invokevirtual 75, 3) := by decide +kernel
theorem dX1_best_16 : decode cX1_best 16 = .ok (.goto 6, 3) := by decide +kernel
theorem dX1_best_19 : decode cX1_best 19 = .ok (.sipush (-1000), 3) := by decide +kernel
theorem dX1_best_22 : decode cX1_best 22 = .ok (.ireturn, 1) := by decide +kernel
set_option maxRecDepth 20000 in
theorem ggX1_ahead_X1_isJumper : GoodIn wsX1_ahead wsX1_isJumper := goodIn_r _ [5, 6, 7, 8, 4, 9, 42, 43, 44, 45, 46, 47, 48, 49] (by decide +kernel) (by decide +kernel)
set_option maxRecDepth 20000 in
theorem gX1_ahead_X1_isJumper : GoodIn wsX1_ahead (wsV RX1 43 RX1 yX1_isJumper wsX1_isJumper) := goodIn_app (goodIn_of _ (by decide +kernel)) ggX1_ahead_X1_isJumper
set_option maxRecDepth 20000 in
theorem ggX1_ahead_X1_compared : GoodIn wsX1_ahead wsX1_compared := goodIn_r _ [13, 14, 15, 16, 4, 17, 18, 19, 20, 21, 22, 23, 24, 25, 26, 27, 28, 29, 30, 31, 32, 33, 34, 35, 36, 37, 38, 39, 40, 41, 42, 43, 44, 45, 46, 47, 48, 49] (by decide +kernel) (by decide +kernel)
set_option maxRecDepth 20000 in
theorem gX1_ahead_X1_compared : GoodIn wsX1_ahead (wsV RX1 82 RX1 yX1_compared wsX1_compared) := goodIn_app (goodIn_of _ (by decide +kernel)) ggX1_ahead_X1_compared
theorem dX1_ahead_0 : decode cX1_ahead 0 = .ok (.aload_n 0, 1) := by decide +kernel
theorem dX1_ahead_1 : decode cX1_ahead 1 = .ok (.iload_n 1, 1) := by decide +kernel
theorem dX1_ahead_2 : decode cX1_ahead 2 = .ok (.invokevirtual 43, 3) := by decide +kernel
theorem dX1_ahead_5 : decode cX1_ahead 5 = .ok (.ifCond .eq 11, 3) := by decide +kernel
theorem dX1_ahead_8 : decode cX1_ahead 8 = .ok (.aload_n 0, 1) := by decide +kernel
theorem dX1_ahead_9 : decode cX1_ahead 9 = .ok (.iload_n 2, 1) := by decide +kernel
theorem dX1_ahead_10 : decode cX1_ahead 10 = .ok (.invokevirtual 43, 3) := by decide +kernel
theorem dX1_ahead_13 : decode cX1_ahead 13 = .ok (.ifCond .ne 7, 3) := by decide +kernel
theorem dX1_ahead_16 : decode cX1_ahead 16 = .ok (.sipush (-1000), 3) := by decide +kernel
theorem dX1_ahead_19 : decode cX1_ahead 19 = .ok (.ireturn, 1) := by decide +kernel
theorem dX1_ahead_20 : decode cX1_ahead 20 = .ok (.aload_n 0, 1) := by decide +kernel
theorem dX1_ahead_21 : decode cX1_ahead 21 = .ok (.iload_n 1, 1) := by decide +kernel
theorem dX1_ahead_22 : decode cX1_ahead 22 = .ok (.iload_n 2, 1) := by decide +kernel
theorem dX1_ahead_23 : decode cX1_ahead 23 = .ok (.invokevirtual 82, 3) := by decide +kernel
theorem dX1_ahead_26 : decode cX1_ahead 26 = .ok (.ifCond .le 7, 3) := by decide +kernel
theorem dX1_ahead_29 : decode cX1_ahead 29 = .ok (.iconst 1, 1) := by decide +kernel
theorem dX1_ahead_30 : decode cX1_ahead 30 = .ok (.goto 4, 3) := by decide +kernel
theorem dX1_ahead_33 : decode cX1_ahead 33 = .ok (.iconst 0, 1) := by decide +kernel
theorem dX1_ahead_34 : decode cX1_ahead 34 = .ok (.ireturn, 1) := by decide +kernel
set_option maxRecDepth 20000 in
theorem ggX1_place_X1_isJumper : GoodIn wsX1_place wsX1_isJumper := goodIn_r _ [6, 1, 7, 8, 5, 9, 46, 47, 48, 49, 50, 51, 52, 53] (by decide +kernel) (by decide +kernel)
set_option maxRecDepth 20000 in
theorem gX1_place_X1_isJumper : GoodIn wsX1_place (wsV RX1 43 RX1 yX1_isJumper wsX1_isJumper) := goodIn_app (goodIn_of _ (by decide +kernel)) ggX1_place_X1_isJumper
set_option maxRecDepth 20000 in
theorem ggX1_place_X1_best : GoodIn wsX1_place wsX1_best := goodIn_r _ [13, 2, 3, 4, 5, 6, 1, 7, 8, 9, 14, 15, 16, 17, 18, 19, 20, 21, 22, 23, 24, 25, 26, 27, 28, 29, 30, 31, 32, 33, 34, 35, 36, 37, 46, 47, 48, 49, 50, 51, 52, 53] (by decide +kernel) (by decide +kernel)
set_option maxRecDepth 20000 in
theorem gX1_place_X1_best : GoodIn wsX1_place (wsV RX1 85 RX1 yX1_best wsX1_best) := goodIn_app (goodIn_of _ (by decide +kernel)) ggX1_place_X1_best
set_option maxRecDepth 20000 in
theorem ggX1_place_X1_compared : GoodIn wsX1_place wsX1_compared := goodIn_r _ [41, 14, 15, 16, 5, 17, 18, 19, 20, 21, 22, 23, 24, 25, 26, 27, 28, 29, 30, 31, 32, 33, 34, 35, 36, 37, 42, 43, 44, 45, 46, 47, 48, 49, 50, 51, 52, 53] (by decide +kernel) (by decide +kernel)
set_option maxRecDepth 20000 in
theorem gX1_place_X1_compared : GoodIn wsX1_place (wsV RX1 82 RX1 yX1_compared wsX1_compared) := goodIn_app (goodIn_of _ (by decide +kernel)) ggX1_place_X1_compared
theorem dX1_place_0 : decode cX1_place 0 = .ok (.aload_n 0, 1) := by decide +kernel
theorem dX1_place_1 : decode cX1_place 1 = .ok (.iload_n 1, 1) := by decide +kernel
theorem dX1_place_2 : decode cX1_place 2 = .ok (.invokevirtual 43, 3) := by decide +kernel
theorem dX1_place_5 : decode cX1_place 5 = .ok (.ifCond .ne 7, 3) := by decide +kernel
theorem dX1_place_8 : decode cX1_place 8 = .ok (.sipush (-1000), 3) := by decide +kernel
theorem dX1_place_11 : decode cX1_place 11 = .ok (.ireturn, 1) := by decide +kernel
theorem dX1_place_12 : decode cX1_place 12 = .ok (.aload_n 0, 1) := by decide +kernel
theorem dX1_place_13 : decode cX1_place 13 = .ok (.iload_n 1, 1) := by decide +kernel
theorem dX1_place_14 : decode cX1_place 14 = .ok (.invokevirtual 85, 3) := by decide +kernel
theorem dX1_place_17 : decode cX1_place 17 = .ok (.ifCond .ne 5, 3) := by decide +kernel
theorem dX1_place_20 : decode cX1_place 20 = .ok (.iconst 0, 1) := by decide +kernel
theorem dX1_place_21 : decode cX1_place 21 = .ok (.ireturn, 1) := by decide +kernel
theorem dX1_place_22 : decode cX1_place 22 = .ok (.iconst 1, 1) := by decide +kernel
theorem dX1_place_23 : decode cX1_place 23 = .ok (.istore_n 2, 1) := by decide +kernel
theorem dX1_place_24 : decode cX1_place 24 = .ok (.iconst 0, 1) := by decide +kernel
theorem dX1_place_25 : decode cX1_place 25 = .ok (.istore_n 3, 1) := by decide +kernel
theorem dX1_place_26 : decode cX1_place 26 = .ok (.iload_n 3, 1) := by decide +kernel
theorem dX1_place_27 : decode cX1_place 27 = .ok (.aload_n 0, 1) := by decide +kernel
theorem dX1_place_28 : decode cX1_place 28 = .ok (.getfield 32, 3) := by decide +kernel
theorem dX1_place_31 : decode cX1_place 31 = .ok (.if_icmp .ge 26, 3) := by decide +kernel
theorem dX1_place_34 : decode cX1_place 34 = .ok (.iload_n 2, 1) := by decide +kernel
theorem dX1_place_35 : decode cX1_place 35 = .ok (.aload_n 0, 1) := by decide +kernel
theorem dX1_place_36 : decode cX1_place 36 = .ok (.iload_n 3, 1) := by decide +kernel
theorem dX1_place_37 : decode cX1_place 37 = .ok (.iload_n 1, 1) := by decide +kernel
theorem dX1_place_38 : decode cX1_place 38 = .ok (.invokevirtual 82, 3) := by decide +kernel
theorem dX1_place_41 : decode cX1_place 41 = .ok (.ifCond .le 7, 3) := by decide +kernel
theorem dX1_place_44 : decode cX1_place 44 = .ok (.iconst 1, 1) := by decide +kernel
theorem dX1_place_45 : decode cX1_place 45 = .ok (.goto 4, 3) := by decide +kernel
theorem dX1_place_48 : decode cX1_place 48 = .ok (.iconst 0, 1) := by decide +kernel
theorem dX1_place_49 : decode cX1_place 49 = .ok (.iadd, 1) := by decide +kernel
theorem dX1_place_50 : decode cX1_place 50 = .ok (.istore_n 2, 1) := by decide +kernel
theorem dX1_place_51 : decode cX1_place 51 = .ok (.iinc 3 1, 3) := by decide +kernel
theorem dX1_place_54 : decode cX1_place 54 = .ok (.goto (-28), 3) := by decide +kernel
theorem dX1_place_57 : decode cX1_place 57 = .ok (.iload_n 2, 1) := by decide +kernel
theorem dX1_place_58 : decode cX1_place 58 = .ok (.ireturn, 1) := by decide +kernel
set_option maxRecDepth 20000 in
theorem ggX1_behind_X1_best : GoodIn wsX1_behind wsX1_best := goodIn_r _ [6, 7, 8, 9, 5, 10, 1, 11, 12, 13, 14, 15, 16, 17, 18, 19, 20, 21, 22, 23, 24, 25, 26, 27, 28, 29, 30, 31, 32, 33, 34, 35, 36, 37, 46, 47, 48, 49, 50, 51, 52, 53] (by decide +kernel) (by decide +kernel)
set_option maxRecDepth 20000 in
theorem gX1_behind_X1_best : GoodIn wsX1_behind (wsV RX1 85 RX1 yX1_best wsX1_best) := goodIn_app (goodIn_of _ (by decide +kernel)) ggX1_behind_X1_best
set_option maxRecDepth 20000 in
theorem ggX1_behind_X1_compared : GoodIn wsX1_behind wsX1_compared := goodIn_r _ [41, 14, 15, 16, 5, 17, 18, 19, 20, 21, 22, 23, 24, 25, 26, 27, 28, 29, 30, 31, 32, 33, 34, 35, 36, 37, 42, 43, 44, 45, 46, 47, 48, 49, 50, 51, 52, 53] (by decide +kernel) (by decide +kernel)
set_option maxRecDepth 20000 in
theorem gX1_behind_X1_compared : GoodIn wsX1_behind (wsV RX1 82 RX1 yX1_compared wsX1_compared) := goodIn_app (goodIn_of _ (by decide +kernel)) ggX1_behind_X1_compared
theorem dX1_behind_0 : decode cX1_behind 0 = .ok (.iconst 0, 1) := by decide +kernel
theorem dX1_behind_1 : decode cX1_behind 1 = .ok (.istore_n 2, 1) := by decide +kernel
theorem dX1_behind_2 : decode cX1_behind 2 = .ok (.aload_n 0, 1) := by decide +kernel
theorem dX1_behind_3 : decode cX1_behind 3 = .ok (.iload_n 1, 1) := by decide +kernel
theorem dX1_behind_4 : decode cX1_behind 4 = .ok (.invokevirtual 85, 3) := by decide +kernel
theorem dX1_behind_7 : decode cX1_behind 7 = .ok (.ifCond .eq 7, 3) := by decide +kernel
theorem dX1_behind_10 : decode cX1_behind 10 = .ok (.iconst 1, 1) := by decide +kernel
theorem dX1_behind_11 : decode cX1_behind 11 = .ok (.goto 4, 3) := by decide +kernel
theorem dX1_behind_14 : decode cX1_behind 14 = .ok (.iconst 0, 1) := by decide +kernel
theorem dX1_behind_15 : decode cX1_behind 15 = .ok (.istore_n 3, 1) := by decide +kernel
theorem dX1_behind_16 : decode cX1_behind 16 = .ok (.iconst 0, 1) := by decide +kernel
theorem dX1_behind_17 : decode cX1_behind 17 = .ok (.istore 4, 2) := by decide +kernel
theorem dX1_behind_19 : decode cX1_behind 19 = .ok (.iload 4, 2) := by decide +kernel
theorem dX1_behind_21 : decode cX1_behind 21 = .ok (.aload_n 0, 1) := by decide +kernel
theorem dX1_behind_22 : decode cX1_behind 22 = .ok (.getfield 32, 3) := by decide +kernel
theorem dX1_behind_25 : decode cX1_behind 25 = .ok (.if_icmp .ge 88, 3) := by decide +kernel
theorem dX1_behind_28 : decode cX1_behind 28 = .ok (.aload_n 0, 1) := by decide +kernel
theorem dX1_behind_29 : decode cX1_behind 29 = .ok (.iload 4, 2) := by decide +kernel
theorem dX1_behind_31 : decode cX1_behind 31 = .ok (.invokevirtual 85, 3) := by decide +kernel
theorem dX1_behind_34 : decode cX1_behind 34 = .ok (.ifCond .eq 7, 3) := by decide +kernel
theorem dX1_behind_37 : decode cX1_behind 37 = .ok (.iconst 1, 1) := by decide +kernel
theorem dX1_behind_38 : decode cX1_behind 38 = .ok (.goto 4, 3) := by decide +kernel
theorem dX1_behind_41 : decode cX1_behind 41 = .ok (.iconst 0, 1) := by decide +kernel
theorem dX1_behind_42 : decode cX1_behind 42 = .ok (.istore 5, 2) := by decide +kernel
theorem dX1_behind_44 : decode cX1_behind 44 = .ok (.iload_n 3, 1) := by decide +kernel
theorem dX1_behind_45 : decode cX1_behind 45 = .ok (.ifCond .eq 18, 3) := by decide +kernel
theorem dX1_behind_48 : decode cX1_behind 48 = .ok (.iload 5, 2) := by decide +kernel
theorem dX1_behind_50 : decode cX1_behind 50 = .ok (.ifCond .eq 13, 3) := by decide +kernel
theorem dX1_behind_53 : decode cX1_behind 53 = .ok (.aload_n 0, 1) := by decide +kernel
theorem dX1_behind_54 : decode cX1_behind 54 = .ok (.iload_n 1, 1) := by decide +kernel
theorem dX1_behind_55 : decode cX1_behind 55 = .ok (.iload 4, 2) := by decide +kernel
theorem dX1_behind_57 : decode cX1_behind 57 = .ok (.invokevirtual 82, 3) := by decide +kernel
theorem dX1_behind_60 : decode cX1_behind 60 = .ok (.goto 21, 3) := by decide +kernel
theorem dX1_behind_63 : decode cX1_behind 63 = .ok (.iload_n 3, 1) := by decide +kernel
theorem dX1_behind_64 : decode cX1_behind 64 = .ok (.ifCond .eq 7, 3) := by decide +kernel
theorem dX1_behind_67 : decode cX1_behind 67 = .ok (.iconst 1, 1) := by decide +kernel
theorem dX1_behind_68 : decode cX1_behind 68 = .ok (.goto 13, 3) := by decide +kernel
theorem dX1_behind_71 : decode cX1_behind 71 = .ok (.iload 5, 2) := by decide +kernel
theorem dX1_behind_73 : decode cX1_behind 73 = .ok (.ifCond .eq 7, 3) := by decide +kernel
theorem dX1_behind_76 : decode cX1_behind 76 = .ok (.iconst (-1), 1) := by decide +kernel
theorem dX1_behind_77 : decode cX1_behind 77 = .ok (.goto 4, 3) := by decide +kernel
theorem dX1_behind_80 : decode cX1_behind 80 = .ok (.iconst 0, 1) := by decide +kernel
theorem dX1_behind_81 : decode cX1_behind 81 = .ok (.istore 6, 2) := by decide +kernel
theorem dX1_behind_83 : decode cX1_behind 83 = .ok (.iload_n 2, 1) := by decide +kernel
theorem dX1_behind_84 : decode cX1_behind 84 = .ok (.iload 6, 2) := by decide +kernel
theorem dX1_behind_86 : decode cX1_behind 86 = .ok (.ifCond .gt 14, 3) := by decide +kernel
theorem dX1_behind_89 : decode cX1_behind 89 = .ok (.iload 6, 2) := by decide +kernel
theorem dX1_behind_91 : decode cX1_behind 91 = .ok (.ifCond .ne 13, 3) := by decide +kernel
theorem dX1_behind_94 : decode cX1_behind 94 = .ok (.iload 4, 2) := by decide +kernel
theorem dX1_behind_96 : decode cX1_behind 96 = .ok (.iload_n 1, 1) := by decide +kernel
theorem dX1_behind_97 : decode cX1_behind 97 = .ok (.if_icmp .ge 7, 3) := by decide +kernel
theorem dX1_behind_100 : decode cX1_behind 100 = .ok (.iconst 1, 1) := by decide +kernel
theorem dX1_behind_101 : decode cX1_behind 101 = .ok (.goto 4, 3) := by decide +kernel
theorem dX1_behind_104 : decode cX1_behind 104 = .ok (.iconst 0, 1) := by decide +kernel
theorem dX1_behind_105 : decode cX1_behind 105 = .ok (.iadd, 1) := by decide +kernel
theorem dX1_behind_106 : decode cX1_behind 106 = .ok (.istore_n 2, 1) := by decide +kernel
theorem dX1_behind_107 : decode cX1_behind 107 = .ok (.iinc 4 1, 3) := by decide +kernel
theorem dX1_behind_110 : decode cX1_behind 110 = .ok (.goto (-91), 3) := by decide +kernel
theorem dX1_behind_113 : decode cX1_behind 113 = .ok (.iload_n 2, 1) := by decide +kernel
theorem dX1_behind_114 : decode cX1_behind 114 = .ok (.ireturn, 1) := by decide +kernel
set_option maxRecDepth 20000 in
theorem ggX1_order_X1_isIn : GoodIn wsX1_order wsX1_isIn := goodIn_r _ [5] (by decide +kernel) (by decide +kernel)
set_option maxRecDepth 20000 in
theorem gX1_order_X1_isIn : GoodIn wsX1_order (va_wsS RX1 35 yX1_isIn wsX1_isIn) := goodIn_app (goodIn_of _ (by decide +kernel)) ggX1_order_X1_isIn
set_option maxRecDepth 20000 in
theorem ggX1_order_X1_behind : GoodIn wsX1_order wsX1_behind := goodIn_r _ [9, 1, 10, 11, 12, 4, 13, 14, 15, 16, 17, 2, 3, 5, 18, 19, 20, 21, 22, 23, 24, 25, 26, 27, 28, 29, 30, 31, 32, 33, 34, 35, 36, 37, 38, 39, 40, 41, 42, 43, 44, 45, 46, 47, 48, 49, 50, 51, 52, 53, 54, 55, 56, 57] (by decide +kernel) (by decide +kernel)
set_option maxRecDepth 20000 in
theorem gX1_order_X1_behind : GoodIn wsX1_order (wsV RX1 88 RX1 yX1_behind wsX1_behind) := goodIn_app (goodIn_of _ (by decide +kernel)) ggX1_order_X1_behind
theorem dX1_order_0 : decode cX1_order 0 = .ok (.iload_n 1, 1) := by decide +kernel
theorem dX1_order_1 : decode cX1_order 1 = .ok (.iconst 0, 1) := by decide +kernel
theorem dX1_order_2 : decode cX1_order 2 = .ok (.aload_n 0, 1) := by decide +kernel
theorem dX1_order_3 : decode cX1_order 3 = .ok (.getfield 32, 3) := by decide +kernel
theorem dX1_order_6 : decode cX1_order 6 = .ok (.iconst 1, 1) := by decide +kernel
theorem dX1_order_7 : decode cX1_order 7 = .ok (.isub, 1) := by decide +kernel
theorem dX1_order_8 : decode cX1_order 8 = .ok (.invokestatic 35, 3) := by decide +kernel
theorem dX1_order_11 : decode cX1_order 11 = .ok (.ifCond .ne 7, 3) := by decide +kernel
theorem dX1_order_14 : decode cX1_order 14 = .ok (.sipush (-1000), 3) := by decide +kernel
theorem dX1_order_17 : decode cX1_order 17 = .ok (.ireturn, 1) := by decide +kernel
theorem dX1_order_18 : decode cX1_order 18 = .ok (.sipush (-1000), 3) := by decide +kernel
theorem dX1_order_21 : decode cX1_order 21 = .ok (.istore_n 2, 1) := by decide +kernel
theorem dX1_order_22 : decode cX1_order 22 = .ok (.iconst 0, 1) := by decide +kernel
theorem dX1_order_23 : decode cX1_order 23 = .ok (.istore_n 3, 1) := by decide +kernel
theorem dX1_order_24 : decode cX1_order 24 = .ok (.iload_n 3, 1) := by decide +kernel
theorem dX1_order_25 : decode cX1_order 25 = .ok (.aload_n 0, 1) := by decide +kernel
theorem dX1_order_26 : decode cX1_order 26 = .ok (.getfield 32, 3) := by decide +kernel
theorem dX1_order_29 : decode cX1_order 29 = .ok (.if_icmp .ge 24, 3) := by decide +kernel
theorem dX1_order_32 : decode cX1_order 32 = .ok (.aload_n 0, 1) := by decide +kernel
theorem dX1_order_33 : decode cX1_order 33 = .ok (.iload_n 3, 1) := by decide +kernel
theorem dX1_order_34 : decode cX1_order 34 = .ok (.invokevirtual 88, 3) := by decide +kernel
theorem dX1_order_37 : decode cX1_order 37 = .ok (.iload_n 1, 1) := by decide +kernel
theorem dX1_order_38 : decode cX1_order 38 = .ok (.if_icmp .ne 7, 3) := by decide +kernel
theorem dX1_order_41 : decode cX1_order 41 = .ok (.iload_n 3, 1) := by decide +kernel
theorem dX1_order_42 : decode cX1_order 42 = .ok (.goto 4, 3) := by decide +kernel
theorem dX1_order_45 : decode cX1_order 45 = .ok (.iload_n 2, 1) := by decide +kernel
theorem dX1_order_46 : decode cX1_order 46 = .ok (.istore_n 2, 1) := by decide +kernel
theorem dX1_order_47 : decode cX1_order 47 = .ok (.iinc 3 1, 3) := by decide +kernel
theorem dX1_order_50 : decode cX1_order 50 = .ok (.goto (-26), 3) := by decide +kernel
theorem dX1_order_53 : decode cX1_order 53 = .ok (.iload_n 2, 1) := by decide +kernel
theorem dX1_order_54 : decode cX1_order 54 = .ok (.ireturn, 1) := by decide +kernel
set_option maxRecDepth 20000 in
theorem ggX1_isNewBest_X1_code : GoodIn wsX1_isNewBest wsX1_code := goodIn_r _ [5, 6, 7, 8, 9, 10, 4, 11, 17, 18, 19, 20, 21, 22, 23, 24] (by decide +kernel) (by decide +kernel)
set_option maxRecDepth 20000 in
theorem gX1_isNewBest_X1_code : GoodIn wsX1_isNewBest (wsV RX1 57 RX1 yX1_code wsX1_code) := goodIn_app (goodIn_of _ (by decide +kernel)) ggX1_isNewBest_X1_code
set_option maxRecDepth 20000 in
theorem ggX1_isNewBest_X1_fit : GoodIn wsX1_isNewBest wsX1_fit := goodIn_r _ [15, 16, 9, 10, 4, 11, 17, 18, 19, 20, 21, 22, 23, 24] (by decide +kernel) (by decide +kernel)
set_option maxRecDepth 20000 in
theorem gX1_isNewBest_X1_fit : GoodIn wsX1_isNewBest (wsV RX1 61 RX1 yX1_fit wsX1_fit) := goodIn_app (goodIn_of _ (by decide +kernel)) ggX1_isNewBest_X1_fit
theorem dX1_isNewBest_0 : decode cX1_isNewBest 0 = .ok (.aload_n 0, 1) := by decide +kernel
theorem dX1_isNewBest_1 : decode cX1_isNewBest 1 = .ok (.iconst 0, 1) := by decide +kernel
theorem dX1_isNewBest_2 : decode cX1_isNewBest 2 = .ok (.iload_n 1, 1) := by decide +kernel
theorem dX1_isNewBest_3 : decode cX1_isNewBest 3 = .ok (.iload_n 2, 1) := by decide +kernel
theorem dX1_isNewBest_4 : decode cX1_isNewBest 4 = .ok (.invokevirtual 57, 3) := by decide +kernel
theorem dX1_isNewBest_7 : decode cX1_isNewBest 7 = .ok (.istore_n 3, 1) := by decide +kernel
theorem dX1_isNewBest_8 : decode cX1_isNewBest 8 = .ok (.iload_n 3, 1) := by decide +kernel
theorem dX1_isNewBest_9 : decode cX1_isNewBest 9 = .ok (.ifCond .eq 7, 3) := by decide +kernel
theorem dX1_isNewBest_12 : decode cX1_isNewBest 12 = .ok (.iconst 1, 1) := by decide +kernel
theorem dX1_isNewBest_13 : decode cX1_isNewBest 13 = .ok (.goto 4, 3) := by decide +kernel
theorem dX1_isNewBest_16 : decode cX1_isNewBest 16 = .ok (.iconst 0, 1) := by decide +kernel
theorem dX1_isNewBest_17 : decode cX1_isNewBest 17 = .ok (.istore 4, 2) := by decide +kernel
theorem dX1_isNewBest_19 : decode cX1_isNewBest 19 = .ok (.iconst 0, 1) := by decide +kernel
theorem dX1_isNewBest_20 : decode cX1_isNewBest 20 = .ok (.istore 5, 2) := by decide +kernel
theorem dX1_isNewBest_22 : decode cX1_isNewBest 22 = .ok (.iload 5, 2) := by decide +kernel
theorem dX1_isNewBest_24 : decode cX1_isNewBest 24 = .ok (.iload_n 2, 1) := by decide +kernel
theorem dX1_isNewBest_25 : decode cX1_isNewBest 25 = .ok (.if_icmp .ge 39, 3) := by decide +kernel
theorem dX1_isNewBest_28 : decode cX1_isNewBest 28 = .ok (.iload 4, 2) := by decide +kernel
theorem dX1_isNewBest_30 : decode cX1_isNewBest 30 = .ok (.ifCond .eq 25, 3) := by decide +kernel
theorem dX1_isNewBest_33 : decode cX1_isNewBest 33 = .ok (.aload_n 0, 1) := by decide +kernel
theorem dX1_isNewBest_34 : decode cX1_isNewBest 34 = .ok (.iconst 3, 1) := by decide +kernel
theorem dX1_isNewBest_35 : decode cX1_isNewBest 35 = .ok (.iconst 0, 1) := by decide +kernel
theorem dX1_isNewBest_36 : decode cX1_isNewBest 36 = .ok (.aload_n 0, 1) := by decide +kernel
theorem dX1_isNewBest_37 : decode cX1_isNewBest 37 = .ok (.iconst 0, 1) := by decide +kernel
theorem dX1_isNewBest_38 : decode cX1_isNewBest 38 = .ok (.iload_n 1, 1) := by decide +kernel
theorem dX1_isNewBest_39 : decode cX1_isNewBest 39 = .ok (.iload 5, 2) := by decide +kernel
theorem dX1_isNewBest_41 : decode cX1_isNewBest 41 = .ok (.invokevirtual 57, 3) := by decide +kernel
theorem dX1_isNewBest_44 : decode cX1_isNewBest 44 = .ok (.iload_n 3, 1) := by decide +kernel
theorem dX1_isNewBest_45 : decode cX1_isNewBest 45 = .ok (.invokevirtual 61, 3) := by decide +kernel
theorem dX1_isNewBest_48 : decode cX1_isNewBest 48 = .ok (.ifCond .ne 7, 3) := by decide +kernel
theorem dX1_isNewBest_51 : decode cX1_isNewBest 51 = .ok (.iconst 1, 1) := by decide +kernel
theorem dX1_isNewBest_52 : decode cX1_isNewBest 52 = .ok (.goto 4, 3) := by decide +kernel
theorem dX1_isNewBest_55 : decode cX1_isNewBest 55 = .ok (.iconst 0, 1) := by decide +kernel
theorem dX1_isNewBest_56 : decode cX1_isNewBest 56 = .ok (.istore 4, 2) := by decide +kernel
theorem dX1_isNewBest_58 : decode cX1_isNewBest 58 = .ok (.iinc 5 1, 3) := by decide +kernel
theorem dX1_isNewBest_61 : decode cX1_isNewBest 61 = .ok (.goto (-39), 3) := by decide +kernel
theorem dX1_isNewBest_64 : decode cX1_isNewBest 64 = .ok (.iload 4, 2) := by decide +kernel
theorem dX1_isNewBest_66 : decode cX1_isNewBest 66 = .ok (.ireturn, 1) := by decide +kernel
set_option maxRecDepth 20000 in
theorem ggX1_verdict_X1_isJumper : GoodIn wsX1_verdict wsX1_isJumper := goodIn_r _ [7, 8, 9, 10, 6, 11, 38, 39, 40, 41, 42, 43, 44, 45] (by decide +kernel) (by decide +kernel)
set_option maxRecDepth 20000 in
theorem gX1_verdict_X1_isJumper : GoodIn wsX1_verdict (wsV RX1 43 RX1 yX1_isJumper wsX1_isJumper) := goodIn_app (goodIn_of _ (by decide +kernel)) ggX1_verdict_X1_isJumper
set_option maxRecDepth 20000 in
theorem ggX1_verdict_X1_isRound : GoodIn wsX1_verdict wsX1_isRound := goodIn_r _ [14, 9, 10, 6, 11] (by decide +kernel) (by decide +kernel)
set_option maxRecDepth 20000 in
theorem gX1_verdict_X1_isRound : GoodIn wsX1_verdict (va_wsS RX1 54 yX1_isRound wsX1_isRound) := goodIn_app (goodIn_of _ (by decide +kernel)) ggX1_verdict_X1_isRound
set_option maxRecDepth 20000 in
theorem ggX1_verdict_X1_code : GoodIn wsX1_verdict wsX1_code := goodIn_r _ [18, 19, 20, 21, 22, 23, 6, 24, 38, 39, 40, 41, 42, 43, 44, 45] (by decide +kernel) (by decide +kernel)
set_option maxRecDepth 20000 in
theorem gX1_verdict_X1_code : GoodIn wsX1_verdict (wsV RX1 57 RX1 yX1_code wsX1_code) := goodIn_app (goodIn_of _ (by decide +kernel)) ggX1_verdict_X1_code
set_option maxRecDepth 20000 in
theorem ggX1_verdict_X1_isLegal : GoodIn wsX1_verdict wsX1_isLegal := goodIn_r _ [28, 2, 15, 16, 17, 6, 18, 19, 20, 21, 22, 23, 24, 29, 30, 31, 32, 33, 38, 39, 40, 41, 42, 43, 44, 45] (by decide +kernel) (by decide +kernel)
set_option maxRecDepth 20000 in
theorem gX1_verdict_X1_isLegal : GoodIn wsX1_verdict (wsV RX1 72 RX1 yX1_isLegal wsX1_isLegal) := goodIn_app (goodIn_of _ (by decide +kernel)) ggX1_verdict_X1_isLegal
set_option maxRecDepth 20000 in
theorem ggX1_verdict_X1_fit : GoodIn wsX1_verdict wsX1_fit := goodIn_r _ [32, 33, 22, 23, 6, 24, 38, 39, 40, 41, 42, 43, 44, 45] (by decide +kernel) (by decide +kernel)
set_option maxRecDepth 20000 in
theorem gX1_verdict_X1_fit : GoodIn wsX1_verdict (wsV RX1 61 RX1 yX1_fit wsX1_fit) := goodIn_app (goodIn_of _ (by decide +kernel)) ggX1_verdict_X1_fit
set_option maxRecDepth 20000 in
theorem ggX1_verdict_X1_isNewBest : GoodIn wsX1_verdict wsX1_isNewBest := goodIn_r _ [37, 15, 16, 17, 6, 18, 19, 20, 21, 22, 23, 24, 29, 30, 31, 32, 33, 38, 39, 40, 41, 42, 43, 44, 45] (by decide +kernel) (by decide +kernel)
set_option maxRecDepth 20000 in
theorem gX1_verdict_X1_isNewBest : GoodIn wsX1_verdict (wsV RX1 91 RX1 yX1_isNewBest wsX1_isNewBest) := goodIn_app (goodIn_of _ (by decide +kernel)) ggX1_verdict_X1_isNewBest
theorem dX1_verdict_0 : decode cX1_verdict 0 = .ok (.aload_n 0, 1) := by decide +kernel
theorem dX1_verdict_1 : decode cX1_verdict 1 = .ok (.iload_n 1, 1) := by decide +kernel
theorem dX1_verdict_2 : decode cX1_verdict 2 = .ok (.invokevirtual 43, 3) := by decide +kernel
theorem dX1_verdict_5 : decode cX1_verdict 5 = .ok (.ifCond .eq 10, 3) := by decide +kernel
theorem dX1_verdict_8 : decode cX1_verdict 8 = .ok (.iload_n 2, 1) := by decide +kernel
theorem dX1_verdict_9 : decode cX1_verdict 9 = .ok (.invokestatic 54, 3) := by decide +kernel
theorem dX1_verdict_12 : decode cX1_verdict 12 = .ok (.ifCond .ne 7, 3) := by decide +kernel
theorem dX1_verdict_15 : decode cX1_verdict 15 = .ok (.sipush (-1000), 3) := by decide +kernel
theorem dX1_verdict_18 : decode cX1_verdict 18 = .ok (.ireturn, 1) := by decide +kernel
theorem dX1_verdict_19 : decode cX1_verdict 19 = .ok (.aload_n 0, 1) := by decide +kernel
theorem dX1_verdict_20 : decode cX1_verdict 20 = .ok (.iconst 0, 1) := by decide +kernel
theorem dX1_verdict_21 : decode cX1_verdict 21 = .ok (.iload_n 1, 1) := by decide +kernel
theorem dX1_verdict_22 : decode cX1_verdict 22 = .ok (.iload_n 2, 1) := by decide +kernel
theorem dX1_verdict_23 : decode cX1_verdict 23 = .ok (.invokevirtual 57, 3) := by decide +kernel
theorem dX1_verdict_26 : decode cX1_verdict 26 = .ok (.istore_n 3, 1) := by decide +kernel
theorem dX1_verdict_27 : decode cX1_verdict 27 = .ok (.aload_n 0, 1) := by decide +kernel
theorem dX1_verdict_28 : decode cX1_verdict 28 = .ok (.iconst 1, 1) := by decide +kernel
theorem dX1_verdict_29 : decode cX1_verdict 29 = .ok (.iload_n 1, 1) := by decide +kernel
theorem dX1_verdict_30 : decode cX1_verdict 30 = .ok (.iload_n 2, 1) := by decide +kernel
theorem dX1_verdict_31 : decode cX1_verdict 31 = .ok (.invokevirtual 57, 3) := by decide +kernel
theorem dX1_verdict_34 : decode cX1_verdict 34 = .ok (.istore 4, 2) := by decide +kernel
theorem dX1_verdict_36 : decode cX1_verdict 36 = .ok (.iload_n 3, 1) := by decide +kernel
theorem dX1_verdict_37 : decode cX1_verdict 37 = .ok (.ifCond .eq 7, 3) := by decide +kernel
theorem dX1_verdict_40 : decode cX1_verdict 40 = .ok (.iconst 1, 1) := by decide +kernel
theorem dX1_verdict_41 : decode cX1_verdict 41 = .ok (.goto 4, 3) := by decide +kernel
theorem dX1_verdict_44 : decode cX1_verdict 44 = .ok (.iconst 0, 1) := by decide +kernel
theorem dX1_verdict_45 : decode cX1_verdict 45 = .ok (.istore 5, 2) := by decide +kernel
theorem dX1_verdict_47 : decode cX1_verdict 47 = .ok (.iload 5, 2) := by decide +kernel
theorem dX1_verdict_49 : decode cX1_verdict 49 = .ok (.iload 4, 2) := by decide +kernel
theorem dX1_verdict_51 : decode cX1_verdict 51 = .ok (.bipush 100, 2) := by decide +kernel
theorem dX1_verdict_53 : decode cX1_verdict 53 = .ok (.if_icmp .eq 7, 3) := by decide +kernel
theorem dX1_verdict_56 : decode cX1_verdict 56 = .ok (.iconst 2, 1) := by decide +kernel
theorem dX1_verdict_57 : decode cX1_verdict 57 = .ok (.goto 4, 3) := by decide +kernel
theorem dX1_verdict_60 : decode cX1_verdict 60 = .ok (.iconst 0, 1) := by decide +kernel
theorem dX1_verdict_61 : decode cX1_verdict 61 = .ok (.iadd, 1) := by decide +kernel
theorem dX1_verdict_62 : decode cX1_verdict 62 = .ok (.istore 5, 2) := by decide +kernel
theorem dX1_verdict_64 : decode cX1_verdict 64 = .ok (.iload 5, 2) := by decide +kernel
theorem dX1_verdict_66 : decode cX1_verdict 66 = .ok (.aload_n 0, 1) := by decide +kernel
theorem dX1_verdict_67 : decode cX1_verdict 67 = .ok (.iload_n 1, 1) := by decide +kernel
theorem dX1_verdict_68 : decode cX1_verdict 68 = .ok (.iload_n 2, 1) := by decide +kernel
theorem dX1_verdict_69 : decode cX1_verdict 69 = .ok (.invokevirtual 72, 3) := by decide +kernel
theorem dX1_verdict_72 : decode cX1_verdict 72 = .ok (.ifCond .eq 7, 3) := by decide +kernel
theorem dX1_verdict_75 : decode cX1_verdict 75 = .ok (.iconst 4, 1) := by decide +kernel
theorem dX1_verdict_76 : decode cX1_verdict 76 = .ok (.goto 4, 3) := by decide +kernel
theorem dX1_verdict_79 : decode cX1_verdict 79 = .ok (.iconst 0, 1) := by decide +kernel
theorem dX1_verdict_80 : decode cX1_verdict 80 = .ok (.iadd, 1) := by decide +kernel
theorem dX1_verdict_81 : decode cX1_verdict 81 = .ok (.istore 5, 2) := by decide +kernel
theorem dX1_verdict_83 : decode cX1_verdict 83 = .ok (.iload 5, 2) := by decide +kernel
theorem dX1_verdict_85 : decode cX1_verdict 85 = .ok (.aload_n 0, 1) := by decide +kernel
theorem dX1_verdict_86 : decode cX1_verdict 86 = .ok (.iconst 3, 1) := by decide +kernel
theorem dX1_verdict_87 : decode cX1_verdict 87 = .ok (.iconst 0, 1) := by decide +kernel
theorem dX1_verdict_88 : decode cX1_verdict 88 = .ok (.iload_n 3, 1) := by decide +kernel
theorem dX1_verdict_89 : decode cX1_verdict 89 = .ok (.aload_n 0, 1) := by decide +kernel
theorem dX1_verdict_90 : decode cX1_verdict 90 = .ok (.getfield 25, 3) := by decide +kernel
theorem dX1_verdict_93 : decode cX1_verdict 93 = .ok (.invokevirtual 61, 3) := by decide +kernel
theorem dX1_verdict_96 : decode cX1_verdict 96 = .ok (.ifCond .eq 8, 3) := by decide +kernel
theorem dX1_verdict_99 : decode cX1_verdict 99 = .ok (.bipush 8, 2) := by decide +kernel
theorem dX1_verdict_101 : decode cX1_verdict 101 = .ok (.goto 4, 3) := by decide +kernel
theorem dX1_verdict_104 : decode cX1_verdict 104 = .ok (.iconst 0, 1) := by decide +kernel
theorem dX1_verdict_105 : decode cX1_verdict 105 = .ok (.iadd, 1) := by decide +kernel
theorem dX1_verdict_106 : decode cX1_verdict 106 = .ok (.istore 5, 2) := by decide +kernel
theorem dX1_verdict_108 : decode cX1_verdict 108 = .ok (.iload 5, 2) := by decide +kernel
theorem dX1_verdict_110 : decode cX1_verdict 110 = .ok (.aload_n 0, 1) := by decide +kernel
theorem dX1_verdict_111 : decode cX1_verdict 111 = .ok (.iconst 2, 1) := by decide +kernel
theorem dX1_verdict_112 : decode cX1_verdict 112 = .ok (.iconst 0, 1) := by decide +kernel
theorem dX1_verdict_113 : decode cX1_verdict 113 = .ok (.iload_n 3, 1) := by decide +kernel
theorem dX1_verdict_114 : decode cX1_verdict 114 = .ok (.aload_n 0, 1) := by decide +kernel
theorem dX1_verdict_115 : decode cX1_verdict 115 = .ok (.getfield 25, 3) := by decide +kernel
theorem dX1_verdict_118 : decode cX1_verdict 118 = .ok (.invokevirtual 61, 3) := by decide +kernel
theorem dX1_verdict_121 : decode cX1_verdict 121 = .ok (.ifCond .eq 8, 3) := by decide +kernel
theorem dX1_verdict_124 : decode cX1_verdict 124 = .ok (.bipush 16, 2) := by decide +kernel
theorem dX1_verdict_126 : decode cX1_verdict 126 = .ok (.goto 4, 3) := by decide +kernel
theorem dX1_verdict_129 : decode cX1_verdict 129 = .ok (.iconst 0, 1) := by decide +kernel
theorem dX1_verdict_130 : decode cX1_verdict 130 = .ok (.iadd, 1) := by decide +kernel
theorem dX1_verdict_131 : decode cX1_verdict 131 = .ok (.istore 5, 2) := by decide +kernel
theorem dX1_verdict_133 : decode cX1_verdict 133 = .ok (.iload 5, 2) := by decide +kernel
theorem dX1_verdict_135 : decode cX1_verdict 135 = .ok (.aload_n 0, 1) := by decide +kernel
theorem dX1_verdict_136 : decode cX1_verdict 136 = .ok (.iconst 4, 1) := by decide +kernel
theorem dX1_verdict_137 : decode cX1_verdict 137 = .ok (.iconst 0, 1) := by decide +kernel
theorem dX1_verdict_138 : decode cX1_verdict 138 = .ok (.iload_n 3, 1) := by decide +kernel
theorem dX1_verdict_139 : decode cX1_verdict 139 = .ok (.aload_n 0, 1) := by decide +kernel
theorem dX1_verdict_140 : decode cX1_verdict 140 = .ok (.getfield 25, 3) := by decide +kernel
theorem dX1_verdict_143 : decode cX1_verdict 143 = .ok (.invokevirtual 61, 3) := by decide +kernel
theorem dX1_verdict_146 : decode cX1_verdict 146 = .ok (.ifCond .eq 8, 3) := by decide +kernel
theorem dX1_verdict_149 : decode cX1_verdict 149 = .ok (.bipush 32, 2) := by decide +kernel
theorem dX1_verdict_151 : decode cX1_verdict 151 = .ok (.goto 4, 3) := by decide +kernel
theorem dX1_verdict_154 : decode cX1_verdict 154 = .ok (.iconst 0, 1) := by decide +kernel
theorem dX1_verdict_155 : decode cX1_verdict 155 = .ok (.iadd, 1) := by decide +kernel
theorem dX1_verdict_156 : decode cX1_verdict 156 = .ok (.istore 5, 2) := by decide +kernel
theorem dX1_verdict_158 : decode cX1_verdict 158 = .ok (.iload 5, 2) := by decide +kernel
theorem dX1_verdict_160 : decode cX1_verdict 160 = .ok (.aload_n 0, 1) := by decide +kernel
theorem dX1_verdict_161 : decode cX1_verdict 161 = .ok (.iconst 1, 1) := by decide +kernel
theorem dX1_verdict_162 : decode cX1_verdict 162 = .ok (.iconst 1, 1) := by decide +kernel
theorem dX1_verdict_163 : decode cX1_verdict 163 = .ok (.iload 4, 2) := by decide +kernel
theorem dX1_verdict_165 : decode cX1_verdict 165 = .ok (.aload_n 0, 1) := by decide +kernel
theorem dX1_verdict_166 : decode cX1_verdict 166 = .ok (.getfield 29, 3) := by decide +kernel
theorem dX1_verdict_169 : decode cX1_verdict 169 = .ok (.invokevirtual 61, 3) := by decide +kernel
theorem dX1_verdict_172 : decode cX1_verdict 172 = .ok (.ifCond .eq 8, 3) := by decide +kernel
theorem dX1_verdict_175 : decode cX1_verdict 175 = .ok (.bipush 64, 2) := by decide +kernel
theorem dX1_verdict_177 : decode cX1_verdict 177 = .ok (.goto 4, 3) := by decide +kernel
theorem dX1_verdict_180 : decode cX1_verdict 180 = .ok (.iconst 0, 1) := by decide +kernel
theorem dX1_verdict_181 : decode cX1_verdict 181 = .ok (.iadd, 1) := by decide +kernel
theorem dX1_verdict_182 : decode cX1_verdict 182 = .ok (.istore 5, 2) := by decide +kernel
theorem dX1_verdict_184 : decode cX1_verdict 184 = .ok (.iload 5, 2) := by decide +kernel
theorem dX1_verdict_186 : decode cX1_verdict 186 = .ok (.aload_n 0, 1) := by decide +kernel
theorem dX1_verdict_187 : decode cX1_verdict 187 = .ok (.iload_n 1, 1) := by decide +kernel
theorem dX1_verdict_188 : decode cX1_verdict 188 = .ok (.iload_n 2, 1) := by decide +kernel
theorem dX1_verdict_189 : decode cX1_verdict 189 = .ok (.invokevirtual 91, 3) := by decide +kernel
theorem dX1_verdict_192 : decode cX1_verdict 192 = .ok (.ifCond .eq 9, 3) := by decide +kernel
theorem dX1_verdict_195 : decode cX1_verdict 195 = .ok (.sipush 128, 3) := by decide +kernel
theorem dX1_verdict_198 : decode cX1_verdict 198 = .ok (.goto 4, 3) := by decide +kernel
theorem dX1_verdict_201 : decode cX1_verdict 201 = .ok (.iconst 0, 1) := by decide +kernel
theorem dX1_verdict_202 : decode cX1_verdict 202 = .ok (.iadd, 1) := by decide +kernel
theorem dX1_verdict_203 : decode cX1_verdict 203 = .ok (.ireturn, 1) := by decide +kernel
set_option maxRecDepth 20000 in
theorem ggX1_told_X1_isIn : GoodIn wsX1_told wsX1_isIn := goodIn_r _ [8] (by decide +kernel) (by decide +kernel)
set_option maxRecDepth 20000 in
theorem gX1_told_X1_isIn : GoodIn wsX1_told (va_wsS RX1 35 yX1_isIn wsX1_isIn) := goodIn_app (goodIn_of _ (by decide +kernel)) ggX1_told_X1_isIn
set_option maxRecDepth 20000 in
theorem ggX1_told_X1_code : GoodIn wsX1_told wsX1_code := goodIn_r _ [12, 4, 13, 14, 15, 16, 7, 17, 27, 28, 29, 30, 31, 32, 33, 34] (by decide +kernel) (by decide +kernel)
set_option maxRecDepth 20000 in
theorem gX1_told_X1_code : GoodIn wsX1_told (wsV RX1 57 RX1 yX1_code wsX1_code) := goodIn_app (goodIn_of _ (by decide +kernel)) ggX1_told_X1_code
set_option maxRecDepth 20000 in
theorem ggX1_told_X1_isLegal : GoodIn wsX1_told wsX1_isLegal := goodIn_r _ [21, 3, 9, 10, 11, 7, 12, 4, 13, 14, 15, 16, 17, 22, 23, 24, 25, 26, 27, 28, 29, 30, 31, 32, 33, 34] (by decide +kernel) (by decide +kernel)
set_option maxRecDepth 20000 in
theorem gX1_told_X1_isLegal : GoodIn wsX1_told (wsV RX1 72 RX1 yX1_isLegal wsX1_isLegal) := goodIn_app (goodIn_of _ (by decide +kernel)) ggX1_told_X1_isLegal
theorem dX1_told_0 : decode cX1_told 0 = .ok (.iload_n 1, 1) := by decide +kernel
theorem dX1_told_1 : decode cX1_told 1 = .ok (.ifCond .ne 8, 3) := by decide +kernel
theorem dX1_told_4 : decode cX1_told 4 = .ok (.aload_n 0, 1) := by decide +kernel
theorem dX1_told_5 : decode cX1_told 5 = .ok (.getfield 32, 3) := by decide +kernel
theorem dX1_told_8 : decode cX1_told 8 = .ok (.ireturn, 1) := by decide +kernel
theorem dX1_told_9 : decode cX1_told 9 = .ok (.iload_n 1, 1) := by decide +kernel
theorem dX1_told_10 : decode cX1_told 10 = .ok (.iconst 4, 1) := by decide +kernel
theorem dX1_told_11 : decode cX1_told 11 = .ok (.if_icmp .ne 8, 3) := by decide +kernel
theorem dX1_told_14 : decode cX1_told 14 = .ok (.aload_n 0, 1) := by decide +kernel
theorem dX1_told_15 : decode cX1_told 15 = .ok (.getfield 25, 3) := by decide +kernel
theorem dX1_told_18 : decode cX1_told 18 = .ok (.ireturn, 1) := by decide +kernel
theorem dX1_told_19 : decode cX1_told 19 = .ok (.iload_n 1, 1) := by decide +kernel
theorem dX1_told_20 : decode cX1_told 20 = .ok (.iconst 5, 1) := by decide +kernel
theorem dX1_told_21 : decode cX1_told 21 = .ok (.if_icmp .ne 8, 3) := by decide +kernel
theorem dX1_told_24 : decode cX1_told 24 = .ok (.aload_n 0, 1) := by decide +kernel
theorem dX1_told_25 : decode cX1_told 25 = .ok (.getfield 29, 3) := by decide +kernel
theorem dX1_told_28 : decode cX1_told 28 = .ok (.ireturn, 1) := by decide +kernel
theorem dX1_told_29 : decode cX1_told 29 = .ok (.iload_n 1, 1) := by decide +kernel
theorem dX1_told_30 : decode cX1_told 30 = .ok (.iconst 1, 1) := by decide +kernel
theorem dX1_told_31 : decode cX1_told 31 = .ok (.iconst 3, 1) := by decide +kernel
theorem dX1_told_32 : decode cX1_told 32 = .ok (.invokestatic 35, 3) := by decide +kernel
theorem dX1_told_35 : decode cX1_told 35 = .ok (.ifCond .ne 7, 3) := by decide +kernel
theorem dX1_told_38 : decode cX1_told 38 = .ok (.sipush (-1000), 3) := by decide +kernel
theorem dX1_told_41 : decode cX1_told 41 = .ok (.ireturn, 1) := by decide +kernel
theorem dX1_told_42 : decode cX1_told 42 = .ok (.iconst 0, 1) := by decide +kernel
theorem dX1_told_43 : decode cX1_told 43 = .ok (.istore_n 2, 1) := by decide +kernel
theorem dX1_told_44 : decode cX1_told 44 = .ok (.iconst 0, 1) := by decide +kernel
theorem dX1_told_45 : decode cX1_told 45 = .ok (.istore_n 3, 1) := by decide +kernel
theorem dX1_told_46 : decode cX1_told 46 = .ok (.iload_n 3, 1) := by decide +kernel
theorem dX1_told_47 : decode cX1_told 47 = .ok (.aload_n 0, 1) := by decide +kernel
theorem dX1_told_48 : decode cX1_told 48 = .ok (.getfield 32, 3) := by decide +kernel
theorem dX1_told_51 : decode cX1_told 51 = .ok (.if_icmp .ge 83, 3) := by decide +kernel
theorem dX1_told_54 : decode cX1_told 54 = .ok (.iconst 0, 1) := by decide +kernel
theorem dX1_told_55 : decode cX1_told 55 = .ok (.istore 4, 2) := by decide +kernel
theorem dX1_told_57 : decode cX1_told 57 = .ok (.iload 4, 2) := by decide +kernel
theorem dX1_told_59 : decode cX1_told 59 = .ok (.aload_n 0, 1) := by decide +kernel
theorem dX1_told_60 : decode cX1_told 60 = .ok (.getfield 13, 3) := by decide +kernel
theorem dX1_told_63 : decode cX1_told 63 = .ok (.iload_n 3, 1) := by decide +kernel
theorem dX1_told_64 : decode cX1_told 64 = .ok (.iaload, 1) := by decide +kernel
theorem dX1_told_65 : decode cX1_told 65 = .ok (.if_icmp .ge 63, 3) := by decide +kernel
theorem dX1_told_68 : decode cX1_told 68 = .ok (.iload_n 1, 1) := by decide +kernel
theorem dX1_told_69 : decode cX1_told 69 = .ok (.iconst 1, 1) := by decide +kernel
theorem dX1_told_70 : decode cX1_told 70 = .ok (.if_icmp .eq 32, 3) := by decide +kernel
theorem dX1_told_73 : decode cX1_told 73 = .ok (.iload_n 1, 1) := by decide +kernel
theorem dX1_told_74 : decode cX1_told 74 = .ok (.iconst 2, 1) := by decide +kernel
theorem dX1_told_75 : decode cX1_told 75 = .ok (.if_icmp .ne 17, 3) := by decide +kernel
theorem dX1_told_78 : decode cX1_told 78 = .ok (.aload_n 0, 1) := by decide +kernel
theorem dX1_told_79 : decode cX1_told 79 = .ok (.iconst 0, 1) := by decide +kernel
theorem dX1_told_80 : decode cX1_told 80 = .ok (.iload_n 3, 1) := by decide +kernel
theorem dX1_told_81 : decode cX1_told 81 = .ok (.iload 4, 2) := by decide +kernel
theorem dX1_told_83 : decode cX1_told 83 = .ok (.invokevirtual 57, 3) := by decide +kernel
theorem dX1_told_86 : decode cX1_told 86 = .ok (.ifCond .ne 20, 3) := by decide +kernel
theorem dX1_told_89 : decode cX1_told 89 = .ok (.goto 13, 3) := by decide +kernel
theorem dX1_told_92 : decode cX1_told 92 = .ok (.aload_n 0, 1) := by decide +kernel
theorem dX1_told_93 : decode cX1_told 93 = .ok (.iload_n 3, 1) := by decide +kernel
theorem dX1_told_94 : decode cX1_told 94 = .ok (.iload 4, 2) := by decide +kernel
theorem dX1_told_96 : decode cX1_told 96 = .ok (.invokevirtual 72, 3) := by decide +kernel
theorem dX1_told_99 : decode cX1_told 99 = .ok (.ifCond .eq 7, 3) := by decide +kernel
theorem dX1_told_102 : decode cX1_told 102 = .ok (.iconst 1, 1) := by decide +kernel
theorem dX1_told_103 : decode cX1_told 103 = .ok (.goto 4, 3) := by decide +kernel
theorem dX1_told_106 : decode cX1_told 106 = .ok (.iconst 0, 1) := by decide +kernel
theorem dX1_told_107 : decode cX1_told 107 = .ok (.istore 5, 2) := by decide +kernel
theorem dX1_told_109 : decode cX1_told 109 = .ok (.iload_n 2, 1) := by decide +kernel
theorem dX1_told_110 : decode cX1_told 110 = .ok (.iload 5, 2) := by decide +kernel
theorem dX1_told_112 : decode cX1_told 112 = .ok (.ifCond .eq 7, 3) := by decide +kernel
theorem dX1_told_115 : decode cX1_told 115 = .ok (.iconst 1, 1) := by decide +kernel
theorem dX1_told_116 : decode cX1_told 116 = .ok (.goto 4, 3) := by decide +kernel
theorem dX1_told_119 : decode cX1_told 119 = .ok (.iconst 0, 1) := by decide +kernel
theorem dX1_told_120 : decode cX1_told 120 = .ok (.iadd, 1) := by decide +kernel
theorem dX1_told_121 : decode cX1_told 121 = .ok (.istore_n 2, 1) := by decide +kernel
theorem dX1_told_122 : decode cX1_told 122 = .ok (.iinc 4 1, 3) := by decide +kernel
theorem dX1_told_125 : decode cX1_told 125 = .ok (.goto (-68), 3) := by decide +kernel
theorem dX1_told_128 : decode cX1_told 128 = .ok (.iinc 3 1, 3) := by decide +kernel
theorem dX1_told_131 : decode cX1_told 131 = .ok (.goto (-85), 3) := by decide +kernel
theorem dX1_told_134 : decode cX1_told 134 = .ok (.iload_n 2, 1) := by decide +kernel
theorem dX1_told_135 : decode cX1_told 135 = .ok (.ireturn, 1) := by decide +kernel
theorem dJ9_max_7cf53_0 : decode cJ9_max_7cf53 0 = .ok (.iload_n 0, 1) := by decide +kernel
theorem dJ9_max_7cf53_1 : decode cJ9_max_7cf53 1 = .ok (.iload_n 1, 1) := by decide +kernel
theorem dJ9_max_7cf53_2 : decode cJ9_max_7cf53 2 = .ok (.if_icmp .lt 7, 3) := by decide +kernel
theorem dJ9_max_7cf53_5 : decode cJ9_max_7cf53 5 = .ok (.iload_n 0, 1) := by decide +kernel
theorem dJ9_max_7cf53_6 : decode cJ9_max_7cf53 6 = .ok (.goto 4, 3) := by decide +kernel
theorem dJ9_max_7cf53_9 : decode cJ9_max_7cf53 9 = .ok (.iload_n 1, 1) := by decide +kernel
theorem dJ9_max_7cf53_10 : decode cJ9_max_7cf53 10 = .ok (.ireturn, 1) := by decide +kernel
end
section
set_option maxRecDepth 20000 in
theorem ggL_law_X0_init : GoodIn wsL_law wsX0_init := goodIn_r _ [8, 9, 10, 11, 12, 13, 14, 15, 16, 17, 18, 19, 20, 333, 334, 335, 336, 337, 338, 339, 340] (by decide +kernel) (by decide +kernel)
set_option maxRecDepth 20000 in
theorem gL_law_X0_init : GoodIn wsL_law (wsX0_init) := ggL_law_X0_init
set_option maxRecDepth 20000 in
theorem ggL_law_X1_init : GoodIn wsL_law wsX1_init := goodIn_r _ [23, 24, 10, 11, 15, 25, 26, 27, 28, 29, 30, 31, 341, 342, 343, 344, 345, 346, 347, 348] (by decide +kernel) (by decide +kernel)
set_option maxRecDepth 20000 in
theorem gL_law_X1_init : GoodIn wsL_law (wsX1_init) := ggL_law_X1_init
set_option maxRecDepth 20000 in
theorem ggL_law_X0_enter : GoodIn wsL_law wsX0_enter := goodIn_r _ [35, 12, 16, 36, 37, 38, 2, 39, 333, 334, 335, 336, 337, 338, 339, 340] (by decide +kernel) (by decide +kernel)
set_option maxRecDepth 20000 in
theorem gL_law_X0_enter : GoodIn wsL_law (wsV RL 13 RX0 yX0_enter wsX0_enter) := goodIn_app (goodIn_of _ (by decide +kernel)) ggL_law_X0_enter
set_option maxRecDepth 20000 in
theorem ggL_law_X1_enter : GoodIn wsL_law wsX1_enter := goodIn_r _ [43, 44, 25, 26, 45, 46, 5, 47, 341, 342, 343, 344, 345, 346, 347, 348] (by decide +kernel) (by decide +kernel)
set_option maxRecDepth 20000 in
theorem gL_law_X1_enter : GoodIn wsL_law (wsV RL 17 RX1 yX1_enter wsX1_enter) := goodIn_app (goodIn_of _ (by decide +kernel)) ggL_law_X1_enter
set_option maxRecDepth 20000 in
theorem ggL_law_X0_jump : GoodIn wsL_law wsX0_jump := goodIn_r _ [51, 17, 18, 19, 52, 53, 54, 2, 55, 12, 56, 57, 58, 59, 60, 61, 62, 63, 64, 333, 334, 335, 336, 337, 338, 339, 340] (by decide +kernel) (by decide +kernel)
set_option maxRecDepth 20000 in
theorem gL_law_X0_jump : GoodIn wsL_law (wsV RL 18 RX0 yX0_jump wsX0_jump) := goodIn_app (goodIn_of _ (by decide +kernel)) ggL_law_X0_jump
set_option maxRecDepth 20000 in
theorem ggL_law_X1_jump : GoodIn wsL_law wsX1_jump := goodIn_r _ [68, 26, 27, 28, 69, 70, 71, 5, 72, 44, 45, 46, 47, 73, 74, 75, 341, 342, 343, 344, 345, 346, 347, 348] (by decide +kernel) (by decide +kernel)
set_option maxRecDepth 20000 in
theorem gL_law_X1_jump : GoodIn wsL_law (wsV RL 22 RX1 yX1_jump wsX1_jump) := goodIn_app (goodIn_of _ (by decide +kernel)) ggL_law_X1_jump
set_option maxRecDepth 20000 in
theorem ggL_law_X0_undo : GoodIn wsL_law wsX0_undo := goodIn_r _ [79, 17, 18, 19, 52, 53, 54, 2, 55, 12, 62, 63, 64, 333, 334, 335, 336, 337, 338, 339, 340] (by decide +kernel) (by decide +kernel)
set_option maxRecDepth 20000 in
theorem gL_law_X0_undo : GoodIn wsL_law (wsV RL 23 RX0 yX0_undo wsX0_undo) := goodIn_app (goodIn_of _ (by decide +kernel)) ggL_law_X0_undo
set_option maxRecDepth 20000 in
theorem ggL_law_X1_undo : GoodIn wsL_law wsX1_undo := goodIn_r _ [83, 26, 69, 70, 71, 5, 72, 44, 45, 46, 47, 341, 342, 343, 344, 345, 346, 347, 348] (by decide +kernel) (by decide +kernel)
set_option maxRecDepth 20000 in
theorem gL_law_X1_undo : GoodIn wsL_law (wsV RL 26 RX1 yX1_undo wsX1_undo) := goodIn_app (goodIn_of _ (by decide +kernel)) ggL_law_X1_undo
set_option maxRecDepth 20000 in
theorem ggL_law_X0_record : GoodIn wsL_law wsX0_record := goodIn_r _ [87, 13, 56, 57, 2, 58, 333, 334, 335, 336, 337, 338, 339, 340] (by decide +kernel) (by decide +kernel)
set_option maxRecDepth 20000 in
theorem gL_law_X0_record : GoodIn wsL_law (wsV RL 27 RX0 yX0_record wsX0_record) := goodIn_app (goodIn_of _ (by decide +kernel)) ggL_law_X0_record
set_option maxRecDepth 20000 in
theorem ggL_law_X1_record : GoodIn wsL_law wsX1_record := goodIn_r _ [91, 30, 73, 74, 5, 75, 45, 46, 47, 341, 342, 343, 344, 345, 346, 347, 348] (by decide +kernel) (by decide +kernel)
set_option maxRecDepth 20000 in
theorem gL_law_X1_record : GoodIn wsL_law (wsV RL 30 RX1 yX1_record wsX1_record) := goodIn_app (goodIn_of _ (by decide +kernel)) ggL_law_X1_record
set_option maxRecDepth 20000 in
theorem ggL_law_X0_limit : GoodIn wsL_law wsX0_limit := goodIn_r _ [95, 14, 59, 60, 2, 61, 333, 334, 335, 336, 337, 338, 339, 340] (by decide +kernel) (by decide +kernel)
set_option maxRecDepth 20000 in
theorem gL_law_X0_limit : GoodIn wsL_law (wsV RL 31 RX0 yX0_limit wsX0_limit) := goodIn_app (goodIn_of _ (by decide +kernel)) ggL_law_X0_limit
set_option maxRecDepth 20000 in
theorem ggL_law_X1_limit : GoodIn wsL_law wsX1_limit := goodIn_r _ [99, 31, 73, 74, 5, 75, 45, 46, 47, 341, 342, 343, 344, 345, 346, 347, 348] (by decide +kernel) (by decide +kernel)
set_option maxRecDepth 20000 in
theorem gL_law_X1_limit : GoodIn wsL_law (wsV RL 34 RX1 yX1_limit wsX1_limit) := goodIn_app (goodIn_of _ (by decide +kernel)) ggL_law_X1_limit
set_option maxRecDepth 20000 in
theorem ggL_law_X0_value : GoodIn wsL_law wsX0_value := goodIn_r _ [103, 104, 105, 2, 106, 52, 53, 54, 55, 12, 107, 108, 109, 110, 111, 112, 113, 18, 19, 62, 63, 64, 333, 334, 335, 336, 337, 338, 339, 340] (by decide +kernel) (by decide +kernel)
set_option maxRecDepth 20000 in
theorem gL_law_X0_value : GoodIn wsL_law (wsV RL 35 RX0 yX0_value wsX0_value) := goodIn_app (goodIn_of _ (by decide +kernel)) ggL_law_X0_value
set_option maxRecDepth 20000 in
theorem ggL_law_X1_value : GoodIn wsL_law wsX1_value := goodIn_r _ [117, 45, 46, 5, 47, 69, 70, 71, 72, 44, 118, 119, 120, 121, 122, 123, 124, 26, 27, 28, 125, 126, 127, 341, 342, 343, 344, 345, 346, 347, 348] (by decide +kernel) (by decide +kernel)
set_option maxRecDepth 20000 in
theorem gL_law_X1_value : GoodIn wsL_law (wsV RL 38 RX1 yX1_value wsX1_value) := goodIn_app (goodIn_of _ (by decide +kernel)) ggL_law_X1_value
set_option maxRecDepth 20000 in
theorem ggL_law_X0_fits : GoodIn wsL_law wsX0_fits := goodIn_r _ [131, 132, 133, 2, 134, 104, 105, 106, 52, 53, 54, 55, 12, 107, 108, 109, 110, 111, 112, 113, 18, 19, 62, 63, 64, 135, 136, 137, 138, 139, 140, 141, 142, 143, 333, 334, 335, 336, 337, 338, 339, 340] (by decide +kernel) (by decide +kernel)
set_option maxRecDepth 20000 in
theorem gL_law_X0_fits : GoodIn wsL_law (wsV RL 39 RX0 yX0_fits wsX0_fits) := goodIn_app (goodIn_of _ (by decide +kernel)) ggL_law_X0_fits
set_option maxRecDepth 20000 in
theorem ggL_law_X1_fits : GoodIn wsL_law wsX1_fits := goodIn_r _ [147, 148, 149, 150, 5, 151, 45, 46, 47, 69, 70, 71, 72, 44, 118, 119, 120, 121, 122, 123, 124, 26, 27, 28, 125, 126, 127, 152, 153, 154, 155, 29, 341, 342, 343, 344, 345, 346, 347, 348] (by decide +kernel) (by decide +kernel)
set_option maxRecDepth 20000 in
theorem gL_law_X1_fits : GoodIn wsL_law (wsV RL 43 RX1 yX1_fits wsX1_fits) := goodIn_app (goodIn_of _ (by decide +kernel)) ggL_law_X1_fits
set_option maxRecDepth 20000 in
theorem ggL_law_X0_count : GoodIn wsL_law wsX0_count := goodIn_r _ [159, 160, 161, 162, 2, 163, 132, 133, 134, 104, 105, 106, 52, 53, 54, 55, 12, 56, 57, 58, 59, 60, 61, 110, 111, 112, 113, 18, 19, 62, 63, 64, 135, 136, 137, 138, 139, 140, 141, 142, 143, 333, 334, 335, 336, 337, 338, 339, 340] (by decide +kernel) (by decide +kernel)
set_option maxRecDepth 20000 in
theorem gL_law_X0_count : GoodIn wsL_law (wsV RL 44 RX0 yX0_count wsX0_count) := goodIn_app (goodIn_of _ (by decide +kernel)) ggL_law_X0_count
set_option maxRecDepth 20000 in
theorem ggL_law_X1_count : GoodIn wsL_law wsX1_count := goodIn_r _ [167, 168, 169, 170, 5, 171, 148, 149, 150, 151, 45, 46, 47, 69, 70, 71, 72, 44, 73, 74, 75, 121, 122, 123, 124, 26, 27, 28, 125, 126, 127, 152, 153, 154, 155, 29, 341, 342, 343, 344, 345, 346, 347, 348] (by decide +kernel) (by decide +kernel)
set_option maxRecDepth 20000 in
theorem gL_law_X1_count : GoodIn wsL_law (wsV RL 48 RX1 yX1_count wsX1_count) := goodIn_app (goodIn_of _ (by decide +kernel)) ggL_law_X1_count
set_option maxRecDepth 20000 in
theorem ggL_law_X0_turned : GoodIn wsL_law wsX0_turned := goodIn_r _ [175, 160, 161, 162, 2, 163, 132, 133, 134, 104, 105, 106, 52, 53, 54, 55, 12, 56, 57, 58, 59, 60, 61, 110, 111, 112, 113, 18, 19, 62, 63, 64, 135, 136, 137, 138, 139, 140, 141, 142, 143, 333, 334, 335, 336, 337, 338, 339, 340] (by decide +kernel) (by decide +kernel)
set_option maxRecDepth 20000 in
theorem gL_law_X0_turned : GoodIn wsL_law (wsV RL 49 RX0 yX0_turned wsX0_turned) := goodIn_app (goodIn_of _ (by decide +kernel)) ggL_law_X0_turned
set_option maxRecDepth 20000 in
theorem ggL_law_X1_turned : GoodIn wsL_law wsX1_turned := goodIn_r _ [179, 168, 169, 170, 5, 171, 148, 149, 150, 151, 45, 46, 47, 69, 70, 71, 72, 44, 73, 74, 75, 121, 122, 123, 124, 26, 27, 28, 125, 126, 127, 152, 153, 154, 155, 29, 341, 342, 343, 344, 345, 346, 347, 348] (by decide +kernel) (by decide +kernel)
set_option maxRecDepth 20000 in
theorem gL_law_X1_turned : GoodIn wsL_law (wsV RL 52 RX1 yX1_turned wsX1_turned) := goodIn_app (goodIn_of _ (by decide +kernel)) ggL_law_X1_turned
set_option maxRecDepth 20000 in
theorem ggL_law_X0_longest : GoodIn wsL_law wsX0_longest := goodIn_r _ [183, 184, 185, 186, 187, 160, 161, 162, 2, 163, 132, 133, 134, 104, 105, 106, 52, 53, 54, 55, 12, 56, 57, 58, 59, 60, 61, 110, 111, 112, 113, 18, 19, 62, 63, 64, 135, 136, 137, 138, 139, 140, 141, 142, 143, 333, 334, 335, 336, 337, 338, 339, 340] (by decide +kernel) (by decide +kernel)
set_option maxRecDepth 20000 in
theorem gL_law_X0_longest : GoodIn wsL_law (wsV RL 53 RX0 yX0_longest wsX0_longest) := goodIn_app (goodIn_of _ (by decide +kernel)) ggL_law_X0_longest
set_option maxRecDepth 20000 in
theorem ggL_law_X1_longest : GoodIn wsL_law wsX1_longest := goodIn_r _ [191, 168, 169, 170, 5, 171, 148, 149, 150, 151, 45, 46, 47, 69, 70, 71, 72, 44, 73, 74, 75, 192, 193, 194, 195, 121, 122, 123, 124, 26, 27, 28, 125, 126, 127, 152, 153, 154, 155, 29, 341, 342, 343, 344, 345, 346, 347, 348] (by decide +kernel) (by decide +kernel)
set_option maxRecDepth 20000 in
theorem gL_law_X1_longest : GoodIn wsL_law (wsV RL 56 RX1 yX1_longest wsX1_longest) := goodIn_app (goodIn_of _ (by decide +kernel)) ggL_law_X1_longest
set_option maxRecDepth 20000 in
theorem ggL_law_X0_skip : GoodIn wsL_law wsX0_skip := goodIn_r _ [199, 160, 161, 162, 2, 163, 132, 133, 134, 104, 105, 106, 52, 53, 54, 55, 12, 56, 57, 58, 59, 60, 61, 107, 108, 109, 110, 111, 112, 113, 18, 19, 62, 63, 64, 135, 136, 137, 138, 139, 140, 141, 142, 143, 333, 334, 335, 336, 337, 338, 339, 340] (by decide +kernel) (by decide +kernel)
set_option maxRecDepth 20000 in
theorem gL_law_X0_skip : GoodIn wsL_law (wsV RL 57 RX0 yX0_skip wsX0_skip) := goodIn_app (goodIn_of _ (by decide +kernel)) ggL_law_X0_skip
set_option maxRecDepth 20000 in
theorem ggL_law_X1_skip : GoodIn wsL_law wsX1_skip := goodIn_r _ [203, 168, 169, 170, 5, 171, 148, 149, 150, 151, 45, 46, 47, 69, 70, 71, 72, 44, 73, 74, 75, 118, 119, 120, 121, 122, 123, 124, 26, 27, 28, 125, 126, 127, 152, 153, 154, 155, 29, 341, 342, 343, 344, 345, 346, 347, 348] (by decide +kernel) (by decide +kernel)
set_option maxRecDepth 20000 in
theorem gL_law_X1_skip : GoodIn wsL_law (wsV RL 60 RX1 yX1_skip wsX1_skip) := goodIn_app (goodIn_of _ (by decide +kernel)) ggL_law_X1_skip
set_option maxRecDepth 20000 in
theorem ggL_law_X0_pick : GoodIn wsL_law wsX0_pick := goodIn_r _ [207, 160, 161, 162, 2, 163, 132, 133, 134, 104, 105, 106, 52, 53, 54, 55, 12, 56, 57, 58, 59, 60, 61, 110, 111, 112, 113, 18, 19, 62, 63, 64, 135, 136, 137, 138, 139, 140, 141, 142, 143, 333, 334, 335, 336, 337, 338, 339, 340] (by decide +kernel) (by decide +kernel)
set_option maxRecDepth 20000 in
theorem gL_law_X0_pick : GoodIn wsL_law (wsV RL 61 RX0 yX0_pick wsX0_pick) := goodIn_app (goodIn_of _ (by decide +kernel)) ggL_law_X0_pick
set_option maxRecDepth 20000 in
theorem ggL_law_X1_pick : GoodIn wsL_law wsX1_pick := goodIn_r _ [211, 168, 169, 170, 5, 171, 148, 149, 150, 151, 45, 46, 47, 69, 70, 71, 72, 44, 73, 74, 75, 121, 122, 123, 124, 26, 27, 28, 125, 126, 127, 152, 153, 154, 155, 29, 341, 342, 343, 344, 345, 346, 347, 348] (by decide +kernel) (by decide +kernel)
set_option maxRecDepth 20000 in
theorem gL_law_X1_pick : GoodIn wsL_law (wsV RL 64 RX1 yX1_pick wsX1_pick) := goodIn_app (goodIn_of _ (by decide +kernel)) ggL_law_X1_pick
set_option maxRecDepth 20000 in
theorem ggL_law_X0_best : GoodIn wsL_law wsX0_best := goodIn_r _ [215, 52, 53, 54, 2, 55, 12, 216, 217, 218, 219, 18, 184, 185, 186, 187, 220, 221, 222, 223, 19, 14, 62, 63, 64, 135, 136, 137, 138, 139, 140, 141, 142, 143, 333, 334, 335, 336, 337, 338, 339, 340] (by decide +kernel) (by decide +kernel)
set_option maxRecDepth 20000 in
theorem gL_law_X0_best : GoodIn wsL_law (wsV RL 65 RX0 yX0_best wsX0_best) := goodIn_app (goodIn_of _ (by decide +kernel)) ggL_law_X0_best
set_option maxRecDepth 20000 in
theorem ggL_law_X1_best : GoodIn wsL_law wsX1_best := goodIn_r _ [227, 69, 70, 71, 5, 72, 44, 45, 46, 47, 228, 229, 230, 231, 121, 122, 123, 124, 26, 27, 28, 125, 126, 127, 232, 233, 234, 235, 31, 152, 153, 154, 155, 29, 341, 342, 343, 344, 345, 346, 347, 348] (by decide +kernel) (by decide +kernel)
set_option maxRecDepth 20000 in
theorem gL_law_X1_best : GoodIn wsL_law (wsV RL 68 RX1 yX1_best wsX1_best) := goodIn_app (goodIn_of _ (by decide +kernel)) ggL_law_X1_best
set_option maxRecDepth 20000 in
theorem ggL_law_X0_ahead : GoodIn wsL_law wsX0_ahead := goodIn_r _ [239, 52, 53, 54, 2, 55, 12, 240, 241, 242, 243, 20, 18, 62, 63, 64, 220, 221, 222, 223, 19, 14, 135, 136, 137, 138, 139, 140, 141, 142, 143, 244, 245, 246, 247, 248, 249, 250, 251, 333, 334, 335, 336, 337, 338, 339, 340] (by decide +kernel) (by decide +kernel)
set_option maxRecDepth 20000 in
theorem gL_law_X0_ahead : GoodIn wsL_law (wsV RL 69 RX0 yX0_ahead wsX0_ahead) := goodIn_app (goodIn_of _ (by decide +kernel)) ggL_law_X0_ahead
set_option maxRecDepth 20000 in
theorem ggL_law_X1_ahead : GoodIn wsL_law wsX1_ahead := goodIn_r _ [255, 69, 70, 71, 5, 72, 44, 45, 46, 47, 256, 257, 258, 259, 228, 229, 230, 231, 121, 122, 123, 124, 26, 27, 28, 125, 126, 127, 232, 233, 234, 235, 31, 152, 153, 154, 155, 29, 260, 261, 262, 263, 341, 342, 343, 344, 345, 346, 347, 348] (by decide +kernel) (by decide +kernel)
set_option maxRecDepth 20000 in
theorem gL_law_X1_ahead : GoodIn wsL_law (wsV RL 73 RX1 yX1_ahead wsX1_ahead) := goodIn_app (goodIn_of _ (by decide +kernel)) ggL_law_X1_ahead
set_option maxRecDepth 20000 in
theorem ggL_law_X0_place : GoodIn wsL_law wsX0_place := goodIn_r _ [267, 12, 52, 53, 54, 2, 55, 216, 217, 218, 219, 18, 184, 185, 186, 187, 220, 221, 222, 223, 19, 14, 62, 63, 64, 135, 136, 137, 138, 139, 140, 141, 142, 143, 268, 269, 270, 271, 240, 241, 242, 243, 20, 244, 245, 246, 247, 248, 249, 250, 251, 333, 334, 335, 336, 337, 338, 339, 340] (by decide +kernel) (by decide +kernel)
set_option maxRecDepth 20000 in
theorem gL_law_X0_place : GoodIn wsL_law (wsV RL 74 RX0 yX0_place wsX0_place) := goodIn_app (goodIn_of _ (by decide +kernel)) ggL_law_X0_place
set_option maxRecDepth 20000 in
theorem ggL_law_X1_place : GoodIn wsL_law wsX1_place := goodIn_r _ [275, 44, 69, 70, 71, 5, 72, 45, 46, 47, 276, 225, 226, 227, 228, 229, 230, 231, 121, 122, 123, 124, 26, 27, 28, 125, 126, 127, 232, 233, 234, 235, 31, 152, 153, 154, 155, 29, 256, 257, 258, 259, 260, 261, 262, 263, 341, 342, 343, 344, 345, 346, 347, 348] (by decide +kernel) (by decide +kernel)
set_option maxRecDepth 20000 in
theorem gL_law_X1_place : GoodIn wsL_law (wsV RL 77 RX1 yX1_place wsX1_place) := goodIn_app (goodIn_of _ (by decide +kernel)) ggL_law_X1_place
set_option maxRecDepth 20000 in
theorem ggL_law_X0_order : GoodIn wsL_law wsX0_order := goodIn_r _ [280, 12, 268, 269, 270, 2, 271, 240, 241, 242, 243, 20, 18, 62, 63, 64, 220, 221, 222, 223, 19, 14, 135, 136, 137, 138, 139, 140, 141, 142, 143, 244, 245, 246, 247, 281, 282, 283, 284, 285, 286, 287, 288, 248, 249, 250, 251, 333, 334, 335, 336, 337, 338, 339, 340] (by decide +kernel) (by decide +kernel)
set_option maxRecDepth 20000 in
theorem gL_law_X0_order : GoodIn wsL_law (wsV RL 78 RX0 yX0_order wsX0_order) := goodIn_app (goodIn_of _ (by decide +kernel)) ggL_law_X0_order
set_option maxRecDepth 20000 in
theorem ggL_law_X1_order : GoodIn wsL_law wsX1_order := goodIn_r _ [292, 44, 45, 46, 5, 47, 293, 294, 295, 296, 276, 225, 226, 227, 69, 70, 71, 72, 228, 229, 230, 231, 121, 122, 123, 124, 26, 27, 28, 125, 126, 127, 232, 233, 234, 235, 31, 152, 153, 154, 155, 29, 256, 257, 258, 259, 260, 261, 262, 263, 341, 342, 343, 344, 345, 346, 347, 348] (by decide +kernel) (by decide +kernel)
set_option maxRecDepth 20000 in
theorem gL_law_X1_order : GoodIn wsL_law (wsV RL 81 RX1 yX1_order wsX1_order) := goodIn_app (goodIn_of _ (by decide +kernel)) ggL_law_X1_order
set_option maxRecDepth 20000 in
theorem ggL_law_X0_verdict : GoodIn wsL_law wsX0_verdict := goodIn_r _ [300, 18, 19, 13, 14, 52, 53, 54, 2, 55, 12, 107, 108, 109, 62, 63, 64, 220, 221, 222, 223, 135, 136, 137, 138, 139, 140, 141, 142, 143, 301, 302, 303, 304, 333, 334, 335, 336, 337, 338, 339, 340] (by decide +kernel) (by decide +kernel)
set_option maxRecDepth 20000 in
theorem gL_law_X0_verdict : GoodIn wsL_law (wsV RL 82 RX0 yX0_verdict wsX0_verdict) := goodIn_app (goodIn_of _ (by decide +kernel)) ggL_law_X0_verdict
set_option maxRecDepth 20000 in
theorem ggL_law_X1_verdict : GoodIn wsL_law wsX1_verdict := goodIn_r _ [308, 30, 31, 69, 70, 71, 5, 72, 44, 45, 46, 47, 118, 119, 120, 121, 122, 123, 124, 26, 27, 28, 125, 126, 127, 232, 233, 234, 235, 152, 153, 154, 155, 29, 309, 310, 311, 312, 341, 342, 343, 344, 345, 346, 347, 348] (by decide +kernel) (by decide +kernel)
set_option maxRecDepth 20000 in
theorem gL_law_X1_verdict : GoodIn wsL_law (wsV RL 85 RX1 yX1_verdict wsX1_verdict) := goodIn_app (goodIn_of _ (by decide +kernel)) ggL_law_X1_verdict
set_option maxRecDepth 20000 in
theorem ggL_law_X0_told : GoodIn wsL_law wsX0_told := goodIn_r _ [316, 12, 13, 14, 317, 318, 319, 2, 320, 17, 321, 322, 323, 324, 18, 325, 326, 327, 328, 220, 221, 222, 223, 19, 62, 63, 64, 135, 136, 137, 138, 139, 140, 141, 142, 143, 333, 334, 335, 336, 337, 338, 339, 340] (by decide +kernel) (by decide +kernel)
set_option maxRecDepth 20000 in
theorem gL_law_X0_told : GoodIn wsL_law (wsV RL 86 RX0 yX0_told wsX0_told) := goodIn_app (goodIn_of _ (by decide +kernel)) ggL_law_X0_told
set_option maxRecDepth 20000 in
theorem ggL_law_X1_told : GoodIn wsL_law wsX1_told := goodIn_r _ [332, 44, 30, 31, 26, 45, 46, 5, 47, 121, 122, 123, 124, 27, 28, 125, 126, 127, 232, 233, 234, 235, 152, 153, 154, 155, 29, 341, 342, 343, 344, 345, 346, 347, 348] (by decide +kernel) (by decide +kernel)
set_option maxRecDepth 20000 in
theorem gL_law_X1_told : GoodIn wsL_law (wsV RL 89 RX1 yX1_told wsX1_told) := goodIn_app (goodIn_of _ (by decide +kernel)) ggL_law_X1_told
end
section
theorem dL_law_0 : decode cL_law 0 = .ok (.new 7, 3) := by decide +kernel
theorem dL_law_3 : decode cL_law 3 = .ok (.dup, 1) := by decide +kernel
theorem dL_law_4 : decode cL_law 4 = .ok (.invokespecial 9, 3) := by decide +kernel
theorem dL_law_7 : decode cL_law 7 = .ok (.astore_n 1, 1) := by decide +kernel
theorem dL_law_8 : decode cL_law 8 = .ok (.new 10, 3) := by decide +kernel
theorem dL_law_11 : decode cL_law 11 = .ok (.dup, 1) := by decide +kernel
theorem dL_law_12 : decode cL_law 12 = .ok (.invokespecial 12, 3) := by decide +kernel
theorem dL_law_15 : decode cL_law 15 = .ok (.astore_n 2, 1) := by decide +kernel
theorem dL_law_16 : decode cL_law 16 = .ok (.iconst 0, 1) := by decide +kernel
theorem dL_law_17 : decode cL_law 17 = .ok (.istore_n 3, 1) := by decide +kernel
theorem dL_law_18 : decode cL_law 18 = .ok (.iload_n 3, 1) := by decide +kernel
theorem dL_law_19 : decode cL_law 19 = .ok (.aload_n 0, 1) := by decide +kernel
theorem dL_law_20 : decode cL_law 20 = .ok (.arraylength, 1) := by decide +kernel
theorem dL_law_21 : decode cL_law 21 = .ok (.bipush 6, 2) := by decide +kernel
theorem dL_law_23 : decode cL_law 23 = .ok (.isub, 1) := by decide +kernel
theorem dL_law_24 : decode cL_law 24 = .ok (.if_icmp .gt 776, 3) := by decide +kernel
theorem dL_law_27 : decode cL_law 27 = .ok (.aload_n 0, 1) := by decide +kernel
theorem dL_law_28 : decode cL_law 28 = .ok (.iload_n 3, 1) := by decide +kernel
theorem dL_law_29 : decode cL_law 29 = .ok (.iaload, 1) := by decide +kernel
theorem dL_law_30 : decode cL_law 30 = .ok (.bipush 31, 2) := by decide +kernel
theorem dL_law_32 : decode cL_law 32 = .ok (.iand, 1) := by decide +kernel
theorem dL_law_33 : decode cL_law 33 = .ok (.tableswitch 761 0 17 #[87, 110, 153, 176, 199, 222, 265, 328, 381, 434, 487, 550, 603, 626, 659, 682, 705, 738], 87) := by decide +kernel
theorem dL_law_120 : decode cL_law 120 = .ok (.aload_n 1, 1) := by decide +kernel
theorem dL_law_121 : decode cL_law 121 = .ok (.aload_n 0, 1) := by decide +kernel
theorem dL_law_122 : decode cL_law 122 = .ok (.iload_n 3, 1) := by decide +kernel
theorem dL_law_123 : decode cL_law 123 = .ok (.iconst 1, 1) := by decide +kernel
theorem dL_law_124 : decode cL_law 124 = .ok (.iadd, 1) := by decide +kernel
theorem dL_law_125 : decode cL_law 125 = .ok (.iaload, 1) := by decide +kernel
theorem dL_law_126 : decode cL_law 126 = .ok (.invokevirtual 13, 3) := by decide +kernel
theorem dL_law_129 : decode cL_law 129 = .ok (.aload_n 2, 1) := by decide +kernel
theorem dL_law_130 : decode cL_law 130 = .ok (.aload_n 0, 1) := by decide +kernel
theorem dL_law_131 : decode cL_law 131 = .ok (.iload_n 3, 1) := by decide +kernel
theorem dL_law_132 : decode cL_law 132 = .ok (.iconst 1, 1) := by decide +kernel
theorem dL_law_133 : decode cL_law 133 = .ok (.iadd, 1) := by decide +kernel
theorem dL_law_134 : decode cL_law 134 = .ok (.iaload, 1) := by decide +kernel
theorem dL_law_135 : decode cL_law 135 = .ok (.invokevirtual 17, 3) := by decide +kernel
theorem dL_law_138 : decode cL_law 138 = .ok (.if_icmp .eq 656, 3) := by decide +kernel
theorem dL_law_141 : decode cL_law 141 = .ok (.iconst 0, 1) := by decide +kernel
theorem dL_law_142 : decode cL_law 142 = .ok (.ireturn, 1) := by decide +kernel
theorem dL_law_143 : decode cL_law 143 = .ok (.aload_n 1, 1) := by decide +kernel
theorem dL_law_144 : decode cL_law 144 = .ok (.aload_n 0, 1) := by decide +kernel
theorem dL_law_145 : decode cL_law 145 = .ok (.iload_n 3, 1) := by decide +kernel
theorem dL_law_146 : decode cL_law 146 = .ok (.iconst 1, 1) := by decide +kernel
theorem dL_law_147 : decode cL_law 147 = .ok (.iadd, 1) := by decide +kernel
theorem dL_law_148 : decode cL_law 148 = .ok (.iaload, 1) := by decide +kernel
theorem dL_law_149 : decode cL_law 149 = .ok (.aload_n 0, 1) := by decide +kernel
theorem dL_law_150 : decode cL_law 150 = .ok (.iload_n 3, 1) := by decide +kernel
theorem dL_law_151 : decode cL_law 151 = .ok (.iconst 2, 1) := by decide +kernel
theorem dL_law_152 : decode cL_law 152 = .ok (.iadd, 1) := by decide +kernel
theorem dL_law_153 : decode cL_law 153 = .ok (.iaload, 1) := by decide +kernel
theorem dL_law_154 : decode cL_law 154 = .ok (.aload_n 0, 1) := by decide +kernel
theorem dL_law_155 : decode cL_law 155 = .ok (.iload_n 3, 1) := by decide +kernel
theorem dL_law_156 : decode cL_law 156 = .ok (.iconst 3, 1) := by decide +kernel
theorem dL_law_157 : decode cL_law 157 = .ok (.iadd, 1) := by decide +kernel
theorem dL_law_158 : decode cL_law 158 = .ok (.iaload, 1) := by decide +kernel
theorem dL_law_159 : decode cL_law 159 = .ok (.invokevirtual 18, 3) := by decide +kernel
theorem dL_law_162 : decode cL_law 162 = .ok (.aload_n 2, 1) := by decide +kernel
theorem dL_law_163 : decode cL_law 163 = .ok (.aload_n 0, 1) := by decide +kernel
theorem dL_law_164 : decode cL_law 164 = .ok (.iload_n 3, 1) := by decide +kernel
theorem dL_law_165 : decode cL_law 165 = .ok (.iconst 1, 1) := by decide +kernel
theorem dL_law_166 : decode cL_law 166 = .ok (.iadd, 1) := by decide +kernel
theorem dL_law_167 : decode cL_law 167 = .ok (.iaload, 1) := by decide +kernel
theorem dL_law_168 : decode cL_law 168 = .ok (.aload_n 0, 1) := by decide +kernel
theorem dL_law_169 : decode cL_law 169 = .ok (.iload_n 3, 1) := by decide +kernel
theorem dL_law_170 : decode cL_law 170 = .ok (.iconst 2, 1) := by decide +kernel
theorem dL_law_171 : decode cL_law 171 = .ok (.iadd, 1) := by decide +kernel
theorem dL_law_172 : decode cL_law 172 = .ok (.iaload, 1) := by decide +kernel
theorem dL_law_173 : decode cL_law 173 = .ok (.aload_n 0, 1) := by decide +kernel
theorem dL_law_174 : decode cL_law 174 = .ok (.iload_n 3, 1) := by decide +kernel
theorem dL_law_175 : decode cL_law 175 = .ok (.iconst 3, 1) := by decide +kernel
theorem dL_law_176 : decode cL_law 176 = .ok (.iadd, 1) := by decide +kernel
theorem dL_law_177 : decode cL_law 177 = .ok (.iaload, 1) := by decide +kernel
theorem dL_law_178 : decode cL_law 178 = .ok (.invokevirtual 22, 3) := by decide +kernel
theorem dL_law_181 : decode cL_law 181 = .ok (.if_icmp .eq 613, 3) := by decide +kernel
theorem dL_law_184 : decode cL_law 184 = .ok (.iconst 0, 1) := by decide +kernel
theorem dL_law_185 : decode cL_law 185 = .ok (.ireturn, 1) := by decide +kernel
theorem dL_law_186 : decode cL_law 186 = .ok (.aload_n 1, 1) := by decide +kernel
theorem dL_law_187 : decode cL_law 187 = .ok (.aload_n 0, 1) := by decide +kernel
theorem dL_law_188 : decode cL_law 188 = .ok (.iload_n 3, 1) := by decide +kernel
theorem dL_law_189 : decode cL_law 189 = .ok (.iconst 1, 1) := by decide +kernel
theorem dL_law_190 : decode cL_law 190 = .ok (.iadd, 1) := by decide +kernel
theorem dL_law_191 : decode cL_law 191 = .ok (.iaload, 1) := by decide +kernel
theorem dL_law_192 : decode cL_law 192 = .ok (.invokevirtual 23, 3) := by decide +kernel
theorem dL_law_195 : decode cL_law 195 = .ok (.aload_n 2, 1) := by decide +kernel
theorem dL_law_196 : decode cL_law 196 = .ok (.aload_n 0, 1) := by decide +kernel
theorem dL_law_197 : decode cL_law 197 = .ok (.iload_n 3, 1) := by decide +kernel
theorem dL_law_198 : decode cL_law 198 = .ok (.iconst 1, 1) := by decide +kernel
theorem dL_law_199 : decode cL_law 199 = .ok (.iadd, 1) := by decide +kernel
theorem dL_law_200 : decode cL_law 200 = .ok (.iaload, 1) := by decide +kernel
theorem dL_law_201 : decode cL_law 201 = .ok (.invokevirtual 26, 3) := by decide +kernel
theorem dL_law_204 : decode cL_law 204 = .ok (.if_icmp .eq 590, 3) := by decide +kernel
theorem dL_law_207 : decode cL_law 207 = .ok (.iconst 0, 1) := by decide +kernel
theorem dL_law_208 : decode cL_law 208 = .ok (.ireturn, 1) := by decide +kernel
theorem dL_law_209 : decode cL_law 209 = .ok (.aload_n 1, 1) := by decide +kernel
theorem dL_law_210 : decode cL_law 210 = .ok (.aload_n 0, 1) := by decide +kernel
theorem dL_law_211 : decode cL_law 211 = .ok (.iload_n 3, 1) := by decide +kernel
theorem dL_law_212 : decode cL_law 212 = .ok (.iconst 1, 1) := by decide +kernel
theorem dL_law_213 : decode cL_law 213 = .ok (.iadd, 1) := by decide +kernel
theorem dL_law_214 : decode cL_law 214 = .ok (.iaload, 1) := by decide +kernel
theorem dL_law_215 : decode cL_law 215 = .ok (.invokevirtual 27, 3) := by decide +kernel
theorem dL_law_218 : decode cL_law 218 = .ok (.aload_n 2, 1) := by decide +kernel
theorem dL_law_219 : decode cL_law 219 = .ok (.aload_n 0, 1) := by decide +kernel
theorem dL_law_220 : decode cL_law 220 = .ok (.iload_n 3, 1) := by decide +kernel
theorem dL_law_221 : decode cL_law 221 = .ok (.iconst 1, 1) := by decide +kernel
theorem dL_law_222 : decode cL_law 222 = .ok (.iadd, 1) := by decide +kernel
theorem dL_law_223 : decode cL_law 223 = .ok (.iaload, 1) := by decide +kernel
theorem dL_law_224 : decode cL_law 224 = .ok (.invokevirtual 30, 3) := by decide +kernel
theorem dL_law_227 : decode cL_law 227 = .ok (.if_icmp .eq 567, 3) := by decide +kernel
theorem dL_law_230 : decode cL_law 230 = .ok (.iconst 0, 1) := by decide +kernel
theorem dL_law_231 : decode cL_law 231 = .ok (.ireturn, 1) := by decide +kernel
theorem dL_law_232 : decode cL_law 232 = .ok (.aload_n 1, 1) := by decide +kernel
theorem dL_law_233 : decode cL_law 233 = .ok (.aload_n 0, 1) := by decide +kernel
theorem dL_law_234 : decode cL_law 234 = .ok (.iload_n 3, 1) := by decide +kernel
theorem dL_law_235 : decode cL_law 235 = .ok (.iconst 1, 1) := by decide +kernel
theorem dL_law_236 : decode cL_law 236 = .ok (.iadd, 1) := by decide +kernel
theorem dL_law_237 : decode cL_law 237 = .ok (.iaload, 1) := by decide +kernel
theorem dL_law_238 : decode cL_law 238 = .ok (.invokevirtual 31, 3) := by decide +kernel
theorem dL_law_241 : decode cL_law 241 = .ok (.aload_n 2, 1) := by decide +kernel
theorem dL_law_242 : decode cL_law 242 = .ok (.aload_n 0, 1) := by decide +kernel
theorem dL_law_243 : decode cL_law 243 = .ok (.iload_n 3, 1) := by decide +kernel
theorem dL_law_244 : decode cL_law 244 = .ok (.iconst 1, 1) := by decide +kernel
theorem dL_law_245 : decode cL_law 245 = .ok (.iadd, 1) := by decide +kernel
theorem dL_law_246 : decode cL_law 246 = .ok (.iaload, 1) := by decide +kernel
theorem dL_law_247 : decode cL_law 247 = .ok (.invokevirtual 34, 3) := by decide +kernel
theorem dL_law_250 : decode cL_law 250 = .ok (.if_icmp .eq 544, 3) := by decide +kernel
theorem dL_law_253 : decode cL_law 253 = .ok (.iconst 0, 1) := by decide +kernel
theorem dL_law_254 : decode cL_law 254 = .ok (.ireturn, 1) := by decide +kernel
theorem dL_law_255 : decode cL_law 255 = .ok (.aload_n 1, 1) := by decide +kernel
theorem dL_law_256 : decode cL_law 256 = .ok (.aload_n 0, 1) := by decide +kernel
theorem dL_law_257 : decode cL_law 257 = .ok (.iload_n 3, 1) := by decide +kernel
theorem dL_law_258 : decode cL_law 258 = .ok (.iconst 1, 1) := by decide +kernel
theorem dL_law_259 : decode cL_law 259 = .ok (.iadd, 1) := by decide +kernel
theorem dL_law_260 : decode cL_law 260 = .ok (.iaload, 1) := by decide +kernel
theorem dL_law_261 : decode cL_law 261 = .ok (.aload_n 0, 1) := by decide +kernel
theorem dL_law_262 : decode cL_law 262 = .ok (.iload_n 3, 1) := by decide +kernel
theorem dL_law_263 : decode cL_law 263 = .ok (.iconst 2, 1) := by decide +kernel
theorem dL_law_264 : decode cL_law 264 = .ok (.iadd, 1) := by decide +kernel
theorem dL_law_265 : decode cL_law 265 = .ok (.iaload, 1) := by decide +kernel
theorem dL_law_266 : decode cL_law 266 = .ok (.aload_n 0, 1) := by decide +kernel
theorem dL_law_267 : decode cL_law 267 = .ok (.iload_n 3, 1) := by decide +kernel
theorem dL_law_268 : decode cL_law 268 = .ok (.iconst 3, 1) := by decide +kernel
theorem dL_law_269 : decode cL_law 269 = .ok (.iadd, 1) := by decide +kernel
theorem dL_law_270 : decode cL_law 270 = .ok (.iaload, 1) := by decide +kernel
theorem dL_law_271 : decode cL_law 271 = .ok (.invokevirtual 35, 3) := by decide +kernel
theorem dL_law_274 : decode cL_law 274 = .ok (.aload_n 2, 1) := by decide +kernel
theorem dL_law_275 : decode cL_law 275 = .ok (.aload_n 0, 1) := by decide +kernel
theorem dL_law_276 : decode cL_law 276 = .ok (.iload_n 3, 1) := by decide +kernel
theorem dL_law_277 : decode cL_law 277 = .ok (.iconst 1, 1) := by decide +kernel
theorem dL_law_278 : decode cL_law 278 = .ok (.iadd, 1) := by decide +kernel
theorem dL_law_279 : decode cL_law 279 = .ok (.iaload, 1) := by decide +kernel
end
section
theorem dL_law_280 : decode cL_law 280 = .ok (.aload_n 0, 1) := by decide +kernel
theorem dL_law_281 : decode cL_law 281 = .ok (.iload_n 3, 1) := by decide +kernel
theorem dL_law_282 : decode cL_law 282 = .ok (.iconst 2, 1) := by decide +kernel
theorem dL_law_283 : decode cL_law 283 = .ok (.iadd, 1) := by decide +kernel
theorem dL_law_284 : decode cL_law 284 = .ok (.iaload, 1) := by decide +kernel
theorem dL_law_285 : decode cL_law 285 = .ok (.aload_n 0, 1) := by decide +kernel
theorem dL_law_286 : decode cL_law 286 = .ok (.iload_n 3, 1) := by decide +kernel
theorem dL_law_287 : decode cL_law 287 = .ok (.iconst 3, 1) := by decide +kernel
theorem dL_law_288 : decode cL_law 288 = .ok (.iadd, 1) := by decide +kernel
theorem dL_law_289 : decode cL_law 289 = .ok (.iaload, 1) := by decide +kernel
theorem dL_law_290 : decode cL_law 290 = .ok (.invokevirtual 38, 3) := by decide +kernel
theorem dL_law_293 : decode cL_law 293 = .ok (.if_icmp .eq 501, 3) := by decide +kernel
theorem dL_law_296 : decode cL_law 296 = .ok (.iconst 0, 1) := by decide +kernel
theorem dL_law_297 : decode cL_law 297 = .ok (.ireturn, 1) := by decide +kernel
theorem dL_law_298 : decode cL_law 298 = .ok (.aload_n 1, 1) := by decide +kernel
theorem dL_law_299 : decode cL_law 299 = .ok (.aload_n 0, 1) := by decide +kernel
theorem dL_law_300 : decode cL_law 300 = .ok (.iload_n 3, 1) := by decide +kernel
theorem dL_law_301 : decode cL_law 301 = .ok (.iconst 1, 1) := by decide +kernel
theorem dL_law_302 : decode cL_law 302 = .ok (.iadd, 1) := by decide +kernel
theorem dL_law_303 : decode cL_law 303 = .ok (.iaload, 1) := by decide +kernel
theorem dL_law_304 : decode cL_law 304 = .ok (.aload_n 0, 1) := by decide +kernel
theorem dL_law_305 : decode cL_law 305 = .ok (.iload_n 3, 1) := by decide +kernel
theorem dL_law_306 : decode cL_law 306 = .ok (.iconst 2, 1) := by decide +kernel
theorem dL_law_307 : decode cL_law 307 = .ok (.iadd, 1) := by decide +kernel
theorem dL_law_308 : decode cL_law 308 = .ok (.iaload, 1) := by decide +kernel
theorem dL_law_309 : decode cL_law 309 = .ok (.aload_n 0, 1) := by decide +kernel
theorem dL_law_310 : decode cL_law 310 = .ok (.iload_n 3, 1) := by decide +kernel
theorem dL_law_311 : decode cL_law 311 = .ok (.iconst 3, 1) := by decide +kernel
theorem dL_law_312 : decode cL_law 312 = .ok (.iadd, 1) := by decide +kernel
theorem dL_law_313 : decode cL_law 313 = .ok (.iaload, 1) := by decide +kernel
theorem dL_law_314 : decode cL_law 314 = .ok (.aload_n 0, 1) := by decide +kernel
theorem dL_law_315 : decode cL_law 315 = .ok (.iload_n 3, 1) := by decide +kernel
theorem dL_law_316 : decode cL_law 316 = .ok (.iconst 4, 1) := by decide +kernel
theorem dL_law_317 : decode cL_law 317 = .ok (.iadd, 1) := by decide +kernel
theorem dL_law_318 : decode cL_law 318 = .ok (.iaload, 1) := by decide +kernel
theorem dL_law_319 : decode cL_law 319 = .ok (.aload_n 0, 1) := by decide +kernel
theorem dL_law_320 : decode cL_law 320 = .ok (.iload_n 3, 1) := by decide +kernel
theorem dL_law_321 : decode cL_law 321 = .ok (.iconst 5, 1) := by decide +kernel
theorem dL_law_322 : decode cL_law 322 = .ok (.iadd, 1) := by decide +kernel
theorem dL_law_323 : decode cL_law 323 = .ok (.iaload, 1) := by decide +kernel
theorem dL_law_324 : decode cL_law 324 = .ok (.invokevirtual 39, 3) := by decide +kernel
theorem dL_law_327 : decode cL_law 327 = .ok (.aload_n 2, 1) := by decide +kernel
theorem dL_law_328 : decode cL_law 328 = .ok (.aload_n 0, 1) := by decide +kernel
theorem dL_law_329 : decode cL_law 329 = .ok (.iload_n 3, 1) := by decide +kernel
theorem dL_law_330 : decode cL_law 330 = .ok (.iconst 1, 1) := by decide +kernel
theorem dL_law_331 : decode cL_law 331 = .ok (.iadd, 1) := by decide +kernel
theorem dL_law_332 : decode cL_law 332 = .ok (.iaload, 1) := by decide +kernel
theorem dL_law_333 : decode cL_law 333 = .ok (.aload_n 0, 1) := by decide +kernel
theorem dL_law_334 : decode cL_law 334 = .ok (.iload_n 3, 1) := by decide +kernel
theorem dL_law_335 : decode cL_law 335 = .ok (.iconst 2, 1) := by decide +kernel
theorem dL_law_336 : decode cL_law 336 = .ok (.iadd, 1) := by decide +kernel
theorem dL_law_337 : decode cL_law 337 = .ok (.iaload, 1) := by decide +kernel
theorem dL_law_338 : decode cL_law 338 = .ok (.aload_n 0, 1) := by decide +kernel
theorem dL_law_339 : decode cL_law 339 = .ok (.iload_n 3, 1) := by decide +kernel
theorem dL_law_340 : decode cL_law 340 = .ok (.iconst 3, 1) := by decide +kernel
theorem dL_law_341 : decode cL_law 341 = .ok (.iadd, 1) := by decide +kernel
theorem dL_law_342 : decode cL_law 342 = .ok (.iaload, 1) := by decide +kernel
theorem dL_law_343 : decode cL_law 343 = .ok (.aload_n 0, 1) := by decide +kernel
theorem dL_law_344 : decode cL_law 344 = .ok (.iload_n 3, 1) := by decide +kernel
theorem dL_law_345 : decode cL_law 345 = .ok (.iconst 4, 1) := by decide +kernel
theorem dL_law_346 : decode cL_law 346 = .ok (.iadd, 1) := by decide +kernel
theorem dL_law_347 : decode cL_law 347 = .ok (.iaload, 1) := by decide +kernel
theorem dL_law_348 : decode cL_law 348 = .ok (.aload_n 0, 1) := by decide +kernel
theorem dL_law_349 : decode cL_law 349 = .ok (.iload_n 3, 1) := by decide +kernel
theorem dL_law_350 : decode cL_law 350 = .ok (.iconst 5, 1) := by decide +kernel
theorem dL_law_351 : decode cL_law 351 = .ok (.iadd, 1) := by decide +kernel
theorem dL_law_352 : decode cL_law 352 = .ok (.iaload, 1) := by decide +kernel
theorem dL_law_353 : decode cL_law 353 = .ok (.invokevirtual 43, 3) := by decide +kernel
theorem dL_law_356 : decode cL_law 356 = .ok (.if_icmp .eq 438, 3) := by decide +kernel
theorem dL_law_359 : decode cL_law 359 = .ok (.iconst 0, 1) := by decide +kernel
theorem dL_law_360 : decode cL_law 360 = .ok (.ireturn, 1) := by decide +kernel
theorem dL_law_361 : decode cL_law 361 = .ok (.aload_n 1, 1) := by decide +kernel
theorem dL_law_362 : decode cL_law 362 = .ok (.aload_n 0, 1) := by decide +kernel
theorem dL_law_363 : decode cL_law 363 = .ok (.iload_n 3, 1) := by decide +kernel
theorem dL_law_364 : decode cL_law 364 = .ok (.iconst 1, 1) := by decide +kernel
theorem dL_law_365 : decode cL_law 365 = .ok (.iadd, 1) := by decide +kernel
theorem dL_law_366 : decode cL_law 366 = .ok (.iaload, 1) := by decide +kernel
theorem dL_law_367 : decode cL_law 367 = .ok (.aload_n 0, 1) := by decide +kernel
theorem dL_law_368 : decode cL_law 368 = .ok (.iload_n 3, 1) := by decide +kernel
theorem dL_law_369 : decode cL_law 369 = .ok (.iconst 2, 1) := by decide +kernel
theorem dL_law_370 : decode cL_law 370 = .ok (.iadd, 1) := by decide +kernel
theorem dL_law_371 : decode cL_law 371 = .ok (.iaload, 1) := by decide +kernel
theorem dL_law_372 : decode cL_law 372 = .ok (.aload_n 0, 1) := by decide +kernel
theorem dL_law_373 : decode cL_law 373 = .ok (.iload_n 3, 1) := by decide +kernel
theorem dL_law_374 : decode cL_law 374 = .ok (.iconst 3, 1) := by decide +kernel
theorem dL_law_375 : decode cL_law 375 = .ok (.iadd, 1) := by decide +kernel
theorem dL_law_376 : decode cL_law 376 = .ok (.iaload, 1) := by decide +kernel
theorem dL_law_377 : decode cL_law 377 = .ok (.aload_n 0, 1) := by decide +kernel
theorem dL_law_378 : decode cL_law 378 = .ok (.iload_n 3, 1) := by decide +kernel
theorem dL_law_379 : decode cL_law 379 = .ok (.iconst 4, 1) := by decide +kernel
theorem dL_law_380 : decode cL_law 380 = .ok (.iadd, 1) := by decide +kernel
theorem dL_law_381 : decode cL_law 381 = .ok (.iaload, 1) := by decide +kernel
theorem dL_law_382 : decode cL_law 382 = .ok (.invokevirtual 44, 3) := by decide +kernel
theorem dL_law_385 : decode cL_law 385 = .ok (.aload_n 2, 1) := by decide +kernel
theorem dL_law_386 : decode cL_law 386 = .ok (.aload_n 0, 1) := by decide +kernel
theorem dL_law_387 : decode cL_law 387 = .ok (.iload_n 3, 1) := by decide +kernel
theorem dL_law_388 : decode cL_law 388 = .ok (.iconst 1, 1) := by decide +kernel
theorem dL_law_389 : decode cL_law 389 = .ok (.iadd, 1) := by decide +kernel
theorem dL_law_390 : decode cL_law 390 = .ok (.iaload, 1) := by decide +kernel
theorem dL_law_391 : decode cL_law 391 = .ok (.aload_n 0, 1) := by decide +kernel
theorem dL_law_392 : decode cL_law 392 = .ok (.iload_n 3, 1) := by decide +kernel
theorem dL_law_393 : decode cL_law 393 = .ok (.iconst 2, 1) := by decide +kernel
theorem dL_law_394 : decode cL_law 394 = .ok (.iadd, 1) := by decide +kernel
theorem dL_law_395 : decode cL_law 395 = .ok (.iaload, 1) := by decide +kernel
theorem dL_law_396 : decode cL_law 396 = .ok (.aload_n 0, 1) := by decide +kernel
theorem dL_law_397 : decode cL_law 397 = .ok (.iload_n 3, 1) := by decide +kernel
theorem dL_law_398 : decode cL_law 398 = .ok (.iconst 3, 1) := by decide +kernel
theorem dL_law_399 : decode cL_law 399 = .ok (.iadd, 1) := by decide +kernel
theorem dL_law_400 : decode cL_law 400 = .ok (.iaload, 1) := by decide +kernel
theorem dL_law_401 : decode cL_law 401 = .ok (.aload_n 0, 1) := by decide +kernel
theorem dL_law_402 : decode cL_law 402 = .ok (.iload_n 3, 1) := by decide +kernel
theorem dL_law_403 : decode cL_law 403 = .ok (.iconst 4, 1) := by decide +kernel
theorem dL_law_404 : decode cL_law 404 = .ok (.iadd, 1) := by decide +kernel
theorem dL_law_405 : decode cL_law 405 = .ok (.iaload, 1) := by decide +kernel
theorem dL_law_406 : decode cL_law 406 = .ok (.invokevirtual 48, 3) := by decide +kernel
theorem dL_law_409 : decode cL_law 409 = .ok (.if_icmp .eq 385, 3) := by decide +kernel
theorem dL_law_412 : decode cL_law 412 = .ok (.iconst 0, 1) := by decide +kernel
theorem dL_law_413 : decode cL_law 413 = .ok (.ireturn, 1) := by decide +kernel
theorem dL_law_414 : decode cL_law 414 = .ok (.aload_n 1, 1) := by decide +kernel
theorem dL_law_415 : decode cL_law 415 = .ok (.aload_n 0, 1) := by decide +kernel
theorem dL_law_416 : decode cL_law 416 = .ok (.iload_n 3, 1) := by decide +kernel
theorem dL_law_417 : decode cL_law 417 = .ok (.iconst 1, 1) := by decide +kernel
theorem dL_law_418 : decode cL_law 418 = .ok (.iadd, 1) := by decide +kernel
theorem dL_law_419 : decode cL_law 419 = .ok (.iaload, 1) := by decide +kernel
theorem dL_law_420 : decode cL_law 420 = .ok (.aload_n 0, 1) := by decide +kernel
theorem dL_law_421 : decode cL_law 421 = .ok (.iload_n 3, 1) := by decide +kernel
theorem dL_law_422 : decode cL_law 422 = .ok (.iconst 2, 1) := by decide +kernel
theorem dL_law_423 : decode cL_law 423 = .ok (.iadd, 1) := by decide +kernel
theorem dL_law_424 : decode cL_law 424 = .ok (.iaload, 1) := by decide +kernel
theorem dL_law_425 : decode cL_law 425 = .ok (.aload_n 0, 1) := by decide +kernel
theorem dL_law_426 : decode cL_law 426 = .ok (.iload_n 3, 1) := by decide +kernel
theorem dL_law_427 : decode cL_law 427 = .ok (.iconst 3, 1) := by decide +kernel
theorem dL_law_428 : decode cL_law 428 = .ok (.iadd, 1) := by decide +kernel
theorem dL_law_429 : decode cL_law 429 = .ok (.iaload, 1) := by decide +kernel
theorem dL_law_430 : decode cL_law 430 = .ok (.aload_n 0, 1) := by decide +kernel
theorem dL_law_431 : decode cL_law 431 = .ok (.iload_n 3, 1) := by decide +kernel
theorem dL_law_432 : decode cL_law 432 = .ok (.iconst 4, 1) := by decide +kernel
theorem dL_law_433 : decode cL_law 433 = .ok (.iadd, 1) := by decide +kernel
theorem dL_law_434 : decode cL_law 434 = .ok (.iaload, 1) := by decide +kernel
theorem dL_law_435 : decode cL_law 435 = .ok (.invokevirtual 49, 3) := by decide +kernel
theorem dL_law_438 : decode cL_law 438 = .ok (.aload_n 2, 1) := by decide +kernel
theorem dL_law_439 : decode cL_law 439 = .ok (.aload_n 0, 1) := by decide +kernel
theorem dL_law_440 : decode cL_law 440 = .ok (.iload_n 3, 1) := by decide +kernel
theorem dL_law_441 : decode cL_law 441 = .ok (.iconst 1, 1) := by decide +kernel
theorem dL_law_442 : decode cL_law 442 = .ok (.iadd, 1) := by decide +kernel
theorem dL_law_443 : decode cL_law 443 = .ok (.iaload, 1) := by decide +kernel
theorem dL_law_444 : decode cL_law 444 = .ok (.aload_n 0, 1) := by decide +kernel
theorem dL_law_445 : decode cL_law 445 = .ok (.iload_n 3, 1) := by decide +kernel
theorem dL_law_446 : decode cL_law 446 = .ok (.iconst 2, 1) := by decide +kernel
theorem dL_law_447 : decode cL_law 447 = .ok (.iadd, 1) := by decide +kernel
end
section
theorem dL_law_448 : decode cL_law 448 = .ok (.iaload, 1) := by decide +kernel
theorem dL_law_449 : decode cL_law 449 = .ok (.aload_n 0, 1) := by decide +kernel
theorem dL_law_450 : decode cL_law 450 = .ok (.iload_n 3, 1) := by decide +kernel
theorem dL_law_451 : decode cL_law 451 = .ok (.iconst 3, 1) := by decide +kernel
theorem dL_law_452 : decode cL_law 452 = .ok (.iadd, 1) := by decide +kernel
theorem dL_law_453 : decode cL_law 453 = .ok (.iaload, 1) := by decide +kernel
theorem dL_law_454 : decode cL_law 454 = .ok (.aload_n 0, 1) := by decide +kernel
theorem dL_law_455 : decode cL_law 455 = .ok (.iload_n 3, 1) := by decide +kernel
theorem dL_law_456 : decode cL_law 456 = .ok (.iconst 4, 1) := by decide +kernel
theorem dL_law_457 : decode cL_law 457 = .ok (.iadd, 1) := by decide +kernel
theorem dL_law_458 : decode cL_law 458 = .ok (.iaload, 1) := by decide +kernel
theorem dL_law_459 : decode cL_law 459 = .ok (.invokevirtual 52, 3) := by decide +kernel
theorem dL_law_462 : decode cL_law 462 = .ok (.if_icmp .eq 332, 3) := by decide +kernel
theorem dL_law_465 : decode cL_law 465 = .ok (.iconst 0, 1) := by decide +kernel
theorem dL_law_466 : decode cL_law 466 = .ok (.ireturn, 1) := by decide +kernel
theorem dL_law_467 : decode cL_law 467 = .ok (.aload_n 1, 1) := by decide +kernel
theorem dL_law_468 : decode cL_law 468 = .ok (.aload_n 0, 1) := by decide +kernel
theorem dL_law_469 : decode cL_law 469 = .ok (.iload_n 3, 1) := by decide +kernel
theorem dL_law_470 : decode cL_law 470 = .ok (.iconst 1, 1) := by decide +kernel
theorem dL_law_471 : decode cL_law 471 = .ok (.iadd, 1) := by decide +kernel
theorem dL_law_472 : decode cL_law 472 = .ok (.iaload, 1) := by decide +kernel
theorem dL_law_473 : decode cL_law 473 = .ok (.aload_n 0, 1) := by decide +kernel
theorem dL_law_474 : decode cL_law 474 = .ok (.iload_n 3, 1) := by decide +kernel
theorem dL_law_475 : decode cL_law 475 = .ok (.iconst 2, 1) := by decide +kernel
theorem dL_law_476 : decode cL_law 476 = .ok (.iadd, 1) := by decide +kernel
theorem dL_law_477 : decode cL_law 477 = .ok (.iaload, 1) := by decide +kernel
theorem dL_law_478 : decode cL_law 478 = .ok (.aload_n 0, 1) := by decide +kernel
theorem dL_law_479 : decode cL_law 479 = .ok (.iload_n 3, 1) := by decide +kernel
theorem dL_law_480 : decode cL_law 480 = .ok (.iconst 3, 1) := by decide +kernel
theorem dL_law_481 : decode cL_law 481 = .ok (.iadd, 1) := by decide +kernel
theorem dL_law_482 : decode cL_law 482 = .ok (.iaload, 1) := by decide +kernel
theorem dL_law_483 : decode cL_law 483 = .ok (.aload_n 0, 1) := by decide +kernel
theorem dL_law_484 : decode cL_law 484 = .ok (.iload_n 3, 1) := by decide +kernel
theorem dL_law_485 : decode cL_law 485 = .ok (.iconst 4, 1) := by decide +kernel
theorem dL_law_486 : decode cL_law 486 = .ok (.iadd, 1) := by decide +kernel
theorem dL_law_487 : decode cL_law 487 = .ok (.iaload, 1) := by decide +kernel
theorem dL_law_488 : decode cL_law 488 = .ok (.invokevirtual 53, 3) := by decide +kernel
theorem dL_law_491 : decode cL_law 491 = .ok (.aload_n 2, 1) := by decide +kernel
theorem dL_law_492 : decode cL_law 492 = .ok (.aload_n 0, 1) := by decide +kernel
theorem dL_law_493 : decode cL_law 493 = .ok (.iload_n 3, 1) := by decide +kernel
theorem dL_law_494 : decode cL_law 494 = .ok (.iconst 1, 1) := by decide +kernel
theorem dL_law_495 : decode cL_law 495 = .ok (.iadd, 1) := by decide +kernel
theorem dL_law_496 : decode cL_law 496 = .ok (.iaload, 1) := by decide +kernel
theorem dL_law_497 : decode cL_law 497 = .ok (.aload_n 0, 1) := by decide +kernel
theorem dL_law_498 : decode cL_law 498 = .ok (.iload_n 3, 1) := by decide +kernel
theorem dL_law_499 : decode cL_law 499 = .ok (.iconst 2, 1) := by decide +kernel
theorem dL_law_500 : decode cL_law 500 = .ok (.iadd, 1) := by decide +kernel
theorem dL_law_501 : decode cL_law 501 = .ok (.iaload, 1) := by decide +kernel
theorem dL_law_502 : decode cL_law 502 = .ok (.aload_n 0, 1) := by decide +kernel
theorem dL_law_503 : decode cL_law 503 = .ok (.iload_n 3, 1) := by decide +kernel
theorem dL_law_504 : decode cL_law 504 = .ok (.iconst 3, 1) := by decide +kernel
theorem dL_law_505 : decode cL_law 505 = .ok (.iadd, 1) := by decide +kernel
theorem dL_law_506 : decode cL_law 506 = .ok (.iaload, 1) := by decide +kernel
theorem dL_law_507 : decode cL_law 507 = .ok (.aload_n 0, 1) := by decide +kernel
theorem dL_law_508 : decode cL_law 508 = .ok (.iload_n 3, 1) := by decide +kernel
theorem dL_law_509 : decode cL_law 509 = .ok (.iconst 4, 1) := by decide +kernel
theorem dL_law_510 : decode cL_law 510 = .ok (.iadd, 1) := by decide +kernel
theorem dL_law_511 : decode cL_law 511 = .ok (.iaload, 1) := by decide +kernel
theorem dL_law_512 : decode cL_law 512 = .ok (.invokevirtual 56, 3) := by decide +kernel
theorem dL_law_515 : decode cL_law 515 = .ok (.if_icmp .eq 279, 3) := by decide +kernel
theorem dL_law_518 : decode cL_law 518 = .ok (.iconst 0, 1) := by decide +kernel
theorem dL_law_519 : decode cL_law 519 = .ok (.ireturn, 1) := by decide +kernel
theorem dL_law_520 : decode cL_law 520 = .ok (.aload_n 1, 1) := by decide +kernel
theorem dL_law_521 : decode cL_law 521 = .ok (.aload_n 0, 1) := by decide +kernel
theorem dL_law_522 : decode cL_law 522 = .ok (.iload_n 3, 1) := by decide +kernel
theorem dL_law_523 : decode cL_law 523 = .ok (.iconst 1, 1) := by decide +kernel
theorem dL_law_524 : decode cL_law 524 = .ok (.iadd, 1) := by decide +kernel
theorem dL_law_525 : decode cL_law 525 = .ok (.iaload, 1) := by decide +kernel
theorem dL_law_526 : decode cL_law 526 = .ok (.aload_n 0, 1) := by decide +kernel
theorem dL_law_527 : decode cL_law 527 = .ok (.iload_n 3, 1) := by decide +kernel
theorem dL_law_528 : decode cL_law 528 = .ok (.iconst 2, 1) := by decide +kernel
theorem dL_law_529 : decode cL_law 529 = .ok (.iadd, 1) := by decide +kernel
theorem dL_law_530 : decode cL_law 530 = .ok (.iaload, 1) := by decide +kernel
theorem dL_law_531 : decode cL_law 531 = .ok (.aload_n 0, 1) := by decide +kernel
theorem dL_law_532 : decode cL_law 532 = .ok (.iload_n 3, 1) := by decide +kernel
theorem dL_law_533 : decode cL_law 533 = .ok (.iconst 3, 1) := by decide +kernel
theorem dL_law_534 : decode cL_law 534 = .ok (.iadd, 1) := by decide +kernel
theorem dL_law_535 : decode cL_law 535 = .ok (.iaload, 1) := by decide +kernel
theorem dL_law_536 : decode cL_law 536 = .ok (.aload_n 0, 1) := by decide +kernel
theorem dL_law_537 : decode cL_law 537 = .ok (.iload_n 3, 1) := by decide +kernel
theorem dL_law_538 : decode cL_law 538 = .ok (.iconst 4, 1) := by decide +kernel
theorem dL_law_539 : decode cL_law 539 = .ok (.iadd, 1) := by decide +kernel
theorem dL_law_540 : decode cL_law 540 = .ok (.iaload, 1) := by decide +kernel
theorem dL_law_541 : decode cL_law 541 = .ok (.aload_n 0, 1) := by decide +kernel
theorem dL_law_542 : decode cL_law 542 = .ok (.iload_n 3, 1) := by decide +kernel
theorem dL_law_543 : decode cL_law 543 = .ok (.iconst 5, 1) := by decide +kernel
theorem dL_law_544 : decode cL_law 544 = .ok (.iadd, 1) := by decide +kernel
theorem dL_law_545 : decode cL_law 545 = .ok (.iaload, 1) := by decide +kernel
theorem dL_law_546 : decode cL_law 546 = .ok (.invokevirtual 57, 3) := by decide +kernel
theorem dL_law_549 : decode cL_law 549 = .ok (.aload_n 2, 1) := by decide +kernel
theorem dL_law_550 : decode cL_law 550 = .ok (.aload_n 0, 1) := by decide +kernel
theorem dL_law_551 : decode cL_law 551 = .ok (.iload_n 3, 1) := by decide +kernel
theorem dL_law_552 : decode cL_law 552 = .ok (.iconst 1, 1) := by decide +kernel
theorem dL_law_553 : decode cL_law 553 = .ok (.iadd, 1) := by decide +kernel
theorem dL_law_554 : decode cL_law 554 = .ok (.iaload, 1) := by decide +kernel
theorem dL_law_555 : decode cL_law 555 = .ok (.aload_n 0, 1) := by decide +kernel
theorem dL_law_556 : decode cL_law 556 = .ok (.iload_n 3, 1) := by decide +kernel
theorem dL_law_557 : decode cL_law 557 = .ok (.iconst 2, 1) := by decide +kernel
theorem dL_law_558 : decode cL_law 558 = .ok (.iadd, 1) := by decide +kernel
theorem dL_law_559 : decode cL_law 559 = .ok (.iaload, 1) := by decide +kernel
theorem dL_law_560 : decode cL_law 560 = .ok (.aload_n 0, 1) := by decide +kernel
theorem dL_law_561 : decode cL_law 561 = .ok (.iload_n 3, 1) := by decide +kernel
theorem dL_law_562 : decode cL_law 562 = .ok (.iconst 3, 1) := by decide +kernel
theorem dL_law_563 : decode cL_law 563 = .ok (.iadd, 1) := by decide +kernel
theorem dL_law_564 : decode cL_law 564 = .ok (.iaload, 1) := by decide +kernel
theorem dL_law_565 : decode cL_law 565 = .ok (.aload_n 0, 1) := by decide +kernel
theorem dL_law_566 : decode cL_law 566 = .ok (.iload_n 3, 1) := by decide +kernel
theorem dL_law_567 : decode cL_law 567 = .ok (.iconst 4, 1) := by decide +kernel
theorem dL_law_568 : decode cL_law 568 = .ok (.iadd, 1) := by decide +kernel
theorem dL_law_569 : decode cL_law 569 = .ok (.iaload, 1) := by decide +kernel
theorem dL_law_570 : decode cL_law 570 = .ok (.aload_n 0, 1) := by decide +kernel
theorem dL_law_571 : decode cL_law 571 = .ok (.iload_n 3, 1) := by decide +kernel
theorem dL_law_572 : decode cL_law 572 = .ok (.iconst 5, 1) := by decide +kernel
theorem dL_law_573 : decode cL_law 573 = .ok (.iadd, 1) := by decide +kernel
theorem dL_law_574 : decode cL_law 574 = .ok (.iaload, 1) := by decide +kernel
theorem dL_law_575 : decode cL_law 575 = .ok (.invokevirtual 60, 3) := by decide +kernel
theorem dL_law_578 : decode cL_law 578 = .ok (.if_icmp .eq 216, 3) := by decide +kernel
theorem dL_law_581 : decode cL_law 581 = .ok (.iconst 0, 1) := by decide +kernel
theorem dL_law_582 : decode cL_law 582 = .ok (.ireturn, 1) := by decide +kernel
theorem dL_law_583 : decode cL_law 583 = .ok (.aload_n 1, 1) := by decide +kernel
theorem dL_law_584 : decode cL_law 584 = .ok (.aload_n 0, 1) := by decide +kernel
theorem dL_law_585 : decode cL_law 585 = .ok (.iload_n 3, 1) := by decide +kernel
theorem dL_law_586 : decode cL_law 586 = .ok (.iconst 1, 1) := by decide +kernel
theorem dL_law_587 : decode cL_law 587 = .ok (.iadd, 1) := by decide +kernel
theorem dL_law_588 : decode cL_law 588 = .ok (.iaload, 1) := by decide +kernel
theorem dL_law_589 : decode cL_law 589 = .ok (.aload_n 0, 1) := by decide +kernel
theorem dL_law_590 : decode cL_law 590 = .ok (.iload_n 3, 1) := by decide +kernel
theorem dL_law_591 : decode cL_law 591 = .ok (.iconst 2, 1) := by decide +kernel
theorem dL_law_592 : decode cL_law 592 = .ok (.iadd, 1) := by decide +kernel
theorem dL_law_593 : decode cL_law 593 = .ok (.iaload, 1) := by decide +kernel
theorem dL_law_594 : decode cL_law 594 = .ok (.aload_n 0, 1) := by decide +kernel
theorem dL_law_595 : decode cL_law 595 = .ok (.iload_n 3, 1) := by decide +kernel
theorem dL_law_596 : decode cL_law 596 = .ok (.iconst 3, 1) := by decide +kernel
theorem dL_law_597 : decode cL_law 597 = .ok (.iadd, 1) := by decide +kernel
theorem dL_law_598 : decode cL_law 598 = .ok (.iaload, 1) := by decide +kernel
theorem dL_law_599 : decode cL_law 599 = .ok (.aload_n 0, 1) := by decide +kernel
theorem dL_law_600 : decode cL_law 600 = .ok (.iload_n 3, 1) := by decide +kernel
theorem dL_law_601 : decode cL_law 601 = .ok (.iconst 4, 1) := by decide +kernel
theorem dL_law_602 : decode cL_law 602 = .ok (.iadd, 1) := by decide +kernel
theorem dL_law_603 : decode cL_law 603 = .ok (.iaload, 1) := by decide +kernel
theorem dL_law_604 : decode cL_law 604 = .ok (.invokevirtual 61, 3) := by decide +kernel
theorem dL_law_607 : decode cL_law 607 = .ok (.aload_n 2, 1) := by decide +kernel
theorem dL_law_608 : decode cL_law 608 = .ok (.aload_n 0, 1) := by decide +kernel
theorem dL_law_609 : decode cL_law 609 = .ok (.iload_n 3, 1) := by decide +kernel
theorem dL_law_610 : decode cL_law 610 = .ok (.iconst 1, 1) := by decide +kernel
theorem dL_law_611 : decode cL_law 611 = .ok (.iadd, 1) := by decide +kernel
theorem dL_law_612 : decode cL_law 612 = .ok (.iaload, 1) := by decide +kernel
theorem dL_law_613 : decode cL_law 613 = .ok (.aload_n 0, 1) := by decide +kernel
theorem dL_law_614 : decode cL_law 614 = .ok (.iload_n 3, 1) := by decide +kernel
theorem dL_law_615 : decode cL_law 615 = .ok (.iconst 2, 1) := by decide +kernel
end
section
theorem dL_law_616 : decode cL_law 616 = .ok (.iadd, 1) := by decide +kernel
theorem dL_law_617 : decode cL_law 617 = .ok (.iaload, 1) := by decide +kernel
theorem dL_law_618 : decode cL_law 618 = .ok (.aload_n 0, 1) := by decide +kernel
theorem dL_law_619 : decode cL_law 619 = .ok (.iload_n 3, 1) := by decide +kernel
theorem dL_law_620 : decode cL_law 620 = .ok (.iconst 3, 1) := by decide +kernel
theorem dL_law_621 : decode cL_law 621 = .ok (.iadd, 1) := by decide +kernel
theorem dL_law_622 : decode cL_law 622 = .ok (.iaload, 1) := by decide +kernel
theorem dL_law_623 : decode cL_law 623 = .ok (.aload_n 0, 1) := by decide +kernel
theorem dL_law_624 : decode cL_law 624 = .ok (.iload_n 3, 1) := by decide +kernel
theorem dL_law_625 : decode cL_law 625 = .ok (.iconst 4, 1) := by decide +kernel
theorem dL_law_626 : decode cL_law 626 = .ok (.iadd, 1) := by decide +kernel
theorem dL_law_627 : decode cL_law 627 = .ok (.iaload, 1) := by decide +kernel
theorem dL_law_628 : decode cL_law 628 = .ok (.invokevirtual 64, 3) := by decide +kernel
theorem dL_law_631 : decode cL_law 631 = .ok (.if_icmp .eq 163, 3) := by decide +kernel
theorem dL_law_634 : decode cL_law 634 = .ok (.iconst 0, 1) := by decide +kernel
theorem dL_law_635 : decode cL_law 635 = .ok (.ireturn, 1) := by decide +kernel
theorem dL_law_636 : decode cL_law 636 = .ok (.aload_n 1, 1) := by decide +kernel
theorem dL_law_637 : decode cL_law 637 = .ok (.aload_n 0, 1) := by decide +kernel
theorem dL_law_638 : decode cL_law 638 = .ok (.iload_n 3, 1) := by decide +kernel
theorem dL_law_639 : decode cL_law 639 = .ok (.iconst 1, 1) := by decide +kernel
theorem dL_law_640 : decode cL_law 640 = .ok (.iadd, 1) := by decide +kernel
theorem dL_law_641 : decode cL_law 641 = .ok (.iaload, 1) := by decide +kernel
theorem dL_law_642 : decode cL_law 642 = .ok (.invokevirtual 65, 3) := by decide +kernel
theorem dL_law_645 : decode cL_law 645 = .ok (.aload_n 2, 1) := by decide +kernel
theorem dL_law_646 : decode cL_law 646 = .ok (.aload_n 0, 1) := by decide +kernel
theorem dL_law_647 : decode cL_law 647 = .ok (.iload_n 3, 1) := by decide +kernel
theorem dL_law_648 : decode cL_law 648 = .ok (.iconst 1, 1) := by decide +kernel
theorem dL_law_649 : decode cL_law 649 = .ok (.iadd, 1) := by decide +kernel
theorem dL_law_650 : decode cL_law 650 = .ok (.iaload, 1) := by decide +kernel
theorem dL_law_651 : decode cL_law 651 = .ok (.invokevirtual 68, 3) := by decide +kernel
theorem dL_law_654 : decode cL_law 654 = .ok (.if_icmp .eq 140, 3) := by decide +kernel
theorem dL_law_657 : decode cL_law 657 = .ok (.iconst 0, 1) := by decide +kernel
theorem dL_law_658 : decode cL_law 658 = .ok (.ireturn, 1) := by decide +kernel
theorem dL_law_659 : decode cL_law 659 = .ok (.aload_n 1, 1) := by decide +kernel
theorem dL_law_660 : decode cL_law 660 = .ok (.aload_n 0, 1) := by decide +kernel
theorem dL_law_661 : decode cL_law 661 = .ok (.iload_n 3, 1) := by decide +kernel
theorem dL_law_662 : decode cL_law 662 = .ok (.iconst 1, 1) := by decide +kernel
theorem dL_law_663 : decode cL_law 663 = .ok (.iadd, 1) := by decide +kernel
theorem dL_law_664 : decode cL_law 664 = .ok (.iaload, 1) := by decide +kernel
theorem dL_law_665 : decode cL_law 665 = .ok (.aload_n 0, 1) := by decide +kernel
theorem dL_law_666 : decode cL_law 666 = .ok (.iload_n 3, 1) := by decide +kernel
theorem dL_law_667 : decode cL_law 667 = .ok (.iconst 2, 1) := by decide +kernel
theorem dL_law_668 : decode cL_law 668 = .ok (.iadd, 1) := by decide +kernel
theorem dL_law_669 : decode cL_law 669 = .ok (.iaload, 1) := by decide +kernel
theorem dL_law_670 : decode cL_law 670 = .ok (.invokevirtual 69, 3) := by decide +kernel
theorem dL_law_673 : decode cL_law 673 = .ok (.aload_n 2, 1) := by decide +kernel
theorem dL_law_674 : decode cL_law 674 = .ok (.aload_n 0, 1) := by decide +kernel
theorem dL_law_675 : decode cL_law 675 = .ok (.iload_n 3, 1) := by decide +kernel
theorem dL_law_676 : decode cL_law 676 = .ok (.iconst 1, 1) := by decide +kernel
theorem dL_law_677 : decode cL_law 677 = .ok (.iadd, 1) := by decide +kernel
theorem dL_law_678 : decode cL_law 678 = .ok (.iaload, 1) := by decide +kernel
theorem dL_law_679 : decode cL_law 679 = .ok (.aload_n 0, 1) := by decide +kernel
theorem dL_law_680 : decode cL_law 680 = .ok (.iload_n 3, 1) := by decide +kernel
theorem dL_law_681 : decode cL_law 681 = .ok (.iconst 2, 1) := by decide +kernel
theorem dL_law_682 : decode cL_law 682 = .ok (.iadd, 1) := by decide +kernel
theorem dL_law_683 : decode cL_law 683 = .ok (.iaload, 1) := by decide +kernel
theorem dL_law_684 : decode cL_law 684 = .ok (.invokevirtual 73, 3) := by decide +kernel
theorem dL_law_687 : decode cL_law 687 = .ok (.if_icmp .eq 107, 3) := by decide +kernel
theorem dL_law_690 : decode cL_law 690 = .ok (.iconst 0, 1) := by decide +kernel
theorem dL_law_691 : decode cL_law 691 = .ok (.ireturn, 1) := by decide +kernel
theorem dL_law_692 : decode cL_law 692 = .ok (.aload_n 1, 1) := by decide +kernel
theorem dL_law_693 : decode cL_law 693 = .ok (.aload_n 0, 1) := by decide +kernel
theorem dL_law_694 : decode cL_law 694 = .ok (.iload_n 3, 1) := by decide +kernel
theorem dL_law_695 : decode cL_law 695 = .ok (.iconst 1, 1) := by decide +kernel
theorem dL_law_696 : decode cL_law 696 = .ok (.iadd, 1) := by decide +kernel
theorem dL_law_697 : decode cL_law 697 = .ok (.iaload, 1) := by decide +kernel
theorem dL_law_698 : decode cL_law 698 = .ok (.invokevirtual 74, 3) := by decide +kernel
theorem dL_law_701 : decode cL_law 701 = .ok (.aload_n 2, 1) := by decide +kernel
theorem dL_law_702 : decode cL_law 702 = .ok (.aload_n 0, 1) := by decide +kernel
theorem dL_law_703 : decode cL_law 703 = .ok (.iload_n 3, 1) := by decide +kernel
theorem dL_law_704 : decode cL_law 704 = .ok (.iconst 1, 1) := by decide +kernel
theorem dL_law_705 : decode cL_law 705 = .ok (.iadd, 1) := by decide +kernel
theorem dL_law_706 : decode cL_law 706 = .ok (.iaload, 1) := by decide +kernel
theorem dL_law_707 : decode cL_law 707 = .ok (.invokevirtual 77, 3) := by decide +kernel
theorem dL_law_710 : decode cL_law 710 = .ok (.if_icmp .eq 84, 3) := by decide +kernel
theorem dL_law_713 : decode cL_law 713 = .ok (.iconst 0, 1) := by decide +kernel
theorem dL_law_714 : decode cL_law 714 = .ok (.ireturn, 1) := by decide +kernel
theorem dL_law_715 : decode cL_law 715 = .ok (.aload_n 1, 1) := by decide +kernel
theorem dL_law_716 : decode cL_law 716 = .ok (.aload_n 0, 1) := by decide +kernel
theorem dL_law_717 : decode cL_law 717 = .ok (.iload_n 3, 1) := by decide +kernel
theorem dL_law_718 : decode cL_law 718 = .ok (.iconst 1, 1) := by decide +kernel
theorem dL_law_719 : decode cL_law 719 = .ok (.iadd, 1) := by decide +kernel
theorem dL_law_720 : decode cL_law 720 = .ok (.iaload, 1) := by decide +kernel
theorem dL_law_721 : decode cL_law 721 = .ok (.invokevirtual 78, 3) := by decide +kernel
theorem dL_law_724 : decode cL_law 724 = .ok (.aload_n 2, 1) := by decide +kernel
theorem dL_law_725 : decode cL_law 725 = .ok (.aload_n 0, 1) := by decide +kernel
theorem dL_law_726 : decode cL_law 726 = .ok (.iload_n 3, 1) := by decide +kernel
theorem dL_law_727 : decode cL_law 727 = .ok (.iconst 1, 1) := by decide +kernel
theorem dL_law_728 : decode cL_law 728 = .ok (.iadd, 1) := by decide +kernel
theorem dL_law_729 : decode cL_law 729 = .ok (.iaload, 1) := by decide +kernel
theorem dL_law_730 : decode cL_law 730 = .ok (.invokevirtual 81, 3) := by decide +kernel
theorem dL_law_733 : decode cL_law 733 = .ok (.if_icmp .eq 61, 3) := by decide +kernel
theorem dL_law_736 : decode cL_law 736 = .ok (.iconst 0, 1) := by decide +kernel
theorem dL_law_737 : decode cL_law 737 = .ok (.ireturn, 1) := by decide +kernel
theorem dL_law_738 : decode cL_law 738 = .ok (.aload_n 1, 1) := by decide +kernel
theorem dL_law_739 : decode cL_law 739 = .ok (.aload_n 0, 1) := by decide +kernel
theorem dL_law_740 : decode cL_law 740 = .ok (.iload_n 3, 1) := by decide +kernel
theorem dL_law_741 : decode cL_law 741 = .ok (.iconst 1, 1) := by decide +kernel
theorem dL_law_742 : decode cL_law 742 = .ok (.iadd, 1) := by decide +kernel
theorem dL_law_743 : decode cL_law 743 = .ok (.iaload, 1) := by decide +kernel
theorem dL_law_744 : decode cL_law 744 = .ok (.aload_n 0, 1) := by decide +kernel
theorem dL_law_745 : decode cL_law 745 = .ok (.iload_n 3, 1) := by decide +kernel
theorem dL_law_746 : decode cL_law 746 = .ok (.iconst 2, 1) := by decide +kernel
theorem dL_law_747 : decode cL_law 747 = .ok (.iadd, 1) := by decide +kernel
theorem dL_law_748 : decode cL_law 748 = .ok (.iaload, 1) := by decide +kernel
theorem dL_law_749 : decode cL_law 749 = .ok (.invokevirtual 82, 3) := by decide +kernel
theorem dL_law_752 : decode cL_law 752 = .ok (.aload_n 2, 1) := by decide +kernel
theorem dL_law_753 : decode cL_law 753 = .ok (.aload_n 0, 1) := by decide +kernel
theorem dL_law_754 : decode cL_law 754 = .ok (.iload_n 3, 1) := by decide +kernel
theorem dL_law_755 : decode cL_law 755 = .ok (.iconst 1, 1) := by decide +kernel
theorem dL_law_756 : decode cL_law 756 = .ok (.iadd, 1) := by decide +kernel
theorem dL_law_757 : decode cL_law 757 = .ok (.iaload, 1) := by decide +kernel
theorem dL_law_758 : decode cL_law 758 = .ok (.aload_n 0, 1) := by decide +kernel
theorem dL_law_759 : decode cL_law 759 = .ok (.iload_n 3, 1) := by decide +kernel
theorem dL_law_760 : decode cL_law 760 = .ok (.iconst 2, 1) := by decide +kernel
theorem dL_law_761 : decode cL_law 761 = .ok (.iadd, 1) := by decide +kernel
theorem dL_law_762 : decode cL_law 762 = .ok (.iaload, 1) := by decide +kernel
theorem dL_law_763 : decode cL_law 763 = .ok (.invokevirtual 85, 3) := by decide +kernel
theorem dL_law_766 : decode cL_law 766 = .ok (.if_icmp .eq 28, 3) := by decide +kernel
theorem dL_law_769 : decode cL_law 769 = .ok (.iconst 0, 1) := by decide +kernel
theorem dL_law_770 : decode cL_law 770 = .ok (.ireturn, 1) := by decide +kernel
theorem dL_law_771 : decode cL_law 771 = .ok (.aload_n 1, 1) := by decide +kernel
theorem dL_law_772 : decode cL_law 772 = .ok (.aload_n 0, 1) := by decide +kernel
theorem dL_law_773 : decode cL_law 773 = .ok (.iload_n 3, 1) := by decide +kernel
theorem dL_law_774 : decode cL_law 774 = .ok (.iconst 1, 1) := by decide +kernel
theorem dL_law_775 : decode cL_law 775 = .ok (.iadd, 1) := by decide +kernel
theorem dL_law_776 : decode cL_law 776 = .ok (.iaload, 1) := by decide +kernel
theorem dL_law_777 : decode cL_law 777 = .ok (.invokevirtual 86, 3) := by decide +kernel
theorem dL_law_780 : decode cL_law 780 = .ok (.aload_n 2, 1) := by decide +kernel
theorem dL_law_781 : decode cL_law 781 = .ok (.aload_n 0, 1) := by decide +kernel
theorem dL_law_782 : decode cL_law 782 = .ok (.iload_n 3, 1) := by decide +kernel
theorem dL_law_783 : decode cL_law 783 = .ok (.iconst 1, 1) := by decide +kernel
theorem dL_law_784 : decode cL_law 784 = .ok (.iadd, 1) := by decide +kernel
theorem dL_law_785 : decode cL_law 785 = .ok (.iaload, 1) := by decide +kernel
theorem dL_law_786 : decode cL_law 786 = .ok (.invokevirtual 89, 3) := by decide +kernel
theorem dL_law_789 : decode cL_law 789 = .ok (.if_icmp .eq 5, 3) := by decide +kernel
theorem dL_law_792 : decode cL_law 792 = .ok (.iconst 0, 1) := by decide +kernel
theorem dL_law_793 : decode cL_law 793 = .ok (.ireturn, 1) := by decide +kernel
theorem dL_law_794 : decode cL_law 794 = .ok (.iinc 3 6, 3) := by decide +kernel
theorem dL_law_797 : decode cL_law 797 = .ok (.goto (-779), 3) := by decide +kernel
theorem dL_law_800 : decode cL_law 800 = .ok (.iconst 1, 1) := by decide +kernel
theorem dL_law_801 : decode cL_law 801 = .ok (.ireturn, 1) := by decide +kernel
end
section
/-! rules of my own over the kit: the answer of a boolean, joins, calls that only read, calls that write, loops -/
def b2i (b : Bool) : Int32 := if b = true then 1 else 0
theorem b2i_0 {b : Bool} (h : b2i b = 0) : b = false := by
  cases b
  · rfl
  · exact absurd h (by decide)
theorem b2i_n {b : Bool} (h : ¬ b2i b = 0) : b = true := by
  cases b
  · exact absurd rfl h
  · rfl
theorem b2i_t : b2i true = 1 := rfl
theorem b2i_f : b2i false = 0 := rfl
theorem b2i_nar (b : Bool) : narrow .boolean (.int (b2i b)) = .int (b2i b) := by cases b <;> rfl
section QR
variable {p : Program} {l : Launch} {e : Env} {R : Room} {s : State} {m : MethodId} {args : Array Value} {below : List Frame} {meth : Method} {c : Code} {H : Heap} {locs : List Loc} {cells slots : Nat} {Q : State → Prop} {cc : ByteArray} {pc nL : Nat} {ls : Array Slot} {rest st0 : List Value} {Ts : List Cond} {own : String}
theorem q_top {x y : Int32} (h : x = y) (k : W p l e R s m args below meth c H locs cells slots Q (F0 m pc ls (.int y :: rest))) : W p l e R s m args below meth c H locs cells slots Q (F0 m pc ls (.int x :: rest)) := h ▸ k
theorem q_jn {pj : Nat} {v : Int32} (k : W p l e R s m args below meth c H locs cells slots Q (F0 m pj ls (.int v :: rest))) (b : W p l e R s m args below meth c H locs cells slots Q (F0 m pj ls (.int v :: rest)) → W p l e R s m args below meth c H locs cells slots Q (F0 m pc ls st0)) : W p l e R s m args below meth c H locs cells slots Q (F0 m pc ls st0) := b k
theorem q_ri {v r : Int32} (hx : p.tables.exec = Jvm.exec) (hb : c.code = cc) (hr : meth.sig.returnType = some .int) (hlk : meth.locks = false) (h : v = r) (hd : decode cc pc = .ok (.ireturn, 1)) : W p l e R s m args below meth c s.heap [] 0 0 (MQ below (QcRead r) args s 0 0 (fun _ => False)) (F0 m pc ls [.int v]) := by
  subst h
  exact W.iret hx hb hr (fun t ht _ => ⟨rfl, ht⟩) (fun _ h => by cases h) hd hlk
theorem q_rb {v : Int32} {b : Bool} (hx : p.tables.exec = Jvm.exec) (hb : c.code = cc) (hr : meth.sig.returnType = some .boolean) (hlk : meth.locks = false) (h : v = b2i b) (hd : decode cc pc = .ok (.ireturn, 1)) : W p l e R s m args below meth c s.heap [] 0 0 (MQ below (QcRead (b2i b)) args s 0 0 (fun _ => False)) (F0 m pc ls [.int v]) := by
  subst h
  exact W.zret hx hb hr (b2i_nar b) (fun t ht _ => ⟨rfl, ht⟩) (fun _ h => by cases h) hd hlk
/-- a static method that only reads -/
theorem q_cs {y : MethodName} {ws ws' : List Cond} {bytes : ByteArray} {maxL index n : Nat} {ret : Option FieldType} {rm : Room} (av : List Value) {r : Int32}
    (F : CallFix p m c cc nL s args Ts own) (hM : Met l y ws rm (va_Pc av (fun _ => True)) (QcRead r) 0 0 (fun _ => False)) (hG : GoodIn Ts (va_wsS own index y ws)) (hw : ws = Cond.code y bytes maxL ret :: ws') (hrc : rm.cells = 0) (hrs : rm.slots = 0)
    (hd : y.cls ≠ "java/lang/invoke/MethodHandle" ∧ y.cls ≠ "java/lang/invoke/VarHandle" ∧ (parseMethodDescriptor y.desc).map (fun d => d.parameters.length) = some n) (hR : rm.frames + 1 ≤ R.frames ∧ 8 + (maxL + 11) + rm.locals ≤ R.locals) (hn : av.length = n)
    (hsz : ls.size = nL) (hst : st0 = av.reverse ++ rest) (hW : (rest.map fun v => v.category).sum ≤ 8) (hdg : decode cc pc = .ok (.invokestatic index, 3)) (hcs : cells ≤ R.cells ∧ slots ≤ R.slots)
    (kk : W p l e R s m args below meth c H locs cells slots Q (F0 m (pc + 3) ls (.int r :: rest))) : W p l e R s m args below meth c H locs cells slots Q (F0 m pc ls st0) :=
  W.callR (va_Run.run (va_runS F hM (va_cwS n F.2.2.2.2 hG hw hrc hrs hd hR) ⟨fun _ _ _ _ q => q, fun U _ _ => ⟨rfl, trivial⟩⟩ rfl hn hsz hst (lv_room hW) hdg hcs)) kk
/-- a method of an object that only reads -/
theorem q_cv {y : MethodName} {ws ws' : List Cond} {bytes : ByteArray} {maxL index n : Nat} {ret : Option FieldType} {rm : Room} {D : va_G} {cl : List vw_C} {tys : List (ClassId × FieldType)} {wx : va_W} {h ci : Nat} {C : String} {T : u_T} {N : Nat} {fs : List Value} (av : List Value) {r : Int32}
    (F : CallFix p m c cc nL s args Ts own) (hM : Met l y ws rm (va_Pc (.ref h :: av) (fun U => va_P D cl wx U.heap ∧ va_K D cl tys U)) (QcRead r) 0 0 (fun _ => False)) (hG : GoodIn Ts (wsV own index C y ws)) (hw : ws = Cond.code y bytes maxL ret :: ws') (hrc : rm.cells = 0) (hrs : rm.slots = 0)
    (hd : y.cls = C ∧ y.cls ≠ "java/lang/invoke/MethodHandle" ∧ y.cls ≠ "java/lang/invoke/VarHandle" ∧ (parseMethodDescriptor y.desc).map (fun d => d.parameters.length) = some n) (hR : rm.frames + 1 ≤ R.frames ∧ 8 + (maxL + 11) + rm.locals ≤ R.locals) (hn : av.length = n)
    (hK : va_K D cl tys s) (hP : va_P D cl wx H) (he : wx[0]? = some (h, .inr (ci, fs))) (hc : cl[ci]? = some (C, T, N))
    (hsz : ls.size = nL) (hst : st0 = av.reverse ++ .ref h :: rest) (hW : (rest.map fun v => v.category).sum ≤ 8) (hdg : decode cc pc = .ok (.invokevirtual index, 3)) (hcs : cells ≤ R.cells ∧ slots ≤ R.slots)
    (kk : W p l e R s m args below meth c H locs cells slots Q (F0 m (pc + 3) ls (.int r :: rest))) : W p l e R s m args below meth c H locs cells slots Q (F0 m pc ls st0) :=
  W.callR (va_Run.run (va_runV (As := av) F hM (cwV n F.2.2.2.2 hG hw hrc hrs hd hR) ⟨fun a U g mk q => by obtain ⟨q0, qP, qK⟩ := q; exact ⟨q0, qP, va_K.moved (u := U) (U := U.calling g mk a) (Vm.Alike.refl U.vm) qK⟩, va_recv hK hP hc he, fun U hU hW => ⟨rfl, by rw [hU]; exact hP, va_K.moved hW.alike hK⟩⟩ rfl hn hsz hst (lv_room hW) hdg hcs)) kk
/-- the start and the end of a method that writes into its object's cells -/
def qPw (D : va_G) (cl : List vw_C) (tys : List (ClassId × FieldType)) (w0 : va_W) (sz : Nat) : State → Prop := fun U => U.heap.size = sz ∧ va_P D cl w0 U.heap ∧ va_K D cl tys U ∧ va_D (fun _ => True) w0
def qBw (D : va_G) (cl : List vw_C) (tys : List (ClassId × FieldType)) (w0 w1 : va_W) (sz : Nat) : State → Prop := fun t => va_P D cl w1 t.heap ∧ va_K D cl tys t ∧ va_D (va_A w0 sz) w1
theorem q_fA {A0 : Nat → Prop} {w0 : va_W} {H0 : Heap} (hD : va_D A0 w0) (hS : va_S A0 H0 H locs) (hA : ∀ q, H0.size ≤ q → A0 q) : ∀ q, va_A w0 H.size q → A0 q := by
  intro q h
  rcases h with ⟨k, e, h⟩ | h
  · exact hD.2 k (q, e) h
  · exact hA q (Nat.le_trans hS.1 h)
/-- a method of an object that writes there and answers an int; its cells are all that the caller holds -/
theorem q_cwi {σ : Type} {y : MethodName} {ws ws' : List Cond} {bytes : ByteArray} {maxL index n : Nat} {ret : Option FieldType} {rm : Room} {D : va_G} {cl : List vw_C} {tys : List (ClassId × FieldType)} {w0 : va_W} {w1 : σ → va_W} {h ci : Nat} {C : String} {T : u_T} {N : Nat} {fs : List Value} (av : List Value) {post : Int32 → σ → Prop} {A0 : Nat → Prop}
    (F : CallFix p m c cc nL s args Ts own) (hM : Met l y ws rm (va_Pc (.ref h :: av) (qPw D cl tys w0 H.size)) (va_Qi post (fun u => qBw D cl tys w0 (w1 u) H.size) (va_A w0 H.size)) 0 0 (va_A w0 H.size)) (hG : GoodIn Ts (wsV own index C y ws)) (hw : ws = Cond.code y bytes maxL ret :: ws') (hrc : rm.cells = 0) (hrs : rm.slots = 0)
    (hd : y.cls = C ∧ y.cls ≠ "java/lang/invoke/MethodHandle" ∧ y.cls ≠ "java/lang/invoke/VarHandle" ∧ (parseMethodDescriptor y.desc).map (fun d => d.parameters.length) = some n) (hR : rm.frames + 1 ≤ R.frames ∧ 8 + (maxL + 11) + rm.locals ≤ R.locals) (hn : av.length = n)
    (hK : va_K D cl tys s) (hP : va_P D cl w0 H) (hD : va_D A0 w0) (hS : va_S A0 s.heap H locs) (hA : ∀ q, s.heap.size ≤ q → A0 q) (he : w0[0]? = some (h, .inr (ci, fs))) (hc : cl[ci]? = some (C, T, N))
    (hsz : ls.size = nL) (hst : st0 = av.reverse ++ .ref h :: rest) (hW : (rest.map fun v => v.category).sum ≤ 8) (hdg : decode cc pc = .ok (.invokevirtual index, 3)) (hcs : cells ≤ R.cells ∧ slots ≤ R.slots)
    (kk : ∀ (r : Int32) (u : σ) (H : Heap) (locs : List Loc), post r u → va_P D cl (w1 u) H → va_D A0 (w1 u) → va_S A0 s.heap H locs → W p l e R s m args below meth c H locs cells slots Q (F0 m (pc + 3) ls (.int r :: rest))) : W p l e R s m args below meth c H locs cells slots Q (F0 m pc ls st0) := by
  have hF := q_fA hD hS hA
  refine va_calli (va_runV (As := av) F hM (cwV n F.2.2.2.2 hG hw hrc hrs hd hR) ⟨fun a U g mk q => ?_, va_recv hK hP hc he, fun U hU hW => ⟨rfl, by rw [hU], by rw [hU]; exact hP, va_K.moved hW.alike hK, hD.weaken (fun _ _ _ _ => trivial)⟩⟩ rfl hn hsz hst (lv_room hW) hdg hcs) hS (fun q _ h => hF q h) hF (fun r u t H1 locs1 ht hvm hw hB hz1 hk1 hS1 => ?_)
  · obtain ⟨q0, q1, qP, qK, qD⟩ := q
    exact ⟨q0, q1, qP, va_K.moved (u := U) (U := U.calling g mk a) (Vm.Alike.refl U.vm) qK, qD⟩
  · obtain ⟨hP1, hK1, hD1⟩ := hB
    rw [ht] at hP1
    exact kk r u H1 locs1 hw hP1 (hD1.weaken (fun k q _ h => hF q.1 h)) hS1
theorem q_cwv {σ : Type} {y : MethodName} {ws ws' : List Cond} {bytes : ByteArray} {maxL index n : Nat} {ret : Option FieldType} {rm : Room} {D : va_G} {cl : List vw_C} {tys : List (ClassId × FieldType)} {w0 : va_W} {w1 : σ → va_W} {h ci : Nat} {C : String} {T : u_T} {N : Nat} {fs : List Value} (av : List Value) {post : σ → Prop} {A0 : Nat → Prop}
    (F : CallFix p m c cc nL s args Ts own) (hM : Met l y ws rm (va_Pc (.ref h :: av) (qPw D cl tys w0 H.size)) (va_Qv post (fun u => qBw D cl tys w0 (w1 u) H.size) (va_A w0 H.size)) 0 0 (va_A w0 H.size)) (hG : GoodIn Ts (wsV own index C y ws)) (hw : ws = Cond.code y bytes maxL ret :: ws') (hrc : rm.cells = 0) (hrs : rm.slots = 0)
    (hd : y.cls = C ∧ y.cls ≠ "java/lang/invoke/MethodHandle" ∧ y.cls ≠ "java/lang/invoke/VarHandle" ∧ (parseMethodDescriptor y.desc).map (fun d => d.parameters.length) = some n) (hR : rm.frames + 1 ≤ R.frames ∧ 8 + (maxL + 11) + rm.locals ≤ R.locals) (hn : av.length = n)
    (hK : va_K D cl tys s) (hP : va_P D cl w0 H) (hD : va_D A0 w0) (hS : va_S A0 s.heap H locs) (hA : ∀ q, s.heap.size ≤ q → A0 q) (he : w0[0]? = some (h, .inr (ci, fs))) (hc : cl[ci]? = some (C, T, N))
    (hsz : ls.size = nL) (hst : st0 = av.reverse ++ .ref h :: rest) (hW : (rest.map fun v => v.category).sum ≤ 8) (hdg : decode cc pc = .ok (.invokevirtual index, 3)) (hcs : cells ≤ R.cells ∧ slots ≤ R.slots)
    (kk : ∀ (u : σ) (H : Heap) (locs : List Loc), post u → va_P D cl (w1 u) H → va_D A0 (w1 u) → va_S A0 s.heap H locs → W p l e R s m args below meth c H locs cells slots Q (F0 m (pc + 3) ls rest)) : W p l e R s m args below meth c H locs cells slots Q (F0 m pc ls st0) := by
  have hF := q_fA hD hS hA
  refine va_callv (va_runV (As := av) F hM (cwV n F.2.2.2.2 hG hw hrc hrs hd hR) ⟨fun a U g mk q => ?_, va_recv hK hP hc he, fun U hU hW => ⟨rfl, by rw [hU], by rw [hU]; exact hP, va_K.moved hW.alike hK, hD.weaken (fun _ _ _ _ => trivial)⟩⟩ rfl hn hsz hst (lv_room hW) hdg hcs) hS (fun q _ h => hF q h) hF (fun u t H1 locs1 ht hvm hw hB hz1 hk1 hS1 => ?_)
  · obtain ⟨q0, q1, qP, qK, qD⟩ := q
    exact ⟨q0, q1, qP, va_K.moved (u := U) (U := U.calling g mk a) (Vm.Alike.refl U.vm) qK, qD⟩
  · obtain ⟨hP1, hK1, hD1⟩ := hB
    rw [ht] at hP1
    exact kk u H1 locs1 hw hP1 (hD1.weaken (fun k q _ h => hF q.1 h)) hS1
/-- the ends of a method that writes -/
theorem q_wi {σ : Type} {D : va_G} {cl : List vw_C} {tys : List (ClassId × FieldType)} {w0 : va_W} {w1 : σ → va_W} {post : Int32 → σ → Prop} {v : Int32} (u : σ) (hx : p.tables.exec = Jvm.exec) (hb : c.code = cc) (hr : meth.sig.returnType = some .int) (hlk : meth.locks = false) (hK : va_K D cl tys s) (hP : va_P D cl (w1 u) H) (hD : va_D (va_A w0 s.heap.size) (w1 u)) (hS : va_S (va_A w0 s.heap.size) s.heap H locs) (h : post v u) (hd : decode cc pc = .ok (.ireturn, 1)) :
    W p l e R s m args below meth c H locs 0 0 (MQ below (va_Qi post (fun u => qBw D cl tys w0 (w1 u) s.heap.size) (va_A w0 s.heap.size)) args s 0 0 (va_A w0 s.heap.size)) (F0 m pc ls [.int v]) :=
  W.iret hx hb hr (fun t ht hW => ⟨⟨v, u, rfl, h, by rw [ht]; exact hP, va_K.moved hW.alike hK, hD⟩, hS.F ht⟩) hS.2.2 hd hlk
theorem q_wv {σ : Type} {D : va_G} {cl : List vw_C} {tys : List (ClassId × FieldType)} {w0 : va_W} {w1 : σ → va_W} {post : σ → Prop} (u : σ) (hx : p.tables.exec = Jvm.exec) (hb : c.code = cc) (hr : meth.sig.returnType = none) (hlk : meth.locks = false) (hK : va_K D cl tys s) (hP : va_P D cl (w1 u) H) (hD : va_D (va_A w0 s.heap.size) (w1 u)) (hS : va_S (va_A w0 s.heap.size) s.heap H locs) (h : post u) (hd : decode cc pc = .ok (.return_, 1)) :
    W p l e R s m args below meth c H locs 0 0 (MQ below (va_Qv post (fun u => qBw D cl tys w0 (w1 u) s.heap.size) (va_A w0 s.heap.size)) args s 0 0 (va_A w0 s.heap.size)) (F0 m pc ls []) :=
  W.vret hx hb hr (fun t ht hW => ⟨⟨u, rfl, h, by rw [ht]; exact hP, va_K.moved hW.alike hK, hD⟩, hS.F ht⟩) hS.2.2 hd hlk
/-- a loop of N rounds that only reads -/
theorem q_lp {head : Nat} (N : Nat) (L : Nat → List (Nat × Value)) (I : Nat → Prop) (i0 : Nat) (h0 : i0 ≤ N) (hI : I i0) (hl : lv_has ls nL (L i0))
    (step : ∀ i, i < N → I i → (I (i + 1) → ∀ ls, lv_has ls nL (L (i + 1)) → W p l e R s m args below meth c H locs cells slots Q (F0 m head ls [])) → ∀ ls, lv_has ls nL (L i) → W p l e R s m args below meth c H locs cells slots Q (F0 m head ls []))
    (fin : I N → ∀ ls, lv_has ls nL (L N) → W p l e R s m args below meth c H locs cells slots Q (F0 m head ls [])) : W p l e R s m args below meth c H locs cells slots Q (F0 m head ls []) := by
  have key : ∀ k i, i + k = N → I i → ∀ ls, lv_has ls nL (L i) → W p l e R s m args below meth c H locs cells slots Q (F0 m head ls []) := by
    intro k
    induction k with
    | zero =>
      intro i h hi ls hl
      have h : i = N := by omega
      subst h
      exact fin hi ls hl
    | succ k ih => exact fun i h hi => step i (by omega) hi (fun h1 => ih (i + 1) (by omega) h1)
  exact key (N - i0) i0 (by omega) hI ls hl
/-- a loop by a measure that only reads -/
theorem q_lm {head : Nat} {σ : Type} (μ : σ → Nat) (L : σ → List (Nat × Value)) (I : σ → Prop) (u0 : σ) (hI : I u0) (hl : lv_has ls nL (L u0))
    (step : ∀ u, I u → (∀ u', I u' → μ u' < μ u → ∀ ls, lv_has ls nL (L u') → W p l e R s m args below meth c H locs cells slots Q (F0 m head ls [])) → ∀ ls, lv_has ls nL (L u) → W p l e R s m args below meth c H locs cells slots Q (F0 m head ls [])) : W p l e R s m args below meth c H locs cells slots Q (F0 m head ls []) := by
  have key : ∀ k u, μ u < k → I u → ∀ ls, lv_has ls nL (L u) → W p l e R s m args below meth c H locs cells slots Q (F0 m head ls []) := by
    intro k
    induction k with
    | zero => exact fun u h => absurd h (Nat.not_lt_zero _)
    | succ k ih => exact fun u h hi => step u hi (fun u' h1 h2 => ih u' (by omega) h1)
  exact key (μ u0 + 1) u0 (by omega) hI ls hl
/-- a loop of N rounds that writes -/
theorem q_lw {head : Nat} {σ : Type} {D : va_G} {cl : List vw_C} {A : Nat → Prop} {H0 : Heap} (N : Nat) (L : Nat → σ → List (Nat × Value)) (I : Nat → σ → Prop) (w : σ → va_W) (i0 : Nat) (u0 : σ) (h0 : i0 ≤ N) (hI : I i0 u0) (hP : va_P D cl (w u0) H) (hD : va_D A (w u0)) (hS : va_S A H0 H locs) (hl : lv_has ls nL (L i0 u0))
    (step : ∀ i u, i < N → I i u → (∀ u' H locs ls, I (i + 1) u' → va_P D cl (w u') H → va_D A (w u') → va_S A H0 H locs → lv_has ls nL (L (i + 1) u') → W p l e R s m args below meth c H locs cells slots Q (F0 m head ls [])) → ∀ H locs ls, va_P D cl (w u) H → va_D A (w u) → va_S A H0 H locs → lv_has ls nL (L i u) → W p l e R s m args below meth c H locs cells slots Q (F0 m head ls []))
    (fin : ∀ u H locs ls, I N u → va_P D cl (w u) H → va_D A (w u) → va_S A H0 H locs → lv_has ls nL (L N u) → W p l e R s m args below meth c H locs cells slots Q (F0 m head ls [])) : W p l e R s m args below meth c H locs cells slots Q (F0 m head ls []) := by
  have key : ∀ k i u, i + k = N → I i u → ∀ H locs ls, va_P D cl (w u) H → va_D A (w u) → va_S A H0 H locs → lv_has ls nL (L i u) → W p l e R s m args below meth c H locs cells slots Q (F0 m head ls []) := by
    intro k
    induction k with
    | zero =>
      intro i u h hi H locs ls hP hD hS hl
      have h : i = N := by omega
      subst h
      exact fin u H locs ls hi hP hD hS hl
    | succ k ih => exact fun i u h hi => step i u (by omega) hi (fun u' H locs ls h1 a b c d => ih (i + 1) u' (by omega) h1 H locs ls a b c d)
  exact key (N - i0) i0 u0 (by omega) hI H locs ls hP hD hS hl
end QR
theorem q_hl {ls : Array Slot} {nL : Nat} {a b : List (Nat × Value)} (h : lv_has ls nL a) (e : a = b) : lv_has ls nL b := e ▸ h
theorem q_ce {i : Nat} {x y : Int32} {a b : List (Nat × Value)} (h : x = y) (t : a = b) : (i, Value.int x) :: a = (i, Value.int y) :: b := by rw [h, t]
theorem q_ck {v : Nat × Value} {a b : List (Nat × Value)} (t : a = b) : v :: a = v :: b := by rw [t]
end
section
/-! what the calls mean: numbers, lists of rounds -/
def jmp (n x : Int32) : Bool := if x < 0 then false else if n ≤ x then false else true
def rnd (x : Int32) : Bool := if x < 0 then false else if 6 ≤ x then false else true
def wht (x : Int32) : Bool := if x = 0 then true else if x = 1 then true else false
def hwo (x : Int32) : Bool := if x < 0 then false else if 5 < x then false else true
def mrk (x : Int32) : Bool := if x < 0 then false else if 1200 < x then false else true
def wnd (x : Int32) : Bool := if x < -99 then false else if 100 < x then false else true
def inR (x a b : Int32) : Bool := if x < a then false else if b < x then false else true
def non (w : Int32) : Int32 := if w = 0 then 0 else 100
def nfit (h v o : Int32) : Bool := if h = 0 then decide (v < o) else if h = 1 then decide (v ≤ o) else if h = 2 then decide (o < v) else if h = 3 then decide (o ≤ v) else if h = 4 then decide (v = o) else !decide (v = o)
def fitv (h w v o : Int32) : Bool := if v = non w then decide (h = 5) else if o = non w then decide (h = 5) else nfit h v o
def cde (w v : Int32) : Bool := if w = 0 then mrk v else wnd v
def ask (n h w x : Int32) : Bool := hwo h && (wht w && jmp n x)
def qst (n h w x v : Int32) : Bool := hwo h && (wht w && (jmp n x && cde w v))
def mk (f : Nat → Int32) (j r : Nat) : Int32 := f (6 * j + r)
def vlu (M V : Nat → Nat → Int32) (w : Int32) (j r : Nat) : Int32 := if w = 0 then M j r else V j r
def lgl (M V : Nat → Nat → Int32) (lim : Int32) (j r : Nat) : Bool := if M j r = 0 then false else !fitv 2 1 (V j r) lim
def anyB (q : Nat → Bool) : Nat → Bool
  | 0 => false
  | i + 1 => anyB q i || q i
def cntB (q : Nat → Bool) : Nat → Nat
  | 0 => 0
  | i + 1 => cntB q i + (if q i = true then 1 else 0)
def sumN (f : Nat → Nat) : Nat → Nat
  | 0 => 0
  | i + 1 => sumN f i + f i
def sumI (f : Nat → Int32) : Nat → Int32
  | 0 => 0
  | i + 1 => sumI f i + f i
def lenB (q : Nat → Bool) : Nat → Nat
  | 0 => 0
  | i + 1 => if q i = true then 0 else lenB q i + 1
def mostB (q : Nat → Bool) : Nat → Nat
  | 0 => 0
  | i + 1 => if mostB q i < lenB q (i + 1) then lenB q (i + 1) else mostB q i
def skpF (q : Nat → Bool) : Nat → Nat → Nat
  | 0, i => i
  | k + 1, i => if q i = true then skpF q k (i + 1) else i
def pckF (h w : Int32) (f : Nat → Int32) (v : Int32) : Nat → Int32
  | 0 => v
  | i + 1 => if fitv h w (f i) (pckF h w f v i) = true then f i else pckF h w f v i
def bstU (g : Nat → Bool) (f : Nat → Int32) : Nat → Int32
  | 0 => 0
  | i + 1 => if g i = true then (if bstU g f i < f i then f i else bstU g f i) else bstU g f i
def grtU (g : Nat → Bool) (f : Nat → Int32) (b : Int32) : Nat → Int32
  | 0 => 0
  | i + 1 => if g i = true then (if f i < b then (if grtU g f b i < f i then f i else grtU g f b i) else grtU g f b i) else grtU g f b i
def mvR (row : Nat → Int32) (v : Int32) : Nat → Int32
  | 0 => v
  | t + 1 => if row t < mvR row v t then row t else mvR row v t
def insR (row : Nat → Int32) (v : Int32) (t : Nat) : Int32 := if row t < mvR row v t then mvR row v t else row t
def rowU (g : Nat → Bool) (f : Nat → Int32) : Nat → Nat → Int32
  | 0 => fun _ => 0
  | i + 1 => if g i = true then insR (rowU g f i) (f i) else rowU g f i
def lxF (ra rb : Nat → Int32) : Nat → Nat → Bool
  | 0, _ => false
  | k + 1, i => if ra i = rb i then lxF ra rb k (i + 1) else decide (rb i < ra i)
def lx6 (ra rb : Nat → Int32) : Bool := lxF ra rb 6 0
def bts (f : Nat → Int32) (r : Nat) : Bool := if f r = 0 then false else !anyB (fun e => fitv 3 0 (f e) (f r)) r
def befR (rw : Nat → Nat → Int32) (a b : Nat) : Bool := if lx6 (rw b) (rw a) = true then true else if lx6 (rw a) (rw b) = true then false else decide (a < b)
def fndI (z : Int32) (rk : Nat → Int32) (k : Int32) : Nat → Int32
  | 0 => z
  | i + 1 => if rk i = k then nI i else fndI z rk k i
def ifz (b : Bool) (x : Int32) : Int32 := if b = true then x else 0
/-- the rows of the marks of the legal rounds, the greatest first -/
def srt (M V : Nat → Nat → Int32) (lim : Int32) (j : Nat) : Nat → Int32 := rowU (lgl M V lim j) (M j) 6
/-- the answers -/
def aValue (M V : Nat → Nat → Int32) (n w x r : Int32) : Int32 := if wht w && (jmp n x && rnd r) then vlu M V w x.toNatClampNeg r.toNatClampNeg else -1000
def aFits (M V : Nat → Nat → Int32) (n h w x a b : Int32) : Int32 := if hwo h && (wht w && (jmp n x && (rnd a && rnd b))) then b2i (fitv h w (vlu M V w x.toNatClampNeg a.toNatClampNeg) (vlu M V w x.toNatClampNeg b.toNatClampNeg)) else -1000
def aCount (M V : Nat → Nat → Int32) (n h w x v : Int32) : Int32 := if qst n h w x v then nI (cntB (fun r => fitv h w (vlu M V w x.toNatClampNeg r) v) 6) else -1000
def aTurned (M V : Nat → Nat → Int32) (n h w x v : Int32) : Int32 := if qst n h w x v then nI (cntB (fun r => fitv h w v (vlu M V w x.toNatClampNeg r)) 6) else -1000
def aLongest (M V : Nat → Nat → Int32) (n h w x v : Int32) : Int32 := if qst n h w x v then nI (mostB (fun r => fitv h w (vlu M V w x.toNatClampNeg r) v) 6) else -1000
def aSkip (M V : Nat → Nat → Int32) (n h w x f v : Int32) : Int32 := if qst n h w x v && rnd f then nI (skpF (fun r => fitv h w (vlu M V w x.toNatClampNeg r) v) (6 - f.toNatClampNeg) f.toNatClampNeg) else -1000
def aPick (M V : Nat → Nat → Int32) (n h w x v : Int32) : Int32 := if qst n h w x v then pckF h w (vlu M V w x.toNatClampNeg) v 6 else -1000
def aBest (M V : Nat → Nat → Int32) (lim n x : Int32) : Int32 := if jmp n x then bstU (lgl M V lim x.toNatClampNeg) (M x.toNatClampNeg) 6 else -1000
def aAhead (M V : Nat → Nat → Int32) (lim n x y : Int32) : Int32 := if jmp n x && jmp n y then b2i (lx6 (srt M V lim x.toNatClampNeg) (srt M V lim y.toNatClampNeg)) else -1000
def aPlace (M V : Nat → Nat → Int32) (lim : Int32) (n : Nat) (x : Int32) : Int32 := if jmp (nI n) x then (if bstU (lgl M V lim x.toNatClampNeg) (M x.toNatClampNeg) 6 = 0 then 0 else nI (cntB (fun o => lx6 (srt M V lim o) (srt M V lim x.toNatClampNeg)) n) + 1) else -1000
def aOrder (z : Int32) (M V : Nat → Nat → Int32) (lim : Int32) (n : Nat) (k : Int32) : Int32 := if jmp (nI n) k then fndI z (fun j => nI (cntB (fun o => befR (srt M V lim) o j) n)) k n else -1000
def vdt (M V : Nat → Nat → Int32) (rec lim : Int32) (j r : Nat) : Int32 :=
  ((((((ifz (!decide (M j r = 0)) 1 + ifz (!decide (V j r = 100)) 2) + ifz (lgl M V lim j r) 4) + ifz (fitv 3 0 (M j r) rec) 8) + ifz (fitv 2 0 (M j r) rec) 16) + ifz (fitv 4 0 (M j r) rec) 32) + ifz (fitv 1 1 (V j r) lim) 64) + ifz (bts (M j) r) 128
def aVerdict (M V : Nat → Nat → Int32) (rec lim n x r : Int32) : Int32 := if jmp n x && rnd r then vdt M V rec lim x.toNatClampNeg r.toNatClampNeg else -1000
/-- small rows -/
theorem jmp_of {n : Nat} {x : Int32} (h : jmp (nI n) x = true) (hn : n ≤ 8) : ∃ j : Nat, j < n ∧ x = nI j := by
  unfold jmp at h
  split at h
  · cases h
  · split at h
    · cases h
    · rename_i h1 h2
      obtain ⟨j, hj, rfl⟩ := nI_of h1
      exact ⟨j, Nat.not_le.mp (fun q => h2 (nI_le q hj)), rfl⟩
theorem rnd_of {x : Int32} (h : rnd x = true) : ∃ j : Nat, j < 6 ∧ x = nI j := by
  unfold rnd at h
  split at h
  · cases h
  · split at h
    · cases h
    · rename_i h1 h2
      obtain ⟨j, hj, rfl⟩ := nI_of h1
      exact ⟨j, Nat.not_le.mp (fun q => h2 (nI_le (a := 6) q hj)), rfl⟩
theorem hwo_of {x : Int32} (h : hwo x = true) : ∃ j : Nat, j < 6 ∧ x = nI j := by
  unfold hwo at h
  split at h
  · cases h
  · split at h
    · cases h
    · rename_i h1 h2
      obtain ⟨j, hj, rfl⟩ := nI_of h1
      exact ⟨j, Nat.not_le.mp (fun q => h2 (nI_lt (a := 5) q hj)), rfl⟩
theorem jmp_nI {n j : Nat} (hj : j < n) (hn : n < 2 ^ 31) : jmp (nI n) (nI j) = true := by
  unfold jmp
  rw [if_neg (nI_pos (by omega)), if_neg (nI_ge hj hn)]
theorem rnd_nI {j : Nat} (hj : j < 6) : rnd (nI j) = true := by
  unfold rnd
  rw [if_neg (nI_pos (by omega)), if_neg (show ¬ (6 : Int32) ≤ nI j from nI_ge (b := 6) hj (by decide))]
theorem nI_mul6 (j r : Nat) : nI j * 6 + nI r = nI (6 * j + r) := by
  rw [show (6 : Int32) = nI 6 from rfl, pk_mul, nI_add, Nat.mul_comm]
theorem nI_6mul (j r : Nat) : 6 * nI j + nI r = nI (6 * j + r) := by
  rw [show (6 : Int32) = nI 6 from rfl, pk_mul, nI_add]
section QA
variable {p : Program} {l : Launch} {e : Env} {R : Room} {s : State} {m : MethodId} {args : Array Value} {below : List Frame} {meth : Method} {c : Code} {H H0 : Heap} {locs : List Loc} {cells slots : Nat} {Q : State → Prop} {cc : ByteArray} {pc : Nat} {ls : Array Slot} {rest : List Value} {D : va_G} {cl : List vw_C} {tys : List (ClassId × FieldType)} {ws : va_W} {A : Nat → Prop} {a : Nat}
theorem q_ald (hx : p.tables.exec = Jvm.exec) (hb : c.code = cc) (hK : va_K D cl tys s) (hP : va_P D cl ws H) (q0 t0 : Nat) {cA : ClassId} {n : Nat} {f : Nat → Int32} (ha : ws[q0]? = some (a, .inl (cA, n, .inl f))) (ht : tys[t0]? = some (cA, .int)) {k : Nat} (hk : k < n) (hn : n < 2 ^ 31) (hdg : decode cc pc = .ok (.iaload, 1))
    (kk : W p l e R s m args below meth c H locs cells slots Q (F0 m (pc + 1) ls (.int (f k) :: rest))) : W p l e R s m args below meth c H locs cells slots Q (F0 m pc ls (.int (nI k) :: .ref a :: rest)) :=
  va_iald hx hb hK hP q0 t0 ha ht (vp_in_nI hk hn) hdg (by rw [nI_clamp (by omega)]; exact kk)
theorem q_ast (hx : p.tables.exec = Jvm.exec) (hb : c.code = cc) (hK : va_K D cl tys s) (hP : va_P D cl ws H) (hD : va_D A ws) (hS : va_S A H0 H locs) (q0 t0 : Nat) {cA : ClassId} {n : Nat} {f : Nat → Int32} (ha : ws[q0]? = some (a, .inl (cA, n, .inl f))) (ht : tys[t0]? = some (cA, .int)) {k : Nat} {x : Int32} (hk : k < n) (hn : n < 2 ^ 31) (hdg : decode cc pc = .ok (.iastore, 1))
    (kk : ∀ (H : Heap) (locs : List Loc), va_P D cl (ws.set q0 (a, .inl (cA, n, .inl (upd f k x)))) H → va_D A (ws.set q0 (a, .inl (cA, n, .inl (upd f k x)))) → va_S A H0 H locs → W p l e R s m args below meth c H locs cells slots Q (F0 m (pc + 1) ls rest)) : W p l e R s m args below meth c H locs cells slots Q (F0 m pc ls (.int x :: .int (nI k) :: .ref a :: rest)) :=
  va_iast hx hb hK hP hD hS q0 t0 ha ht (vp_in_nI hk hn) hdg (by rw [nI_clamp (by omega)]; exact kk)
end QA
/-- the cells of a JumpBoard -/
abbrev wX (h qb qj qm qw qr : Nat) (cA : ClassId) (n rec lim : Int32) (fb fj fm fw fr : Nat → Int32) : va_W := [(h, .inr (0, [.int n, .int rec, .int lim, .ref qb, .ref qj, .ref qm, .ref qw, .ref qr])), (qb, .inl (cA, 8, .inl fb)), (qj, .inl (cA, 8, .inl fj)), (qm, .inl (cA, 48, .inl fm)), (qw, .inl (cA, 48, .inl fw)), (qr, .inl (cA, 48, .inl fr))]
/-- the cells of a JumpBoardModel -/
abbrev wY (h qb qj qm qw qt : Nat) (cA : ClassId) (n rec lim : Int32) (fb fj fm fw ft : Nat → Int32) : va_W := [(h, .inr (1, [.ref qb, .ref qj, .ref qm, .ref qw, .ref qt, .int n, .int rec, .int lim])), (qb, .inl (cA, 8, .inl fb)), (qj, .inl (cA, 8, .inl fj)), (qm, .inl (cA, 48, .inl fm)), (qw, .inl (cA, 48, .inl fw)), (qt, .inl (cA, 6, .inl ft))]
end
section
theorem b2i_dle {x y : Int32} (h : x ≤ y) : b2i (decide (y < x)) = 0 := by
  rw [decide_eq_false (Int32.not_lt.mpr h)]; rfl
theorem b2i_dgt {x y : Int32} (h : ¬ x ≤ y) : b2i (decide (y < x)) = 1 := by
  rw [decide_eq_true (Int32.not_le.mp h)]; rfl
theorem tOut5 {x : Int32} (h0 : ¬ x = 0) (h1 : ¬ x = 1) (h2 : ¬ x = 2) (h3 : ¬ x = 3) (h4 : ¬ x = 4) : x.toInt < 0 ∨ 4 < x.toInt := by
  have a0 := lv_neT (a := 0) h0 rfl
  have a1 := lv_neT (a := 1) h1 rfl
  have a2 := lv_neT (a := 2) h2 rfl
  have a3 := lv_neT (a := 3) h3 rfl
  have a4 := lv_neT (a := 4) h4 rfl
  omega
theorem anyB_of {q : Nat → Bool} {i n : Nat} (h : i < n) (hq : q i = true) : anyB q n = true := by
  induction n with
  | zero => omega
  | succ n ih =>
    rcases Nat.lt_or_ge i n with a | a
    · simp [anyB, ih a]
    · have : i = n := by omega
      subst this
      simp [anyB, hq]
theorem lxF_eq {ra rb : Nat → Int32} {i : Nat} (h : i < 6) : lxF ra rb (6 - i) i = if ra i = rb i then lxF ra rb (6 - (i + 1)) (i + 1) else decide (rb i < ra i) := by
  rw [show 6 - i = (6 - (i + 1)) + 1 by omega]
  rfl
theorem hdX0_isRound : yX0_isRound.cls ≠ "java/lang/invoke/MethodHandle" ∧ yX0_isRound.cls ≠ "java/lang/invoke/VarHandle" ∧ (parseMethodDescriptor yX0_isRound.desc).map (fun d => d.parameters.length) = some 1 := by decide +kernel
set_option maxHeartbeats 4000000 in
set_option maxRecDepth 100000 in
theorem mX0_isRound (l : Launch) (x : Int32) : Met l yX0_isRound wsX0_isRound ({ frames := 0, cells := 0, slots := 0, locals := 0 }) (va_Pc [.int x] (fun _ => True)) (QcRead (b2i (rnd x))) 0 0 (fun _ => False) := by
  refine Met.ofW (cc := cX0_isRound) (maxL := 1) (ret := (some .boolean)) (by decide) rfl ?_
  intro p e s m args below meth c s₁ B hml hv
  obtain ⟨rfl, -⟩ := hv
  have hx := B.exec
  have hb := B.bytes
  have hr := B.returns
  have hts := atoms_spec (ws := wsX0_isRound) B.pre
  have hown : s.vm.findClass RX0 = some m.cls := findClass_of_methodNamed B.named
  have hlk := B.notSynchronized
  have hl := lv_entry ([.int x]) (n := 1) (Nat.le_of_ble_eq_true rfl)
  rw [lg_entry_eq]
  generalize (lg_sl ([.int x]) ++ List.replicate (1 - (lg_sl ([.int x])).length) Slot.unset).toArray = ls at hl ⊢
  have hl : lv_has ls 1 [(0, .int x)] := hl
  refine lv_iload_n hx hb dX0_isRound_0 rfl (lv_at hl 0 rfl) ?_
  refine lv_if_lt (tgt := 14) hx hb dX0_isRound_1 (by decide) (fun c_1 => ?_) (fun c_1 => ?_)
  · skip
    refine lv_iconst (v := 0) hx hb dX0_isRound_14 (by decide) ?_
    exact q_rb hx hb hr hlk (by simp [rnd, b2i, c_1]) dX0_isRound_15
  · skip
    refine lv_iload_n hx hb dX0_isRound_4 rfl (lv_at hl 0 rfl) ?_
    refine lv_bipush (v := 6) hx hb dX0_isRound_5 (by decide) ?_
    refine lv_icmp_ge (tgt := 14) hx hb dX0_isRound_7 (by decide) (fun c_2 => ?_) (fun c_2 => ?_)
    · skip
      refine lv_iconst (v := 0) hx hb dX0_isRound_14 (by decide) ?_
      exact q_rb hx hb hr hlk (by simp [rnd, b2i, c_1, c_2]) dX0_isRound_15
    · skip
      refine lv_iconst (v := 1) hx hb dX0_isRound_10 (by decide) ?_
      refine lv_goto (tgt := 15) hx hb dX0_isRound_11 (by decide) ?_
      exact q_rb hx hb hr hlk (by simp [rnd, b2i, c_1, c_2]) dX0_isRound_15

theorem hdX0_isWhat : yX0_isWhat.cls ≠ "java/lang/invoke/MethodHandle" ∧ yX0_isWhat.cls ≠ "java/lang/invoke/VarHandle" ∧ (parseMethodDescriptor yX0_isWhat.desc).map (fun d => d.parameters.length) = some 1 := by decide +kernel
set_option maxHeartbeats 4000000 in
set_option maxRecDepth 100000 in
theorem mX0_isWhat (l : Launch) (x : Int32) : Met l yX0_isWhat wsX0_isWhat ({ frames := 0, cells := 0, slots := 0, locals := 0 }) (va_Pc [.int x] (fun _ => True)) (QcRead (b2i (wht x))) 0 0 (fun _ => False) := by
  refine Met.ofW (cc := cX0_isWhat) (maxL := 1) (ret := (some .boolean)) (by decide) rfl ?_
  intro p e s m args below meth c s₁ B hml hv
  obtain ⟨rfl, -⟩ := hv
  have hx := B.exec
  have hb := B.bytes
  have hr := B.returns
  have hts := atoms_spec (ws := wsX0_isWhat) B.pre
  have hown : s.vm.findClass RX0 = some m.cls := findClass_of_methodNamed B.named
  have hlk := B.notSynchronized
  have hl := lv_entry ([.int x]) (n := 1) (Nat.le_of_ble_eq_true rfl)
  rw [lg_entry_eq]
  generalize (lg_sl ([.int x]) ++ List.replicate (1 - (lg_sl ([.int x])).length) Slot.unset).toArray = ls at hl ⊢
  have hl : lv_has ls 1 [(0, .int x)] := hl
  refine lv_iload_n hx hb dX0_isWhat_0 rfl (lv_at hl 0 rfl) ?_
  refine lv_if_eq (tgt := 9) hx hb dX0_isWhat_1 (by decide) (fun c_1 => ?_) (fun c_1 => ?_)
  · skip
    refine lv_iconst (v := 1) hx hb dX0_isWhat_9 (by decide) ?_
    refine lv_goto (tgt := 14) hx hb dX0_isWhat_10 (by decide) ?_
    exact q_rb hx hb hr hlk (by simp [wht, b2i, c_1]) dX0_isWhat_14
  · skip
    refine lv_iload_n hx hb dX0_isWhat_4 rfl (lv_at hl 0 rfl) ?_
    refine lv_iconst (v := 1) hx hb dX0_isWhat_5 (by decide) ?_
    refine lv_icmp_ne (tgt := 13) hx hb dX0_isWhat_6 (by decide) (fun c_2 => ?_) (fun c_2 => ?_)
    · skip
      refine lv_iconst (v := 0) hx hb dX0_isWhat_13 (by decide) ?_
      exact q_rb hx hb hr hlk (by simp [wht, b2i, c_1, c_2]) dX0_isWhat_14
    · skip
      refine lv_iconst (v := 1) hx hb dX0_isWhat_9 (by decide) ?_
      refine lv_goto (tgt := 14) hx hb dX0_isWhat_10 (by decide) ?_
      exact q_rb hx hb hr hlk (by simp [wht, b2i, c_1, c_2]) dX0_isWhat_14

theorem hdX0_isHow : yX0_isHow.cls ≠ "java/lang/invoke/MethodHandle" ∧ yX0_isHow.cls ≠ "java/lang/invoke/VarHandle" ∧ (parseMethodDescriptor yX0_isHow.desc).map (fun d => d.parameters.length) = some 1 := by decide +kernel
set_option maxHeartbeats 4000000 in
set_option maxRecDepth 100000 in
theorem mX0_isHow (l : Launch) (x : Int32) : Met l yX0_isHow wsX0_isHow ({ frames := 0, cells := 0, slots := 0, locals := 0 }) (va_Pc [.int x] (fun _ => True)) (QcRead (b2i (hwo x))) 0 0 (fun _ => False) := by
  refine Met.ofW (cc := cX0_isHow) (maxL := 1) (ret := (some .boolean)) (by decide) rfl ?_
  intro p e s m args below meth c s₁ B hml hv
  obtain ⟨rfl, -⟩ := hv
  have hx := B.exec
  have hb := B.bytes
  have hr := B.returns
  have hts := atoms_spec (ws := wsX0_isHow) B.pre
  have hown : s.vm.findClass RX0 = some m.cls := findClass_of_methodNamed B.named
  have hlk := B.notSynchronized
  have hl := lv_entry ([.int x]) (n := 1) (Nat.le_of_ble_eq_true rfl)
  rw [lg_entry_eq]
  generalize (lg_sl ([.int x]) ++ List.replicate (1 - (lg_sl ([.int x])).length) Slot.unset).toArray = ls at hl ⊢
  have hl : lv_has ls 1 [(0, .int x)] := hl
  refine lv_iload_n hx hb dX0_isHow_0 rfl (lv_at hl 0 rfl) ?_
  refine lv_if_lt (tgt := 13) hx hb dX0_isHow_1 (by decide) (fun c_1 => ?_) (fun c_1 => ?_)
  · skip
    refine lv_iconst (v := 0) hx hb dX0_isHow_13 (by decide) ?_
    exact q_rb hx hb hr hlk (by simp [hwo, b2i, c_1]) dX0_isHow_14
  · skip
    refine lv_iload_n hx hb dX0_isHow_4 rfl (lv_at hl 0 rfl) ?_
    refine lv_iconst (v := 5) hx hb dX0_isHow_5 (by decide) ?_
    refine lv_icmp_gt (tgt := 13) hx hb dX0_isHow_6 (by decide) (fun c_2 => ?_) (fun c_2 => ?_)
    · skip
      refine lv_iconst (v := 0) hx hb dX0_isHow_13 (by decide) ?_
      exact q_rb hx hb hr hlk (by simp [hwo, b2i, c_1, c_2]) dX0_isHow_14
    · skip
      refine lv_iconst (v := 1) hx hb dX0_isHow_9 (by decide) ?_
      refine lv_goto (tgt := 14) hx hb dX0_isHow_10 (by decide) ?_
      exact q_rb hx hb hr hlk (by simp [hwo, b2i, c_1, c_2]) dX0_isHow_14

theorem hdX0_isMark : yX0_isMark.cls ≠ "java/lang/invoke/MethodHandle" ∧ yX0_isMark.cls ≠ "java/lang/invoke/VarHandle" ∧ (parseMethodDescriptor yX0_isMark.desc).map (fun d => d.parameters.length) = some 1 := by decide +kernel
set_option maxHeartbeats 4000000 in
set_option maxRecDepth 100000 in
theorem mX0_isMark (l : Launch) (x : Int32) : Met l yX0_isMark wsX0_isMark ({ frames := 0, cells := 0, slots := 0, locals := 0 }) (va_Pc [.int x] (fun _ => True)) (QcRead (b2i (mrk x))) 0 0 (fun _ => False) := by
  refine Met.ofW (cc := cX0_isMark) (maxL := 1) (ret := (some .boolean)) (by decide) rfl ?_
  intro p e s m args below meth c s₁ B hml hv
  obtain ⟨rfl, -⟩ := hv
  have hx := B.exec
  have hb := B.bytes
  have hr := B.returns
  have hts := atoms_spec (ws := wsX0_isMark) B.pre
  have hown : s.vm.findClass RX0 = some m.cls := findClass_of_methodNamed B.named
  have hlk := B.notSynchronized
  have hl := lv_entry ([.int x]) (n := 1) (Nat.le_of_ble_eq_true rfl)
  rw [lg_entry_eq]
  generalize (lg_sl ([.int x]) ++ List.replicate (1 - (lg_sl ([.int x])).length) Slot.unset).toArray = ls at hl ⊢
  have hl : lv_has ls 1 [(0, .int x)] := hl
  refine lv_iload_n hx hb dX0_isMark_0 rfl (lv_at hl 0 rfl) ?_
  refine lv_if_lt (tgt := 15) hx hb dX0_isMark_1 (by decide) (fun c_1 => ?_) (fun c_1 => ?_)
  · skip
    refine lv_iconst (v := 0) hx hb dX0_isMark_15 (by decide) ?_
    exact q_rb hx hb hr hlk (by simp [mrk, b2i, c_1]) dX0_isMark_16
  · skip
    refine lv_iload_n hx hb dX0_isMark_4 rfl (lv_at hl 0 rfl) ?_
    refine lv_sipush (v := 1200) hx hb dX0_isMark_5 (by decide) ?_
    refine lv_icmp_gt (tgt := 15) hx hb dX0_isMark_8 (by decide) (fun c_2 => ?_) (fun c_2 => ?_)
    · skip
      refine lv_iconst (v := 0) hx hb dX0_isMark_15 (by decide) ?_
      exact q_rb hx hb hr hlk (by simp [mrk, b2i, c_1, c_2]) dX0_isMark_16
    · skip
      refine lv_iconst (v := 1) hx hb dX0_isMark_11 (by decide) ?_
      refine lv_goto (tgt := 16) hx hb dX0_isMark_12 (by decide) ?_
      exact q_rb hx hb hr hlk (by simp [mrk, b2i, c_1, c_2]) dX0_isMark_16

theorem hdX0_isWind : yX0_isWind.cls ≠ "java/lang/invoke/MethodHandle" ∧ yX0_isWind.cls ≠ "java/lang/invoke/VarHandle" ∧ (parseMethodDescriptor yX0_isWind.desc).map (fun d => d.parameters.length) = some 1 := by decide +kernel
set_option maxHeartbeats 4000000 in
set_option maxRecDepth 100000 in
theorem mX0_isWind (l : Launch) (x : Int32) : Met l yX0_isWind wsX0_isWind ({ frames := 0, cells := 0, slots := 0, locals := 0 }) (va_Pc [.int x] (fun _ => True)) (QcRead (b2i (wnd x))) 0 0 (fun _ => False) := by
  refine Met.ofW (cc := cX0_isWind) (maxL := 1) (ret := (some .boolean)) (by decide) rfl ?_
  intro p e s m args below meth c s₁ B hml hv
  obtain ⟨rfl, -⟩ := hv
  have hx := B.exec
  have hb := B.bytes
  have hr := B.returns
  have hts := atoms_spec (ws := wsX0_isWind) B.pre
  have hown : s.vm.findClass RX0 = some m.cls := findClass_of_methodNamed B.named
  have hlk := B.notSynchronized
  have hl := lv_entry ([.int x]) (n := 1) (Nat.le_of_ble_eq_true rfl)
  rw [lg_entry_eq]
  generalize (lg_sl ([.int x]) ++ List.replicate (1 - (lg_sl ([.int x])).length) Slot.unset).toArray = ls at hl ⊢
  have hl : lv_has ls 1 [(0, .int x)] := hl
  refine lv_iload_n hx hb dX0_isWind_0 rfl (lv_at hl 0 rfl) ?_
  refine lv_bipush (v := (-99)) hx hb dX0_isWind_1 (by decide) ?_
  refine lv_icmp_lt (tgt := 16) hx hb dX0_isWind_3 (by decide) (fun c_1 => ?_) (fun c_1 => ?_)
  · skip
    refine lv_iconst (v := 0) hx hb dX0_isWind_16 (by decide) ?_
    exact q_rb hx hb hr hlk (by simp [wnd, b2i, c_1]) dX0_isWind_17
  · skip
    refine lv_iload_n hx hb dX0_isWind_6 rfl (lv_at hl 0 rfl) ?_
    refine lv_bipush (v := 100) hx hb dX0_isWind_7 (by decide) ?_
    refine lv_icmp_gt (tgt := 16) hx hb dX0_isWind_9 (by decide) (fun c_2 => ?_) (fun c_2 => ?_)
    · skip
      refine lv_iconst (v := 0) hx hb dX0_isWind_16 (by decide) ?_
      exact q_rb hx hb hr hlk (by simp [wnd, b2i, c_1, c_2]) dX0_isWind_17
    · skip
      refine lv_iconst (v := 1) hx hb dX0_isWind_12 (by decide) ?_
      refine lv_goto (tgt := 17) hx hb dX0_isWind_13 (by decide) ?_
      exact q_rb hx hb hr hlk (by simp [wnd, b2i, c_1, c_2]) dX0_isWind_17

theorem hdX0_at : yX0_at.cls ≠ "java/lang/invoke/MethodHandle" ∧ yX0_at.cls ≠ "java/lang/invoke/VarHandle" ∧ (parseMethodDescriptor yX0_at.desc).map (fun d => d.parameters.length) = some 2 := by decide +kernel
set_option maxHeartbeats 4000000 in
set_option maxRecDepth 100000 in
theorem mX0_at (l : Launch) (j : Nat) (r : Nat) : Met l yX0_at wsX0_at ({ frames := 0, cells := 0, slots := 0, locals := 0 }) (va_Pc [.int (nI j), .int (nI r)] (fun _ => True)) (QcRead (nI (6 * j + r))) 0 0 (fun _ => False) := by
  refine Met.ofW (cc := cX0_at) (maxL := 2) (ret := (some .int)) (by decide) rfl ?_
  intro p e s m args below meth c s₁ B hml hv
  obtain ⟨rfl, -⟩ := hv
  have hx := B.exec
  have hb := B.bytes
  have hr := B.returns
  have hts := atoms_spec (ws := wsX0_at) B.pre
  have hown : s.vm.findClass RX0 = some m.cls := findClass_of_methodNamed B.named
  have hlk := B.notSynchronized
  have hl := lv_entry ([.int (nI j), .int (nI r)]) (n := 2) (Nat.le_of_ble_eq_true rfl)
  rw [lg_entry_eq]
  generalize (lg_sl ([.int (nI j), .int (nI r)]) ++ List.replicate (2 - (lg_sl ([.int (nI j), .int (nI r)])).length) Slot.unset).toArray = ls at hl ⊢
  have hl : lv_has ls 2 [(0, .int (nI j)), (1, .int (nI r))] := hl
  refine lv_iload_n hx hb dX0_at_0 rfl (lv_at hl 0 rfl) ?_
  refine lv_bipush (v := 6) hx hb dX0_at_1 (by decide) ?_
  refine lv_imul hx hb dX0_at_3 ?_
  refine lv_iload_n hx hb dX0_at_4 rfl (lv_at hl 1 rfl) ?_
  refine lv_iadd hx hb dX0_at_5 ?_
  exact q_ri hx hb hr hlk (by exact nI_mul6 j r) dX0_at_6

theorem hdX0_isNone : yX0_isNone.cls ≠ "java/lang/invoke/MethodHandle" ∧ yX0_isNone.cls ≠ "java/lang/invoke/VarHandle" ∧ (parseMethodDescriptor yX0_isNone.desc).map (fun d => d.parameters.length) = some 2 := by decide +kernel
set_option maxHeartbeats 4000000 in
set_option maxRecDepth 100000 in
theorem mX0_isNone (l : Launch) (w : Int32) (v : Int32) : Met l yX0_isNone wsX0_isNone ({ frames := 0, cells := 0, slots := 0, locals := 0 }) (va_Pc [.int w, .int v] (fun _ => True)) (QcRead (b2i (decide (v = non w)))) 0 0 (fun _ => False) := by
  refine Met.ofW (cc := cX0_isNone) (maxL := 2) (ret := (some .boolean)) (by decide) rfl ?_
  intro p e s m args below meth c s₁ B hml hv
  obtain ⟨rfl, -⟩ := hv
  have hx := B.exec
  have hb := B.bytes
  have hr := B.returns
  have hts := atoms_spec (ws := wsX0_isNone) B.pre
  have hown : s.vm.findClass RX0 = some m.cls := findClass_of_methodNamed B.named
  have hlk := B.notSynchronized
  have hl := lv_entry ([.int w, .int v]) (n := 2) (Nat.le_of_ble_eq_true rfl)
  rw [lg_entry_eq]
  generalize (lg_sl ([.int w, .int v]) ++ List.replicate (2 - (lg_sl ([.int w, .int v])).length) Slot.unset).toArray = ls at hl ⊢
  have hl : lv_has ls 2 [(0, .int w), (1, .int v)] := hl
  refine lv_iload_n hx hb dX0_isNone_0 rfl (lv_at hl 1 rfl) ?_
  refine lv_iload_n hx hb dX0_isNone_1 rfl (lv_at hl 0 rfl) ?_
  refine lv_if_ne (tgt := 9) hx hb dX0_isNone_2 (by decide) (fun c_1 => ?_) (fun c_1 => ?_)
  · skip
    refine lv_bipush (v := 100) hx hb dX0_isNone_9 (by decide) ?_
    refine lv_icmp_ne (tgt := 18) hx hb dX0_isNone_11 (by decide) (fun c_2 => ?_) (fun c_2 => ?_)
    · skip
      refine lv_iconst (v := 0) hx hb dX0_isNone_18 (by decide) ?_
      exact q_rb hx hb hr hlk (by simp [non, b2i, c_1, c_2]) dX0_isNone_19
    · skip
      refine lv_iconst (v := 1) hx hb dX0_isNone_14 (by decide) ?_
      refine lv_goto (tgt := 19) hx hb dX0_isNone_15 (by decide) ?_
      exact q_rb hx hb hr hlk (by simp [non, b2i, c_1, c_2]) dX0_isNone_19
  · skip
    refine lv_iconst (v := 0) hx hb dX0_isNone_5 (by decide) ?_
    refine lv_goto (tgt := 11) hx hb dX0_isNone_6 (by decide) ?_
    refine lv_icmp_ne (tgt := 18) hx hb dX0_isNone_11 (by decide) (fun c_3 => ?_) (fun c_3 => ?_)
    · skip
      refine lv_iconst (v := 0) hx hb dX0_isNone_18 (by decide) ?_
      exact q_rb hx hb hr hlk (by simp [non, b2i, c_1, c_3]) dX0_isNone_19
    · skip
      refine lv_iconst (v := 1) hx hb dX0_isNone_14 (by decide) ?_
      refine lv_goto (tgt := 19) hx hb dX0_isNone_15 (by decide) ?_
      exact q_rb hx hb hr hlk (by simp [non, b2i, c_1, c_3]) dX0_isNone_19

theorem hdX0_numberFits : yX0_numberFits.cls ≠ "java/lang/invoke/MethodHandle" ∧ yX0_numberFits.cls ≠ "java/lang/invoke/VarHandle" ∧ (parseMethodDescriptor yX0_numberFits.desc).map (fun d => d.parameters.length) = some 3 := by decide +kernel
set_option maxHeartbeats 4000000 in
set_option maxRecDepth 100000 in
theorem mX0_numberFits (l : Launch) (k : Int32) (v : Int32) (o : Int32) : Met l yX0_numberFits wsX0_numberFits ({ frames := 0, cells := 0, slots := 0, locals := 0 }) (va_Pc [.int k, .int v, .int o] (fun _ => True)) (QcRead (b2i (nfit k v o))) 0 0 (fun _ => False) := by
  refine Met.ofW (cc := cX0_numberFits) (maxL := 3) (ret := (some .boolean)) (by decide) rfl ?_
  intro p e s m args below meth c s₁ B hml hv
  obtain ⟨rfl, -⟩ := hv
  have hx := B.exec
  have hb := B.bytes
  have hr := B.returns
  have hts := atoms_spec (ws := wsX0_numberFits) B.pre
  have hown : s.vm.findClass RX0 = some m.cls := findClass_of_methodNamed B.named
  have hlk := B.notSynchronized
  have hl := lv_entry ([.int k, .int v, .int o]) (n := 3) (Nat.le_of_ble_eq_true rfl)
  rw [lg_entry_eq]
  generalize (lg_sl ([.int k, .int v, .int o]) ++ List.replicate (3 - (lg_sl ([.int k, .int v, .int o])).length) Slot.unset).toArray = ls at hl ⊢
  have hl : lv_has ls 3 [(0, .int k), (1, .int v), (2, .int o)] := hl
  refine lv_iload_n hx hb dX0_numberFits_0 rfl (lv_at hl 0 rfl) ?_
  by_cases c_1 : k = 0
  · skip
    refine lv_tableIn (tgt := 36) hx hb dX0_numberFits_1 (by rw [c_1]; decide) (by rw [c_1]; decide) (by rw [c_1]; rfl) (by decide) ?_
    refine lv_iload_n hx hb dX0_numberFits_36 rfl (lv_at hl 1 rfl) ?_
    refine lv_iload_n hx hb dX0_numberFits_37 rfl (lv_at hl 2 rfl) ?_
    refine lv_icmp_ge (tgt := 45) hx hb dX0_numberFits_38 (by decide) (fun c_2 => ?_) (fun c_2 => ?_)
    · skip
      refine lv_iconst (v := 0) hx hb dX0_numberFits_45 (by decide) ?_
      exact q_rb hx hb hr hlk (by simp [nfit, b2i, c_1, c_2]) dX0_numberFits_46
    · skip
      refine lv_iconst (v := 1) hx hb dX0_numberFits_41 (by decide) ?_
      refine lv_goto (tgt := 46) hx hb dX0_numberFits_42 (by decide) ?_
      exact q_rb hx hb hr hlk (by simp [nfit, b2i, c_1, c_2]) dX0_numberFits_46
  by_cases c_3 : k = 1
  · skip
    refine lv_tableIn (tgt := 47) hx hb dX0_numberFits_1 (by rw [c_3]; decide) (by rw [c_3]; decide) (by rw [c_3]; rfl) (by decide) ?_
    refine lv_iload_n hx hb dX0_numberFits_47 rfl (lv_at hl 1 rfl) ?_
    refine lv_iload_n hx hb dX0_numberFits_48 rfl (lv_at hl 2 rfl) ?_
    refine lv_icmp_gt (tgt := 56) hx hb dX0_numberFits_49 (by decide) (fun c_4 => ?_) (fun c_4 => ?_)
    · skip
      refine lv_iconst (v := 0) hx hb dX0_numberFits_56 (by decide) ?_
      exact q_rb hx hb hr hlk (by simp [nfit, b2i, c_1, c_3, c_4]) dX0_numberFits_57
    · skip
      refine lv_iconst (v := 1) hx hb dX0_numberFits_52 (by decide) ?_
      refine lv_goto (tgt := 57) hx hb dX0_numberFits_53 (by decide) ?_
      exact q_rb hx hb hr hlk (by simp [nfit, b2i, c_1, c_3, c_4]) dX0_numberFits_57
  by_cases c_5 : k = 2
  · skip
    refine lv_tableIn (tgt := 58) hx hb dX0_numberFits_1 (by rw [c_5]; decide) (by rw [c_5]; decide) (by rw [c_5]; rfl) (by decide) ?_
    refine lv_iload_n hx hb dX0_numberFits_58 rfl (lv_at hl 1 rfl) ?_
    refine lv_iload_n hx hb dX0_numberFits_59 rfl (lv_at hl 2 rfl) ?_
    refine lv_icmp_le (tgt := 67) hx hb dX0_numberFits_60 (by decide) (fun c_6 => ?_) (fun c_6 => ?_)
    · skip
      refine lv_iconst (v := 0) hx hb dX0_numberFits_67 (by decide) ?_
      exact q_rb hx hb hr hlk (by simp [nfit, b2i, c_1, c_3, c_5, c_6]) dX0_numberFits_68
    · skip
      refine lv_iconst (v := 1) hx hb dX0_numberFits_63 (by decide) ?_
      refine lv_goto (tgt := 68) hx hb dX0_numberFits_64 (by decide) ?_
      exact q_rb hx hb hr hlk (by simp [nfit, b2i, c_1, c_3, c_5, c_6]) dX0_numberFits_68
  by_cases c_7 : k = 3
  · skip
    refine lv_tableIn (tgt := 69) hx hb dX0_numberFits_1 (by rw [c_7]; decide) (by rw [c_7]; decide) (by rw [c_7]; rfl) (by decide) ?_
    refine lv_iload_n hx hb dX0_numberFits_69 rfl (lv_at hl 1 rfl) ?_
    refine lv_iload_n hx hb dX0_numberFits_70 rfl (lv_at hl 2 rfl) ?_
    refine lv_icmp_lt (tgt := 78) hx hb dX0_numberFits_71 (by decide) (fun c_8 => ?_) (fun c_8 => ?_)
    · skip
      refine lv_iconst (v := 0) hx hb dX0_numberFits_78 (by decide) ?_
      exact q_rb hx hb hr hlk (by simp [nfit, b2i, c_1, c_3, c_5, c_7, c_8]) dX0_numberFits_79
    · skip
      refine lv_iconst (v := 1) hx hb dX0_numberFits_74 (by decide) ?_
      refine lv_goto (tgt := 79) hx hb dX0_numberFits_75 (by decide) ?_
      exact q_rb hx hb hr hlk (by simp [nfit, b2i, c_1, c_3, c_5, c_7, c_8]) dX0_numberFits_79
  by_cases c_9 : k = 4
  · skip
    refine lv_tableIn (tgt := 80) hx hb dX0_numberFits_1 (by rw [c_9]; decide) (by rw [c_9]; decide) (by rw [c_9]; rfl) (by decide) ?_
    refine lv_iload_n hx hb dX0_numberFits_80 rfl (lv_at hl 1 rfl) ?_
    refine lv_iload_n hx hb dX0_numberFits_81 rfl (lv_at hl 2 rfl) ?_
    refine lv_icmp_ne (tgt := 89) hx hb dX0_numberFits_82 (by decide) (fun c_10 => ?_) (fun c_10 => ?_)
    · skip
      refine lv_iconst (v := 0) hx hb dX0_numberFits_89 (by decide) ?_
      exact q_rb hx hb hr hlk (by simp [nfit, b2i, c_1, c_3, c_5, c_7, c_9, c_10]) dX0_numberFits_90
    · skip
      refine lv_iconst (v := 1) hx hb dX0_numberFits_85 (by decide) ?_
      refine lv_goto (tgt := 90) hx hb dX0_numberFits_86 (by decide) ?_
      exact q_rb hx hb hr hlk (by simp [nfit, b2i, c_1, c_3, c_5, c_7, c_9, c_10]) dX0_numberFits_90
  refine lv_tableOut (tgt := 91) hx hb dX0_numberFits_1 (tOut5 c_1 c_3 c_5 c_7 c_9) (by decide) ?_
  refine lv_iload_n hx hb dX0_numberFits_91 rfl (lv_at hl 1 rfl) ?_
  refine lv_iload_n hx hb dX0_numberFits_92 rfl (lv_at hl 2 rfl) ?_
  refine lv_icmp_eq (tgt := 100) hx hb dX0_numberFits_93 (by decide) (fun c_11 => ?_) (fun c_11 => ?_)
  · skip
    refine lv_iconst (v := 0) hx hb dX0_numberFits_100 (by decide) ?_
    exact q_rb hx hb hr hlk (by simp [nfit, b2i, c_1, c_3, c_5, c_7, c_9, c_11]) dX0_numberFits_101
  · skip
    refine lv_iconst (v := 1) hx hb dX0_numberFits_96 (by decide) ?_
    refine lv_goto (tgt := 101) hx hb dX0_numberFits_97 (by decide) ?_
    exact q_rb hx hb hr hlk (by simp [nfit, b2i, c_1, c_3, c_5, c_7, c_9, c_11]) dX0_numberFits_101

theorem hdX0_valueFits : yX0_valueFits.cls ≠ "java/lang/invoke/MethodHandle" ∧ yX0_valueFits.cls ≠ "java/lang/invoke/VarHandle" ∧ (parseMethodDescriptor yX0_valueFits.desc).map (fun d => d.parameters.length) = some 4 := by decide +kernel
set_option maxHeartbeats 4000000 in
set_option maxRecDepth 100000 in
theorem mX0_valueFits (l : Launch) (k : Int32) (w : Int32) (v : Int32) (o : Int32) : Met l yX0_valueFits wsX0_valueFits ({ frames := 1, cells := 0, slots := 0, locals := 22 }) (va_Pc [.int k, .int w, .int v, .int o] (fun _ => True)) (QcRead (b2i (fitv k w v o))) 0 0 (fun _ => False) := by
  refine Met.ofW (cc := cX0_valueFits) (maxL := 4) (ret := (some .boolean)) (by decide) rfl ?_
  intro p e s m args below meth c s₁ B hml hv
  obtain ⟨rfl, -⟩ := hv
  have hx := B.exec
  have hb := B.bytes
  have hr := B.returns
  have hts := atoms_spec (ws := wsX0_valueFits) B.pre
  have hown : s.vm.findClass RX0 = some m.cls := findClass_of_methodNamed B.named
  have hlk := B.notSynchronized
  have hl := lv_entry ([.int k, .int w, .int v, .int o]) (n := 4) (Nat.le_of_ble_eq_true rfl)
  rw [lg_entry_eq]
  generalize (lg_sl ([.int k, .int w, .int v, .int o]) ++ List.replicate (4 - (lg_sl ([.int k, .int w, .int v, .int o])).length) Slot.unset).toArray = ls at hl ⊢
  have hl : lv_has ls 4 [(0, .int k), (1, .int w), (2, .int v), (3, .int o)] := hl
  refine lv_iload_n hx hb dX0_valueFits_0 rfl (lv_at hl 1 rfl) ?_
  refine lv_iload_n hx hb dX0_valueFits_1 rfl (lv_at hl 2 rfl) ?_
  refine q_cs [.int w, .int v] (rest := []) ⟨hx, hb, hml, hown, hts⟩ (mX0_isNone l w v) gX0_valueFits_X0_isNone rfl rfl rfl hdX0_isNone ⟨Nat.le_of_ble_eq_true rfl, Nat.le_of_ble_eq_true rfl⟩ rfl hl.1 rfl (Nat.le_of_ble_eq_true rfl) dX0_valueFits_2 ⟨Nat.zero_le _, Nat.zero_le _⟩ ?_
  refine lv_if_ne (tgt := 16) hx hb dX0_valueFits_5 (by decide) (fun c_1 => ?_) (fun c_1 => ?_)
  · skip
    have c_1 : (decide (v = non w)) = true := b2i_n c_1
    refine lv_iload_n hx hb dX0_valueFits_16 rfl (lv_at hl 0 rfl) ?_
    refine lv_iconst (v := 5) hx hb dX0_valueFits_17 (by decide) ?_
    refine lv_icmp_ne (tgt := 25) hx hb dX0_valueFits_18 (by decide) (fun c_2 => ?_) (fun c_2 => ?_)
    · skip
      refine lv_iconst (v := 0) hx hb dX0_valueFits_25 (by decide) ?_
      exact q_rb hx hb hr hlk (by simp_all [fitv, b2i]) dX0_valueFits_26
    · skip
      refine lv_iconst (v := 1) hx hb dX0_valueFits_21 (by decide) ?_
      refine lv_goto (tgt := 26) hx hb dX0_valueFits_22 (by decide) ?_
      exact q_rb hx hb hr hlk (by simp_all [fitv, b2i]) dX0_valueFits_26
  · skip
    have c_1 : (decide (v = non w)) = false := b2i_0 c_1
    refine lv_iload_n hx hb dX0_valueFits_8 rfl (lv_at hl 1 rfl) ?_
    refine lv_iload_n hx hb dX0_valueFits_9 rfl (lv_at hl 3 rfl) ?_
    refine q_cs [.int w, .int o] (rest := []) ⟨hx, hb, hml, hown, hts⟩ (mX0_isNone l w o) gX0_valueFits_X0_isNone rfl rfl rfl hdX0_isNone ⟨Nat.le_of_ble_eq_true rfl, Nat.le_of_ble_eq_true rfl⟩ rfl hl.1 rfl (Nat.le_of_ble_eq_true rfl) dX0_valueFits_10 ⟨Nat.zero_le _, Nat.zero_le _⟩ ?_
    refine lv_if_eq (tgt := 27) hx hb dX0_valueFits_13 (by decide) (fun c_3 => ?_) (fun c_3 => ?_)
    · skip
      have c_3 : (decide (o = non w)) = false := b2i_0 c_3
      refine lv_iload_n hx hb dX0_valueFits_27 rfl (lv_at hl 0 rfl) ?_
      refine lv_iload_n hx hb dX0_valueFits_28 rfl (lv_at hl 2 rfl) ?_
      refine lv_iload_n hx hb dX0_valueFits_29 rfl (lv_at hl 3 rfl) ?_
      refine q_cs [.int k, .int v, .int o] (rest := []) ⟨hx, hb, hml, hown, hts⟩ (mX0_numberFits l k v o) gX0_valueFits_X0_numberFits rfl rfl rfl hdX0_numberFits ⟨Nat.le_of_ble_eq_true rfl, Nat.le_of_ble_eq_true rfl⟩ rfl hl.1 rfl (Nat.le_of_ble_eq_true rfl) dX0_valueFits_30 ⟨Nat.zero_le _, Nat.zero_le _⟩ ?_
      exact q_rb hx hb hr hlk (by simp_all [fitv, b2i]) dX0_valueFits_33
    · skip
      have c_3 : (decide (o = non w)) = true := b2i_n c_3
      refine lv_iload_n hx hb dX0_valueFits_16 rfl (lv_at hl 0 rfl) ?_
      refine lv_iconst (v := 5) hx hb dX0_valueFits_17 (by decide) ?_
      refine lv_icmp_ne (tgt := 25) hx hb dX0_valueFits_18 (by decide) (fun c_4 => ?_) (fun c_4 => ?_)
      · skip
        refine lv_iconst (v := 0) hx hb dX0_valueFits_25 (by decide) ?_
        exact q_rb hx hb hr hlk (by simp_all [fitv, b2i]) dX0_valueFits_26
      · skip
        refine lv_iconst (v := 1) hx hb dX0_valueFits_21 (by decide) ?_
        refine lv_goto (tgt := 26) hx hb dX0_valueFits_22 (by decide) ?_
        exact q_rb hx hb hr hlk (by simp_all [fitv, b2i]) dX0_valueFits_26

theorem hdX0_isJumper : yX0_isJumper.cls = RX0 ∧ yX0_isJumper.cls ≠ "java/lang/invoke/MethodHandle" ∧ yX0_isJumper.cls ≠ "java/lang/invoke/VarHandle" ∧ (parseMethodDescriptor yX0_isJumper.desc).map (fun d => d.parameters.length) = some 1 := by decide +kernel
set_option maxHeartbeats 4000000 in
set_option maxRecDepth 100000 in
theorem mX0_isJumper (l : Launch) (dC : Nat → ClassId) (dI : Nat → Nat → Nat) (h qb qj qm qw qr : Nat) (cA : ClassId) (n : Nat) (rec lim : Int32) (fb fj fm fw fr : Nat → Int32) (x : Int32) : Met l yX0_isJumper wsX0_isJumper ({ frames := 0, cells := 0, slots := 0, locals := 0 }) (va_Pc [.ref h, .int x] (fun U => va_P (dC, dI) vwCl (wX h qb qj qm qw qr cA (nI n) rec lim fb fj fm fw fr) U.heap ∧ va_K (dC, dI) vwCl [(cA, .int)] U)) (QcRead (b2i (jmp (nI n) x))) 0 0 (fun _ => False) := by
  refine Met.ofW (cc := cX0_isJumper) (maxL := 2) (ret := (some .boolean)) (by decide) rfl ?_
  intro p e s m args below meth c s₁ B hml hv
  obtain ⟨rfl, hP, hK⟩ := hv
  have hx := B.exec
  have hb := B.bytes
  have hr := B.returns
  have hts := atoms_spec (ws := wsX0_isJumper) B.pre
  have hown : s.vm.findClass RX0 = some m.cls := findClass_of_methodNamed B.named
  have hlk := B.notSynchronized
  have hin : ∀ w ∈ wsX00, w ∈ wsX0_isJumper := fun w h => List.mem_cons_of_mem _ (List.mem_append_right _ h)
  have hf_7 := hts (.fieldLink RX0 7 "JumpBoard" "jumpers" "I") (by decide +kernel)
  have hl := lv_entry ([.ref h, .int x]) (n := 2) (Nat.le_of_ble_eq_true rfl)
  rw [lg_entry_eq]
  generalize (lg_sl ([.ref h, .int x]) ++ List.replicate (2 - (lg_sl ([.ref h, .int x])).length) Slot.unset).toArray = ls at hl ⊢
  have hl : lv_has ls 2 [(0, .ref h), (1, .int x)] := hl
  refine lv_iload_n hx hb dX0_isJumper_0 rfl (lv_at hl 1 rfl) ?_
  refine lv_if_lt (tgt := 16) hx hb dX0_isJumper_1 (by decide) (fun c_1 => ?_) (fun c_1 => ?_)
  · skip
    refine lv_iconst (v := 0) hx hb dX0_isJumper_16 (by decide) ?_
    exact q_rb hx hb hr hlk (by simp [jmp, b2i, c_1]) dX0_isJumper_17
  · skip
    refine lv_iload_n hx hb dX0_isJumper_4 rfl (lv_at hl 1 rfl) ?_
    refine lv_aload_n hx hb dX0_isJumper_5 rfl (lv_at hl 0 rfl) ?_
    refine va_get (D := (dC, dI)) (ci := 0) (v := .int (nI n)) (C := RX0) (T := TX0) (N := 8) hx hb hts hin hown hK hP 0 rfl rfl 0 (by decide) hf_7 (fun _ h9 => h9) rfl dX0_isJumper_6 ?_
    refine lv_icmp_ge (tgt := 16) hx hb dX0_isJumper_9 (by decide) (fun c_2 => ?_) (fun c_2 => ?_)
    · skip
      refine lv_iconst (v := 0) hx hb dX0_isJumper_16 (by decide) ?_
      exact q_rb hx hb hr hlk (by simp [jmp, b2i, c_1, c_2]) dX0_isJumper_17
    · skip
      refine lv_iconst (v := 1) hx hb dX0_isJumper_12 (by decide) ?_
      refine lv_goto (tgt := 17) hx hb dX0_isJumper_13 (by decide) ?_
      exact q_rb hx hb hr hlk (by simp [jmp, b2i, c_1, c_2]) dX0_isJumper_17

theorem hdX0_isQuestion : yX0_isQuestion.cls = RX0 ∧ yX0_isQuestion.cls ≠ "java/lang/invoke/MethodHandle" ∧ yX0_isQuestion.cls ≠ "java/lang/invoke/VarHandle" ∧ (parseMethodDescriptor yX0_isQuestion.desc).map (fun d => d.parameters.length) = some 4 := by decide +kernel
set_option maxHeartbeats 4000000 in
set_option maxRecDepth 100000 in
theorem mX0_isQuestion (l : Launch) (dC : Nat → ClassId) (dI : Nat → Nat → Nat) (h qb qj qm qw qr : Nat) (cA : ClassId) (n : Nat) (rec lim : Int32) (fb fj fm fw fr : Nat → Int32) (k : Int32) (w : Int32) (x : Int32) (v : Int32) : Met l yX0_isQuestion wsX0_isQuestion ({ frames := 1, cells := 0, slots := 0, locals := 21 }) (va_Pc [.ref h, .int k, .int w, .int x, .int v] (fun U => va_P (dC, dI) vwCl (wX h qb qj qm qw qr cA (nI n) rec lim fb fj fm fw fr) U.heap ∧ va_K (dC, dI) vwCl [(cA, .int)] U)) (QcRead (b2i (qst (nI n) k w x v))) 0 0 (fun _ => False) := by
  refine Met.ofW (cc := cX0_isQuestion) (maxL := 5) (ret := (some .boolean)) (by decide) rfl ?_
  intro p e s m args below meth c s₁ B hml hv
  obtain ⟨rfl, hP, hK⟩ := hv
  have hx := B.exec
  have hb := B.bytes
  have hr := B.returns
  have hts := atoms_spec (ws := wsX0_isQuestion) B.pre
  have hown : s.vm.findClass RX0 = some m.cls := findClass_of_methodNamed B.named
  have hlk := B.notSynchronized
  have hl := lv_entry ([.ref h, .int k, .int w, .int x, .int v]) (n := 5) (Nat.le_of_ble_eq_true rfl)
  rw [lg_entry_eq]
  generalize (lg_sl ([.ref h, .int k, .int w, .int x, .int v]) ++ List.replicate (5 - (lg_sl ([.ref h, .int k, .int w, .int x, .int v])).length) Slot.unset).toArray = ls at hl ⊢
  have hl : lv_has ls 5 [(0, .ref h), (1, .int k), (2, .int w), (3, .int x), (4, .int v)] := hl
  refine lv_iload_n hx hb dX0_isQuestion_0 rfl (lv_at hl 1 rfl) ?_
  refine q_cs [.int k] (rest := []) ⟨hx, hb, hml, hown, hts⟩ (mX0_isHow l k) gX0_isQuestion_X0_isHow rfl rfl rfl hdX0_isHow ⟨Nat.le_of_ble_eq_true rfl, Nat.le_of_ble_eq_true rfl⟩ rfl hl.1 rfl (Nat.le_of_ble_eq_true rfl) dX0_isQuestion_1 ⟨Nat.zero_le _, Nat.zero_le _⟩ ?_
  refine lv_if_eq (tgt := 49) hx hb dX0_isQuestion_4 (by decide) (fun c_1 => ?_) (fun c_1 => ?_)
  · skip
    have c_1 : (hwo k) = false := b2i_0 c_1
    refine lv_iconst (v := 0) hx hb dX0_isQuestion_49 (by decide) ?_
    exact q_rb hx hb hr hlk (by simp_all [qst, cde, b2i]) dX0_isQuestion_50
  · skip
    have c_1 : (hwo k) = true := b2i_n c_1
    refine lv_iload_n hx hb dX0_isQuestion_7 rfl (lv_at hl 2 rfl) ?_
    refine q_cs [.int w] (rest := []) ⟨hx, hb, hml, hown, hts⟩ (mX0_isWhat l w) gX0_isQuestion_X0_isWhat rfl rfl rfl hdX0_isWhat ⟨Nat.le_of_ble_eq_true rfl, Nat.le_of_ble_eq_true rfl⟩ rfl hl.1 rfl (Nat.le_of_ble_eq_true rfl) dX0_isQuestion_8 ⟨Nat.zero_le _, Nat.zero_le _⟩ ?_
    refine lv_if_eq (tgt := 49) hx hb dX0_isQuestion_11 (by decide) (fun c_2 => ?_) (fun c_2 => ?_)
    · skip
      have c_2 : (wht w) = false := b2i_0 c_2
      refine lv_iconst (v := 0) hx hb dX0_isQuestion_49 (by decide) ?_
      exact q_rb hx hb hr hlk (by simp_all [qst, cde, b2i]) dX0_isQuestion_50
    · skip
      have c_2 : (wht w) = true := b2i_n c_2
      refine lv_aload_n hx hb dX0_isQuestion_14 rfl (lv_at hl 0 rfl) ?_
      refine lv_iload_n hx hb dX0_isQuestion_15 rfl (lv_at hl 3 rfl) ?_
      refine q_cv [.int x] (rest := []) ⟨hx, hb, hml, hown, hts⟩ (mX0_isJumper l dC dI h qb qj qm qw qr cA n rec lim fb fj fm fw fr x) gX0_isQuestion_X0_isJumper rfl rfl rfl hdX0_isJumper ⟨Nat.le_of_ble_eq_true rfl, Nat.le_of_ble_eq_true rfl⟩ rfl hK hP rfl rfl hl.1 rfl (Nat.le_of_ble_eq_true rfl) dX0_isQuestion_16 ⟨Nat.zero_le _, Nat.zero_le _⟩ ?_
      refine lv_if_eq (tgt := 49) hx hb dX0_isQuestion_19 (by decide) (fun c_3 => ?_) (fun c_3 => ?_)
      · skip
        have c_3 : (jmp (nI n) x) = false := b2i_0 c_3
        refine lv_iconst (v := 0) hx hb dX0_isQuestion_49 (by decide) ?_
        exact q_rb hx hb hr hlk (by simp_all [qst, cde, b2i]) dX0_isQuestion_50
      · skip
        have c_3 : (jmp (nI n) x) = true := b2i_n c_3
        refine lv_iload_n hx hb dX0_isQuestion_22 rfl (lv_at hl 2 rfl) ?_
        refine lv_if_ne (tgt := 37) hx hb dX0_isQuestion_23 (by decide) (fun c_4 => ?_) (fun c_4 => ?_)
        · skip
          refine lv_iload hx hb dX0_isQuestion_37 (lv_at hl 4 rfl) ?_
          refine q_cs [.int v] (rest := []) ⟨hx, hb, hml, hown, hts⟩ (mX0_isWind l v) gX0_isQuestion_X0_isWind rfl rfl rfl hdX0_isWind ⟨Nat.le_of_ble_eq_true rfl, Nat.le_of_ble_eq_true rfl⟩ rfl hl.1 rfl (Nat.le_of_ble_eq_true rfl) dX0_isQuestion_39 ⟨Nat.zero_le _, Nat.zero_le _⟩ ?_
          refine lv_if_eq (tgt := 49) hx hb dX0_isQuestion_42 (by decide) (fun c_5 => ?_) (fun c_5 => ?_)
          · skip
            have c_5 : (wnd v) = false := b2i_0 c_5
            refine lv_iconst (v := 0) hx hb dX0_isQuestion_49 (by decide) ?_
            exact q_rb hx hb hr hlk (by simp_all [qst, cde, b2i]) dX0_isQuestion_50
          · skip
            have c_5 : (wnd v) = true := b2i_n c_5
            refine lv_iconst (v := 1) hx hb dX0_isQuestion_45 (by decide) ?_
            refine lv_goto (tgt := 50) hx hb dX0_isQuestion_46 (by decide) ?_
            exact q_rb hx hb hr hlk (by simp_all [qst, cde, b2i]) dX0_isQuestion_50
        · skip
          refine lv_iload hx hb dX0_isQuestion_26 (lv_at hl 4 rfl) ?_
          refine q_cs [.int v] (rest := []) ⟨hx, hb, hml, hown, hts⟩ (mX0_isMark l v) gX0_isQuestion_X0_isMark rfl rfl rfl hdX0_isMark ⟨Nat.le_of_ble_eq_true rfl, Nat.le_of_ble_eq_true rfl⟩ rfl hl.1 rfl (Nat.le_of_ble_eq_true rfl) dX0_isQuestion_28 ⟨Nat.zero_le _, Nat.zero_le _⟩ ?_
          refine lv_if_eq (tgt := 49) hx hb dX0_isQuestion_31 (by decide) (fun c_6 => ?_) (fun c_6 => ?_)
          · skip
            have c_6 : (mrk v) = false := b2i_0 c_6
            refine lv_iconst (v := 0) hx hb dX0_isQuestion_49 (by decide) ?_
            exact q_rb hx hb hr hlk (by simp_all [qst, cde, b2i]) dX0_isQuestion_50
          · skip
            have c_6 : (mrk v) = true := b2i_n c_6
            refine lv_goto (tgt := 45) hx hb dX0_isQuestion_34 (by decide) ?_
            refine lv_iconst (v := 1) hx hb dX0_isQuestion_45 (by decide) ?_
            refine lv_goto (tgt := 50) hx hb dX0_isQuestion_46 (by decide) ?_
            exact q_rb hx hb hr hlk (by simp_all [qst, cde, b2i]) dX0_isQuestion_50

theorem hdX0_isBibTaken : yX0_isBibTaken.cls = RX0 ∧ yX0_isBibTaken.cls ≠ "java/lang/invoke/MethodHandle" ∧ yX0_isBibTaken.cls ≠ "java/lang/invoke/VarHandle" ∧ (parseMethodDescriptor yX0_isBibTaken.desc).map (fun d => d.parameters.length) = some 1 := by decide +kernel
set_option maxHeartbeats 4000000 in
set_option maxRecDepth 100000 in
theorem mX0_isBibTaken (l : Launch) (dC : Nat → ClassId) (dI : Nat → Nat → Nat) (h qb qj qm qw qr : Nat) (cA : ClassId) (n : Nat) (rec lim : Int32) (fb fj fm fw fr : Nat → Int32) (b : Int32) (hn : n ≤ 8) : Met l yX0_isBibTaken wsX0_isBibTaken ({ frames := 0, cells := 0, slots := 0, locals := 0 }) (va_Pc [.ref h, .int b] (fun U => va_P (dC, dI) vwCl (wX h qb qj qm qw qr cA (nI n) rec lim fb fj fm fw fr) U.heap ∧ va_K (dC, dI) vwCl [(cA, .int)] U)) (QcRead (b2i (anyB (fun i => decide (fb i = b)) n))) 0 0 (fun _ => False) := by
  refine Met.ofW (cc := cX0_isBibTaken) (maxL := 3) (ret := (some .boolean)) (by decide) rfl ?_
  intro p e s m args below meth c s₁ B hml hv
  obtain ⟨rfl, hP, hK⟩ := hv
  have hx := B.exec
  have hb := B.bytes
  have hr := B.returns
  have hts := atoms_spec (ws := wsX0_isBibTaken) B.pre
  have hown : s.vm.findClass RX0 = some m.cls := findClass_of_methodNamed B.named
  have hlk := B.notSynchronized
  have hin : ∀ w ∈ wsX00, w ∈ wsX0_isBibTaken := fun w h => List.mem_cons_of_mem _ (List.mem_append_right _ h)
  have hf_7 := hts (.fieldLink RX0 7 "JumpBoard" "jumpers" "I") (by decide +kernel)
  have hf_19 := hts (.fieldLink RX0 19 "JumpBoard" "bibs" "[I") (by decide +kernel)
  have hl := lv_entry ([.ref h, .int b]) (n := 3) (Nat.le_of_ble_eq_true rfl)
  rw [lg_entry_eq]
  generalize (lg_sl ([.ref h, .int b]) ++ List.replicate (3 - (lg_sl ([.ref h, .int b])).length) Slot.unset).toArray = ls at hl ⊢
  have hl : lv_has ls 3 [(0, .ref h), (1, .int b)] := hl
  refine lv_iconst (v := 0) hx hb dX0_isBibTaken_0 (by decide) ?_
  refine lv_istore_n (lv' := [(2, .int 0), (0, .ref h), (1, .int b)]) hx hb dX0_isBibTaken_1 rfl hl (by decide) rfl (fun ls hl => ?_)
  refine q_lp (head := 2) (n) (fun i => [(0, .ref h), (1, .int b), (2, .int (nI i))]) (fun i => anyB (fun i => decide (fb i = b)) i = false) (0) (by omega) (rfl) (q_hl (lv_sub (l' := [(0, .ref h), (1, .int b), (2, .int 0)]) hl [1, 2, 0] rfl) (q_ck (q_ck (q_ce (by rfl) (rfl))))) ?_ ?_
  · intro i hi_i hI_i ih_i ls hl
    have hl : lv_has ls 3 [(0, .ref h), (1, .int b), (2, .int (nI i))] := hl
    refine lv_iload_n hx hb dX0_isBibTaken_2 rfl (lv_at hl 2 rfl) ?_
    refine lv_aload_n hx hb dX0_isBibTaken_3 rfl (lv_at hl 0 rfl) ?_
    refine va_get (D := (dC, dI)) (ci := 0) (v := .int (nI n)) (C := RX0) (T := TX0) (N := 8) hx hb hts hin hown hK hP 0 rfl rfl 0 (by decide) hf_7 (fun _ h9 => h9) rfl dX0_isBibTaken_4 ?_
    refine lv_icmp_ge (tgt := 28) hx hb dX0_isBibTaken_7 (by decide) (fun c_1 => absurd c_1 (nI_ge hi_i (by omega))) (fun c_1 => ?_)
    refine lv_aload_n hx hb dX0_isBibTaken_10 rfl (lv_at hl 0 rfl) ?_
    refine va_get (D := (dC, dI)) (ci := 0) (v := .ref qb) (C := RX0) (T := TX0) (N := 8) hx hb hts hin hown hK hP 0 rfl rfl 3 (by decide) hf_19 (fun _ h9 => h9) rfl dX0_isBibTaken_11 ?_
    refine lv_iload_n hx hb dX0_isBibTaken_14 rfl (lv_at hl 2 rfl) ?_
    refine q_ald (n := 8) (k := i) hx hb hK hP 1 0 rfl rfl (by omega) (by decide) dX0_isBibTaken_15 ?_
    refine lv_iload_n hx hb dX0_isBibTaken_16 rfl (lv_at hl 1 rfl) ?_
    refine lv_icmp_ne (tgt := 22) hx hb dX0_isBibTaken_17 (by decide) (fun c_2 => ?_) (fun c_2 => ?_)
    · skip
      refine lv_iinc (v := (nI (i + 1))) (lv' := [(2, .int (nI (i + 1))), (0, .ref h), (1, .int b)]) hx hb dX0_isBibTaken_22 hl (k := 2) rfl (by exact nI_1 _) (by decide) rfl (fun ls hl => ?_)
      refine lv_goto (tgt := 2) hx hb dX0_isBibTaken_25 (by decide) ?_
      exact ih_i (by simp [anyB, hI_i, c_2]) ls (lv_sub (l' := [(0, .ref h), (1, .int b), (2, .int (nI (i + 1)))]) hl [1, 2, 0] rfl)
    · skip
      refine lv_iconst (v := 1) hx hb dX0_isBibTaken_20 (by decide) ?_
      exact q_rb hx hb hr hlk (by simp [b2i, anyB_of (q := fun i => decide (fb i = b)) hi_i (by simp [c_2])]) dX0_isBibTaken_21
  · intro hI_i ls hl
    have hl : lv_has ls 3 [(0, .ref h), (1, .int b), (2, .int (nI n))] := hl
    refine lv_iload_n hx hb dX0_isBibTaken_2 rfl (lv_at hl 2 rfl) ?_
    refine lv_aload_n hx hb dX0_isBibTaken_3 rfl (lv_at hl 0 rfl) ?_
    refine va_get (D := (dC, dI)) (ci := 0) (v := .int (nI n)) (C := RX0) (T := TX0) (N := 8) hx hb hts hin hown hK hP 0 rfl rfl 0 (by decide) hf_7 (fun _ h9 => h9) rfl dX0_isBibTaken_4 ?_
    refine lv_icmp_ge (tgt := 28) hx hb dX0_isBibTaken_7 (by decide) (fun c_3 => ?_) (fun c_3 => absurd (nI_le (Nat.le_refl n) (by omega)) c_3)
    refine lv_iconst (v := 0) hx hb dX0_isBibTaken_28 (by decide) ?_
    exact q_rb hx hb hr hlk (by simp [b2i, hI_i]) dX0_isBibTaken_29

theorem hdX0_valueOf : yX0_valueOf.cls = RX0 ∧ yX0_valueOf.cls ≠ "java/lang/invoke/MethodHandle" ∧ yX0_valueOf.cls ≠ "java/lang/invoke/VarHandle" ∧ (parseMethodDescriptor yX0_valueOf.desc).map (fun d => d.parameters.length) = some 3 := by decide +kernel
set_option maxHeartbeats 4000000 in
set_option maxRecDepth 100000 in
theorem mX0_valueOf (l : Launch) (dC : Nat → ClassId) (dI : Nat → Nat → Nat) (h qb qj qm qw qr : Nat) (cA : ClassId) (n : Nat) (rec lim : Int32) (fb fj fm fw fr : Nat → Int32) (w : Int32) (j : Nat) (r : Nat) (hj : j < 8) (hr6 : r < 6) : Met l yX0_valueOf wsX0_valueOf ({ frames := 1, cells := 0, slots := 0, locals := 21 }) (va_Pc [.ref h, .int w, .int (nI j), .int (nI r)] (fun U => va_P (dC, dI) vwCl (wX h qb qj qm qw qr cA (nI n) rec lim fb fj fm fw fr) U.heap ∧ va_K (dC, dI) vwCl [(cA, .int)] U)) (QcRead (vlu (mk fm) (mk fw) w j r)) 0 0 (fun _ => False) := by
  refine Met.ofW (cc := cX0_valueOf) (maxL := 4) (ret := (some .int)) (by decide) rfl ?_
  intro p e s m args below meth c s₁ B hml hv
  obtain ⟨rfl, hP, hK⟩ := hv
  have hx := B.exec
  have hb := B.bytes
  have hr := B.returns
  have hts := atoms_spec (ws := wsX0_valueOf) B.pre
  have hown : s.vm.findClass RX0 = some m.cls := findClass_of_methodNamed B.named
  have hlk := B.notSynchronized
  have hin : ∀ w ∈ wsX00, w ∈ wsX0_valueOf := fun w h => List.mem_cons_of_mem _ (List.mem_append_right _ h)
  have hf_26 := hts (.fieldLink RX0 26 "JumpBoard" "marks" "[I") (by decide +kernel)
  have hf_29 := hts (.fieldLink RX0 29 "JumpBoard" "winds" "[I") (by decide +kernel)
  have hl := lv_entry ([.ref h, .int w, .int (nI j), .int (nI r)]) (n := 4) (Nat.le_of_ble_eq_true rfl)
  rw [lg_entry_eq]
  generalize (lg_sl ([.ref h, .int w, .int (nI j), .int (nI r)]) ++ List.replicate (4 - (lg_sl ([.ref h, .int w, .int (nI j), .int (nI r)])).length) Slot.unset).toArray = ls at hl ⊢
  have hl : lv_has ls 4 [(0, .ref h), (1, .int w), (2, .int (nI j)), (3, .int (nI r))] := hl
  refine lv_iload_n hx hb dX0_valueOf_0 rfl (lv_at hl 1 rfl) ?_
  refine lv_if_ne (tgt := 17) hx hb dX0_valueOf_1 (by decide) (fun c_1 => ?_) (fun c_1 => ?_)
  · skip
    refine lv_aload_n hx hb dX0_valueOf_17 rfl (lv_at hl 0 rfl) ?_
    refine va_get (D := (dC, dI)) (ci := 0) (v := .ref qw) (C := RX0) (T := TX0) (N := 8) hx hb hts hin hown hK hP 0 rfl rfl 6 (by decide) hf_29 (fun _ h9 => h9) rfl dX0_valueOf_18 ?_
    refine lv_iload_n hx hb dX0_valueOf_21 rfl (lv_at hl 2 rfl) ?_
    refine lv_iload_n hx hb dX0_valueOf_22 rfl (lv_at hl 3 rfl) ?_
    refine q_cs [.int (nI j), .int (nI r)] (rest := [.ref qw]) ⟨hx, hb, hml, hown, hts⟩ (mX0_at l j r) gX0_valueOf_X0_at rfl rfl rfl hdX0_at ⟨Nat.le_of_ble_eq_true rfl, Nat.le_of_ble_eq_true rfl⟩ rfl hl.1 rfl (Nat.le_of_ble_eq_true rfl) dX0_valueOf_23 ⟨Nat.zero_le _, Nat.zero_le _⟩ ?_
    refine q_ald (n := 48) (k := (6 * j + r)) hx hb hK hP 4 0 rfl rfl (by omega) (by decide) dX0_valueOf_26 ?_
    exact q_ri hx hb hr hlk (by simp [vlu, mk, c_1]) dX0_valueOf_27
  · skip
    refine lv_aload_n hx hb dX0_valueOf_4 rfl (lv_at hl 0 rfl) ?_
    refine va_get (D := (dC, dI)) (ci := 0) (v := .ref qm) (C := RX0) (T := TX0) (N := 8) hx hb hts hin hown hK hP 0 rfl rfl 5 (by decide) hf_26 (fun _ h9 => h9) rfl dX0_valueOf_5 ?_
    refine lv_iload_n hx hb dX0_valueOf_8 rfl (lv_at hl 2 rfl) ?_
    refine lv_iload_n hx hb dX0_valueOf_9 rfl (lv_at hl 3 rfl) ?_
    refine q_cs [.int (nI j), .int (nI r)] (rest := [.ref qm]) ⟨hx, hb, hml, hown, hts⟩ (mX0_at l j r) gX0_valueOf_X0_at rfl rfl rfl hdX0_at ⟨Nat.le_of_ble_eq_true rfl, Nat.le_of_ble_eq_true rfl⟩ rfl hl.1 rfl (Nat.le_of_ble_eq_true rfl) dX0_valueOf_10 ⟨Nat.zero_le _, Nat.zero_le _⟩ ?_
    refine q_ald (n := 48) (k := (6 * j + r)) hx hb hK hP 3 0 rfl rfl (by omega) (by decide) dX0_valueOf_13 ?_
    refine lv_goto (tgt := 27) hx hb dX0_valueOf_14 (by decide) ?_
    exact q_ri hx hb hr hlk (by simp [vlu, mk, c_1]) dX0_valueOf_27

theorem hdX0_isLegal : yX0_isLegal.cls = RX0 ∧ yX0_isLegal.cls ≠ "java/lang/invoke/MethodHandle" ∧ yX0_isLegal.cls ≠ "java/lang/invoke/VarHandle" ∧ (parseMethodDescriptor yX0_isLegal.desc).map (fun d => d.parameters.length) = some 2 := by decide +kernel
set_option maxHeartbeats 4000000 in
set_option maxRecDepth 100000 in
theorem mX0_isLegal (l : Launch) (dC : Nat → ClassId) (dI : Nat → Nat → Nat) (h qb qj qm qw qr : Nat) (cA : ClassId) (n : Nat) (rec lim : Int32) (fb fj fm fw fr : Nat → Int32) (j : Nat) (r : Nat) (hj : j < 8) (hr6 : r < 6) : Met l yX0_isLegal wsX0_isLegal ({ frames := 2, cells := 0, slots := 0, locals := 45 }) (va_Pc [.ref h, .int (nI j), .int (nI r)] (fun U => va_P (dC, dI) vwCl (wX h qb qj qm qw qr cA (nI n) rec lim fb fj fm fw fr) U.heap ∧ va_K (dC, dI) vwCl [(cA, .int)] U)) (QcRead (b2i (lgl (mk fm) (mk fw) lim j r))) 0 0 (fun _ => False) := by
  refine Met.ofW (cc := cX0_isLegal) (maxL := 3) (ret := (some .boolean)) (by decide) rfl ?_
  intro p e s m args below meth c s₁ B hml hv
  obtain ⟨rfl, hP, hK⟩ := hv
  have hx := B.exec
  have hb := B.bytes
  have hr := B.returns
  have hts := atoms_spec (ws := wsX0_isLegal) B.pre
  have hown : s.vm.findClass RX0 = some m.cls := findClass_of_methodNamed B.named
  have hlk := B.notSynchronized
  have hin : ∀ w ∈ wsX00, w ∈ wsX0_isLegal := fun w h => List.mem_cons_of_mem _ (List.mem_append_right _ h)
  have hf_16 := hts (.fieldLink RX0 16 "JumpBoard" "limitWind" "I") (by decide +kernel)
  have hf_26 := hts (.fieldLink RX0 26 "JumpBoard" "marks" "[I") (by decide +kernel)
  have hf_29 := hts (.fieldLink RX0 29 "JumpBoard" "winds" "[I") (by decide +kernel)
  have hl := lv_entry ([.ref h, .int (nI j), .int (nI r)]) (n := 3) (Nat.le_of_ble_eq_true rfl)
  rw [lg_entry_eq]
  generalize (lg_sl ([.ref h, .int (nI j), .int (nI r)]) ++ List.replicate (3 - (lg_sl ([.ref h, .int (nI j), .int (nI r)])).length) Slot.unset).toArray = ls at hl ⊢
  have hl : lv_has ls 3 [(0, .ref h), (1, .int (nI j)), (2, .int (nI r))] := hl
  refine lv_aload_n hx hb dX0_isLegal_0 rfl (lv_at hl 0 rfl) ?_
  refine va_get (D := (dC, dI)) (ci := 0) (v := .ref qm) (C := RX0) (T := TX0) (N := 8) hx hb hts hin hown hK hP 0 rfl rfl 5 (by decide) hf_26 (fun _ h9 => h9) rfl dX0_isLegal_1 ?_
  refine lv_iload_n hx hb dX0_isLegal_4 rfl (lv_at hl 1 rfl) ?_
  refine lv_iload_n hx hb dX0_isLegal_5 rfl (lv_at hl 2 rfl) ?_
  refine q_cs [.int (nI j), .int (nI r)] (rest := [.ref qm]) ⟨hx, hb, hml, hown, hts⟩ (mX0_at l j r) gX0_isLegal_X0_at rfl rfl rfl hdX0_at ⟨Nat.le_of_ble_eq_true rfl, Nat.le_of_ble_eq_true rfl⟩ rfl hl.1 rfl (Nat.le_of_ble_eq_true rfl) dX0_isLegal_6 ⟨Nat.zero_le _, Nat.zero_le _⟩ ?_
  refine q_ald (n := 48) (k := (6 * j + r)) hx hb hK hP 3 0 rfl rfl (by omega) (by decide) dX0_isLegal_9 ?_
  refine lv_if_eq (tgt := 39) hx hb dX0_isLegal_10 (by decide) (fun c_1 => ?_) (fun c_1 => ?_)
  · skip
    refine lv_iconst (v := 0) hx hb dX0_isLegal_39 (by decide) ?_
    exact q_rb hx hb hr hlk (by simp_all [lgl, mk, b2i]) dX0_isLegal_40
  · skip
    refine lv_iconst (v := 2) hx hb dX0_isLegal_13 (by decide) ?_
    refine lv_iconst (v := 1) hx hb dX0_isLegal_14 (by decide) ?_
    refine lv_aload_n hx hb dX0_isLegal_15 rfl (lv_at hl 0 rfl) ?_
    refine va_get (D := (dC, dI)) (ci := 0) (v := .ref qw) (C := RX0) (T := TX0) (N := 8) hx hb hts hin hown hK hP 0 rfl rfl 6 (by decide) hf_29 (fun _ h9 => h9) rfl dX0_isLegal_16 ?_
    refine lv_iload_n hx hb dX0_isLegal_19 rfl (lv_at hl 1 rfl) ?_
    refine lv_iload_n hx hb dX0_isLegal_20 rfl (lv_at hl 2 rfl) ?_
    refine q_cs [.int (nI j), .int (nI r)] (rest := [.ref qw, .int 1, .int 2]) ⟨hx, hb, hml, hown, hts⟩ (mX0_at l j r) gX0_isLegal_X0_at rfl rfl rfl hdX0_at ⟨Nat.le_of_ble_eq_true rfl, Nat.le_of_ble_eq_true rfl⟩ rfl hl.1 rfl (Nat.le_of_ble_eq_true rfl) dX0_isLegal_21 ⟨Nat.zero_le _, Nat.zero_le _⟩ ?_
    refine q_ald (n := 48) (k := (6 * j + r)) hx hb hK hP 4 0 rfl rfl (by omega) (by decide) dX0_isLegal_24 ?_
    refine lv_aload_n hx hb dX0_isLegal_25 rfl (lv_at hl 0 rfl) ?_
    refine va_get (D := (dC, dI)) (ci := 0) (v := .int lim) (C := RX0) (T := TX0) (N := 8) hx hb hts hin hown hK hP 0 rfl rfl 2 (by decide) hf_16 (fun _ h9 => h9) rfl dX0_isLegal_26 ?_
    refine q_cs [.int 2, .int 1, .int (fw (6 * j + r)), .int lim] (rest := []) ⟨hx, hb, hml, hown, hts⟩ (mX0_valueFits l 2 1 (fw (6 * j + r)) lim) gX0_isLegal_X0_valueFits rfl rfl rfl hdX0_valueFits ⟨Nat.le_of_ble_eq_true rfl, Nat.le_of_ble_eq_true rfl⟩ rfl hl.1 rfl (Nat.le_of_ble_eq_true rfl) dX0_isLegal_29 ⟨Nat.zero_le _, Nat.zero_le _⟩ ?_
    refine lv_if_ne (tgt := 39) hx hb dX0_isLegal_32 (by decide) (fun c_2 => ?_) (fun c_2 => ?_)
    · skip
      have c_2 : (fitv 2 1 (fw (6 * j + r)) lim) = true := b2i_n c_2
      refine lv_iconst (v := 0) hx hb dX0_isLegal_39 (by decide) ?_
      exact q_rb hx hb hr hlk (by simp_all [lgl, mk, b2i]) dX0_isLegal_40
    · skip
      have c_2 : (fitv 2 1 (fw (6 * j + r)) lim) = false := b2i_0 c_2
      refine lv_iconst (v := 1) hx hb dX0_isLegal_35 (by decide) ?_
      refine lv_goto (tgt := 40) hx hb dX0_isLegal_36 (by decide) ?_
      exact q_rb hx hb hr hlk (by simp_all [lgl, mk, b2i]) dX0_isLegal_40

theorem hdX0_bestOf : yX0_bestOf.cls = RX0 ∧ yX0_bestOf.cls ≠ "java/lang/invoke/MethodHandle" ∧ yX0_bestOf.cls ≠ "java/lang/invoke/VarHandle" ∧ (parseMethodDescriptor yX0_bestOf.desc).map (fun d => d.parameters.length) = some 1 := by decide +kernel
set_option maxHeartbeats 4000000 in
set_option maxRecDepth 100000 in
theorem mX0_bestOf (l : Launch) (dC : Nat → ClassId) (dI : Nat → Nat → Nat) (h qb qj qm qw qr : Nat) (cA : ClassId) (n : Nat) (rec lim : Int32) (fb fj fm fw fr : Nat → Int32) (j : Nat) (hj : j < 8) : Met l yX0_bestOf wsX0_bestOf ({ frames := 3, cells := 0, slots := 0, locals := 67 }) (va_Pc [.ref h, .int (nI j)] (fun U => va_P (dC, dI) vwCl (wX h qb qj qm qw qr cA (nI n) rec lim fb fj fm fw fr) U.heap ∧ va_K (dC, dI) vwCl [(cA, .int)] U)) (QcRead (bstU (lgl (mk fm) (mk fw) lim j) (mk fm j) 6)) 0 0 (fun _ => False) := by
  refine Met.ofW (cc := cX0_bestOf) (maxL := 4) (ret := (some .int)) (by decide) rfl ?_
  intro p e s m args below meth c s₁ B hml hv
  obtain ⟨rfl, hP, hK⟩ := hv
  have hx := B.exec
  have hb := B.bytes
  have hr := B.returns
  have hts := atoms_spec (ws := wsX0_bestOf) B.pre
  have hown : s.vm.findClass RX0 = some m.cls := findClass_of_methodNamed B.named
  have hlk := B.notSynchronized
  have hin : ∀ w ∈ wsX00, w ∈ wsX0_bestOf := fun w h => List.mem_cons_of_mem _ (List.mem_append_right _ h)
  have hf_26 := hts (.fieldLink RX0 26 "JumpBoard" "marks" "[I") (by decide +kernel)
  have hl := lv_entry ([.ref h, .int (nI j)]) (n := 4) (Nat.le_of_ble_eq_true rfl)
  rw [lg_entry_eq]
  generalize (lg_sl ([.ref h, .int (nI j)]) ++ List.replicate (4 - (lg_sl ([.ref h, .int (nI j)])).length) Slot.unset).toArray = ls at hl ⊢
  have hl : lv_has ls 4 [(0, .ref h), (1, .int (nI j))] := hl
  refine lv_iconst (v := 0) hx hb dX0_bestOf_0 (by decide) ?_
  refine lv_istore_n (lv' := [(2, .int 0), (0, .ref h), (1, .int (nI j))]) hx hb dX0_bestOf_1 rfl hl (by decide) rfl (fun ls hl => ?_)
  refine lv_iconst (v := 0) hx hb dX0_bestOf_2 (by decide) ?_
  refine lv_istore_n (lv' := [(3, .int 0), (2, .int 0), (0, .ref h), (1, .int (nI j))]) hx hb dX0_bestOf_3 rfl hl (by decide) rfl (fun ls hl => ?_)
  refine q_lp (head := 4) (6) (fun i => [(0, .ref h), (1, .int (nI j)), (2, .int (bstU (lgl (mk fm) (mk fw) lim j) (mk fm j) i)), (3, .int (nI i))]) (fun i => True) (0) (by omega) (trivial) (q_hl (lv_sub (l' := [(0, .ref h), (1, .int (nI j)), (2, .int 0), (3, .int 0)]) hl [2, 3, 1, 0] rfl) (q_ck (q_ck (q_ce (by rfl) (q_ce (by rfl) (rfl)))))) ?_ ?_
  · intro i hi_i hI_i ih_i ls hl
    have hl : lv_has ls 4 [(0, .ref h), (1, .int (nI j)), (2, .int (bstU (lgl (mk fm) (mk fw) lim j) (mk fm j) i)), (3, .int (nI i))] := hl
    refine lv_iload_n hx hb dX0_bestOf_4 rfl (lv_at hl 3 rfl) ?_
    refine lv_bipush (v := 6) hx hb dX0_bestOf_5 (by decide) ?_
    refine lv_icmp_ge (tgt := 40) hx hb dX0_bestOf_7 (by decide) (fun c_1 => absurd c_1 (nI_ge (b := 6) hi_i (by decide))) (fun c_1 => ?_)
    refine lv_aload_n hx hb dX0_bestOf_10 rfl (lv_at hl 0 rfl) ?_
    refine lv_iload_n hx hb dX0_bestOf_11 rfl (lv_at hl 1 rfl) ?_
    refine lv_iload_n hx hb dX0_bestOf_12 rfl (lv_at hl 3 rfl) ?_
    refine q_cv [.int (nI j), .int (nI i)] (rest := []) ⟨hx, hb, hml, hown, hts⟩ (mX0_isLegal l dC dI h qb qj qm qw qr cA n rec lim fb fj fm fw fr j i (by omega) (by omega)) gX0_bestOf_X0_isLegal rfl rfl rfl hdX0_isLegal ⟨Nat.le_of_ble_eq_true rfl, Nat.le_of_ble_eq_true rfl⟩ rfl hK hP rfl rfl hl.1 rfl (Nat.le_of_ble_eq_true rfl) dX0_bestOf_13 ⟨Nat.zero_le _, Nat.zero_le _⟩ ?_
    refine lv_if_eq (tgt := 34) hx hb dX0_bestOf_16 (by decide) (fun c_2 => ?_) (fun c_2 => ?_)
    · skip
      have c_2 : (lgl (mk fm) (mk fw) lim j i) = false := b2i_0 c_2
      refine lv_iinc (v := (nI (i + 1))) (lv' := [(3, .int (nI (i + 1))), (0, .ref h), (1, .int (nI j)), (2, .int (bstU (lgl (mk fm) (mk fw) lim j) (mk fm j) i))]) hx hb dX0_bestOf_34 hl (k := 3) rfl (by exact nI_1 _) (by decide) rfl (fun ls hl => ?_)
      refine lv_goto (tgt := 4) hx hb dX0_bestOf_37 (by decide) ?_
      exact ih_i (by exact trivial) ls (q_hl (lv_sub (l' := [(0, .ref h), (1, .int (nI j)), (2, .int (bstU (lgl (mk fm) (mk fw) lim j) (mk fm j) i)), (3, .int (nI (i + 1)))]) hl [1, 2, 3, 0] rfl) (q_ck (q_ck (q_ce (by simp [bstU, mk, c_2] <;> rfl) (q_ck (rfl))))))
    · skip
      have c_2 : (lgl (mk fm) (mk fw) lim j i) = true := b2i_n c_2
      refine lv_iload_n hx hb dX0_bestOf_19 rfl (lv_at hl 2 rfl) ?_
      refine lv_aload_n hx hb dX0_bestOf_20 rfl (lv_at hl 0 rfl) ?_
      refine va_get (D := (dC, dI)) (ci := 0) (v := .ref qm) (C := RX0) (T := TX0) (N := 8) hx hb hts hin hown hK hP 0 rfl rfl 5 (by decide) hf_26 (fun _ h9 => h9) rfl dX0_bestOf_21 ?_
      refine lv_iload_n hx hb dX0_bestOf_24 rfl (lv_at hl 1 rfl) ?_
      refine lv_iload_n hx hb dX0_bestOf_25 rfl (lv_at hl 3 rfl) ?_
      refine q_cs [.int (nI j), .int (nI i)] (rest := [.ref qm, .int (bstU (lgl (mk fm) (mk fw) lim j) (mk fm j) i)]) ⟨hx, hb, hml, hown, hts⟩ (mX0_at l j i) gX0_bestOf_X0_at rfl rfl rfl hdX0_at ⟨Nat.le_of_ble_eq_true rfl, Nat.le_of_ble_eq_true rfl⟩ rfl hl.1 rfl (Nat.le_of_ble_eq_true rfl) dX0_bestOf_26 ⟨Nat.zero_le _, Nat.zero_le _⟩ ?_
      refine q_ald (n := 48) (k := (6 * j + i)) hx hb hK hP 3 0 rfl rfl (by omega) (by decide) dX0_bestOf_29 ?_
      refine va_mmax (rest := []) hx hb (hml.trans hl.1.symm) hown (hts (.methodLink RX0 72 Lib.Math.max.name) (by decide +kernel)) (hts (.static Lib.Math.max.name) (by decide +kernel)) (hts (.initialized "java/lang/Math") (by decide +kernel)) (hts (.code Lib.Math.max.name Lib.Math.max.code 2 (some .int)) (by decide +kernel)) (Nat.le_of_ble_eq_true rfl) (Nat.le_of_ble_eq_true rfl) (Nat.zero_le _) (Nat.zero_le _) dX0_bestOf_30 ?_
      refine lv_istore_n (lv' := [(2, .int (if (bstU (lgl (mk fm) (mk fw) lim j) (mk fm j) i) < (fm (6 * j + i)) then (fm (6 * j + i)) else (bstU (lgl (mk fm) (mk fw) lim j) (mk fm j) i))), (0, .ref h), (1, .int (nI j)), (3, .int (nI i))]) hx hb dX0_bestOf_33 rfl hl (by decide) rfl (fun ls hl => ?_)
      refine lv_iinc (v := (nI (i + 1))) (lv' := [(3, .int (nI (i + 1))), (2, .int (if (bstU (lgl (mk fm) (mk fw) lim j) (mk fm j) i) < (fm (6 * j + i)) then (fm (6 * j + i)) else (bstU (lgl (mk fm) (mk fw) lim j) (mk fm j) i))), (0, .ref h), (1, .int (nI j))]) hx hb dX0_bestOf_34 hl (k := 3) rfl (by exact nI_1 _) (by decide) rfl (fun ls hl => ?_)
      refine lv_goto (tgt := 4) hx hb dX0_bestOf_37 (by decide) ?_
      exact ih_i (by exact trivial) ls (q_hl (lv_sub (l' := [(0, .ref h), (1, .int (nI j)), (2, .int (if (bstU (lgl (mk fm) (mk fw) lim j) (mk fm j) i) < (fm (6 * j + i)) then (fm (6 * j + i)) else (bstU (lgl (mk fm) (mk fw) lim j) (mk fm j) i))), (3, .int (nI (i + 1)))]) hl [2, 3, 1, 0] rfl) (q_ck (q_ck (q_ce (by simp [bstU, mk, c_2] <;> rfl) (q_ck (rfl))))))
  · intro hI_i ls hl
    have hl : lv_has ls 4 [(0, .ref h), (1, .int (nI j)), (2, .int (bstU (lgl (mk fm) (mk fw) lim j) (mk fm j) 6)), (3, .int (nI 6))] := hl
    refine lv_iload_n hx hb dX0_bestOf_4 rfl (lv_at hl 3 rfl) ?_
    refine lv_bipush (v := 6) hx hb dX0_bestOf_5 (by decide) ?_
    refine lv_icmp_ge (tgt := 40) hx hb dX0_bestOf_7 (by decide) (fun c_3 => ?_) (fun c_3 => absurd (by decide) c_3)
    refine lv_iload_n hx hb dX0_bestOf_40 rfl (lv_at hl 2 rfl) ?_
    exact q_ri hx hb hr hlk (by rfl) dX0_bestOf_41

theorem hdX0_isAhead : yX0_isAhead.cls = RX0 ∧ yX0_isAhead.cls ≠ "java/lang/invoke/MethodHandle" ∧ yX0_isAhead.cls ≠ "java/lang/invoke/VarHandle" ∧ (parseMethodDescriptor yX0_isAhead.desc).map (fun d => d.parameters.length) = some 2 := by decide +kernel
set_option maxHeartbeats 4000000 in
set_option maxRecDepth 100000 in
theorem mX0_isAhead (l : Launch) (dC : Nat → ClassId) (dI : Nat → Nat → Nat) (h qb qj qm qw qr : Nat) (cA : ClassId) (n : Nat) (rec lim : Int32) (fb fj fm fw fr : Nat → Int32) (a : Nat) (b : Nat) (ha : a < 8) (hb8 : b < 8) : Met l yX0_isAhead wsX0_isAhead ({ frames := 1, cells := 0, slots := 0, locals := 21 }) (va_Pc [.ref h, .int (nI a), .int (nI b)] (fun U => va_P (dC, dI) vwCl (wX h qb qj qm qw qr cA (nI n) rec lim fb fj fm fw fr) U.heap ∧ va_K (dC, dI) vwCl [(cA, .int)] U)) (QcRead (b2i (lx6 (mk fr a) (mk fr b)))) 0 0 (fun _ => False) := by
  refine Met.ofW (cc := cX0_isAhead) (maxL := 6) (ret := (some .boolean)) (by decide) rfl ?_
  intro p e s m args below meth c s₁ B hml hv
  obtain ⟨rfl, hP, hK⟩ := hv
  have hx := B.exec
  have hb := B.bytes
  have hr := B.returns
  have hts := atoms_spec (ws := wsX0_isAhead) B.pre
  have hown : s.vm.findClass RX0 = some m.cls := findClass_of_methodNamed B.named
  have hlk := B.notSynchronized
  have hin : ∀ w ∈ wsX00, w ∈ wsX0_isAhead := fun w h => List.mem_cons_of_mem _ (List.mem_append_right _ h)
  have hf_32 := hts (.fieldLink RX0 32 "JumpBoard" "rows" "[I") (by decide +kernel)
  have hl := lv_entry ([.ref h, .int (nI a), .int (nI b)]) (n := 6) (Nat.le_of_ble_eq_true rfl)
  rw [lg_entry_eq]
  generalize (lg_sl ([.ref h, .int (nI a), .int (nI b)]) ++ List.replicate (6 - (lg_sl ([.ref h, .int (nI a), .int (nI b)])).length) Slot.unset).toArray = ls at hl ⊢
  have hl : lv_has ls 6 [(0, .ref h), (1, .int (nI a)), (2, .int (nI b))] := hl
  refine lv_iconst (v := 0) hx hb dX0_isAhead_0 (by decide) ?_
  refine lv_istore_n (lv' := [(3, .int 0), (0, .ref h), (1, .int (nI a)), (2, .int (nI b))]) hx hb dX0_isAhead_1 rfl hl (by decide) rfl (fun ls hl => ?_)
  refine q_lp (head := 2) (6) (fun i => [(0, .ref h), (1, .int (nI a)), (2, .int (nI b)), (3, .int (nI i))]) (fun i => lx6 (mk fr a) (mk fr b) = lxF (mk fr a) (mk fr b) (6 - i) i) (0) (by omega) (rfl) (q_hl (lv_sub (l' := [(0, .ref h), (1, .int (nI a)), (2, .int (nI b)), (3, .int 0)]) hl [1, 2, 3, 0] rfl) (q_ck (q_ck (q_ck (q_ce (by rfl) (rfl)))))) ?_ ?_
  · intro i hi_i hI_i ih_i ls hl
    have hl : lv_has ls 6 [(0, .ref h), (1, .int (nI a)), (2, .int (nI b)), (3, .int (nI i))] := hl
    refine lv_iload_n hx hb dX0_isAhead_2 rfl (lv_at hl 3 rfl) ?_
    refine lv_bipush (v := 6) hx hb dX0_isAhead_3 (by decide) ?_
    refine lv_icmp_ge (tgt := 58) hx hb dX0_isAhead_5 (by decide) (fun c_1 => absurd c_1 (nI_ge (b := 6) hi_i (by decide))) (fun c_1 => ?_)
    refine lv_aload_n hx hb dX0_isAhead_8 rfl (lv_at hl 0 rfl) ?_
    refine va_get (D := (dC, dI)) (ci := 0) (v := .ref qr) (C := RX0) (T := TX0) (N := 8) hx hb hts hin hown hK hP 0 rfl rfl 7 (by decide) hf_32 (fun _ h9 => h9) rfl dX0_isAhead_9 ?_
    refine lv_iload_n hx hb dX0_isAhead_12 rfl (lv_at hl 1 rfl) ?_
    refine lv_iload_n hx hb dX0_isAhead_13 rfl (lv_at hl 3 rfl) ?_
    refine q_cs [.int (nI a), .int (nI i)] (rest := [.ref qr]) ⟨hx, hb, hml, hown, hts⟩ (mX0_at l a i) gX0_isAhead_X0_at rfl rfl rfl hdX0_at ⟨Nat.le_of_ble_eq_true rfl, Nat.le_of_ble_eq_true rfl⟩ rfl hl.1 rfl (Nat.le_of_ble_eq_true rfl) dX0_isAhead_14 ⟨Nat.zero_le _, Nat.zero_le _⟩ ?_
    refine q_ald (n := 48) (k := (6 * a + i)) hx hb hK hP 5 0 rfl rfl (by omega) (by decide) dX0_isAhead_17 ?_
    refine lv_istore (lv' := [(4, .int (fr (6 * a + i))), (0, .ref h), (1, .int (nI a)), (2, .int (nI b)), (3, .int (nI i))]) hx hb dX0_isAhead_18 hl (by decide) rfl (fun ls hl => ?_)
    refine lv_aload_n hx hb dX0_isAhead_20 rfl (lv_at hl 1 rfl) ?_
    refine va_get (D := (dC, dI)) (ci := 0) (v := .ref qr) (C := RX0) (T := TX0) (N := 8) hx hb hts hin hown hK hP 0 rfl rfl 7 (by decide) hf_32 (fun _ h9 => h9) rfl dX0_isAhead_21 ?_
    refine lv_iload_n hx hb dX0_isAhead_24 rfl (lv_at hl 3 rfl) ?_
    refine lv_iload_n hx hb dX0_isAhead_25 rfl (lv_at hl 4 rfl) ?_
    refine q_cs [.int (nI b), .int (nI i)] (rest := [.ref qr]) ⟨hx, hb, hml, hown, hts⟩ (mX0_at l b i) gX0_isAhead_X0_at rfl rfl rfl hdX0_at ⟨Nat.le_of_ble_eq_true rfl, Nat.le_of_ble_eq_true rfl⟩ rfl hl.1 rfl (Nat.le_of_ble_eq_true rfl) dX0_isAhead_26 ⟨Nat.zero_le _, Nat.zero_le _⟩ ?_
    refine q_ald (n := 48) (k := (6 * b + i)) hx hb hK hP 5 0 rfl rfl (by omega) (by decide) dX0_isAhead_29 ?_
    refine lv_istore (lv' := [(5, .int (fr (6 * b + i))), (4, .int (fr (6 * a + i))), (0, .ref h), (1, .int (nI a)), (2, .int (nI b)), (3, .int (nI i))]) hx hb dX0_isAhead_30 hl (by decide) rfl (fun ls hl => ?_)
    refine lv_iload hx hb dX0_isAhead_32 (lv_at hl 1 rfl) ?_
    refine lv_iload hx hb dX0_isAhead_34 (lv_at hl 0 rfl) ?_
    refine lv_icmp_eq (tgt := 52) hx hb dX0_isAhead_36 (by decide) (fun c_2 => ?_) (fun c_2 => ?_)
    · skip
      refine lv_iinc (v := (nI (i + 1))) (lv' := [(3, .int (nI (i + 1))), (5, .int (fr (6 * b + i))), (4, .int (fr (6 * a + i))), (0, .ref h), (1, .int (nI a)), (2, .int (nI b))]) hx hb dX0_isAhead_52 hl (k := 5) rfl (by exact nI_1 _) (by decide) rfl (fun ls hl => ?_)
      refine lv_goto (tgt := 2) hx hb dX0_isAhead_55 (by decide) ?_
      exact ih_i (by rw [hI_i, lxF_eq hi_i]; simp [mk, c_2]) ls (lv_sub (l' := [(0, .ref h), (1, .int (nI a)), (2, .int (nI b)), (3, .int (nI (i + 1)))]) hl [3, 4, 5, 0] rfl)
    · skip
      refine lv_iload hx hb dX0_isAhead_39 (lv_at hl 1 rfl) ?_
      refine lv_iload hx hb dX0_isAhead_41 (lv_at hl 0 rfl) ?_
      refine lv_icmp_le (tgt := 50) hx hb dX0_isAhead_43 (by decide) (fun c_3 => ?_) (fun c_3 => ?_)
      · skip
        refine lv_iconst (v := 0) hx hb dX0_isAhead_50 (by decide) ?_
        exact q_rb hx hb hr hlk (by rw [hI_i, lxF_eq hi_i, if_neg (show ¬ mk fr a i = mk fr b i from c_2)]; first | exact (b2i_dle c_3).symm | exact (b2i_dgt c_3).symm) dX0_isAhead_51
      · skip
        refine lv_iconst (v := 1) hx hb dX0_isAhead_46 (by decide) ?_
        refine lv_goto (tgt := 51) hx hb dX0_isAhead_47 (by decide) ?_
        exact q_rb hx hb hr hlk (by rw [hI_i, lxF_eq hi_i, if_neg (show ¬ mk fr a i = mk fr b i from c_2)]; first | exact (b2i_dle c_3).symm | exact (b2i_dgt c_3).symm) dX0_isAhead_51
  · intro hI_i ls hl
    have hl : lv_has ls 6 [(0, .ref h), (1, .int (nI a)), (2, .int (nI b)), (3, .int (nI 6))] := hl
    refine lv_iload_n hx hb dX0_isAhead_2 rfl (lv_at hl 3 rfl) ?_
    refine lv_bipush (v := 6) hx hb dX0_isAhead_3 (by decide) ?_
    refine lv_icmp_ge (tgt := 58) hx hb dX0_isAhead_5 (by decide) (fun c_4 => ?_) (fun c_4 => absurd (by decide) c_4)
    refine lv_iconst (v := 0) hx hb dX0_isAhead_58 (by decide) ?_
    exact q_rb hx hb hr hlk (by rw [hI_i]; rfl) dX0_isAhead_59

theorem hdX0_jumpsBefore : yX0_jumpsBefore.cls = RX0 ∧ yX0_jumpsBefore.cls ≠ "java/lang/invoke/MethodHandle" ∧ yX0_jumpsBefore.cls ≠ "java/lang/invoke/VarHandle" ∧ (parseMethodDescriptor yX0_jumpsBefore.desc).map (fun d => d.parameters.length) = some 2 := by decide +kernel
set_option maxHeartbeats 4000000 in
set_option maxRecDepth 100000 in
theorem mX0_jumpsBefore (l : Launch) (dC : Nat → ClassId) (dI : Nat → Nat → Nat) (h qb qj qm qw qr : Nat) (cA : ClassId) (n : Nat) (rec lim : Int32) (fb fj fm fw fr : Nat → Int32) (a : Nat) (b : Nat) (ha : a < 8) (hb8 : b < 8) : Met l yX0_jumpsBefore wsX0_jumpsBefore ({ frames := 2, cells := 0, slots := 0, locals := 46 }) (va_Pc [.ref h, .int (nI a), .int (nI b)] (fun U => va_P (dC, dI) vwCl (wX h qb qj qm qw qr cA (nI n) rec lim fb fj fm fw fr) U.heap ∧ va_K (dC, dI) vwCl [(cA, .int)] U)) (QcRead (b2i (befR (mk fr) a b))) 0 0 (fun _ => False) := by
  refine Met.ofW (cc := cX0_jumpsBefore) (maxL := 3) (ret := (some .boolean)) (by decide) rfl ?_
  intro p e s m args below meth c s₁ B hml hv
  obtain ⟨rfl, hP, hK⟩ := hv
  have hx := B.exec
  have hb := B.bytes
  have hr := B.returns
  have hts := atoms_spec (ws := wsX0_jumpsBefore) B.pre
  have hown : s.vm.findClass RX0 = some m.cls := findClass_of_methodNamed B.named
  have hlk := B.notSynchronized
  have hl := lv_entry ([.ref h, .int (nI a), .int (nI b)]) (n := 3) (Nat.le_of_ble_eq_true rfl)
  rw [lg_entry_eq]
  generalize (lg_sl ([.ref h, .int (nI a), .int (nI b)]) ++ List.replicate (3 - (lg_sl ([.ref h, .int (nI a), .int (nI b)])).length) Slot.unset).toArray = ls at hl ⊢
  have hl : lv_has ls 3 [(0, .ref h), (1, .int (nI a)), (2, .int (nI b))] := hl
  refine lv_aload_n hx hb dX0_jumpsBefore_0 rfl (lv_at hl 0 rfl) ?_
  refine lv_iload_n hx hb dX0_jumpsBefore_1 rfl (lv_at hl 2 rfl) ?_
  refine lv_iload_n hx hb dX0_jumpsBefore_2 rfl (lv_at hl 1 rfl) ?_
  refine q_cv [.int (nI b), .int (nI a)] (rest := []) ⟨hx, hb, hml, hown, hts⟩ (mX0_isAhead l dC dI h qb qj qm qw qr cA n rec lim fb fj fm fw fr b a (by omega) (by omega)) gX0_jumpsBefore_X0_isAhead rfl rfl rfl hdX0_isAhead ⟨Nat.le_of_ble_eq_true rfl, Nat.le_of_ble_eq_true rfl⟩ rfl hK hP rfl rfl hl.1 rfl (Nat.le_of_ble_eq_true rfl) dX0_jumpsBefore_3 ⟨Nat.zero_le _, Nat.zero_le _⟩ ?_
  refine lv_if_ne (tgt := 23) hx hb dX0_jumpsBefore_6 (by decide) (fun c_1 => ?_) (fun c_1 => ?_)
  · skip
    have c_1 : (lx6 (mk fr b) (mk fr a)) = true := b2i_n c_1
    refine lv_iconst (v := 1) hx hb dX0_jumpsBefore_23 (by decide) ?_
    refine lv_goto (tgt := 28) hx hb dX0_jumpsBefore_24 (by decide) ?_
    exact q_rb hx hb hr hlk (by simp [befR, b2i, c_1, ← nI_ltI (show a < 2 ^ 31 by omega) (show b < 2 ^ 31 by omega), Int32.not_le] <;> simp_all [Int32.not_le, Int32.not_lt]) dX0_jumpsBefore_28
  · skip
    have c_1 : (lx6 (mk fr b) (mk fr a)) = false := b2i_0 c_1
    refine lv_aload_n hx hb dX0_jumpsBefore_9 rfl (lv_at hl 0 rfl) ?_
    refine lv_iload_n hx hb dX0_jumpsBefore_10 rfl (lv_at hl 1 rfl) ?_
    refine lv_iload_n hx hb dX0_jumpsBefore_11 rfl (lv_at hl 2 rfl) ?_
    refine q_cv [.int (nI a), .int (nI b)] (rest := []) ⟨hx, hb, hml, hown, hts⟩ (mX0_isAhead l dC dI h qb qj qm qw qr cA n rec lim fb fj fm fw fr a b (by omega) (by omega)) gX0_jumpsBefore_X0_isAhead rfl rfl rfl hdX0_isAhead ⟨Nat.le_of_ble_eq_true rfl, Nat.le_of_ble_eq_true rfl⟩ rfl hK hP rfl rfl hl.1 rfl (Nat.le_of_ble_eq_true rfl) dX0_jumpsBefore_12 ⟨Nat.zero_le _, Nat.zero_le _⟩ ?_
    refine lv_if_ne (tgt := 27) hx hb dX0_jumpsBefore_15 (by decide) (fun c_2 => ?_) (fun c_2 => ?_)
    · skip
      have c_2 : (lx6 (mk fr a) (mk fr b)) = true := b2i_n c_2
      refine lv_iconst (v := 0) hx hb dX0_jumpsBefore_27 (by decide) ?_
      exact q_rb hx hb hr hlk (by simp [befR, b2i, c_1, c_2, ← nI_ltI (show a < 2 ^ 31 by omega) (show b < 2 ^ 31 by omega), Int32.not_le] <;> simp_all [Int32.not_le, Int32.not_lt]) dX0_jumpsBefore_28
    · skip
      have c_2 : (lx6 (mk fr a) (mk fr b)) = false := b2i_0 c_2
      refine lv_iload_n hx hb dX0_jumpsBefore_18 rfl (lv_at hl 1 rfl) ?_
      refine lv_iload_n hx hb dX0_jumpsBefore_19 rfl (lv_at hl 2 rfl) ?_
      refine lv_icmp_ge (tgt := 27) hx hb dX0_jumpsBefore_20 (by decide) (fun c_3 => ?_) (fun c_3 => ?_)
      · skip
        refine lv_iconst (v := 0) hx hb dX0_jumpsBefore_27 (by decide) ?_
        exact q_rb hx hb hr hlk (by simp [befR, b2i, c_1, c_2, c_3, ← nI_ltI (show a < 2 ^ 31 by omega) (show b < 2 ^ 31 by omega), Int32.not_le] <;> simp_all [Int32.not_le, Int32.not_lt]) dX0_jumpsBefore_28
      · skip
        refine lv_iconst (v := 1) hx hb dX0_jumpsBefore_23 (by decide) ?_
        refine lv_goto (tgt := 28) hx hb dX0_jumpsBefore_24 (by decide) ?_
        exact q_rb hx hb hr hlk (by simp [befR, b2i, c_1, c_2, c_3, ← nI_ltI (show a < 2 ^ 31 by omega) (show b < 2 ^ 31 by omega), Int32.not_le] <;> simp_all [Int32.not_le, Int32.not_lt]) dX0_jumpsBefore_28

theorem hdX0_howManyJumpBefore : yX0_howManyJumpBefore.cls = RX0 ∧ yX0_howManyJumpBefore.cls ≠ "java/lang/invoke/MethodHandle" ∧ yX0_howManyJumpBefore.cls ≠ "java/lang/invoke/VarHandle" ∧ (parseMethodDescriptor yX0_howManyJumpBefore.desc).map (fun d => d.parameters.length) = some 1 := by decide +kernel
set_option maxHeartbeats 4000000 in
set_option maxRecDepth 100000 in
theorem mX0_howManyJumpBefore (l : Launch) (dC : Nat → ClassId) (dI : Nat → Nat → Nat) (h qb qj qm qw qr : Nat) (cA : ClassId) (n : Nat) (rec lim : Int32) (fb fj fm fw fr : Nat → Int32) (j : Nat) (hn : n ≤ 8) (hj : j < 8) : Met l yX0_howManyJumpBefore wsX0_howManyJumpBefore ({ frames := 3, cells := 0, slots := 0, locals := 68 }) (va_Pc [.ref h, .int (nI j)] (fun U => va_P (dC, dI) vwCl (wX h qb qj qm qw qr cA (nI n) rec lim fb fj fm fw fr) U.heap ∧ va_K (dC, dI) vwCl [(cA, .int)] U)) (QcRead (nI (cntB (fun o => befR (mk fr) o j) n))) 0 0 (fun _ => False) := by
  refine Met.ofW (cc := cX0_howManyJumpBefore) (maxL := 4) (ret := (some .int)) (by decide) rfl ?_
  intro p e s m args below meth c s₁ B hml hv
  obtain ⟨rfl, hP, hK⟩ := hv
  have hx := B.exec
  have hb := B.bytes
  have hr := B.returns
  have hts := atoms_spec (ws := wsX0_howManyJumpBefore) B.pre
  have hown : s.vm.findClass RX0 = some m.cls := findClass_of_methodNamed B.named
  have hlk := B.notSynchronized
  have hin : ∀ w ∈ wsX00, w ∈ wsX0_howManyJumpBefore := fun w h => List.mem_cons_of_mem _ (List.mem_append_right _ h)
  have hf_7 := hts (.fieldLink RX0 7 "JumpBoard" "jumpers" "I") (by decide +kernel)
  have hl := lv_entry ([.ref h, .int (nI j)]) (n := 4) (Nat.le_of_ble_eq_true rfl)
  rw [lg_entry_eq]
  generalize (lg_sl ([.ref h, .int (nI j)]) ++ List.replicate (4 - (lg_sl ([.ref h, .int (nI j)])).length) Slot.unset).toArray = ls at hl ⊢
  have hl : lv_has ls 4 [(0, .ref h), (1, .int (nI j))] := hl
  refine lv_iconst (v := 0) hx hb dX0_howManyJumpBefore_0 (by decide) ?_
  refine lv_istore_n (lv' := [(2, .int 0), (0, .ref h), (1, .int (nI j))]) hx hb dX0_howManyJumpBefore_1 rfl hl (by decide) rfl (fun ls hl => ?_)
  refine lv_iconst (v := 0) hx hb dX0_howManyJumpBefore_2 (by decide) ?_
  refine lv_istore_n (lv' := [(3, .int 0), (2, .int 0), (0, .ref h), (1, .int (nI j))]) hx hb dX0_howManyJumpBefore_3 rfl hl (by decide) rfl (fun ls hl => ?_)
  refine q_lp (head := 4) (n) (fun i => [(0, .ref h), (1, .int (nI j)), (2, .int (nI (cntB (fun o => befR (mk fr) o j) i))), (3, .int (nI i))]) (fun i => True) (0) (by omega) (trivial) (q_hl (lv_sub (l' := [(0, .ref h), (1, .int (nI j)), (2, .int 0), (3, .int 0)]) hl [2, 3, 1, 0] rfl) (q_ck (q_ck (q_ce (by rfl) (q_ce (by rfl) (rfl)))))) ?_ ?_
  · intro i hi_i hI_i ih_i ls hl
    have hl : lv_has ls 4 [(0, .ref h), (1, .int (nI j)), (2, .int (nI (cntB (fun o => befR (mk fr) o j) i))), (3, .int (nI i))] := hl
    refine lv_iload_n hx hb dX0_howManyJumpBefore_4 rfl (lv_at hl 3 rfl) ?_
    refine lv_aload_n hx hb dX0_howManyJumpBefore_5 rfl (lv_at hl 0 rfl) ?_
    refine va_get (D := (dC, dI)) (ci := 0) (v := .int (nI n)) (C := RX0) (T := TX0) (N := 8) hx hb hts hin hown hK hP 0 rfl rfl 0 (by decide) hf_7 (fun _ h9 => h9) rfl dX0_howManyJumpBefore_6 ?_
    refine lv_icmp_ge (tgt := 30) hx hb dX0_howManyJumpBefore_9 (by decide) (fun c_1 => absurd c_1 (nI_ge hi_i (by omega))) (fun c_1 => ?_)
    refine lv_aload_n hx hb dX0_howManyJumpBefore_12 rfl (lv_at hl 0 rfl) ?_
    refine lv_iload_n hx hb dX0_howManyJumpBefore_13 rfl (lv_at hl 3 rfl) ?_
    refine lv_iload_n hx hb dX0_howManyJumpBefore_14 rfl (lv_at hl 1 rfl) ?_
    refine q_cv [.int (nI i), .int (nI j)] (rest := []) ⟨hx, hb, hml, hown, hts⟩ (mX0_jumpsBefore l dC dI h qb qj qm qw qr cA n rec lim fb fj fm fw fr i j (by omega) (by omega)) gX0_howManyJumpBefore_X0_jumpsBefore rfl rfl rfl hdX0_jumpsBefore ⟨Nat.le_of_ble_eq_true rfl, Nat.le_of_ble_eq_true rfl⟩ rfl hK hP rfl rfl hl.1 rfl (Nat.le_of_ble_eq_true rfl) dX0_howManyJumpBefore_15 ⟨Nat.zero_le _, Nat.zero_le _⟩ ?_
    refine lv_if_eq (tgt := 24) hx hb dX0_howManyJumpBefore_18 (by decide) (fun c_2 => ?_) (fun c_2 => ?_)
    · skip
      have c_2 : (befR (mk fr) i j) = false := b2i_0 c_2
      refine lv_iinc (v := (nI (i + 1))) (lv' := [(3, .int (nI (i + 1))), (0, .ref h), (1, .int (nI j)), (2, .int (nI (cntB (fun o => befR (mk fr) o j) i)))]) hx hb dX0_howManyJumpBefore_24 hl (k := 3) rfl (by exact nI_1 _) (by decide) rfl (fun ls hl => ?_)
      refine lv_goto (tgt := 4) hx hb dX0_howManyJumpBefore_27 (by decide) ?_
      exact ih_i (by exact trivial) ls (q_hl (lv_sub (l' := [(0, .ref h), (1, .int (nI j)), (2, .int (nI (cntB (fun o => befR (mk fr) o j) i))), (3, .int (nI (i + 1)))]) hl [1, 2, 3, 0] rfl) (q_ck (q_ck (q_ce (by simp [cntB, c_2]) (q_ck (rfl))))))
    · skip
      have c_2 : (befR (mk fr) i j) = true := b2i_n c_2
      refine lv_iinc (v := (nI ((cntB (fun o => befR (mk fr) o j) i) + 1))) (lv' := [(2, .int (nI ((cntB (fun o => befR (mk fr) o j) i) + 1))), (0, .ref h), (1, .int (nI j)), (3, .int (nI i))]) hx hb dX0_howManyJumpBefore_21 hl (k := 2) rfl (by exact nI_1 _) (by decide) rfl (fun ls hl => ?_)
      refine lv_iinc (v := (nI (i + 1))) (lv' := [(3, .int (nI (i + 1))), (2, .int (nI ((cntB (fun o => befR (mk fr) o j) i) + 1))), (0, .ref h), (1, .int (nI j))]) hx hb dX0_howManyJumpBefore_24 hl (k := 3) rfl (by exact nI_1 _) (by decide) rfl (fun ls hl => ?_)
      refine lv_goto (tgt := 4) hx hb dX0_howManyJumpBefore_27 (by decide) ?_
      exact ih_i (by exact trivial) ls (q_hl (lv_sub (l' := [(0, .ref h), (1, .int (nI j)), (2, .int (nI ((cntB (fun o => befR (mk fr) o j) i) + 1))), (3, .int (nI (i + 1)))]) hl [2, 3, 1, 0] rfl) (q_ck (q_ck (q_ce (by simp [cntB, c_2]) (q_ck (rfl))))))
  · intro hI_i ls hl
    have hl : lv_has ls 4 [(0, .ref h), (1, .int (nI j)), (2, .int (nI (cntB (fun o => befR (mk fr) o j) n))), (3, .int (nI n))] := hl
    refine lv_iload_n hx hb dX0_howManyJumpBefore_4 rfl (lv_at hl 3 rfl) ?_
    refine lv_aload_n hx hb dX0_howManyJumpBefore_5 rfl (lv_at hl 0 rfl) ?_
    refine va_get (D := (dC, dI)) (ci := 0) (v := .int (nI n)) (C := RX0) (T := TX0) (N := 8) hx hb hts hin hown hK hP 0 rfl rfl 0 (by decide) hf_7 (fun _ h9 => h9) rfl dX0_howManyJumpBefore_6 ?_
    refine lv_icmp_ge (tgt := 30) hx hb dX0_howManyJumpBefore_9 (by decide) (fun c_3 => ?_) (fun c_3 => absurd (nI_le (Nat.le_refl n) (by omega)) c_3)
    refine lv_iload_n hx hb dX0_howManyJumpBefore_30 rfl (lv_at hl 2 rfl) ?_
    exact q_ri hx hb hr hlk (by rfl) dX0_howManyJumpBefore_31

theorem hdX0_beatsEarlierRounds : yX0_beatsEarlierRounds.cls = RX0 ∧ yX0_beatsEarlierRounds.cls ≠ "java/lang/invoke/MethodHandle" ∧ yX0_beatsEarlierRounds.cls ≠ "java/lang/invoke/VarHandle" ∧ (parseMethodDescriptor yX0_beatsEarlierRounds.desc).map (fun d => d.parameters.length) = some 2 := by decide +kernel
set_option maxHeartbeats 4000000 in
set_option maxRecDepth 100000 in
theorem mX0_beatsEarlierRounds (l : Launch) (dC : Nat → ClassId) (dI : Nat → Nat → Nat) (h qb qj qm qw qr : Nat) (cA : ClassId) (n : Nat) (rec lim : Int32) (fb fj fm fw fr : Nat → Int32) (j : Nat) (r : Nat) (hj : j < 8) (hr6 : r < 6) : Met l yX0_beatsEarlierRounds wsX0_beatsEarlierRounds ({ frames := 2, cells := 0, slots := 0, locals := 45 }) (va_Pc [.ref h, .int (nI j), .int (nI r)] (fun U => va_P (dC, dI) vwCl (wX h qb qj qm qw qr cA (nI n) rec lim fb fj fm fw fr) U.heap ∧ va_K (dC, dI) vwCl [(cA, .int)] U)) (QcRead (b2i (bts (mk fm j) r))) 0 0 (fun _ => False) := by
  refine Met.ofW (cc := cX0_beatsEarlierRounds) (maxL := 5) (ret := (some .boolean)) (by decide) rfl ?_
  intro p e s m args below meth c s₁ B hml hv
  obtain ⟨rfl, hP, hK⟩ := hv
  have hx := B.exec
  have hb := B.bytes
  have hr := B.returns
  have hts := atoms_spec (ws := wsX0_beatsEarlierRounds) B.pre
  have hown : s.vm.findClass RX0 = some m.cls := findClass_of_methodNamed B.named
  have hlk := B.notSynchronized
  have hin : ∀ w ∈ wsX00, w ∈ wsX0_beatsEarlierRounds := fun w h => List.mem_cons_of_mem _ (List.mem_append_right _ h)
  have hf_26 := hts (.fieldLink RX0 26 "JumpBoard" "marks" "[I") (by decide +kernel)
  have hl := lv_entry ([.ref h, .int (nI j), .int (nI r)]) (n := 5) (Nat.le_of_ble_eq_true rfl)
  rw [lg_entry_eq]
  generalize (lg_sl ([.ref h, .int (nI j), .int (nI r)]) ++ List.replicate (5 - (lg_sl ([.ref h, .int (nI j), .int (nI r)])).length) Slot.unset).toArray = ls at hl ⊢
  have hl : lv_has ls 5 [(0, .ref h), (1, .int (nI j)), (2, .int (nI r))] := hl
  refine lv_aload_n hx hb dX0_beatsEarlierRounds_0 rfl (lv_at hl 0 rfl) ?_
  refine va_get (D := (dC, dI)) (ci := 0) (v := .ref qm) (C := RX0) (T := TX0) (N := 8) hx hb hts hin hown hK hP 0 rfl rfl 5 (by decide) hf_26 (fun _ h9 => h9) rfl dX0_beatsEarlierRounds_1 ?_
  refine lv_iload_n hx hb dX0_beatsEarlierRounds_4 rfl (lv_at hl 1 rfl) ?_
  refine lv_iload_n hx hb dX0_beatsEarlierRounds_5 rfl (lv_at hl 2 rfl) ?_
  refine q_cs [.int (nI j), .int (nI r)] (rest := [.ref qm]) ⟨hx, hb, hml, hown, hts⟩ (mX0_at l j r) gX0_beatsEarlierRounds_X0_at rfl rfl rfl hdX0_at ⟨Nat.le_of_ble_eq_true rfl, Nat.le_of_ble_eq_true rfl⟩ rfl hl.1 rfl (Nat.le_of_ble_eq_true rfl) dX0_beatsEarlierRounds_6 ⟨Nat.zero_le _, Nat.zero_le _⟩ ?_
  refine q_ald (n := 48) (k := (6 * j + r)) hx hb hK hP 3 0 rfl rfl (by omega) (by decide) dX0_beatsEarlierRounds_9 ?_
  refine lv_istore_n (lv' := [(3, .int (fm (6 * j + r))), (0, .ref h), (1, .int (nI j)), (2, .int (nI r))]) hx hb dX0_beatsEarlierRounds_10 rfl hl (by decide) rfl (fun ls hl => ?_)
  refine lv_iload_n hx hb dX0_beatsEarlierRounds_11 rfl (lv_at hl 0 rfl) ?_
  refine lv_if_ne (tgt := 17) hx hb dX0_beatsEarlierRounds_12 (by decide) (fun c_1 => ?_) (fun c_1 => ?_)
  · skip
    refine lv_iconst (v := 0) hx hb dX0_beatsEarlierRounds_17 (by decide) ?_
    refine lv_istore (lv' := [(4, .int 0), (3, .int (fm (6 * j + r))), (0, .ref h), (1, .int (nI j)), (2, .int (nI r))]) hx hb dX0_beatsEarlierRounds_18 hl (by decide) rfl (fun ls hl => ?_)
    refine q_lp (head := 20) (r) (fun i => [(0, .ref h), (1, .int (nI j)), (2, .int (nI r)), (3, .int (fm (6 * j + r))), (4, .int (nI i))]) (fun i => anyB (fun e => fitv 3 0 (mk fm j e) (mk fm j r)) i = false) (0) (by omega) (rfl) (q_hl (lv_sub (l' := [(0, .ref h), (1, .int (nI j)), (2, .int (nI r)), (3, .int (fm (6 * j + r))), (4, .int 0)]) hl [2, 3, 4, 1, 0] rfl) (q_ck (q_ck (q_ck (q_ck (q_ce (by rfl) (rfl))))))) ?_ ?_
    · intro i hi_i hI_i ih_i ls hl
      have hl : lv_has ls 5 [(0, .ref h), (1, .int (nI j)), (2, .int (nI r)), (3, .int (fm (6 * j + r))), (4, .int (nI i))] := hl
      refine lv_iload hx hb dX0_beatsEarlierRounds_20 (lv_at hl 4 rfl) ?_
      refine lv_iload_n hx hb dX0_beatsEarlierRounds_22 rfl (lv_at hl 2 rfl) ?_
      refine lv_icmp_ge (tgt := 54) hx hb dX0_beatsEarlierRounds_23 (by decide) (fun c_2 => absurd c_2 (nI_ge hi_i (by omega))) (fun c_2 => ?_)
      refine lv_iconst (v := 3) hx hb dX0_beatsEarlierRounds_26 (by decide) ?_
      refine lv_iconst (v := 0) hx hb dX0_beatsEarlierRounds_27 (by decide) ?_
      refine lv_aload_n hx hb dX0_beatsEarlierRounds_28 rfl (lv_at hl 0 rfl) ?_
      refine va_get (D := (dC, dI)) (ci := 0) (v := .ref qm) (C := RX0) (T := TX0) (N := 8) hx hb hts hin hown hK hP 0 rfl rfl 5 (by decide) hf_26 (fun _ h9 => h9) rfl dX0_beatsEarlierRounds_29 ?_
      refine lv_iload_n hx hb dX0_beatsEarlierRounds_32 rfl (lv_at hl 1 rfl) ?_
      refine lv_iload hx hb dX0_beatsEarlierRounds_33 (lv_at hl 4 rfl) ?_
      refine q_cs [.int (nI j), .int (nI i)] (rest := [.ref qm, .int 0, .int 3]) ⟨hx, hb, hml, hown, hts⟩ (mX0_at l j i) gX0_beatsEarlierRounds_X0_at rfl rfl rfl hdX0_at ⟨Nat.le_of_ble_eq_true rfl, Nat.le_of_ble_eq_true rfl⟩ rfl hl.1 rfl (Nat.le_of_ble_eq_true rfl) dX0_beatsEarlierRounds_35 ⟨Nat.zero_le _, Nat.zero_le _⟩ ?_
      refine q_ald (n := 48) (k := (6 * j + i)) hx hb hK hP 3 0 rfl rfl (by omega) (by decide) dX0_beatsEarlierRounds_38 ?_
      refine lv_iload_n hx hb dX0_beatsEarlierRounds_39 rfl (lv_at hl 3 rfl) ?_
      refine q_cs [.int 3, .int 0, .int (fm (6 * j + i)), .int (fm (6 * j + r))] (rest := []) ⟨hx, hb, hml, hown, hts⟩ (mX0_valueFits l 3 0 (fm (6 * j + i)) (fm (6 * j + r))) gX0_beatsEarlierRounds_X0_valueFits rfl rfl rfl hdX0_valueFits ⟨Nat.le_of_ble_eq_true rfl, Nat.le_of_ble_eq_true rfl⟩ rfl hl.1 rfl (Nat.le_of_ble_eq_true rfl) dX0_beatsEarlierRounds_40 ⟨Nat.zero_le _, Nat.zero_le _⟩ ?_
      refine lv_if_eq (tgt := 48) hx hb dX0_beatsEarlierRounds_43 (by decide) (fun c_3 => ?_) (fun c_3 => ?_)
      · skip
        have c_3 : (fitv 3 0 (fm (6 * j + i)) (fm (6 * j + r))) = false := b2i_0 c_3
        refine lv_iinc (v := (nI (i + 1))) (lv' := [(4, .int (nI (i + 1))), (0, .ref h), (1, .int (nI j)), (2, .int (nI r)), (3, .int (fm (6 * j + r)))]) hx hb dX0_beatsEarlierRounds_48 hl (k := 4) rfl (by exact nI_1 _) (by decide) rfl (fun ls hl => ?_)
        refine lv_goto (tgt := 20) hx hb dX0_beatsEarlierRounds_51 (by decide) ?_
        exact ih_i (by simp [anyB, mk, hI_i, c_1, c_3] <;> simp_all [mk]) ls (lv_sub (l' := [(0, .ref h), (1, .int (nI j)), (2, .int (nI r)), (3, .int (fm (6 * j + r))), (4, .int (nI (i + 1)))]) hl [1, 2, 3, 4, 0] rfl)
      · skip
        have c_3 : (fitv 3 0 (fm (6 * j + i)) (fm (6 * j + r))) = true := b2i_n c_3
        refine lv_iconst (v := 0) hx hb dX0_beatsEarlierRounds_46 (by decide) ?_
        exact q_rb hx hb hr hlk (by simp [bts, mk, b2i, c_1, c_3, anyB_of (q := fun e => fitv 3 0 (mk fm j e) (mk fm j r)) hi_i (by simp [mk, c_1, c_3])] <;> simp_all [mk, anyB_of (q := fun e => fitv 3 0 (fm (6 * j + e)) (fm (6 * j + r))) hi_i]) dX0_beatsEarlierRounds_47
    · intro hI_i ls hl
      have hl : lv_has ls 5 [(0, .ref h), (1, .int (nI j)), (2, .int (nI r)), (3, .int (fm (6 * j + r))), (4, .int (nI r))] := hl
      refine lv_iload hx hb dX0_beatsEarlierRounds_20 (lv_at hl 4 rfl) ?_
      refine lv_iload_n hx hb dX0_beatsEarlierRounds_22 rfl (lv_at hl 2 rfl) ?_
      refine lv_icmp_ge (tgt := 54) hx hb dX0_beatsEarlierRounds_23 (by decide) (fun c_4 => ?_) (fun c_4 => absurd (nI_le (Nat.le_refl r) (by omega)) c_4)
      refine lv_iconst (v := 1) hx hb dX0_beatsEarlierRounds_54 (by decide) ?_
      exact q_rb hx hb hr hlk (by simp [bts, mk, b2i, c_1] <;> simp_all [mk]) dX0_beatsEarlierRounds_55
  · skip
    refine lv_iconst (v := 0) hx hb dX0_beatsEarlierRounds_15 (by decide) ?_
    exact q_rb hx hb hr hlk (by simp [bts, mk, b2i, c_1]) dX0_beatsEarlierRounds_16

theorem hdX0_howManyJumped : yX0_howManyJumped.cls = RX0 ∧ yX0_howManyJumped.cls ≠ "java/lang/invoke/MethodHandle" ∧ yX0_howManyJumped.cls ≠ "java/lang/invoke/VarHandle" ∧ (parseMethodDescriptor yX0_howManyJumped.desc).map (fun d => d.parameters.length) = some 0 := by decide +kernel
set_option maxHeartbeats 4000000 in
set_option maxRecDepth 100000 in
theorem mX0_howManyJumped (l : Launch) (dC : Nat → ClassId) (dI : Nat → Nat → Nat) (h qb qj qm qw qr : Nat) (cA : ClassId) (n : Nat) (rec lim : Int32) (fb fj fm fw fr : Nat → Int32) (hn : n ≤ 8) : Met l yX0_howManyJumped wsX0_howManyJumped ({ frames := 0, cells := 0, slots := 0, locals := 0 }) (va_Pc [.ref h] (fun U => va_P (dC, dI) vwCl (wX h qb qj qm qw qr cA (nI n) rec lim fb fj fm fw fr) U.heap ∧ va_K (dC, dI) vwCl [(cA, .int)] U)) (QcRead (sumI fj n)) 0 0 (fun _ => False) := by
  refine Met.ofW (cc := cX0_howManyJumped) (maxL := 3) (ret := (some .int)) (by decide) rfl ?_
  intro p e s m args below meth c s₁ B hml hv
  obtain ⟨rfl, hP, hK⟩ := hv
  have hx := B.exec
  have hb := B.bytes
  have hr := B.returns
  have hts := atoms_spec (ws := wsX0_howManyJumped) B.pre
  have hown : s.vm.findClass RX0 = some m.cls := findClass_of_methodNamed B.named
  have hlk := B.notSynchronized
  have hin : ∀ w ∈ wsX00, w ∈ wsX0_howManyJumped := fun w h => List.mem_cons_of_mem _ (List.mem_append_right _ h)
  have hf_7 := hts (.fieldLink RX0 7 "JumpBoard" "jumpers" "I") (by decide +kernel)
  have hf_23 := hts (.fieldLink RX0 23 "JumpBoard" "jumped" "[I") (by decide +kernel)
  have hl := lv_entry ([.ref h]) (n := 3) (Nat.le_of_ble_eq_true rfl)
  rw [lg_entry_eq]
  generalize (lg_sl ([.ref h]) ++ List.replicate (3 - (lg_sl ([.ref h])).length) Slot.unset).toArray = ls at hl ⊢
  have hl : lv_has ls 3 [(0, .ref h)] := hl
  refine lv_iconst (v := 0) hx hb dX0_howManyJumped_0 (by decide) ?_
  refine lv_istore_n (lv' := [(1, .int 0), (0, .ref h)]) hx hb dX0_howManyJumped_1 rfl hl (by decide) rfl (fun ls hl => ?_)
  refine lv_iconst (v := 0) hx hb dX0_howManyJumped_2 (by decide) ?_
  refine lv_istore_n (lv' := [(2, .int 0), (1, .int 0), (0, .ref h)]) hx hb dX0_howManyJumped_3 rfl hl (by decide) rfl (fun ls hl => ?_)
  refine q_lp (head := 4) (n) (fun i => [(0, .ref h), (1, .int (sumI fj i)), (2, .int (nI i))]) (fun i => True) (0) (by omega) (trivial) (q_hl (lv_sub (l' := [(0, .ref h), (1, .int 0), (2, .int 0)]) hl [2, 1, 0] rfl) (q_ck (q_ce (by rfl) (q_ce (by rfl) (rfl))))) ?_ ?_
  · intro i hi_i hI_i ih_i ls hl
    have hl : lv_has ls 3 [(0, .ref h), (1, .int (sumI fj i)), (2, .int (nI i))] := hl
    refine lv_iload_n hx hb dX0_howManyJumped_4 rfl (lv_at hl 2 rfl) ?_
    refine lv_aload_n hx hb dX0_howManyJumped_5 rfl (lv_at hl 0 rfl) ?_
    refine va_get (D := (dC, dI)) (ci := 0) (v := .int (nI n)) (C := RX0) (T := TX0) (N := 8) hx hb hts hin hown hK hP 0 rfl rfl 0 (by decide) hf_7 (fun _ h9 => h9) rfl dX0_howManyJumped_6 ?_
    refine lv_icmp_ge (tgt := 27) hx hb dX0_howManyJumped_9 (by decide) (fun c_1 => absurd c_1 (nI_ge hi_i (by omega))) (fun c_1 => ?_)
    refine lv_iload_n hx hb dX0_howManyJumped_12 rfl (lv_at hl 1 rfl) ?_
    refine lv_aload_n hx hb dX0_howManyJumped_13 rfl (lv_at hl 0 rfl) ?_
    refine va_get (D := (dC, dI)) (ci := 0) (v := .ref qj) (C := RX0) (T := TX0) (N := 8) hx hb hts hin hown hK hP 0 rfl rfl 4 (by decide) hf_23 (fun _ h9 => h9) rfl dX0_howManyJumped_14 ?_
    refine lv_iload_n hx hb dX0_howManyJumped_17 rfl (lv_at hl 2 rfl) ?_
    refine q_ald (n := 8) (k := i) hx hb hK hP 2 0 rfl rfl (by omega) (by decide) dX0_howManyJumped_18 ?_
    refine lv_iadd hx hb dX0_howManyJumped_19 ?_
    refine lv_istore_n (lv' := [(1, .int ((sumI fj i) + (fj i))), (0, .ref h), (2, .int (nI i))]) hx hb dX0_howManyJumped_20 rfl hl (by decide) rfl (fun ls hl => ?_)
    refine lv_iinc (v := (nI (i + 1))) (lv' := [(2, .int (nI (i + 1))), (1, .int ((sumI fj i) + (fj i))), (0, .ref h)]) hx hb dX0_howManyJumped_21 hl (k := 2) rfl (by exact nI_1 _) (by decide) rfl (fun ls hl => ?_)
    refine lv_goto (tgt := 4) hx hb dX0_howManyJumped_24 (by decide) ?_
    exact ih_i (by exact trivial) ls (q_hl (lv_sub (l' := [(0, .ref h), (1, .int ((sumI fj i) + (fj i))), (2, .int (nI (i + 1)))]) hl [2, 1, 0] rfl) (q_ck (q_ce (by rfl) (q_ck (rfl)))))
  · intro hI_i ls hl
    have hl : lv_has ls 3 [(0, .ref h), (1, .int (sumI fj n)), (2, .int (nI n))] := hl
    refine lv_iload_n hx hb dX0_howManyJumped_4 rfl (lv_at hl 2 rfl) ?_
    refine lv_aload_n hx hb dX0_howManyJumped_5 rfl (lv_at hl 0 rfl) ?_
    refine va_get (D := (dC, dI)) (ci := 0) (v := .int (nI n)) (C := RX0) (T := TX0) (N := 8) hx hb hts hin hown hK hP 0 rfl rfl 0 (by decide) hf_7 (fun _ h9 => h9) rfl dX0_howManyJumped_6 ?_
    refine lv_icmp_ge (tgt := 27) hx hb dX0_howManyJumped_9 (by decide) (fun c_2 => ?_) (fun c_2 => absurd (nI_le (Nat.le_refl n) (by omega)) c_2)
    refine lv_iload_n hx hb dX0_howManyJumped_27 rfl (lv_at hl 1 rfl) ?_
    exact q_ri hx hb hr hlk (by rfl) dX0_howManyJumped_28

theorem hdX0_howManyMarked : yX0_howManyMarked.cls = RX0 ∧ yX0_howManyMarked.cls ≠ "java/lang/invoke/MethodHandle" ∧ yX0_howManyMarked.cls ≠ "java/lang/invoke/VarHandle" ∧ (parseMethodDescriptor yX0_howManyMarked.desc).map (fun d => d.parameters.length) = some 0 := by decide +kernel
set_option maxHeartbeats 4000000 in
set_option maxRecDepth 100000 in
theorem mX0_howManyMarked (l : Launch) (dC : Nat → ClassId) (dI : Nat → Nat → Nat) (h qb qj qm qw qr : Nat) (cA : ClassId) (n : Nat) (rec lim : Int32) (fb fj fm fw fr : Nat → Int32) : Met l yX0_howManyMarked wsX0_howManyMarked ({ frames := 0, cells := 0, slots := 0, locals := 0 }) (va_Pc [.ref h] (fun U => va_P (dC, dI) vwCl (wX h qb qj qm qw qr cA (nI n) rec lim fb fj fm fw fr) U.heap ∧ va_K (dC, dI) vwCl [(cA, .int)] U)) (QcRead (nI (cntB (fun k => !decide (fm k = 0)) 48))) 0 0 (fun _ => False) := by
  refine Met.ofW (cc := cX0_howManyMarked) (maxL := 3) (ret := (some .int)) (by decide) rfl ?_
  intro p e s m args below meth c s₁ B hml hv
  obtain ⟨rfl, hP, hK⟩ := hv
  have hx := B.exec
  have hb := B.bytes
  have hr := B.returns
  have hts := atoms_spec (ws := wsX0_howManyMarked) B.pre
  have hown : s.vm.findClass RX0 = some m.cls := findClass_of_methodNamed B.named
  have hlk := B.notSynchronized
  have hin : ∀ w ∈ wsX00, w ∈ wsX0_howManyMarked := fun w h => List.mem_cons_of_mem _ (List.mem_append_right _ h)
  have hf_26 := hts (.fieldLink RX0 26 "JumpBoard" "marks" "[I") (by decide +kernel)
  have hl := lv_entry ([.ref h]) (n := 3) (Nat.le_of_ble_eq_true rfl)
  rw [lg_entry_eq]
  generalize (lg_sl ([.ref h]) ++ List.replicate (3 - (lg_sl ([.ref h])).length) Slot.unset).toArray = ls at hl ⊢
  have hl : lv_has ls 3 [(0, .ref h)] := hl
  refine lv_iconst (v := 0) hx hb dX0_howManyMarked_0 (by decide) ?_
  refine lv_istore_n (lv' := [(1, .int 0), (0, .ref h)]) hx hb dX0_howManyMarked_1 rfl hl (by decide) rfl (fun ls hl => ?_)
  refine lv_iconst (v := 0) hx hb dX0_howManyMarked_2 (by decide) ?_
  refine lv_istore_n (lv' := [(2, .int 0), (1, .int 0), (0, .ref h)]) hx hb dX0_howManyMarked_3 rfl hl (by decide) rfl (fun ls hl => ?_)
  refine q_lp (head := 4) (48) (fun i => [(0, .ref h), (1, .int (nI (cntB (fun k => !decide (fm k = 0)) i))), (2, .int (nI i))]) (fun i => True) (0) (by omega) (trivial) (q_hl (lv_sub (l' := [(0, .ref h), (1, .int 0), (2, .int 0)]) hl [2, 1, 0] rfl) (q_ck (q_ce (by rfl) (q_ce (by rfl) (rfl))))) ?_ ?_
  · intro i hi_i hI_i ih_i ls hl
    have hl : lv_has ls 3 [(0, .ref h), (1, .int (nI (cntB (fun k => !decide (fm k = 0)) i))), (2, .int (nI i))] := hl
    refine lv_iload_n hx hb dX0_howManyMarked_4 rfl (lv_at hl 2 rfl) ?_
    refine lv_aload_n hx hb dX0_howManyMarked_5 rfl (lv_at hl 0 rfl) ?_
    refine va_get (D := (dC, dI)) (ci := 0) (v := .ref qm) (C := RX0) (T := TX0) (N := 8) hx hb hts hin hown hK hP 0 rfl rfl 5 (by decide) hf_26 (fun _ h9 => h9) rfl dX0_howManyMarked_6 ?_
    refine va_alen (v := 48) hx hb hK hP 3 0 rfl rfl rfl dX0_howManyMarked_9 ?_
    refine lv_icmp_ge (tgt := 31) hx hb dX0_howManyMarked_10 (by decide) (fun c_1 => absurd c_1 (nI_ge (b := 48) hi_i (by decide))) (fun c_1 => ?_)
    refine lv_aload_n hx hb dX0_howManyMarked_13 rfl (lv_at hl 0 rfl) ?_
    refine va_get (D := (dC, dI)) (ci := 0) (v := .ref qm) (C := RX0) (T := TX0) (N := 8) hx hb hts hin hown hK hP 0 rfl rfl 5 (by decide) hf_26 (fun _ h9 => h9) rfl dX0_howManyMarked_14 ?_
    refine lv_iload_n hx hb dX0_howManyMarked_17 rfl (lv_at hl 2 rfl) ?_
    refine q_ald (n := 48) (k := i) hx hb hK hP 3 0 rfl rfl (by omega) (by decide) dX0_howManyMarked_18 ?_
    refine lv_if_eq (tgt := 25) hx hb dX0_howManyMarked_19 (by decide) (fun c_2 => ?_) (fun c_2 => ?_)
    · skip
      refine lv_iinc (v := (nI (i + 1))) (lv' := [(2, .int (nI (i + 1))), (0, .ref h), (1, .int (nI (cntB (fun k => !decide (fm k = 0)) i)))]) hx hb dX0_howManyMarked_25 hl (k := 2) rfl (by exact nI_1 _) (by decide) rfl (fun ls hl => ?_)
      refine lv_goto (tgt := 4) hx hb dX0_howManyMarked_28 (by decide) ?_
      exact ih_i (by exact trivial) ls (q_hl (lv_sub (l' := [(0, .ref h), (1, .int (nI (cntB (fun k => !decide (fm k = 0)) i))), (2, .int (nI (i + 1)))]) hl [1, 2, 0] rfl) (q_ck (q_ce (by simp [cntB, c_2]) (q_ck (rfl)))))
    · skip
      refine lv_iinc (v := (nI ((cntB (fun k => !decide (fm k = 0)) i) + 1))) (lv' := [(1, .int (nI ((cntB (fun k => !decide (fm k = 0)) i) + 1))), (0, .ref h), (2, .int (nI i))]) hx hb dX0_howManyMarked_22 hl (k := 1) rfl (by exact nI_1 _) (by decide) rfl (fun ls hl => ?_)
      refine lv_iinc (v := (nI (i + 1))) (lv' := [(2, .int (nI (i + 1))), (1, .int (nI ((cntB (fun k => !decide (fm k = 0)) i) + 1))), (0, .ref h)]) hx hb dX0_howManyMarked_25 hl (k := 2) rfl (by exact nI_1 _) (by decide) rfl (fun ls hl => ?_)
      refine lv_goto (tgt := 4) hx hb dX0_howManyMarked_28 (by decide) ?_
      exact ih_i (by exact trivial) ls (q_hl (lv_sub (l' := [(0, .ref h), (1, .int (nI ((cntB (fun k => !decide (fm k = 0)) i) + 1))), (2, .int (nI (i + 1)))]) hl [2, 1, 0] rfl) (q_ck (q_ce (by simp [cntB, c_2]) (q_ck (rfl)))))
  · intro hI_i ls hl
    have hl : lv_has ls 3 [(0, .ref h), (1, .int (nI (cntB (fun k => !decide (fm k = 0)) 48))), (2, .int (nI 48))] := hl
    refine lv_iload_n hx hb dX0_howManyMarked_4 rfl (lv_at hl 2 rfl) ?_
    refine lv_aload_n hx hb dX0_howManyMarked_5 rfl (lv_at hl 0 rfl) ?_
    refine va_get (D := (dC, dI)) (ci := 0) (v := .ref qm) (C := RX0) (T := TX0) (N := 8) hx hb hts hin hown hK hP 0 rfl rfl 5 (by decide) hf_26 (fun _ h9 => h9) rfl dX0_howManyMarked_6 ?_
    refine va_alen (v := 48) hx hb hK hP 3 0 rfl rfl rfl dX0_howManyMarked_9 ?_
    refine lv_icmp_ge (tgt := 31) hx hb dX0_howManyMarked_10 (by decide) (fun c_3 => ?_) (fun c_3 => absurd (by decide) c_3)
    refine lv_iload_n hx hb dX0_howManyMarked_31 rfl (lv_at hl 1 rfl) ?_
    exact q_ri hx hb hr hlk (by rfl) dX0_howManyMarked_32

theorem hdX0_howManyLegal : yX0_howManyLegal.cls = RX0 ∧ yX0_howManyLegal.cls ≠ "java/lang/invoke/MethodHandle" ∧ yX0_howManyLegal.cls ≠ "java/lang/invoke/VarHandle" ∧ (parseMethodDescriptor yX0_howManyLegal.desc).map (fun d => d.parameters.length) = some 0 := by decide +kernel
set_option maxHeartbeats 4000000 in
set_option maxRecDepth 100000 in
theorem mX0_howManyLegal (l : Launch) (dC : Nat → ClassId) (dI : Nat → Nat → Nat) (h qb qj qm qw qr : Nat) (cA : ClassId) (n : Nat) (rec lim : Int32) (fb fj fm fw fr : Nat → Int32) (hn : n ≤ 8) : Met l yX0_howManyLegal wsX0_howManyLegal ({ frames := 3, cells := 0, slots := 0, locals := 67 }) (va_Pc [.ref h] (fun U => va_P (dC, dI) vwCl (wX h qb qj qm qw qr cA (nI n) rec lim fb fj fm fw fr) U.heap ∧ va_K (dC, dI) vwCl [(cA, .int)] U)) (QcRead (nI (sumN (fun j => cntB (lgl (mk fm) (mk fw) lim j) 6) n))) 0 0 (fun _ => False) := by
  refine Met.ofW (cc := cX0_howManyLegal) (maxL := 4) (ret := (some .int)) (by decide) rfl ?_
  intro p e s m args below meth c s₁ B hml hv
  obtain ⟨rfl, hP, hK⟩ := hv
  have hx := B.exec
  have hb := B.bytes
  have hr := B.returns
  have hts := atoms_spec (ws := wsX0_howManyLegal) B.pre
  have hown : s.vm.findClass RX0 = some m.cls := findClass_of_methodNamed B.named
  have hlk := B.notSynchronized
  have hin : ∀ w ∈ wsX00, w ∈ wsX0_howManyLegal := fun w h => List.mem_cons_of_mem _ (List.mem_append_right _ h)
  have hf_7 := hts (.fieldLink RX0 7 "JumpBoard" "jumpers" "I") (by decide +kernel)
  have hl := lv_entry ([.ref h]) (n := 4) (Nat.le_of_ble_eq_true rfl)
  rw [lg_entry_eq]
  generalize (lg_sl ([.ref h]) ++ List.replicate (4 - (lg_sl ([.ref h])).length) Slot.unset).toArray = ls at hl ⊢
  have hl : lv_has ls 4 [(0, .ref h)] := hl
  refine lv_iconst (v := 0) hx hb dX0_howManyLegal_0 (by decide) ?_
  refine lv_istore_n (lv' := [(1, .int 0), (0, .ref h)]) hx hb dX0_howManyLegal_1 rfl hl (by decide) rfl (fun ls hl => ?_)
  refine lv_iconst (v := 0) hx hb dX0_howManyLegal_2 (by decide) ?_
  refine lv_istore_n (lv' := [(2, .int 0), (1, .int 0), (0, .ref h)]) hx hb dX0_howManyLegal_3 rfl hl (by decide) rfl (fun ls hl => ?_)
  refine q_lp (head := 4) (n) (fun i => [(0, .ref h), (1, .int (nI (sumN (fun j => cntB (lgl (mk fm) (mk fw) lim j) 6) i))), (2, .int (nI i))]) (fun i => True) (0) (by omega) (trivial) (q_hl (lv_sub (l' := [(0, .ref h), (1, .int 0), (2, .int 0)]) hl [2, 1, 0] rfl) (q_ck (q_ce (by rfl) (q_ce (by rfl) (rfl))))) ?_ ?_
  · intro i hi_i hI_i ih_i ls hl
    have hl : lv_has ls 4 [(0, .ref h), (1, .int (nI (sumN (fun j => cntB (lgl (mk fm) (mk fw) lim j) 6) i))), (2, .int (nI i))] := hl
    refine lv_iload_n hx hb dX0_howManyLegal_4 rfl (lv_at hl 2 rfl) ?_
    refine lv_aload_n hx hb dX0_howManyLegal_5 rfl (lv_at hl 0 rfl) ?_
    refine va_get (D := (dC, dI)) (ci := 0) (v := .int (nI n)) (C := RX0) (T := TX0) (N := 8) hx hb hts hin hown hK hP 0 rfl rfl 0 (by decide) hf_7 (fun _ h9 => h9) rfl dX0_howManyLegal_6 ?_
    refine lv_icmp_ge (tgt := 44) hx hb dX0_howManyLegal_9 (by decide) (fun c_1 => absurd c_1 (nI_ge hi_i (by omega))) (fun c_1 => ?_)
    refine lv_iconst (v := 0) hx hb dX0_howManyLegal_12 (by decide) ?_
    refine lv_istore_n (lv' := [(3, .int 0), (0, .ref h), (1, .int (nI (sumN (fun j => cntB (lgl (mk fm) (mk fw) lim j) 6) i))), (2, .int (nI i))]) hx hb dX0_howManyLegal_13 rfl hl (by decide) rfl (fun ls hl => ?_)
    refine q_lp (head := 14) (6) (fun k => [(0, .ref h), (1, .int (nI (sumN (fun j => cntB (lgl (mk fm) (mk fw) lim j) 6) i + cntB (lgl (mk fm) (mk fw) lim i) k))), (2, .int (nI i)), (3, .int (nI k))]) (fun k => True) (0) (by omega) (trivial) (q_hl (lv_sub (l' := [(0, .ref h), (1, .int (nI (sumN (fun j => cntB (lgl (mk fm) (mk fw) lim j) 6) i))), (2, .int (nI i)), (3, .int 0)]) hl [1, 2, 3, 0] rfl) (q_ck (q_ce (by rfl) (q_ck (q_ce (by rfl) (rfl)))))) ?_ ?_
    · intro k hi_k hI_k ih_k ls hl
      have hl : lv_has ls 4 [(0, .ref h), (1, .int (nI (sumN (fun j => cntB (lgl (mk fm) (mk fw) lim j) 6) i + cntB (lgl (mk fm) (mk fw) lim i) k))), (2, .int (nI i)), (3, .int (nI k))] := hl
      refine lv_iload_n hx hb dX0_howManyLegal_14 rfl (lv_at hl 3 rfl) ?_
      refine lv_bipush (v := 6) hx hb dX0_howManyLegal_15 (by decide) ?_
      refine lv_icmp_ge (tgt := 38) hx hb dX0_howManyLegal_17 (by decide) (fun c_2 => absurd c_2 (nI_ge (b := 6) hi_k (by decide))) (fun c_2 => ?_)
      refine lv_aload_n hx hb dX0_howManyLegal_20 rfl (lv_at hl 0 rfl) ?_
      refine lv_iload_n hx hb dX0_howManyLegal_21 rfl (lv_at hl 2 rfl) ?_
      refine lv_iload_n hx hb dX0_howManyLegal_22 rfl (lv_at hl 3 rfl) ?_
      refine q_cv [.int (nI i), .int (nI k)] (rest := []) ⟨hx, hb, hml, hown, hts⟩ (mX0_isLegal l dC dI h qb qj qm qw qr cA n rec lim fb fj fm fw fr i k (by omega) (by omega)) gX0_howManyLegal_X0_isLegal rfl rfl rfl hdX0_isLegal ⟨Nat.le_of_ble_eq_true rfl, Nat.le_of_ble_eq_true rfl⟩ rfl hK hP rfl rfl hl.1 rfl (Nat.le_of_ble_eq_true rfl) dX0_howManyLegal_23 ⟨Nat.zero_le _, Nat.zero_le _⟩ ?_
      refine lv_if_eq (tgt := 32) hx hb dX0_howManyLegal_26 (by decide) (fun c_3 => ?_) (fun c_3 => ?_)
      · skip
        have c_3 : (lgl (mk fm) (mk fw) lim i k) = false := b2i_0 c_3
        refine lv_iinc (v := (nI (k + 1))) (lv' := [(3, .int (nI (k + 1))), (0, .ref h), (1, .int (nI (sumN (fun j => cntB (lgl (mk fm) (mk fw) lim j) 6) i + cntB (lgl (mk fm) (mk fw) lim i) k))), (2, .int (nI i))]) hx hb dX0_howManyLegal_32 hl (k := 3) rfl (by exact nI_1 _) (by decide) rfl (fun ls hl => ?_)
        refine lv_goto (tgt := 14) hx hb dX0_howManyLegal_35 (by decide) ?_
        exact ih_k (by exact trivial) ls (q_hl (lv_sub (l' := [(0, .ref h), (1, .int (nI (sumN (fun j => cntB (lgl (mk fm) (mk fw) lim j) 6) i + cntB (lgl (mk fm) (mk fw) lim i) k))), (2, .int (nI i)), (3, .int (nI (k + 1)))]) hl [1, 2, 3, 0] rfl) (q_ck (q_ce (by simp [cntB, c_3, Nat.add_assoc]) (q_ck (q_ck (rfl))))))
      · skip
        have c_3 : (lgl (mk fm) (mk fw) lim i k) = true := b2i_n c_3
        refine lv_iinc (v := (nI ((sumN (fun j => cntB (lgl (mk fm) (mk fw) lim j) 6) i + cntB (lgl (mk fm) (mk fw) lim i) k) + 1))) (lv' := [(1, .int (nI ((sumN (fun j => cntB (lgl (mk fm) (mk fw) lim j) 6) i + cntB (lgl (mk fm) (mk fw) lim i) k) + 1))), (0, .ref h), (2, .int (nI i)), (3, .int (nI k))]) hx hb dX0_howManyLegal_29 hl (k := 1) rfl (by exact nI_1 _) (by decide) rfl (fun ls hl => ?_)
        refine lv_iinc (v := (nI (k + 1))) (lv' := [(3, .int (nI (k + 1))), (1, .int (nI ((sumN (fun j => cntB (lgl (mk fm) (mk fw) lim j) 6) i + cntB (lgl (mk fm) (mk fw) lim i) k) + 1))), (0, .ref h), (2, .int (nI i))]) hx hb dX0_howManyLegal_32 hl (k := 3) rfl (by exact nI_1 _) (by decide) rfl (fun ls hl => ?_)
        refine lv_goto (tgt := 14) hx hb dX0_howManyLegal_35 (by decide) ?_
        exact ih_k (by exact trivial) ls (q_hl (lv_sub (l' := [(0, .ref h), (1, .int (nI ((sumN (fun j => cntB (lgl (mk fm) (mk fw) lim j) 6) i + cntB (lgl (mk fm) (mk fw) lim i) k) + 1))), (2, .int (nI i)), (3, .int (nI (k + 1)))]) hl [2, 1, 3, 0] rfl) (q_ck (q_ce (by simp [cntB, c_3, Nat.add_assoc]) (q_ck (q_ck (rfl))))))
    · intro hI_k ls hl
      have hl : lv_has ls 4 [(0, .ref h), (1, .int (nI (sumN (fun j => cntB (lgl (mk fm) (mk fw) lim j) 6) i + cntB (lgl (mk fm) (mk fw) lim i) 6))), (2, .int (nI i)), (3, .int (nI 6))] := hl
      refine lv_iload_n hx hb dX0_howManyLegal_14 rfl (lv_at hl 3 rfl) ?_
      refine lv_bipush (v := 6) hx hb dX0_howManyLegal_15 (by decide) ?_
      refine lv_icmp_ge (tgt := 38) hx hb dX0_howManyLegal_17 (by decide) (fun c_4 => ?_) (fun c_4 => absurd (by decide) c_4)
      refine lv_iinc (v := (nI (i + 1))) (lv' := [(2, .int (nI (i + 1))), (0, .ref h), (1, .int (nI (sumN (fun j => cntB (lgl (mk fm) (mk fw) lim j) 6) i + cntB (lgl (mk fm) (mk fw) lim i) 6))), (3, .int (nI 6))]) hx hb dX0_howManyLegal_38 hl (k := 2) rfl (by exact nI_1 _) (by decide) rfl (fun ls hl => ?_)
      refine lv_goto (tgt := 4) hx hb dX0_howManyLegal_41 (by decide) ?_
      exact ih_i (by exact trivial) ls (q_hl (lv_sub (l' := [(0, .ref h), (1, .int (nI (sumN (fun j => cntB (lgl (mk fm) (mk fw) lim j) 6) i + cntB (lgl (mk fm) (mk fw) lim i) 6))), (2, .int (nI (i + 1)))]) hl [1, 2, 0] rfl) (q_ck (q_ce (by rfl) (q_ck (rfl)))))
  · intro hI_i ls hl
    have hl : lv_has ls 4 [(0, .ref h), (1, .int (nI (sumN (fun j => cntB (lgl (mk fm) (mk fw) lim j) 6) n))), (2, .int (nI n))] := hl
    refine lv_iload_n hx hb dX0_howManyLegal_4 rfl (lv_at hl 2 rfl) ?_
    refine lv_aload_n hx hb dX0_howManyLegal_5 rfl (lv_at hl 0 rfl) ?_
    refine va_get (D := (dC, dI)) (ci := 0) (v := .int (nI n)) (C := RX0) (T := TX0) (N := 8) hx hb hts hin hown hK hP 0 rfl rfl 0 (by decide) hf_7 (fun _ h9 => h9) rfl dX0_howManyLegal_6 ?_
    refine lv_icmp_ge (tgt := 44) hx hb dX0_howManyLegal_9 (by decide) (fun c_5 => ?_) (fun c_5 => absurd (nI_le (Nat.le_refl n) (by omega)) c_5)
    refine lv_iload_n hx hb dX0_howManyLegal_44 rfl (lv_at hl 1 rfl) ?_
    exact q_ri hx hb hr hlk (by rfl) dX0_howManyLegal_45
end
section
def a0Told (fj fm : Nat → Int32) (M V : Nat → Nat → Int32) (n : Nat) (rec lim w : Int32) : Int32 := if w = 0 then nI n else if w = 1 then sumI fj n else if w = 2 then sumI fj n - nI (cntB (fun k => !decide (fm k = 0)) 48) else if w = 3 then nI (sumN (fun j => cntB (lgl M V lim j) 6) n) else if w = 4 then rec else if w = 5 then lim else -1000
theorem tOut6 {x : Int32} (h0 : ¬ x = 0) (h1 : ¬ x = 1) (h2 : ¬ x = 2) (h3 : ¬ x = 3) (h4 : ¬ x = 4) (h5 : ¬ x = 5) : x.toInt < 0 ∨ 5 < x.toInt := by
  have a0 := lv_neT (a := 0) h0 rfl
  have a1 := lv_neT (a := 1) h1 rfl
  have a2 := lv_neT (a := 2) h2 rfl
  have a3 := lv_neT (a := 3) h3 rfl
  have a4 := lv_neT (a := 4) h4 rfl
  have a5 := lv_neT (a := 5) h5 rfl
  omega
theorem qst_j {n h w x v : Int32} (q : qst n h w x v = true) : jmp n x = true := by
  simp [qst] at q
  exact q.2.2.1
theorem qst_h {n h w x v : Int32} (q : qst n h w x v = true) : hwo h = true := by
  simp [qst] at q
  exact q.1
theorem lenB_le (q : Nat → Bool) (i : Nat) : lenB q i ≤ i := by
  induction i with
  | zero => exact Nat.le_refl 0
  | succ i ih =>
    simp only [lenB]
    split <;> omega
theorem mostB_le (q : Nat → Bool) (i : Nat) : mostB q i ≤ i := by
  induction i with
  | zero => exact Nat.le_refl 0
  | succ i ih =>
    have := lenB_le q (i + 1)
    simp only [mostB]
    split <;> omega
theorem mostB_nI {q : Nat → Bool} {i : Nat} (h : i < 6) : (if nI (mostB q i) < nI (lenB q (i + 1)) then nI (lenB q (i + 1)) else nI (mostB q i)) = nI (mostB q (i + 1)) := by
  have a := lenB_le q (i + 1)
  have b := mostB_le q i
  simp only [mostB]
  by_cases c : mostB q i < lenB q (i + 1)
  · rw [if_pos c, if_pos (nI_lt c (by omega))]
  · rw [if_neg c, if_neg (nI_nlt (by omega) (by omega))]
theorem skpF_eq {q : Nat → Bool} {i : Nat} (h : i < 6) : skpF q (6 - i) i = if q i = true then skpF q (6 - (i + 1)) (i + 1) else i := by
  rw [show 6 - i = (6 - (i + 1)) + 1 by omega]
  rfl
theorem hdX0_value : yX0_value.cls = RX0 ∧ yX0_value.cls ≠ "java/lang/invoke/MethodHandle" ∧ yX0_value.cls ≠ "java/lang/invoke/VarHandle" ∧ (parseMethodDescriptor yX0_value.desc).map (fun d => d.parameters.length) = some 3 := by decide +kernel
set_option maxHeartbeats 4000000 in
set_option maxRecDepth 100000 in
theorem mX0_value (l : Launch) (dC : Nat → ClassId) (dI : Nat → Nat → Nat) (h qb qj qm qw qr : Nat) (cA : ClassId) (n : Nat) (rec lim : Int32) (fb fj fm fw fr : Nat → Int32) (w : Int32) (x : Int32) (r : Int32) (hn : n ≤ 8) : Met l yX0_value wsX0_value ({ frames := 2, cells := 0, slots := 0, locals := 44 }) (va_Pc [.ref h, .int w, .int x, .int r] (fun U => va_P (dC, dI) vwCl (wX h qb qj qm qw qr cA (nI n) rec lim fb fj fm fw fr) U.heap ∧ va_K (dC, dI) vwCl [(cA, .int)] U)) (QcRead (aValue (mk fm) (mk fw) (nI n) w x r)) 0 0 (fun _ => False) := by
  refine Met.ofW (cc := cX0_value) (maxL := 4) (ret := (some .int)) (by decide) rfl ?_
  intro p e s m args below meth c s₁ B hml hv
  obtain ⟨rfl, hP, hK⟩ := hv
  have hx := B.exec
  have hb := B.bytes
  have hr := B.returns
  have hts := atoms_spec (ws := wsX0_value) B.pre
  have hown : s.vm.findClass RX0 = some m.cls := findClass_of_methodNamed B.named
  have hlk := B.notSynchronized
  have hl := lv_entry ([.ref h, .int w, .int x, .int r]) (n := 4) (Nat.le_of_ble_eq_true rfl)
  rw [lg_entry_eq]
  generalize (lg_sl ([.ref h, .int w, .int x, .int r]) ++ List.replicate (4 - (lg_sl ([.ref h, .int w, .int x, .int r])).length) Slot.unset).toArray = ls at hl ⊢
  have hl : lv_has ls 4 [(0, .ref h), (1, .int w), (2, .int x), (3, .int r)] := hl
  refine lv_iload_n hx hb dX0_value_0 rfl (lv_at hl 1 rfl) ?_
  refine q_cs [.int w] (rest := []) ⟨hx, hb, hml, hown, hts⟩ (mX0_isWhat l w) gX0_value_X0_isWhat rfl rfl rfl hdX0_isWhat ⟨Nat.le_of_ble_eq_true rfl, Nat.le_of_ble_eq_true rfl⟩ rfl hl.1 rfl (Nat.le_of_ble_eq_true rfl) dX0_value_1 ⟨Nat.zero_le _, Nat.zero_le _⟩ ?_
  refine lv_if_eq (tgt := 22) hx hb dX0_value_4 (by decide) (fun c_1 => ?_) (fun c_1 => ?_)
  · skip
    have c_1 : (wht w) = false := b2i_0 c_1
    refine lv_sipush (v := (-1000)) hx hb dX0_value_22 (by decide) ?_
    exact q_ri hx hb hr hlk (by simp [aValue, c_1]) dX0_value_25
  · skip
    have c_1 : (wht w) = true := b2i_n c_1
    refine lv_aload_n hx hb dX0_value_7 rfl (lv_at hl 0 rfl) ?_
    refine lv_iload_n hx hb dX0_value_8 rfl (lv_at hl 2 rfl) ?_
    refine q_cv [.int x] (rest := []) ⟨hx, hb, hml, hown, hts⟩ (mX0_isJumper l dC dI h qb qj qm qw qr cA n rec lim fb fj fm fw fr x) gX0_value_X0_isJumper rfl rfl rfl hdX0_isJumper ⟨Nat.le_of_ble_eq_true rfl, Nat.le_of_ble_eq_true rfl⟩ rfl hK hP rfl rfl hl.1 rfl (Nat.le_of_ble_eq_true rfl) dX0_value_9 ⟨Nat.zero_le _, Nat.zero_le _⟩ ?_
    refine lv_if_eq (tgt := 22) hx hb dX0_value_12 (by decide) (fun c_2 => ?_) (fun c_2 => ?_)
    · skip
      have c_2 : (jmp (nI n) x) = false := b2i_0 c_2
      refine lv_sipush (v := (-1000)) hx hb dX0_value_22 (by decide) ?_
      exact q_ri hx hb hr hlk (by simp [aValue, c_1, c_2]) dX0_value_25
    · skip
      have c_2 : (jmp (nI n) x) = true := b2i_n c_2
      refine lv_iload_n hx hb dX0_value_15 rfl (lv_at hl 3 rfl) ?_
      refine q_cs [.int r] (rest := []) ⟨hx, hb, hml, hown, hts⟩ (mX0_isRound l r) gX0_value_X0_isRound rfl rfl rfl hdX0_isRound ⟨Nat.le_of_ble_eq_true rfl, Nat.le_of_ble_eq_true rfl⟩ rfl hl.1 rfl (Nat.le_of_ble_eq_true rfl) dX0_value_16 ⟨Nat.zero_le _, Nat.zero_le _⟩ ?_
      refine lv_if_ne (tgt := 26) hx hb dX0_value_19 (by decide) (fun c_3 => ?_) (fun c_3 => ?_)
      · skip
        have c_3 : (rnd r) = true := b2i_n c_3
        obtain ⟨j, hj, rfl⟩ := jmp_of c_2 hn
        obtain ⟨r6, hr6, rfl⟩ := rnd_of c_3
        refine lv_aload_n hx hb dX0_value_26 rfl (lv_at hl 0 rfl) ?_
        refine lv_iload_n hx hb dX0_value_27 rfl (lv_at hl 1 rfl) ?_
        refine lv_iload_n hx hb dX0_value_28 rfl (lv_at hl 2 rfl) ?_
        refine lv_iload_n hx hb dX0_value_29 rfl (lv_at hl 3 rfl) ?_
        refine q_cv [.int w, .int (nI j), .int (nI r6)] (rest := []) ⟨hx, hb, hml, hown, hts⟩ (mX0_valueOf l dC dI h qb qj qm qw qr cA n rec lim fb fj fm fw fr w j r6 (by omega) (by omega)) gX0_value_X0_valueOf rfl rfl rfl hdX0_valueOf ⟨Nat.le_of_ble_eq_true rfl, Nat.le_of_ble_eq_true rfl⟩ rfl hK hP rfl rfl hl.1 rfl (Nat.le_of_ble_eq_true rfl) dX0_value_30 ⟨Nat.zero_le _, Nat.zero_le _⟩ ?_
        exact q_ri hx hb hr hlk (by rw [aValue, if_pos (by simp [c_1, c_2, c_3]), nI_clamp (by omega), nI_clamp (by omega)]) dX0_value_33
      · skip
        have c_3 : (rnd r) = false := b2i_0 c_3
        refine lv_sipush (v := (-1000)) hx hb dX0_value_22 (by decide) ?_
        exact q_ri hx hb hr hlk (by simp [aValue, c_1, c_2, c_3]) dX0_value_25

theorem hdX0_fits : yX0_fits.cls = RX0 ∧ yX0_fits.cls ≠ "java/lang/invoke/MethodHandle" ∧ yX0_fits.cls ≠ "java/lang/invoke/VarHandle" ∧ (parseMethodDescriptor yX0_fits.desc).map (fun d => d.parameters.length) = some 5 := by decide +kernel
set_option maxHeartbeats 4000000 in
set_option maxRecDepth 100000 in
theorem mX0_fits (l : Launch) (dC : Nat → ClassId) (dI : Nat → Nat → Nat) (h qb qj qm qw qr : Nat) (cA : ClassId) (n : Nat) (rec lim : Int32) (fb fj fm fw fr : Nat → Int32) (k : Int32) (w : Int32) (x : Int32) (a : Int32) (b : Int32) (hn : n ≤ 8) : Met l yX0_fits wsX0_fits ({ frames := 2, cells := 0, slots := 0, locals := 45 }) (va_Pc [.ref h, .int k, .int w, .int x, .int a, .int b] (fun U => va_P (dC, dI) vwCl (wX h qb qj qm qw qr cA (nI n) rec lim fb fj fm fw fr) U.heap ∧ va_K (dC, dI) vwCl [(cA, .int)] U)) (QcRead (aFits (mk fm) (mk fw) (nI n) k w x a b)) 0 0 (fun _ => False) := by
  refine Met.ofW (cc := cX0_fits) (maxL := 6) (ret := (some .int)) (by decide) rfl ?_
  intro p e s m args below meth c s₁ B hml hv
  obtain ⟨rfl, hP, hK⟩ := hv
  have hx := B.exec
  have hb := B.bytes
  have hr := B.returns
  have hts := atoms_spec (ws := wsX0_fits) B.pre
  have hown : s.vm.findClass RX0 = some m.cls := findClass_of_methodNamed B.named
  have hlk := B.notSynchronized
  have hl := lv_entry ([.ref h, .int k, .int w, .int x, .int a, .int b]) (n := 6) (Nat.le_of_ble_eq_true rfl)
  rw [lg_entry_eq]
  generalize (lg_sl ([.ref h, .int k, .int w, .int x, .int a, .int b]) ++ List.replicate (6 - (lg_sl ([.ref h, .int k, .int w, .int x, .int a, .int b])).length) Slot.unset).toArray = ls at hl ⊢
  have hl : lv_has ls 6 [(0, .ref h), (1, .int k), (2, .int w), (3, .int x), (4, .int a), (5, .int b)] := hl
  refine lv_iload_n hx hb dX0_fits_0 rfl (lv_at hl 1 rfl) ?_
  refine q_cs [.int k] (rest := []) ⟨hx, hb, hml, hown, hts⟩ (mX0_isHow l k) gX0_fits_X0_isHow rfl rfl rfl hdX0_isHow ⟨Nat.le_of_ble_eq_true rfl, Nat.le_of_ble_eq_true rfl⟩ rfl hl.1 rfl (Nat.le_of_ble_eq_true rfl) dX0_fits_1 ⟨Nat.zero_le _, Nat.zero_le _⟩ ?_
  refine lv_if_eq (tgt := 38) hx hb dX0_fits_4 (by decide) (fun c_1 => ?_) (fun c_1 => ?_)
  · skip
    have c_1 : (hwo k) = false := b2i_0 c_1
    refine lv_sipush (v := (-1000)) hx hb dX0_fits_38 (by decide) ?_
    exact q_ri hx hb hr hlk (by simp [aFits, c_1]) dX0_fits_41
  · skip
    have c_1 : (hwo k) = true := b2i_n c_1
    refine lv_iload_n hx hb dX0_fits_7 rfl (lv_at hl 2 rfl) ?_
    refine q_cs [.int w] (rest := []) ⟨hx, hb, hml, hown, hts⟩ (mX0_isWhat l w) gX0_fits_X0_isWhat rfl rfl rfl hdX0_isWhat ⟨Nat.le_of_ble_eq_true rfl, Nat.le_of_ble_eq_true rfl⟩ rfl hl.1 rfl (Nat.le_of_ble_eq_true rfl) dX0_fits_8 ⟨Nat.zero_le _, Nat.zero_le _⟩ ?_
    refine lv_if_eq (tgt := 38) hx hb dX0_fits_11 (by decide) (fun c_2 => ?_) (fun c_2 => ?_)
    · skip
      have c_2 : (wht w) = false := b2i_0 c_2
      refine lv_sipush (v := (-1000)) hx hb dX0_fits_38 (by decide) ?_
      exact q_ri hx hb hr hlk (by simp [aFits, c_1, c_2]) dX0_fits_41
    · skip
      have c_2 : (wht w) = true := b2i_n c_2
      refine lv_aload_n hx hb dX0_fits_14 rfl (lv_at hl 0 rfl) ?_
      refine lv_iload_n hx hb dX0_fits_15 rfl (lv_at hl 3 rfl) ?_
      refine q_cv [.int x] (rest := []) ⟨hx, hb, hml, hown, hts⟩ (mX0_isJumper l dC dI h qb qj qm qw qr cA n rec lim fb fj fm fw fr x) gX0_fits_X0_isJumper rfl rfl rfl hdX0_isJumper ⟨Nat.le_of_ble_eq_true rfl, Nat.le_of_ble_eq_true rfl⟩ rfl hK hP rfl rfl hl.1 rfl (Nat.le_of_ble_eq_true rfl) dX0_fits_16 ⟨Nat.zero_le _, Nat.zero_le _⟩ ?_
      refine lv_if_eq (tgt := 38) hx hb dX0_fits_19 (by decide) (fun c_3 => ?_) (fun c_3 => ?_)
      · skip
        have c_3 : (jmp (nI n) x) = false := b2i_0 c_3
        refine lv_sipush (v := (-1000)) hx hb dX0_fits_38 (by decide) ?_
        exact q_ri hx hb hr hlk (by simp [aFits, c_1, c_2, c_3]) dX0_fits_41
      · skip
        have c_3 : (jmp (nI n) x) = true := b2i_n c_3
        refine lv_iload hx hb dX0_fits_22 (lv_at hl 4 rfl) ?_
        refine q_cs [.int a] (rest := []) ⟨hx, hb, hml, hown, hts⟩ (mX0_isRound l a) gX0_fits_X0_isRound rfl rfl rfl hdX0_isRound ⟨Nat.le_of_ble_eq_true rfl, Nat.le_of_ble_eq_true rfl⟩ rfl hl.1 rfl (Nat.le_of_ble_eq_true rfl) dX0_fits_24 ⟨Nat.zero_le _, Nat.zero_le _⟩ ?_
        refine lv_if_eq (tgt := 38) hx hb dX0_fits_27 (by decide) (fun c_4 => ?_) (fun c_4 => ?_)
        · skip
          have c_4 : (rnd a) = false := b2i_0 c_4
          refine lv_sipush (v := (-1000)) hx hb dX0_fits_38 (by decide) ?_
          exact q_ri hx hb hr hlk (by simp [aFits, c_1, c_2, c_3, c_4]) dX0_fits_41
        · skip
          have c_4 : (rnd a) = true := b2i_n c_4
          refine lv_iload hx hb dX0_fits_30 (lv_at hl 5 rfl) ?_
          refine q_cs [.int b] (rest := []) ⟨hx, hb, hml, hown, hts⟩ (mX0_isRound l b) gX0_fits_X0_isRound rfl rfl rfl hdX0_isRound ⟨Nat.le_of_ble_eq_true rfl, Nat.le_of_ble_eq_true rfl⟩ rfl hl.1 rfl (Nat.le_of_ble_eq_true rfl) dX0_fits_32 ⟨Nat.zero_le _, Nat.zero_le _⟩ ?_
          refine lv_if_ne (tgt := 42) hx hb dX0_fits_35 (by decide) (fun c_5 => ?_) (fun c_5 => ?_)
          · skip
            have c_5 : (rnd b) = true := b2i_n c_5
            obtain ⟨j, hj, rfl⟩ := jmp_of c_3 hn
            obtain ⟨a6, ha6, rfl⟩ := rnd_of c_4
            obtain ⟨b6, hb6, rfl⟩ := rnd_of c_5
            refine lv_iload_n hx hb dX0_fits_42 rfl (lv_at hl 1 rfl) ?_
            refine lv_iload_n hx hb dX0_fits_43 rfl (lv_at hl 2 rfl) ?_
            refine lv_aload_n hx hb dX0_fits_44 rfl (lv_at hl 0 rfl) ?_
            refine lv_iload_n hx hb dX0_fits_45 rfl (lv_at hl 2 rfl) ?_
            refine lv_iload_n hx hb dX0_fits_46 rfl (lv_at hl 3 rfl) ?_
            refine lv_iload hx hb dX0_fits_47 (lv_at hl 4 rfl) ?_
            refine q_cv [.int w, .int (nI j), .int (nI a6)] (rest := [.int w, .int k]) ⟨hx, hb, hml, hown, hts⟩ (mX0_valueOf l dC dI h qb qj qm qw qr cA n rec lim fb fj fm fw fr w j a6 (by omega) (by omega)) gX0_fits_X0_valueOf rfl rfl rfl hdX0_valueOf ⟨Nat.le_of_ble_eq_true rfl, Nat.le_of_ble_eq_true rfl⟩ rfl hK hP rfl rfl hl.1 rfl (Nat.le_of_ble_eq_true rfl) dX0_fits_49 ⟨Nat.zero_le _, Nat.zero_le _⟩ ?_
            refine lv_aload_n hx hb dX0_fits_52 rfl (lv_at hl 0 rfl) ?_
            refine lv_iload_n hx hb dX0_fits_53 rfl (lv_at hl 2 rfl) ?_
            refine lv_iload_n hx hb dX0_fits_54 rfl (lv_at hl 3 rfl) ?_
            refine lv_iload hx hb dX0_fits_55 (lv_at hl 5 rfl) ?_
            refine q_cv [.int w, .int (nI j), .int (nI b6)] (rest := [.int (vlu (mk fm) (mk fw) w j a6), .int w, .int k]) ⟨hx, hb, hml, hown, hts⟩ (mX0_valueOf l dC dI h qb qj qm qw qr cA n rec lim fb fj fm fw fr w j b6 (by omega) (by omega)) gX0_fits_X0_valueOf rfl rfl rfl hdX0_valueOf ⟨Nat.le_of_ble_eq_true rfl, Nat.le_of_ble_eq_true rfl⟩ rfl hK hP rfl rfl hl.1 rfl (Nat.le_of_ble_eq_true rfl) dX0_fits_57 ⟨Nat.zero_le _, Nat.zero_le _⟩ ?_
            refine q_cs [.int k, .int w, .int (vlu (mk fm) (mk fw) w j a6), .int (vlu (mk fm) (mk fw) w j b6)] (rest := []) ⟨hx, hb, hml, hown, hts⟩ (mX0_valueFits l k w (vlu (mk fm) (mk fw) w j a6) (vlu (mk fm) (mk fw) w j b6)) gX0_fits_X0_valueFits rfl rfl rfl hdX0_valueFits ⟨Nat.le_of_ble_eq_true rfl, Nat.le_of_ble_eq_true rfl⟩ rfl hl.1 rfl (Nat.le_of_ble_eq_true rfl) dX0_fits_60 ⟨Nat.zero_le _, Nat.zero_le _⟩ ?_
            refine lv_if_eq (tgt := 70) hx hb dX0_fits_63 (by decide) (fun c_6 => ?_) (fun c_6 => ?_)
            · skip
              have c_6 : (fitv k w (vlu (mk fm) (mk fw) w j a6) (vlu (mk fm) (mk fw) w j b6)) = false := b2i_0 c_6
              refine lv_iconst (v := 0) hx hb dX0_fits_70 (by decide) ?_
              exact q_ri hx hb hr hlk (by rw [aFits, if_pos (by simp [c_1, c_2, c_3, c_4, c_5]), nI_clamp (by omega), nI_clamp (by omega), nI_clamp (by omega), c_6]; rfl) dX0_fits_71
            · skip
              have c_6 : (fitv k w (vlu (mk fm) (mk fw) w j a6) (vlu (mk fm) (mk fw) w j b6)) = true := b2i_n c_6
              refine lv_iconst (v := 1) hx hb dX0_fits_66 (by decide) ?_
              refine lv_goto (tgt := 71) hx hb dX0_fits_67 (by decide) ?_
              exact q_ri hx hb hr hlk (by rw [aFits, if_pos (by simp [c_1, c_2, c_3, c_4, c_5]), nI_clamp (by omega), nI_clamp (by omega), nI_clamp (by omega), c_6]; rfl) dX0_fits_71
          · skip
            have c_5 : (rnd b) = false := b2i_0 c_5
            refine lv_sipush (v := (-1000)) hx hb dX0_fits_38 (by decide) ?_
            exact q_ri hx hb hr hlk (by simp [aFits, c_1, c_2, c_3, c_4, c_5]) dX0_fits_41

theorem hdX0_count : yX0_count.cls = RX0 ∧ yX0_count.cls ≠ "java/lang/invoke/MethodHandle" ∧ yX0_count.cls ≠ "java/lang/invoke/VarHandle" ∧ (parseMethodDescriptor yX0_count.desc).map (fun d => d.parameters.length) = some 4 := by decide +kernel
set_option maxHeartbeats 4000000 in
set_option maxRecDepth 100000 in
theorem mX0_count (l : Launch) (dC : Nat → ClassId) (dI : Nat → Nat → Nat) (h qb qj qm qw qr : Nat) (cA : ClassId) (n : Nat) (rec lim : Int32) (fb fj fm fw fr : Nat → Int32) (k : Int32) (w : Int32) (x : Int32) (v : Int32) (hn : n ≤ 8) : Met l yX0_count wsX0_count ({ frames := 2, cells := 0, slots := 0, locals := 45 }) (va_Pc [.ref h, .int k, .int w, .int x, .int v] (fun U => va_P (dC, dI) vwCl (wX h qb qj qm qw qr cA (nI n) rec lim fb fj fm fw fr) U.heap ∧ va_K (dC, dI) vwCl [(cA, .int)] U)) (QcRead (aCount (mk fm) (mk fw) (nI n) k w x v)) 0 0 (fun _ => False) := by
  refine Met.ofW (cc := cX0_count) (maxL := 7) (ret := (some .int)) (by decide) rfl ?_
  intro p e s m args below meth c s₁ B hml hv
  obtain ⟨rfl, hP, hK⟩ := hv
  have hx := B.exec
  have hb := B.bytes
  have hr := B.returns
  have hts := atoms_spec (ws := wsX0_count) B.pre
  have hown : s.vm.findClass RX0 = some m.cls := findClass_of_methodNamed B.named
  have hlk := B.notSynchronized
  have hl := lv_entry ([.ref h, .int k, .int w, .int x, .int v]) (n := 7) (Nat.le_of_ble_eq_true rfl)
  rw [lg_entry_eq]
  generalize (lg_sl ([.ref h, .int k, .int w, .int x, .int v]) ++ List.replicate (7 - (lg_sl ([.ref h, .int k, .int w, .int x, .int v])).length) Slot.unset).toArray = ls at hl ⊢
  have hl : lv_has ls 7 [(0, .ref h), (1, .int k), (2, .int w), (3, .int x), (4, .int v)] := hl
  refine lv_aload_n hx hb dX0_count_0 rfl (lv_at hl 0 rfl) ?_
  refine lv_iload_n hx hb dX0_count_1 rfl (lv_at hl 1 rfl) ?_
  refine lv_iload_n hx hb dX0_count_2 rfl (lv_at hl 2 rfl) ?_
  refine lv_iload_n hx hb dX0_count_3 rfl (lv_at hl 3 rfl) ?_
  refine lv_iload hx hb dX0_count_4 (lv_at hl 4 rfl) ?_
  refine q_cv [.int k, .int w, .int x, .int v] (rest := []) ⟨hx, hb, hml, hown, hts⟩ (mX0_isQuestion l dC dI h qb qj qm qw qr cA n rec lim fb fj fm fw fr k w x v) gX0_count_X0_isQuestion rfl rfl rfl hdX0_isQuestion ⟨Nat.le_of_ble_eq_true rfl, Nat.le_of_ble_eq_true rfl⟩ rfl hK hP rfl rfl hl.1 rfl (Nat.le_of_ble_eq_true rfl) dX0_count_6 ⟨Nat.zero_le _, Nat.zero_le _⟩ ?_
  refine lv_if_ne (tgt := 16) hx hb dX0_count_9 (by decide) (fun c_1 => ?_) (fun c_1 => ?_)
  · skip
    have c_1 : (qst (nI n) k w x v) = true := b2i_n c_1
    obtain ⟨j, hj, rfl⟩ := jmp_of (qst_j c_1) hn
    refine lv_iconst (v := 0) hx hb dX0_count_16 (by decide) ?_
    refine lv_istore (lv' := [(5, .int 0), (0, .ref h), (1, .int k), (2, .int w), (3, .int (nI j)), (4, .int v)]) hx hb dX0_count_17 hl (by decide) rfl (fun ls hl => ?_)
    refine lv_iconst (v := 0) hx hb dX0_count_19 (by decide) ?_
    refine lv_istore (lv' := [(6, .int 0), (5, .int 0), (0, .ref h), (1, .int k), (2, .int w), (3, .int (nI j)), (4, .int v)]) hx hb dX0_count_20 hl (by decide) rfl (fun ls hl => ?_)
    refine q_lp (head := 22) (6) (fun i => [(0, .ref h), (1, .int k), (2, .int w), (3, .int (nI j)), (4, .int v), (5, .int (nI (cntB (fun r => fitv k w (vlu (mk fm) (mk fw) w j r) v) i))), (6, .int (nI i))]) (fun i => True) (0) (by omega) (trivial) (q_hl (lv_sub (l' := [(0, .ref h), (1, .int k), (2, .int w), (3, .int (nI j)), (4, .int v), (5, .int 0), (6, .int 0)]) hl [2, 3, 4, 5, 6, 1, 0] rfl) (q_ck (q_ck (q_ck (q_ck (q_ck (q_ce (by rfl) (q_ce (by rfl) (rfl))))))))) ?_ ?_
    · intro i hi_i hI_i ih_i ls hl
      have hl : lv_has ls 7 [(0, .ref h), (1, .int k), (2, .int w), (3, .int (nI j)), (4, .int v), (5, .int (nI (cntB (fun r => fitv k w (vlu (mk fm) (mk fw) w j r) v) i))), (6, .int (nI i))] := hl
      refine lv_iload hx hb dX0_count_22 (lv_at hl 6 rfl) ?_
      refine lv_bipush (v := 6) hx hb dX0_count_24 (by decide) ?_
      refine lv_icmp_ge (tgt := 56) hx hb dX0_count_26 (by decide) (fun c_2 => absurd c_2 (nI_ge (b := 6) hi_i (by decide))) (fun c_2 => ?_)
      refine lv_iload_n hx hb dX0_count_29 rfl (lv_at hl 1 rfl) ?_
      refine lv_iload_n hx hb dX0_count_30 rfl (lv_at hl 2 rfl) ?_
      refine lv_aload_n hx hb dX0_count_31 rfl (lv_at hl 0 rfl) ?_
      refine lv_iload_n hx hb dX0_count_32 rfl (lv_at hl 2 rfl) ?_
      refine lv_iload_n hx hb dX0_count_33 rfl (lv_at hl 3 rfl) ?_
      refine lv_iload hx hb dX0_count_34 (lv_at hl 6 rfl) ?_
      refine q_cv [.int w, .int (nI j), .int (nI i)] (rest := [.int w, .int k]) ⟨hx, hb, hml, hown, hts⟩ (mX0_valueOf l dC dI h qb qj qm qw qr cA n rec lim fb fj fm fw fr w j i (by omega) (by omega)) gX0_count_X0_valueOf rfl rfl rfl hdX0_valueOf ⟨Nat.le_of_ble_eq_true rfl, Nat.le_of_ble_eq_true rfl⟩ rfl hK hP rfl rfl hl.1 rfl (Nat.le_of_ble_eq_true rfl) dX0_count_36 ⟨Nat.zero_le _, Nat.zero_le _⟩ ?_
      refine lv_iload hx hb dX0_count_39 (lv_at hl 4 rfl) ?_
      refine q_cs [.int k, .int w, .int (vlu (mk fm) (mk fw) w j i), .int v] (rest := []) ⟨hx, hb, hml, hown, hts⟩ (mX0_valueFits l k w (vlu (mk fm) (mk fw) w j i) v) gX0_count_X0_valueFits rfl rfl rfl hdX0_valueFits ⟨Nat.le_of_ble_eq_true rfl, Nat.le_of_ble_eq_true rfl⟩ rfl hl.1 rfl (Nat.le_of_ble_eq_true rfl) dX0_count_41 ⟨Nat.zero_le _, Nat.zero_le _⟩ ?_
      refine lv_if_eq (tgt := 50) hx hb dX0_count_44 (by decide) (fun c_3 => ?_) (fun c_3 => ?_)
      · skip
        have c_3 : (fitv k w (vlu (mk fm) (mk fw) w j i) v) = false := b2i_0 c_3
        refine lv_iinc (v := (nI (i + 1))) (lv' := [(6, .int (nI (i + 1))), (0, .ref h), (1, .int k), (2, .int w), (3, .int (nI j)), (4, .int v), (5, .int (nI (cntB (fun r => fitv k w (vlu (mk fm) (mk fw) w j r) v) i)))]) hx hb dX0_count_50 hl (k := 6) rfl (by exact nI_1 _) (by decide) rfl (fun ls hl => ?_)
        refine lv_goto (tgt := 22) hx hb dX0_count_53 (by decide) ?_
        exact ih_i (by exact trivial) ls (q_hl (lv_sub (l' := [(0, .ref h), (1, .int k), (2, .int w), (3, .int (nI j)), (4, .int v), (5, .int (nI (cntB (fun r => fitv k w (vlu (mk fm) (mk fw) w j r) v) i))), (6, .int (nI (i + 1)))]) hl [1, 2, 3, 4, 5, 6, 0] rfl) (q_ck (q_ck (q_ck (q_ck (q_ck (q_ce (by simp [cntB, c_1, c_3]) (q_ck (rfl)))))))))
      · skip
        have c_3 : (fitv k w (vlu (mk fm) (mk fw) w j i) v) = true := b2i_n c_3
        refine lv_iinc (v := (nI ((cntB (fun r => fitv k w (vlu (mk fm) (mk fw) w j r) v) i) + 1))) (lv' := [(5, .int (nI ((cntB (fun r => fitv k w (vlu (mk fm) (mk fw) w j r) v) i) + 1))), (0, .ref h), (1, .int k), (2, .int w), (3, .int (nI j)), (4, .int v), (6, .int (nI i))]) hx hb dX0_count_47 hl (k := 5) rfl (by exact nI_1 _) (by decide) rfl (fun ls hl => ?_)
        refine lv_iinc (v := (nI (i + 1))) (lv' := [(6, .int (nI (i + 1))), (5, .int (nI ((cntB (fun r => fitv k w (vlu (mk fm) (mk fw) w j r) v) i) + 1))), (0, .ref h), (1, .int k), (2, .int w), (3, .int (nI j)), (4, .int v)]) hx hb dX0_count_50 hl (k := 6) rfl (by exact nI_1 _) (by decide) rfl (fun ls hl => ?_)
        refine lv_goto (tgt := 22) hx hb dX0_count_53 (by decide) ?_
        exact ih_i (by exact trivial) ls (q_hl (lv_sub (l' := [(0, .ref h), (1, .int k), (2, .int w), (3, .int (nI j)), (4, .int v), (5, .int (nI ((cntB (fun r => fitv k w (vlu (mk fm) (mk fw) w j r) v) i) + 1))), (6, .int (nI (i + 1)))]) hl [2, 3, 4, 5, 6, 1, 0] rfl) (q_ck (q_ck (q_ck (q_ck (q_ck (q_ce (by simp [cntB, c_1, c_3]) (q_ck (rfl)))))))))
    · intro hI_i ls hl
      have hl : lv_has ls 7 [(0, .ref h), (1, .int k), (2, .int w), (3, .int (nI j)), (4, .int v), (5, .int (nI (cntB (fun r => fitv k w (vlu (mk fm) (mk fw) w j r) v) 6))), (6, .int (nI 6))] := hl
      refine lv_iload hx hb dX0_count_22 (lv_at hl 6 rfl) ?_
      refine lv_bipush (v := 6) hx hb dX0_count_24 (by decide) ?_
      refine lv_icmp_ge (tgt := 56) hx hb dX0_count_26 (by decide) (fun c_4 => ?_) (fun c_4 => absurd (by decide) c_4)
      refine lv_iload hx hb dX0_count_56 (lv_at hl 5 rfl) ?_
      exact q_ri hx hb hr hlk (by rw [aCount, if_pos c_1, nI_clamp (by omega)]) dX0_count_58
  · skip
    have c_1 : (qst (nI n) k w x v) = false := b2i_0 c_1
    refine lv_sipush (v := (-1000)) hx hb dX0_count_12 (by decide) ?_
    exact q_ri hx hb hr hlk (by simp [aCount, c_1]) dX0_count_15

theorem hdX0_turned : yX0_turned.cls = RX0 ∧ yX0_turned.cls ≠ "java/lang/invoke/MethodHandle" ∧ yX0_turned.cls ≠ "java/lang/invoke/VarHandle" ∧ (parseMethodDescriptor yX0_turned.desc).map (fun d => d.parameters.length) = some 4 := by decide +kernel
set_option maxHeartbeats 4000000 in
set_option maxRecDepth 100000 in
theorem mX0_turned (l : Launch) (dC : Nat → ClassId) (dI : Nat → Nat → Nat) (h qb qj qm qw qr : Nat) (cA : ClassId) (n : Nat) (rec lim : Int32) (fb fj fm fw fr : Nat → Int32) (k : Int32) (w : Int32) (x : Int32) (v : Int32) (hn : n ≤ 8) : Met l yX0_turned wsX0_turned ({ frames := 2, cells := 0, slots := 0, locals := 45 }) (va_Pc [.ref h, .int k, .int w, .int x, .int v] (fun U => va_P (dC, dI) vwCl (wX h qb qj qm qw qr cA (nI n) rec lim fb fj fm fw fr) U.heap ∧ va_K (dC, dI) vwCl [(cA, .int)] U)) (QcRead (aTurned (mk fm) (mk fw) (nI n) k w x v)) 0 0 (fun _ => False) := by
  refine Met.ofW (cc := cX0_turned) (maxL := 7) (ret := (some .int)) (by decide) rfl ?_
  intro p e s m args below meth c s₁ B hml hv
  obtain ⟨rfl, hP, hK⟩ := hv
  have hx := B.exec
  have hb := B.bytes
  have hr := B.returns
  have hts := atoms_spec (ws := wsX0_turned) B.pre
  have hown : s.vm.findClass RX0 = some m.cls := findClass_of_methodNamed B.named
  have hlk := B.notSynchronized
  have hl := lv_entry ([.ref h, .int k, .int w, .int x, .int v]) (n := 7) (Nat.le_of_ble_eq_true rfl)
  rw [lg_entry_eq]
  generalize (lg_sl ([.ref h, .int k, .int w, .int x, .int v]) ++ List.replicate (7 - (lg_sl ([.ref h, .int k, .int w, .int x, .int v])).length) Slot.unset).toArray = ls at hl ⊢
  have hl : lv_has ls 7 [(0, .ref h), (1, .int k), (2, .int w), (3, .int x), (4, .int v)] := hl
  refine lv_aload_n hx hb dX0_turned_0 rfl (lv_at hl 0 rfl) ?_
  refine lv_iload_n hx hb dX0_turned_1 rfl (lv_at hl 1 rfl) ?_
  refine lv_iload_n hx hb dX0_turned_2 rfl (lv_at hl 2 rfl) ?_
  refine lv_iload_n hx hb dX0_turned_3 rfl (lv_at hl 3 rfl) ?_
  refine lv_iload hx hb dX0_turned_4 (lv_at hl 4 rfl) ?_
  refine q_cv [.int k, .int w, .int x, .int v] (rest := []) ⟨hx, hb, hml, hown, hts⟩ (mX0_isQuestion l dC dI h qb qj qm qw qr cA n rec lim fb fj fm fw fr k w x v) gX0_turned_X0_isQuestion rfl rfl rfl hdX0_isQuestion ⟨Nat.le_of_ble_eq_true rfl, Nat.le_of_ble_eq_true rfl⟩ rfl hK hP rfl rfl hl.1 rfl (Nat.le_of_ble_eq_true rfl) dX0_turned_6 ⟨Nat.zero_le _, Nat.zero_le _⟩ ?_
  refine lv_if_ne (tgt := 16) hx hb dX0_turned_9 (by decide) (fun c_1 => ?_) (fun c_1 => ?_)
  · skip
    have c_1 : (qst (nI n) k w x v) = true := b2i_n c_1
    obtain ⟨j, hj, rfl⟩ := jmp_of (qst_j c_1) hn
    refine lv_iconst (v := 0) hx hb dX0_turned_16 (by decide) ?_
    refine lv_istore (lv' := [(5, .int 0), (0, .ref h), (1, .int k), (2, .int w), (3, .int (nI j)), (4, .int v)]) hx hb dX0_turned_17 hl (by decide) rfl (fun ls hl => ?_)
    refine lv_iconst (v := 0) hx hb dX0_turned_19 (by decide) ?_
    refine lv_istore (lv' := [(6, .int 0), (5, .int 0), (0, .ref h), (1, .int k), (2, .int w), (3, .int (nI j)), (4, .int v)]) hx hb dX0_turned_20 hl (by decide) rfl (fun ls hl => ?_)
    refine q_lp (head := 22) (6) (fun i => [(0, .ref h), (1, .int k), (2, .int w), (3, .int (nI j)), (4, .int v), (5, .int (nI (cntB (fun r => fitv k w v (vlu (mk fm) (mk fw) w j r)) i))), (6, .int (nI i))]) (fun i => True) (0) (by omega) (trivial) (q_hl (lv_sub (l' := [(0, .ref h), (1, .int k), (2, .int w), (3, .int (nI j)), (4, .int v), (5, .int 0), (6, .int 0)]) hl [2, 3, 4, 5, 6, 1, 0] rfl) (q_ck (q_ck (q_ck (q_ck (q_ck (q_ce (by rfl) (q_ce (by rfl) (rfl))))))))) ?_ ?_
    · intro i hi_i hI_i ih_i ls hl
      have hl : lv_has ls 7 [(0, .ref h), (1, .int k), (2, .int w), (3, .int (nI j)), (4, .int v), (5, .int (nI (cntB (fun r => fitv k w v (vlu (mk fm) (mk fw) w j r)) i))), (6, .int (nI i))] := hl
      refine lv_iload hx hb dX0_turned_22 (lv_at hl 6 rfl) ?_
      refine lv_bipush (v := 6) hx hb dX0_turned_24 (by decide) ?_
      refine lv_icmp_ge (tgt := 56) hx hb dX0_turned_26 (by decide) (fun c_2 => absurd c_2 (nI_ge (b := 6) hi_i (by decide))) (fun c_2 => ?_)
      refine lv_iload_n hx hb dX0_turned_29 rfl (lv_at hl 1 rfl) ?_
      refine lv_iload_n hx hb dX0_turned_30 rfl (lv_at hl 2 rfl) ?_
      refine lv_iload hx hb dX0_turned_31 (lv_at hl 4 rfl) ?_
      refine lv_aload_n hx hb dX0_turned_33 rfl (lv_at hl 0 rfl) ?_
      refine lv_iload_n hx hb dX0_turned_34 rfl (lv_at hl 2 rfl) ?_
      refine lv_iload_n hx hb dX0_turned_35 rfl (lv_at hl 3 rfl) ?_
      refine lv_iload hx hb dX0_turned_36 (lv_at hl 6 rfl) ?_
      refine q_cv [.int w, .int (nI j), .int (nI i)] (rest := [.int v, .int w, .int k]) ⟨hx, hb, hml, hown, hts⟩ (mX0_valueOf l dC dI h qb qj qm qw qr cA n rec lim fb fj fm fw fr w j i (by omega) (by omega)) gX0_turned_X0_valueOf rfl rfl rfl hdX0_valueOf ⟨Nat.le_of_ble_eq_true rfl, Nat.le_of_ble_eq_true rfl⟩ rfl hK hP rfl rfl hl.1 rfl (Nat.le_of_ble_eq_true rfl) dX0_turned_38 ⟨Nat.zero_le _, Nat.zero_le _⟩ ?_
      refine q_cs [.int k, .int w, .int v, .int (vlu (mk fm) (mk fw) w j i)] (rest := []) ⟨hx, hb, hml, hown, hts⟩ (mX0_valueFits l k w v (vlu (mk fm) (mk fw) w j i)) gX0_turned_X0_valueFits rfl rfl rfl hdX0_valueFits ⟨Nat.le_of_ble_eq_true rfl, Nat.le_of_ble_eq_true rfl⟩ rfl hl.1 rfl (Nat.le_of_ble_eq_true rfl) dX0_turned_41 ⟨Nat.zero_le _, Nat.zero_le _⟩ ?_
      refine lv_if_eq (tgt := 50) hx hb dX0_turned_44 (by decide) (fun c_3 => ?_) (fun c_3 => ?_)
      · skip
        have c_3 : (fitv k w v (vlu (mk fm) (mk fw) w j i)) = false := b2i_0 c_3
        refine lv_iinc (v := (nI (i + 1))) (lv' := [(6, .int (nI (i + 1))), (0, .ref h), (1, .int k), (2, .int w), (3, .int (nI j)), (4, .int v), (5, .int (nI (cntB (fun r => fitv k w v (vlu (mk fm) (mk fw) w j r)) i)))]) hx hb dX0_turned_50 hl (k := 6) rfl (by exact nI_1 _) (by decide) rfl (fun ls hl => ?_)
        refine lv_goto (tgt := 22) hx hb dX0_turned_53 (by decide) ?_
        exact ih_i (by exact trivial) ls (q_hl (lv_sub (l' := [(0, .ref h), (1, .int k), (2, .int w), (3, .int (nI j)), (4, .int v), (5, .int (nI (cntB (fun r => fitv k w v (vlu (mk fm) (mk fw) w j r)) i))), (6, .int (nI (i + 1)))]) hl [1, 2, 3, 4, 5, 6, 0] rfl) (q_ck (q_ck (q_ck (q_ck (q_ck (q_ce (by simp [cntB, c_1, c_3]) (q_ck (rfl)))))))))
      · skip
        have c_3 : (fitv k w v (vlu (mk fm) (mk fw) w j i)) = true := b2i_n c_3
        refine lv_iinc (v := (nI ((cntB (fun r => fitv k w v (vlu (mk fm) (mk fw) w j r)) i) + 1))) (lv' := [(5, .int (nI ((cntB (fun r => fitv k w v (vlu (mk fm) (mk fw) w j r)) i) + 1))), (0, .ref h), (1, .int k), (2, .int w), (3, .int (nI j)), (4, .int v), (6, .int (nI i))]) hx hb dX0_turned_47 hl (k := 5) rfl (by exact nI_1 _) (by decide) rfl (fun ls hl => ?_)
        refine lv_iinc (v := (nI (i + 1))) (lv' := [(6, .int (nI (i + 1))), (5, .int (nI ((cntB (fun r => fitv k w v (vlu (mk fm) (mk fw) w j r)) i) + 1))), (0, .ref h), (1, .int k), (2, .int w), (3, .int (nI j)), (4, .int v)]) hx hb dX0_turned_50 hl (k := 6) rfl (by exact nI_1 _) (by decide) rfl (fun ls hl => ?_)
        refine lv_goto (tgt := 22) hx hb dX0_turned_53 (by decide) ?_
        exact ih_i (by exact trivial) ls (q_hl (lv_sub (l' := [(0, .ref h), (1, .int k), (2, .int w), (3, .int (nI j)), (4, .int v), (5, .int (nI ((cntB (fun r => fitv k w v (vlu (mk fm) (mk fw) w j r)) i) + 1))), (6, .int (nI (i + 1)))]) hl [2, 3, 4, 5, 6, 1, 0] rfl) (q_ck (q_ck (q_ck (q_ck (q_ck (q_ce (by simp [cntB, c_1, c_3]) (q_ck (rfl)))))))))
    · intro hI_i ls hl
      have hl : lv_has ls 7 [(0, .ref h), (1, .int k), (2, .int w), (3, .int (nI j)), (4, .int v), (5, .int (nI (cntB (fun r => fitv k w v (vlu (mk fm) (mk fw) w j r)) 6))), (6, .int (nI 6))] := hl
      refine lv_iload hx hb dX0_turned_22 (lv_at hl 6 rfl) ?_
      refine lv_bipush (v := 6) hx hb dX0_turned_24 (by decide) ?_
      refine lv_icmp_ge (tgt := 56) hx hb dX0_turned_26 (by decide) (fun c_4 => ?_) (fun c_4 => absurd (by decide) c_4)
      refine lv_iload hx hb dX0_turned_56 (lv_at hl 5 rfl) ?_
      exact q_ri hx hb hr hlk (by rw [aTurned, if_pos c_1, nI_clamp (by omega)]) dX0_turned_58
  · skip
    have c_1 : (qst (nI n) k w x v) = false := b2i_0 c_1
    refine lv_sipush (v := (-1000)) hx hb dX0_turned_12 (by decide) ?_
    exact q_ri hx hb hr hlk (by simp [aTurned, c_1]) dX0_turned_15

theorem hdX0_longest : yX0_longest.cls = RX0 ∧ yX0_longest.cls ≠ "java/lang/invoke/MethodHandle" ∧ yX0_longest.cls ≠ "java/lang/invoke/VarHandle" ∧ (parseMethodDescriptor yX0_longest.desc).map (fun d => d.parameters.length) = some 4 := by decide +kernel
set_option maxHeartbeats 4000000 in
set_option maxRecDepth 100000 in
theorem mX0_longest (l : Launch) (dC : Nat → ClassId) (dI : Nat → Nat → Nat) (h qb qj qm qw qr : Nat) (cA : ClassId) (n : Nat) (rec lim : Int32) (fb fj fm fw fr : Nat → Int32) (k : Int32) (w : Int32) (x : Int32) (v : Int32) (hn : n ≤ 8) : Met l yX0_longest wsX0_longest ({ frames := 2, cells := 0, slots := 0, locals := 45 }) (va_Pc [.ref h, .int k, .int w, .int x, .int v] (fun U => va_P (dC, dI) vwCl (wX h qb qj qm qw qr cA (nI n) rec lim fb fj fm fw fr) U.heap ∧ va_K (dC, dI) vwCl [(cA, .int)] U)) (QcRead (aLongest (mk fm) (mk fw) (nI n) k w x v)) 0 0 (fun _ => False) := by
  refine Met.ofW (cc := cX0_longest) (maxL := 8) (ret := (some .int)) (by decide) rfl ?_
  intro p e s m args below meth c s₁ B hml hv
  obtain ⟨rfl, hP, hK⟩ := hv
  have hx := B.exec
  have hb := B.bytes
  have hr := B.returns
  have hts := atoms_spec (ws := wsX0_longest) B.pre
  have hown : s.vm.findClass RX0 = some m.cls := findClass_of_methodNamed B.named
  have hlk := B.notSynchronized
  have hl := lv_entry ([.ref h, .int k, .int w, .int x, .int v]) (n := 8) (Nat.le_of_ble_eq_true rfl)
  rw [lg_entry_eq]
  generalize (lg_sl ([.ref h, .int k, .int w, .int x, .int v]) ++ List.replicate (8 - (lg_sl ([.ref h, .int k, .int w, .int x, .int v])).length) Slot.unset).toArray = ls at hl ⊢
  have hl : lv_has ls 8 [(0, .ref h), (1, .int k), (2, .int w), (3, .int x), (4, .int v)] := hl
  refine lv_aload_n hx hb dX0_longest_0 rfl (lv_at hl 0 rfl) ?_
  refine lv_iload_n hx hb dX0_longest_1 rfl (lv_at hl 1 rfl) ?_
  refine lv_iload_n hx hb dX0_longest_2 rfl (lv_at hl 2 rfl) ?_
  refine lv_iload_n hx hb dX0_longest_3 rfl (lv_at hl 3 rfl) ?_
  refine lv_iload hx hb dX0_longest_4 (lv_at hl 4 rfl) ?_
  refine q_cv [.int k, .int w, .int x, .int v] (rest := []) ⟨hx, hb, hml, hown, hts⟩ (mX0_isQuestion l dC dI h qb qj qm qw qr cA n rec lim fb fj fm fw fr k w x v) gX0_longest_X0_isQuestion rfl rfl rfl hdX0_isQuestion ⟨Nat.le_of_ble_eq_true rfl, Nat.le_of_ble_eq_true rfl⟩ rfl hK hP rfl rfl hl.1 rfl (Nat.le_of_ble_eq_true rfl) dX0_longest_6 ⟨Nat.zero_le _, Nat.zero_le _⟩ ?_
  refine lv_if_ne (tgt := 16) hx hb dX0_longest_9 (by decide) (fun c_1 => ?_) (fun c_1 => ?_)
  · skip
    have c_1 : (qst (nI n) k w x v) = true := b2i_n c_1
    obtain ⟨j, hj, rfl⟩ := jmp_of (qst_j c_1) hn
    refine lv_iconst (v := 0) hx hb dX0_longest_16 (by decide) ?_
    refine lv_istore (lv' := [(5, .int 0), (0, .ref h), (1, .int k), (2, .int w), (3, .int (nI j)), (4, .int v)]) hx hb dX0_longest_17 hl (by decide) rfl (fun ls hl => ?_)
    refine lv_iconst (v := 0) hx hb dX0_longest_19 (by decide) ?_
    refine lv_istore (lv' := [(6, .int 0), (5, .int 0), (0, .ref h), (1, .int k), (2, .int w), (3, .int (nI j)), (4, .int v)]) hx hb dX0_longest_20 hl (by decide) rfl (fun ls hl => ?_)
    refine lv_iconst (v := 0) hx hb dX0_longest_22 (by decide) ?_
    refine lv_istore (lv' := [(7, .int 0), (6, .int 0), (5, .int 0), (0, .ref h), (1, .int k), (2, .int w), (3, .int (nI j)), (4, .int v)]) hx hb dX0_longest_23 hl (by decide) rfl (fun ls hl => ?_)
    refine q_lp (head := 25) (6) (fun i => [(0, .ref h), (1, .int k), (2, .int w), (3, .int (nI j)), (4, .int v), (5, .int (nI (mostB (fun r => fitv k w (vlu (mk fm) (mk fw) w j r) v) i))), (6, .int (nI (lenB (fun r => fitv k w (vlu (mk fm) (mk fw) w j r) v) i))), (7, .int (nI i))]) (fun i => True) (0) (by omega) (trivial) (q_hl (lv_sub (l' := [(0, .ref h), (1, .int k), (2, .int w), (3, .int (nI j)), (4, .int v), (5, .int 0), (6, .int 0), (7, .int 0)]) hl [3, 4, 5, 6, 7, 2, 1, 0] rfl) (q_ck (q_ck (q_ck (q_ck (q_ck (q_ce (by rfl) (q_ce (by rfl) (q_ce (by rfl) (rfl)))))))))) ?_ ?_
    · intro i hi_i hI_i ih_i ls hl
      have hl : lv_has ls 8 [(0, .ref h), (1, .int k), (2, .int w), (3, .int (nI j)), (4, .int v), (5, .int (nI (mostB (fun r => fitv k w (vlu (mk fm) (mk fw) w j r) v) i))), (6, .int (nI (lenB (fun r => fitv k w (vlu (mk fm) (mk fw) w j r) v) i))), (7, .int (nI i))] := hl
      refine lv_iload hx hb dX0_longest_25 (lv_at hl 7 rfl) ?_
      refine lv_bipush (v := 6) hx hb dX0_longest_27 (by decide) ?_
      refine lv_icmp_ge (tgt := 75) hx hb dX0_longest_29 (by decide) (fun c_2 => absurd c_2 (nI_ge (b := 6) hi_i (by decide))) (fun c_2 => ?_)
      refine lv_iload_n hx hb dX0_longest_32 rfl (lv_at hl 1 rfl) ?_
      refine lv_iload_n hx hb dX0_longest_33 rfl (lv_at hl 2 rfl) ?_
      refine lv_aload_n hx hb dX0_longest_34 rfl (lv_at hl 0 rfl) ?_
      refine lv_iload_n hx hb dX0_longest_35 rfl (lv_at hl 2 rfl) ?_
      refine lv_iload_n hx hb dX0_longest_36 rfl (lv_at hl 3 rfl) ?_
      refine lv_iload hx hb dX0_longest_37 (lv_at hl 7 rfl) ?_
      refine q_cv [.int w, .int (nI j), .int (nI i)] (rest := [.int w, .int k]) ⟨hx, hb, hml, hown, hts⟩ (mX0_valueOf l dC dI h qb qj qm qw qr cA n rec lim fb fj fm fw fr w j i (by omega) (by omega)) gX0_longest_X0_valueOf rfl rfl rfl hdX0_valueOf ⟨Nat.le_of_ble_eq_true rfl, Nat.le_of_ble_eq_true rfl⟩ rfl hK hP rfl rfl hl.1 rfl (Nat.le_of_ble_eq_true rfl) dX0_longest_39 ⟨Nat.zero_le _, Nat.zero_le _⟩ ?_
      refine lv_iload hx hb dX0_longest_42 (lv_at hl 4 rfl) ?_
      refine q_cs [.int k, .int w, .int (vlu (mk fm) (mk fw) w j i), .int v] (rest := []) ⟨hx, hb, hml, hown, hts⟩ (mX0_valueFits l k w (vlu (mk fm) (mk fw) w j i) v) gX0_longest_X0_valueFits rfl rfl rfl hdX0_valueFits ⟨Nat.le_of_ble_eq_true rfl, Nat.le_of_ble_eq_true rfl⟩ rfl hl.1 rfl (Nat.le_of_ble_eq_true rfl) dX0_longest_44 ⟨Nat.zero_le _, Nat.zero_le _⟩ ?_
      refine lv_if_eq (tgt := 54) hx hb dX0_longest_47 (by decide) (fun c_3 => ?_) (fun c_3 => ?_)
      · skip
        have c_3 : (fitv k w (vlu (mk fm) (mk fw) w j i) v) = false := b2i_0 c_3
        refine lv_iload hx hb dX0_longest_54 (lv_at hl 6 rfl) ?_
        refine lv_iconst (v := 1) hx hb dX0_longest_56 (by decide) ?_
        refine lv_iadd hx hb dX0_longest_57 ?_
        refine q_top (y := nI (lenB (fun r => fitv k w (vlu (mk fm) (mk fw) w j r) v) (i + 1))) (by simp [lenB, c_1, c_3, nI_1]) ?_
        refine lv_istore (lv' := [(6, .int (nI (lenB (fun r => fitv k w (vlu (mk fm) (mk fw) w j r) v) (i + 1)))), (0, .ref h), (1, .int k), (2, .int w), (3, .int (nI j)), (4, .int v), (5, .int (nI (mostB (fun r => fitv k w (vlu (mk fm) (mk fw) w j r) v) i))), (7, .int (nI i))]) hx hb dX0_longest_58 hl (by decide) rfl (fun ls hl => ?_)
        refine lv_iload hx hb dX0_longest_60 (lv_at hl 6 rfl) ?_
        refine lv_iload hx hb dX0_longest_62 (lv_at hl 0 rfl) ?_
        refine va_mmax (rest := []) hx hb (hml.trans hl.1.symm) hown (hts (.methodLink RX0 72 Lib.Math.max.name) (by decide +kernel)) (hts (.static Lib.Math.max.name) (by decide +kernel)) (hts (.initialized "java/lang/Math") (by decide +kernel)) (hts (.code Lib.Math.max.name Lib.Math.max.code 2 (some .int)) (by decide +kernel)) (Nat.le_of_ble_eq_true rfl) (Nat.le_of_ble_eq_true rfl) (Nat.zero_le _) (Nat.zero_le _) dX0_longest_64 ?_
        refine q_top (y := nI (mostB (fun r => fitv k w (vlu (mk fm) (mk fw) w j r) v) (i + 1))) (by exact mostB_nI hi_i) ?_
        refine lv_istore (lv' := [(5, .int (nI (mostB (fun r => fitv k w (vlu (mk fm) (mk fw) w j r) v) (i + 1)))), (6, .int (nI (lenB (fun r => fitv k w (vlu (mk fm) (mk fw) w j r) v) (i + 1)))), (0, .ref h), (1, .int k), (2, .int w), (3, .int (nI j)), (4, .int v), (7, .int (nI i))]) hx hb dX0_longest_67 hl (by decide) rfl (fun ls hl => ?_)
        refine lv_iinc (v := (nI (i + 1))) (lv' := [(7, .int (nI (i + 1))), (5, .int (nI (mostB (fun r => fitv k w (vlu (mk fm) (mk fw) w j r) v) (i + 1)))), (6, .int (nI (lenB (fun r => fitv k w (vlu (mk fm) (mk fw) w j r) v) (i + 1)))), (0, .ref h), (1, .int k), (2, .int w), (3, .int (nI j)), (4, .int v)]) hx hb dX0_longest_69 hl (k := 7) rfl (by exact nI_1 _) (by decide) rfl (fun ls hl => ?_)
        refine lv_goto (tgt := 25) hx hb dX0_longest_72 (by decide) ?_
        exact ih_i (by exact trivial) ls (lv_sub (l' := [(0, .ref h), (1, .int k), (2, .int w), (3, .int (nI j)), (4, .int v), (5, .int (nI (mostB (fun r => fitv k w (vlu (mk fm) (mk fw) w j r) v) (i + 1)))), (6, .int (nI (lenB (fun r => fitv k w (vlu (mk fm) (mk fw) w j r) v) (i + 1)))), (7, .int (nI (i + 1)))]) hl [3, 4, 5, 6, 7, 1, 2, 0] rfl)
      · skip
        have c_3 : (fitv k w (vlu (mk fm) (mk fw) w j i) v) = true := b2i_n c_3
        refine lv_iconst (v := 0) hx hb dX0_longest_50 (by decide) ?_
        refine q_top (y := nI (lenB (fun r => fitv k w (vlu (mk fm) (mk fw) w j r) v) (i + 1))) (by simp [lenB, c_1, c_3]; rfl) ?_
        refine lv_goto (tgt := 58) hx hb dX0_longest_51 (by decide) ?_
        refine lv_istore (lv' := [(6, .int (nI (lenB (fun r => fitv k w (vlu (mk fm) (mk fw) w j r) v) (i + 1)))), (0, .ref h), (1, .int k), (2, .int w), (3, .int (nI j)), (4, .int v), (5, .int (nI (mostB (fun r => fitv k w (vlu (mk fm) (mk fw) w j r) v) i))), (7, .int (nI i))]) hx hb dX0_longest_58 hl (by decide) rfl (fun ls hl => ?_)
        refine lv_iload hx hb dX0_longest_60 (lv_at hl 6 rfl) ?_
        refine lv_iload hx hb dX0_longest_62 (lv_at hl 0 rfl) ?_
        refine va_mmax (rest := []) hx hb (hml.trans hl.1.symm) hown (hts (.methodLink RX0 72 Lib.Math.max.name) (by decide +kernel)) (hts (.static Lib.Math.max.name) (by decide +kernel)) (hts (.initialized "java/lang/Math") (by decide +kernel)) (hts (.code Lib.Math.max.name Lib.Math.max.code 2 (some .int)) (by decide +kernel)) (Nat.le_of_ble_eq_true rfl) (Nat.le_of_ble_eq_true rfl) (Nat.zero_le _) (Nat.zero_le _) dX0_longest_64 ?_
        refine q_top (y := nI (mostB (fun r => fitv k w (vlu (mk fm) (mk fw) w j r) v) (i + 1))) (by exact mostB_nI hi_i) ?_
        refine lv_istore (lv' := [(5, .int (nI (mostB (fun r => fitv k w (vlu (mk fm) (mk fw) w j r) v) (i + 1)))), (6, .int (nI (lenB (fun r => fitv k w (vlu (mk fm) (mk fw) w j r) v) (i + 1)))), (0, .ref h), (1, .int k), (2, .int w), (3, .int (nI j)), (4, .int v), (7, .int (nI i))]) hx hb dX0_longest_67 hl (by decide) rfl (fun ls hl => ?_)
        refine lv_iinc (v := (nI (i + 1))) (lv' := [(7, .int (nI (i + 1))), (5, .int (nI (mostB (fun r => fitv k w (vlu (mk fm) (mk fw) w j r) v) (i + 1)))), (6, .int (nI (lenB (fun r => fitv k w (vlu (mk fm) (mk fw) w j r) v) (i + 1)))), (0, .ref h), (1, .int k), (2, .int w), (3, .int (nI j)), (4, .int v)]) hx hb dX0_longest_69 hl (k := 7) rfl (by exact nI_1 _) (by decide) rfl (fun ls hl => ?_)
        refine lv_goto (tgt := 25) hx hb dX0_longest_72 (by decide) ?_
        exact ih_i (by exact trivial) ls (lv_sub (l' := [(0, .ref h), (1, .int k), (2, .int w), (3, .int (nI j)), (4, .int v), (5, .int (nI (mostB (fun r => fitv k w (vlu (mk fm) (mk fw) w j r) v) (i + 1)))), (6, .int (nI (lenB (fun r => fitv k w (vlu (mk fm) (mk fw) w j r) v) (i + 1)))), (7, .int (nI (i + 1)))]) hl [3, 4, 5, 6, 7, 1, 2, 0] rfl)
    · intro hI_i ls hl
      have hl : lv_has ls 8 [(0, .ref h), (1, .int k), (2, .int w), (3, .int (nI j)), (4, .int v), (5, .int (nI (mostB (fun r => fitv k w (vlu (mk fm) (mk fw) w j r) v) 6))), (6, .int (nI (lenB (fun r => fitv k w (vlu (mk fm) (mk fw) w j r) v) 6))), (7, .int (nI 6))] := hl
      refine lv_iload hx hb dX0_longest_25 (lv_at hl 7 rfl) ?_
      refine lv_bipush (v := 6) hx hb dX0_longest_27 (by decide) ?_
      refine lv_icmp_ge (tgt := 75) hx hb dX0_longest_29 (by decide) (fun c_4 => ?_) (fun c_4 => absurd (by decide) c_4)
      refine lv_iload hx hb dX0_longest_75 (lv_at hl 5 rfl) ?_
      exact q_ri hx hb hr hlk (by rw [aLongest, if_pos c_1, nI_clamp (by omega)]) dX0_longest_77
  · skip
    have c_1 : (qst (nI n) k w x v) = false := b2i_0 c_1
    refine lv_sipush (v := (-1000)) hx hb dX0_longest_12 (by decide) ?_
    exact q_ri hx hb hr hlk (by simp [aLongest, c_1]) dX0_longest_15

theorem hdX0_skip : yX0_skip.cls = RX0 ∧ yX0_skip.cls ≠ "java/lang/invoke/MethodHandle" ∧ yX0_skip.cls ≠ "java/lang/invoke/VarHandle" ∧ (parseMethodDescriptor yX0_skip.desc).map (fun d => d.parameters.length) = some 5 := by decide +kernel
set_option maxHeartbeats 4000000 in
set_option maxRecDepth 100000 in
theorem mX0_skip (l : Launch) (dC : Nat → ClassId) (dI : Nat → Nat → Nat) (h qb qj qm qw qr : Nat) (cA : ClassId) (n : Nat) (rec lim : Int32) (fb fj fm fw fr : Nat → Int32) (k : Int32) (w : Int32) (x : Int32) (f : Int32) (v : Int32) (hn : n ≤ 8) : Met l yX0_skip wsX0_skip ({ frames := 2, cells := 0, slots := 0, locals := 45 }) (va_Pc [.ref h, .int k, .int w, .int x, .int f, .int v] (fun U => va_P (dC, dI) vwCl (wX h qb qj qm qw qr cA (nI n) rec lim fb fj fm fw fr) U.heap ∧ va_K (dC, dI) vwCl [(cA, .int)] U)) (QcRead (aSkip (mk fm) (mk fw) (nI n) k w x f v)) 0 0 (fun _ => False) := by
  refine Met.ofW (cc := cX0_skip) (maxL := 7) (ret := (some .int)) (by decide) rfl ?_
  intro p e s m args below meth c s₁ B hml hv
  obtain ⟨rfl, hP, hK⟩ := hv
  have hx := B.exec
  have hb := B.bytes
  have hr := B.returns
  have hts := atoms_spec (ws := wsX0_skip) B.pre
  have hown : s.vm.findClass RX0 = some m.cls := findClass_of_methodNamed B.named
  have hlk := B.notSynchronized
  have hl := lv_entry ([.ref h, .int k, .int w, .int x, .int f, .int v]) (n := 7) (Nat.le_of_ble_eq_true rfl)
  rw [lg_entry_eq]
  generalize (lg_sl ([.ref h, .int k, .int w, .int x, .int f, .int v]) ++ List.replicate (7 - (lg_sl ([.ref h, .int k, .int w, .int x, .int f, .int v])).length) Slot.unset).toArray = ls at hl ⊢
  have hl : lv_has ls 7 [(0, .ref h), (1, .int k), (2, .int w), (3, .int x), (4, .int f), (5, .int v)] := hl
  refine lv_aload_n hx hb dX0_skip_0 rfl (lv_at hl 0 rfl) ?_
  refine lv_iload_n hx hb dX0_skip_1 rfl (lv_at hl 1 rfl) ?_
  refine lv_iload_n hx hb dX0_skip_2 rfl (lv_at hl 2 rfl) ?_
  refine lv_iload_n hx hb dX0_skip_3 rfl (lv_at hl 3 rfl) ?_
  refine lv_iload hx hb dX0_skip_4 (lv_at hl 5 rfl) ?_
  refine q_cv [.int k, .int w, .int x, .int v] (rest := []) ⟨hx, hb, hml, hown, hts⟩ (mX0_isQuestion l dC dI h qb qj qm qw qr cA n rec lim fb fj fm fw fr k w x v) gX0_skip_X0_isQuestion rfl rfl rfl hdX0_isQuestion ⟨Nat.le_of_ble_eq_true rfl, Nat.le_of_ble_eq_true rfl⟩ rfl hK hP rfl rfl hl.1 rfl (Nat.le_of_ble_eq_true rfl) dX0_skip_6 ⟨Nat.zero_le _, Nat.zero_le _⟩ ?_
  refine lv_if_eq (tgt := 20) hx hb dX0_skip_9 (by decide) (fun c_1 => ?_) (fun c_1 => ?_)
  · skip
    have c_1 : (qst (nI n) k w x v) = false := b2i_0 c_1
    refine lv_sipush (v := (-1000)) hx hb dX0_skip_20 (by decide) ?_
    exact q_ri hx hb hr hlk (by simp [aSkip, c_1]) dX0_skip_23
  · skip
    have c_1 : (qst (nI n) k w x v) = true := b2i_n c_1
    refine lv_iload hx hb dX0_skip_12 (lv_at hl 4 rfl) ?_
    refine q_cs [.int f] (rest := []) ⟨hx, hb, hml, hown, hts⟩ (mX0_isRound l f) gX0_skip_X0_isRound rfl rfl rfl hdX0_isRound ⟨Nat.le_of_ble_eq_true rfl, Nat.le_of_ble_eq_true rfl⟩ rfl hl.1 rfl (Nat.le_of_ble_eq_true rfl) dX0_skip_14 ⟨Nat.zero_le _, Nat.zero_le _⟩ ?_
    refine lv_if_ne (tgt := 24) hx hb dX0_skip_17 (by decide) (fun c_2 => ?_) (fun c_2 => ?_)
    · skip
      have c_2 : (rnd f) = true := b2i_n c_2
      obtain ⟨j, hj, rfl⟩ := jmp_of (qst_j c_1) hn
      obtain ⟨f6, hf6, rfl⟩ := rnd_of c_2
      refine lv_iload hx hb dX0_skip_24 (lv_at hl 4 rfl) ?_
      refine lv_istore (lv' := [(6, .int (nI f6)), (0, .ref h), (1, .int k), (2, .int w), (3, .int (nI j)), (4, .int (nI f6)), (5, .int v)]) hx hb dX0_skip_26 hl (by decide) rfl (fun ls hl => ?_)
      refine q_lp (head := 28) (6) (fun i => [(0, .ref h), (1, .int k), (2, .int w), (3, .int (nI j)), (4, .int (nI f6)), (5, .int v), (6, .int (nI i))]) (fun i => skpF (fun r => fitv k w (vlu (mk fm) (mk fw) w j r) v) (6 - f6) f6 = skpF (fun r => fitv k w (vlu (mk fm) (mk fw) w j r) v) (6 - i) i) (f6) (by omega) (rfl) (lv_sub (l' := [(0, .ref h), (1, .int k), (2, .int w), (3, .int (nI j)), (4, .int (nI f6)), (5, .int v), (6, .int (nI f6))]) hl [1, 2, 3, 4, 5, 6, 0] rfl) ?_ ?_
      · intro i hi_i hI_i ih_i ls hl
        have hl : lv_has ls 7 [(0, .ref h), (1, .int k), (2, .int w), (3, .int (nI j)), (4, .int (nI f6)), (5, .int v), (6, .int (nI i))] := hl
        refine lv_iload hx hb dX0_skip_28 (lv_at hl 6 rfl) ?_
        refine lv_bipush (v := 6) hx hb dX0_skip_30 (by decide) ?_
        refine lv_icmp_ge (tgt := 62) hx hb dX0_skip_32 (by decide) (fun c_3 => absurd c_3 (nI_ge (b := 6) hi_i (by decide))) (fun c_3 => ?_)
        refine lv_iload_n hx hb dX0_skip_35 rfl (lv_at hl 1 rfl) ?_
        refine lv_iload_n hx hb dX0_skip_36 rfl (lv_at hl 2 rfl) ?_
        refine lv_aload_n hx hb dX0_skip_37 rfl (lv_at hl 0 rfl) ?_
        refine lv_iload_n hx hb dX0_skip_38 rfl (lv_at hl 2 rfl) ?_
        refine lv_iload_n hx hb dX0_skip_39 rfl (lv_at hl 3 rfl) ?_
        refine lv_iload hx hb dX0_skip_40 (lv_at hl 6 rfl) ?_
        refine q_cv [.int w, .int (nI j), .int (nI i)] (rest := [.int w, .int k]) ⟨hx, hb, hml, hown, hts⟩ (mX0_valueOf l dC dI h qb qj qm qw qr cA n rec lim fb fj fm fw fr w j i (by omega) (by omega)) gX0_skip_X0_valueOf rfl rfl rfl hdX0_valueOf ⟨Nat.le_of_ble_eq_true rfl, Nat.le_of_ble_eq_true rfl⟩ rfl hK hP rfl rfl hl.1 rfl (Nat.le_of_ble_eq_true rfl) dX0_skip_42 ⟨Nat.zero_le _, Nat.zero_le _⟩ ?_
        refine lv_iload hx hb dX0_skip_45 (lv_at hl 5 rfl) ?_
        refine q_cs [.int k, .int w, .int (vlu (mk fm) (mk fw) w j i), .int v] (rest := []) ⟨hx, hb, hml, hown, hts⟩ (mX0_valueFits l k w (vlu (mk fm) (mk fw) w j i) v) gX0_skip_X0_valueFits rfl rfl rfl hdX0_valueFits ⟨Nat.le_of_ble_eq_true rfl, Nat.le_of_ble_eq_true rfl⟩ rfl hl.1 rfl (Nat.le_of_ble_eq_true rfl) dX0_skip_47 ⟨Nat.zero_le _, Nat.zero_le _⟩ ?_
        refine lv_if_ne (tgt := 56) hx hb dX0_skip_50 (by decide) (fun c_4 => ?_) (fun c_4 => ?_)
        · skip
          have c_4 : (fitv k w (vlu (mk fm) (mk fw) w j i) v) = true := b2i_n c_4
          refine lv_iinc (v := (nI (i + 1))) (lv' := [(6, .int (nI (i + 1))), (0, .ref h), (1, .int k), (2, .int w), (3, .int (nI j)), (4, .int (nI f6)), (5, .int v)]) hx hb dX0_skip_56 hl (k := 6) rfl (by exact nI_1 _) (by decide) rfl (fun ls hl => ?_)
          refine lv_goto (tgt := 28) hx hb dX0_skip_59 (by decide) ?_
          exact ih_i (by rw [hI_i, skpF_eq hi_i]; simp [c_1, c_2, c_4]) ls (lv_sub (l' := [(0, .ref h), (1, .int k), (2, .int w), (3, .int (nI j)), (4, .int (nI f6)), (5, .int v), (6, .int (nI (i + 1)))]) hl [1, 2, 3, 4, 5, 6, 0] rfl)
        · skip
          have c_4 : (fitv k w (vlu (mk fm) (mk fw) w j i) v) = false := b2i_0 c_4
          refine lv_iload hx hb dX0_skip_53 (lv_at hl 6 rfl) ?_
          exact q_ri hx hb hr hlk (by rw [aSkip, if_pos (by simp [c_1, c_2]), nI_clamp (by omega), nI_clamp (by omega), hI_i, skpF_eq hi_i]; simp [c_1, c_2, c_4]) dX0_skip_55
      · intro hI_i ls hl
        have hl : lv_has ls 7 [(0, .ref h), (1, .int k), (2, .int w), (3, .int (nI j)), (4, .int (nI f6)), (5, .int v), (6, .int (nI 6))] := hl
        refine lv_iload hx hb dX0_skip_28 (lv_at hl 6 rfl) ?_
        refine lv_bipush (v := 6) hx hb dX0_skip_30 (by decide) ?_
        refine lv_icmp_ge (tgt := 62) hx hb dX0_skip_32 (by decide) (fun c_5 => ?_) (fun c_5 => absurd (by decide) c_5)
        refine lv_bipush (v := 6) hx hb dX0_skip_62 (by decide) ?_
        exact q_ri hx hb hr hlk (by rw [aSkip, if_pos (by simp [c_1, c_2]), nI_clamp (by omega), nI_clamp (by omega), hI_i]; rfl) dX0_skip_64
    · skip
      have c_2 : (rnd f) = false := b2i_0 c_2
      refine lv_sipush (v := (-1000)) hx hb dX0_skip_20 (by decide) ?_
      exact q_ri hx hb hr hlk (by simp [aSkip, c_1, c_2]) dX0_skip_23

theorem hdX0_pick : yX0_pick.cls = RX0 ∧ yX0_pick.cls ≠ "java/lang/invoke/MethodHandle" ∧ yX0_pick.cls ≠ "java/lang/invoke/VarHandle" ∧ (parseMethodDescriptor yX0_pick.desc).map (fun d => d.parameters.length) = some 4 := by decide +kernel
set_option maxHeartbeats 4000000 in
set_option maxRecDepth 100000 in
theorem mX0_pick (l : Launch) (dC : Nat → ClassId) (dI : Nat → Nat → Nat) (h qb qj qm qw qr : Nat) (cA : ClassId) (n : Nat) (rec lim : Int32) (fb fj fm fw fr : Nat → Int32) (k : Int32) (w : Int32) (x : Int32) (v : Int32) (hn : n ≤ 8) : Met l yX0_pick wsX0_pick ({ frames := 2, cells := 0, slots := 0, locals := 45 }) (va_Pc [.ref h, .int k, .int w, .int x, .int v] (fun U => va_P (dC, dI) vwCl (wX h qb qj qm qw qr cA (nI n) rec lim fb fj fm fw fr) U.heap ∧ va_K (dC, dI) vwCl [(cA, .int)] U)) (QcRead (aPick (mk fm) (mk fw) (nI n) k w x v)) 0 0 (fun _ => False) := by
  refine Met.ofW (cc := cX0_pick) (maxL := 8) (ret := (some .int)) (by decide) rfl ?_
  intro p e s m args below meth c s₁ B hml hv
  obtain ⟨rfl, hP, hK⟩ := hv
  have hx := B.exec
  have hb := B.bytes
  have hr := B.returns
  have hts := atoms_spec (ws := wsX0_pick) B.pre
  have hown : s.vm.findClass RX0 = some m.cls := findClass_of_methodNamed B.named
  have hlk := B.notSynchronized
  have hl := lv_entry ([.ref h, .int k, .int w, .int x, .int v]) (n := 8) (Nat.le_of_ble_eq_true rfl)
  rw [lg_entry_eq]
  generalize (lg_sl ([.ref h, .int k, .int w, .int x, .int v]) ++ List.replicate (8 - (lg_sl ([.ref h, .int k, .int w, .int x, .int v])).length) Slot.unset).toArray = ls at hl ⊢
  have hl : lv_has ls 8 [(0, .ref h), (1, .int k), (2, .int w), (3, .int x), (4, .int v)] := hl
  refine lv_aload_n hx hb dX0_pick_0 rfl (lv_at hl 0 rfl) ?_
  refine lv_iload_n hx hb dX0_pick_1 rfl (lv_at hl 1 rfl) ?_
  refine lv_iload_n hx hb dX0_pick_2 rfl (lv_at hl 2 rfl) ?_
  refine lv_iload_n hx hb dX0_pick_3 rfl (lv_at hl 3 rfl) ?_
  refine lv_iload hx hb dX0_pick_4 (lv_at hl 4 rfl) ?_
  refine q_cv [.int k, .int w, .int x, .int v] (rest := []) ⟨hx, hb, hml, hown, hts⟩ (mX0_isQuestion l dC dI h qb qj qm qw qr cA n rec lim fb fj fm fw fr k w x v) gX0_pick_X0_isQuestion rfl rfl rfl hdX0_isQuestion ⟨Nat.le_of_ble_eq_true rfl, Nat.le_of_ble_eq_true rfl⟩ rfl hK hP rfl rfl hl.1 rfl (Nat.le_of_ble_eq_true rfl) dX0_pick_6 ⟨Nat.zero_le _, Nat.zero_le _⟩ ?_
  refine lv_if_ne (tgt := 16) hx hb dX0_pick_9 (by decide) (fun c_1 => ?_) (fun c_1 => ?_)
  · skip
    have c_1 : (qst (nI n) k w x v) = true := b2i_n c_1
    obtain ⟨j, hj, rfl⟩ := jmp_of (qst_j c_1) hn
    refine lv_iload hx hb dX0_pick_16 (lv_at hl 4 rfl) ?_
    refine lv_istore (lv' := [(5, .int v), (0, .ref h), (1, .int k), (2, .int w), (3, .int (nI j)), (4, .int v)]) hx hb dX0_pick_18 hl (by decide) rfl (fun ls hl => ?_)
    refine lv_iconst (v := 0) hx hb dX0_pick_20 (by decide) ?_
    refine lv_istore (lv' := [(6, .int 0), (5, .int v), (0, .ref h), (1, .int k), (2, .int w), (3, .int (nI j)), (4, .int v)]) hx hb dX0_pick_21 hl (by decide) rfl (fun ls hl => ?_)
    refine q_lp (head := 23) (6) (fun i => [(0, .ref h), (1, .int k), (2, .int w), (3, .int (nI j)), (4, .int v), (5, .int (pckF k w (vlu (mk fm) (mk fw) w j) v i)), (6, .int (nI i))]) (fun i => True) (0) (by omega) (trivial) (q_hl (lv_sub (l' := [(0, .ref h), (1, .int k), (2, .int w), (3, .int (nI j)), (4, .int v), (5, .int v), (6, .int 0)]) hl [2, 3, 4, 5, 6, 1, 0] rfl) (q_ck (q_ck (q_ck (q_ck (q_ck (q_ce (by rfl) (q_ce (by rfl) (rfl))))))))) ?_ ?_
    · intro i hi_i hI_i ih_i ls hl
      have hl : lv_has ls 8 [(0, .ref h), (1, .int k), (2, .int w), (3, .int (nI j)), (4, .int v), (5, .int (pckF k w (vlu (mk fm) (mk fw) w j) v i)), (6, .int (nI i))] := hl
      refine lv_iload hx hb dX0_pick_23 (lv_at hl 6 rfl) ?_
      refine lv_bipush (v := 6) hx hb dX0_pick_25 (by decide) ?_
      refine lv_icmp_ge (tgt := 62) hx hb dX0_pick_27 (by decide) (fun c_2 => absurd c_2 (nI_ge (b := 6) hi_i (by decide))) (fun c_2 => ?_)
      refine lv_aload_n hx hb dX0_pick_30 rfl (lv_at hl 0 rfl) ?_
      refine lv_iload_n hx hb dX0_pick_31 rfl (lv_at hl 2 rfl) ?_
      refine lv_iload_n hx hb dX0_pick_32 rfl (lv_at hl 3 rfl) ?_
      refine lv_iload hx hb dX0_pick_33 (lv_at hl 6 rfl) ?_
      refine q_cv [.int w, .int (nI j), .int (nI i)] (rest := []) ⟨hx, hb, hml, hown, hts⟩ (mX0_valueOf l dC dI h qb qj qm qw qr cA n rec lim fb fj fm fw fr w j i (by omega) (by omega)) gX0_pick_X0_valueOf rfl rfl rfl hdX0_valueOf ⟨Nat.le_of_ble_eq_true rfl, Nat.le_of_ble_eq_true rfl⟩ rfl hK hP rfl rfl hl.1 rfl (Nat.le_of_ble_eq_true rfl) dX0_pick_35 ⟨Nat.zero_le _, Nat.zero_le _⟩ ?_
      refine lv_istore (lv' := [(7, .int (vlu (mk fm) (mk fw) w j i)), (0, .ref h), (1, .int k), (2, .int w), (3, .int (nI j)), (4, .int v), (5, .int (pckF k w (vlu (mk fm) (mk fw) w j) v i)), (6, .int (nI i))]) hx hb dX0_pick_38 hl (by decide) rfl (fun ls hl => ?_)
      refine lv_iload_n hx hb dX0_pick_40 rfl (lv_at hl 2 rfl) ?_
      refine lv_iload_n hx hb dX0_pick_41 rfl (lv_at hl 3 rfl) ?_
      refine lv_iload hx hb dX0_pick_42 (lv_at hl 0 rfl) ?_
      refine lv_iload hx hb dX0_pick_44 (lv_at hl 6 rfl) ?_
      refine q_cs [.int k, .int w, .int (vlu (mk fm) (mk fw) w j i), .int (pckF k w (vlu (mk fm) (mk fw) w j) v i)] (rest := []) ⟨hx, hb, hml, hown, hts⟩ (mX0_valueFits l k w (vlu (mk fm) (mk fw) w j i) (pckF k w (vlu (mk fm) (mk fw) w j) v i)) gX0_pick_X0_valueFits rfl rfl rfl hdX0_valueFits ⟨Nat.le_of_ble_eq_true rfl, Nat.le_of_ble_eq_true rfl⟩ rfl hl.1 rfl (Nat.le_of_ble_eq_true rfl) dX0_pick_46 ⟨Nat.zero_le _, Nat.zero_le _⟩ ?_
      refine lv_if_eq (tgt := 56) hx hb dX0_pick_49 (by decide) (fun c_3 => ?_) (fun c_3 => ?_)
      · skip
        have c_3 : (fitv k w (vlu (mk fm) (mk fw) w j i) (pckF k w (vlu (mk fm) (mk fw) w j) v i)) = false := b2i_0 c_3
        refine lv_iinc (v := (nI (i + 1))) (lv' := [(6, .int (nI (i + 1))), (7, .int (vlu (mk fm) (mk fw) w j i)), (0, .ref h), (1, .int k), (2, .int w), (3, .int (nI j)), (4, .int v), (5, .int (pckF k w (vlu (mk fm) (mk fw) w j) v i))]) hx hb dX0_pick_56 hl (k := 7) rfl (by exact nI_1 _) (by decide) rfl (fun ls hl => ?_)
        refine lv_goto (tgt := 23) hx hb dX0_pick_59 (by decide) ?_
        exact ih_i (by exact trivial) ls (q_hl (lv_sub (l' := [(0, .ref h), (1, .int k), (2, .int w), (3, .int (nI j)), (4, .int v), (5, .int (pckF k w (vlu (mk fm) (mk fw) w j) v i)), (6, .int (nI (i + 1)))]) hl [2, 3, 4, 5, 6, 7, 0] rfl) (q_ck (q_ck (q_ck (q_ck (q_ck (q_ce (by simp [pckF, c_1, c_3]) (q_ck (rfl)))))))))
      · skip
        have c_3 : (fitv k w (vlu (mk fm) (mk fw) w j i) (pckF k w (vlu (mk fm) (mk fw) w j) v i)) = true := b2i_n c_3
        refine lv_iload hx hb dX0_pick_52 (lv_at hl 0 rfl) ?_
        refine lv_istore (lv' := [(5, .int (vlu (mk fm) (mk fw) w j i)), (7, .int (vlu (mk fm) (mk fw) w j i)), (0, .ref h), (1, .int k), (2, .int w), (3, .int (nI j)), (4, .int v), (6, .int (nI i))]) hx hb dX0_pick_54 hl (by decide) rfl (fun ls hl => ?_)
        refine lv_iinc (v := (nI (i + 1))) (lv' := [(6, .int (nI (i + 1))), (5, .int (vlu (mk fm) (mk fw) w j i)), (7, .int (vlu (mk fm) (mk fw) w j i)), (0, .ref h), (1, .int k), (2, .int w), (3, .int (nI j)), (4, .int v)]) hx hb dX0_pick_56 hl (k := 7) rfl (by exact nI_1 _) (by decide) rfl (fun ls hl => ?_)
        refine lv_goto (tgt := 23) hx hb dX0_pick_59 (by decide) ?_
        exact ih_i (by exact trivial) ls (q_hl (lv_sub (l' := [(0, .ref h), (1, .int k), (2, .int w), (3, .int (nI j)), (4, .int v), (5, .int (vlu (mk fm) (mk fw) w j i)), (6, .int (nI (i + 1)))]) hl [3, 4, 5, 6, 7, 1, 0] rfl) (q_ck (q_ck (q_ck (q_ck (q_ck (q_ce (by simp [pckF, c_1, c_3]) (q_ck (rfl)))))))))
    · intro hI_i ls hl
      have hl : lv_has ls 8 [(0, .ref h), (1, .int k), (2, .int w), (3, .int (nI j)), (4, .int v), (5, .int (pckF k w (vlu (mk fm) (mk fw) w j) v 6)), (6, .int (nI 6))] := hl
      refine lv_iload hx hb dX0_pick_23 (lv_at hl 6 rfl) ?_
      refine lv_bipush (v := 6) hx hb dX0_pick_25 (by decide) ?_
      refine lv_icmp_ge (tgt := 62) hx hb dX0_pick_27 (by decide) (fun c_4 => ?_) (fun c_4 => absurd (by decide) c_4)
      refine lv_iload hx hb dX0_pick_62 (lv_at hl 5 rfl) ?_
      exact q_ri hx hb hr hlk (by rw [aPick, if_pos c_1, nI_clamp (by omega)]) dX0_pick_64
  · skip
    have c_1 : (qst (nI n) k w x v) = false := b2i_0 c_1
    refine lv_sipush (v := (-1000)) hx hb dX0_pick_12 (by decide) ?_
    exact q_ri hx hb hr hlk (by simp [aPick, c_1]) dX0_pick_15

theorem hdX0_best : yX0_best.cls = RX0 ∧ yX0_best.cls ≠ "java/lang/invoke/MethodHandle" ∧ yX0_best.cls ≠ "java/lang/invoke/VarHandle" ∧ (parseMethodDescriptor yX0_best.desc).map (fun d => d.parameters.length) = some 1 := by decide +kernel
set_option maxHeartbeats 4000000 in
set_option maxRecDepth 100000 in
theorem mX0_best (l : Launch) (dC : Nat → ClassId) (dI : Nat → Nat → Nat) (h qb qj qm qw qr : Nat) (cA : ClassId) (n : Nat) (rec lim : Int32) (fb fj fm fw fr : Nat → Int32) (x : Int32) (hn : n ≤ 8) : Met l yX0_best wsX0_best ({ frames := 4, cells := 0, slots := 0, locals := 90 }) (va_Pc [.ref h, .int x] (fun U => va_P (dC, dI) vwCl (wX h qb qj qm qw qr cA (nI n) rec lim fb fj fm fw fr) U.heap ∧ va_K (dC, dI) vwCl [(cA, .int)] U)) (QcRead (aBest (mk fm) (mk fw) lim (nI n) x)) 0 0 (fun _ => False) := by
  refine Met.ofW (cc := cX0_best) (maxL := 2) (ret := (some .int)) (by decide) rfl ?_
  intro p e s m args below meth c s₁ B hml hv
  obtain ⟨rfl, hP, hK⟩ := hv
  have hx := B.exec
  have hb := B.bytes
  have hr := B.returns
  have hts := atoms_spec (ws := wsX0_best) B.pre
  have hown : s.vm.findClass RX0 = some m.cls := findClass_of_methodNamed B.named
  have hlk := B.notSynchronized
  have hl := lv_entry ([.ref h, .int x]) (n := 2) (Nat.le_of_ble_eq_true rfl)
  rw [lg_entry_eq]
  generalize (lg_sl ([.ref h, .int x]) ++ List.replicate (2 - (lg_sl ([.ref h, .int x])).length) Slot.unset).toArray = ls at hl ⊢
  have hl : lv_has ls 2 [(0, .ref h), (1, .int x)] := hl
  refine lv_aload_n hx hb dX0_best_0 rfl (lv_at hl 0 rfl) ?_
  refine lv_iload_n hx hb dX0_best_1 rfl (lv_at hl 1 rfl) ?_
  refine q_cv [.int x] (rest := []) ⟨hx, hb, hml, hown, hts⟩ (mX0_isJumper l dC dI h qb qj qm qw qr cA n rec lim fb fj fm fw fr x) gX0_best_X0_isJumper rfl rfl rfl hdX0_isJumper ⟨Nat.le_of_ble_eq_true rfl, Nat.le_of_ble_eq_true rfl⟩ rfl hK hP rfl rfl hl.1 rfl (Nat.le_of_ble_eq_true rfl) dX0_best_2 ⟨Nat.zero_le _, Nat.zero_le _⟩ ?_
  refine lv_if_ne (tgt := 12) hx hb dX0_best_5 (by decide) (fun c_1 => ?_) (fun c_1 => ?_)
  · skip
    have c_1 : (jmp (nI n) x) = true := b2i_n c_1
    obtain ⟨j, hj, rfl⟩ := jmp_of c_1 hn
    refine lv_aload_n hx hb dX0_best_12 rfl (lv_at hl 0 rfl) ?_
    refine lv_iload_n hx hb dX0_best_13 rfl (lv_at hl 1 rfl) ?_
    refine q_cv [.int (nI j)] (rest := []) ⟨hx, hb, hml, hown, hts⟩ (mX0_bestOf l dC dI h qb qj qm qw qr cA n rec lim fb fj fm fw fr j (by omega)) gX0_best_X0_bestOf rfl rfl rfl hdX0_bestOf ⟨Nat.le_of_ble_eq_true rfl, Nat.le_of_ble_eq_true rfl⟩ rfl hK hP rfl rfl hl.1 rfl (Nat.le_of_ble_eq_true rfl) dX0_best_14 ⟨Nat.zero_le _, Nat.zero_le _⟩ ?_
    exact q_ri hx hb hr hlk (by rw [aBest, if_pos c_1, nI_clamp (by omega)]) dX0_best_17
  · skip
    have c_1 : (jmp (nI n) x) = false := b2i_0 c_1
    refine lv_sipush (v := (-1000)) hx hb dX0_best_8 (by decide) ?_
    exact q_ri hx hb hr hlk (by simp [aBest, c_1]) dX0_best_11

theorem hdX0_verdict : yX0_verdict.cls = RX0 ∧ yX0_verdict.cls ≠ "java/lang/invoke/MethodHandle" ∧ yX0_verdict.cls ≠ "java/lang/invoke/VarHandle" ∧ (parseMethodDescriptor yX0_verdict.desc).map (fun d => d.parameters.length) = some 2 := by decide +kernel
set_option maxHeartbeats 4000000 in
set_option maxRecDepth 100000 in
theorem mX0_verdict (l : Launch) (dC : Nat → ClassId) (dI : Nat → Nat → Nat) (h qb qj qm qw qr : Nat) (cA : ClassId) (n : Nat) (rec lim : Int32) (fb fj fm fw fr : Nat → Int32) (x : Int32) (r : Int32) (hn : n ≤ 8) : Met l yX0_verdict wsX0_verdict ({ frames := 3, cells := 0, slots := 0, locals := 69 }) (va_Pc [.ref h, .int x, .int r] (fun U => va_P (dC, dI) vwCl (wX h qb qj qm qw qr cA (nI n) rec lim fb fj fm fw fr) U.heap ∧ va_K (dC, dI) vwCl [(cA, .int)] U)) (QcRead (aVerdict (mk fm) (mk fw) rec lim (nI n) x r)) 0 0 (fun _ => False) := by
  refine Met.ofW (cc := cX0_verdict) (maxL := 6) (ret := (some .int)) (by decide) rfl ?_
  intro p e s m args below meth c s₁ B hml hv
  obtain ⟨rfl, hP, hK⟩ := hv
  have hx := B.exec
  have hb := B.bytes
  have hr := B.returns
  have hts := atoms_spec (ws := wsX0_verdict) B.pre
  have hown : s.vm.findClass RX0 = some m.cls := findClass_of_methodNamed B.named
  have hlk := B.notSynchronized
  have hin : ∀ w ∈ wsX00, w ∈ wsX0_verdict := fun w h => List.mem_cons_of_mem _ (List.mem_append_right _ h)
  have hf_13 := hts (.fieldLink RX0 13 "JumpBoard" "recordMark" "I") (by decide +kernel)
  have hf_16 := hts (.fieldLink RX0 16 "JumpBoard" "limitWind" "I") (by decide +kernel)
  have hf_26 := hts (.fieldLink RX0 26 "JumpBoard" "marks" "[I") (by decide +kernel)
  have hf_29 := hts (.fieldLink RX0 29 "JumpBoard" "winds" "[I") (by decide +kernel)
  have hl := lv_entry ([.ref h, .int x, .int r]) (n := 6) (Nat.le_of_ble_eq_true rfl)
  rw [lg_entry_eq]
  generalize (lg_sl ([.ref h, .int x, .int r]) ++ List.replicate (6 - (lg_sl ([.ref h, .int x, .int r])).length) Slot.unset).toArray = ls at hl ⊢
  have hl : lv_has ls 6 [(0, .ref h), (1, .int x), (2, .int r)] := hl
  refine lv_aload_n hx hb dX0_verdict_0 rfl (lv_at hl 0 rfl) ?_
  refine lv_iload_n hx hb dX0_verdict_1 rfl (lv_at hl 1 rfl) ?_
  refine q_cv [.int x] (rest := []) ⟨hx, hb, hml, hown, hts⟩ (mX0_isJumper l dC dI h qb qj qm qw qr cA n rec lim fb fj fm fw fr x) gX0_verdict_X0_isJumper rfl rfl rfl hdX0_isJumper ⟨Nat.le_of_ble_eq_true rfl, Nat.le_of_ble_eq_true rfl⟩ rfl hK hP rfl rfl hl.1 rfl (Nat.le_of_ble_eq_true rfl) dX0_verdict_2 ⟨Nat.zero_le _, Nat.zero_le _⟩ ?_
  refine lv_if_eq (tgt := 15) hx hb dX0_verdict_5 (by decide) (fun c_1 => ?_) (fun c_1 => ?_)
  · skip
    have c_1 : (jmp (nI n) x) = false := b2i_0 c_1
    refine lv_sipush (v := (-1000)) hx hb dX0_verdict_15 (by decide) ?_
    exact q_ri hx hb hr hlk (by simp [aVerdict, c_1]) dX0_verdict_18
  · skip
    have c_1 : (jmp (nI n) x) = true := b2i_n c_1
    refine lv_iload_n hx hb dX0_verdict_8 rfl (lv_at hl 2 rfl) ?_
    refine q_cs [.int r] (rest := []) ⟨hx, hb, hml, hown, hts⟩ (mX0_isRound l r) gX0_verdict_X0_isRound rfl rfl rfl hdX0_isRound ⟨Nat.le_of_ble_eq_true rfl, Nat.le_of_ble_eq_true rfl⟩ rfl hl.1 rfl (Nat.le_of_ble_eq_true rfl) dX0_verdict_9 ⟨Nat.zero_le _, Nat.zero_le _⟩ ?_
    refine lv_if_ne (tgt := 19) hx hb dX0_verdict_12 (by decide) (fun c_2 => ?_) (fun c_2 => ?_)
    · skip
      have c_2 : (rnd r) = true := b2i_n c_2
      obtain ⟨j, hj, rfl⟩ := jmp_of c_1 hn
      obtain ⟨r6, hr6, rfl⟩ := rnd_of c_2
      refine lv_aload_n hx hb dX0_verdict_19 rfl (lv_at hl 0 rfl) ?_
      refine va_get (D := (dC, dI)) (ci := 0) (v := .ref qm) (C := RX0) (T := TX0) (N := 8) hx hb hts hin hown hK hP 0 rfl rfl 5 (by decide) hf_26 (fun _ h9 => h9) rfl dX0_verdict_20 ?_
      refine lv_iload_n hx hb dX0_verdict_23 rfl (lv_at hl 1 rfl) ?_
      refine lv_iload_n hx hb dX0_verdict_24 rfl (lv_at hl 2 rfl) ?_
      refine q_cs [.int (nI j), .int (nI r6)] (rest := [.ref qm]) ⟨hx, hb, hml, hown, hts⟩ (mX0_at l j r6) gX0_verdict_X0_at rfl rfl rfl hdX0_at ⟨Nat.le_of_ble_eq_true rfl, Nat.le_of_ble_eq_true rfl⟩ rfl hl.1 rfl (Nat.le_of_ble_eq_true rfl) dX0_verdict_25 ⟨Nat.zero_le _, Nat.zero_le _⟩ ?_
      refine q_ald (n := 48) (k := (6 * j + r6)) hx hb hK hP 3 0 rfl rfl (by omega) (by decide) dX0_verdict_28 ?_
      refine lv_istore_n (lv' := [(3, .int (fm (6 * j + r6))), (0, .ref h), (1, .int (nI j)), (2, .int (nI r6))]) hx hb dX0_verdict_29 rfl hl (by decide) rfl (fun ls hl => ?_)
      refine lv_aload_n hx hb dX0_verdict_30 rfl (lv_at hl 1 rfl) ?_
      refine va_get (D := (dC, dI)) (ci := 0) (v := .ref qw) (C := RX0) (T := TX0) (N := 8) hx hb hts hin hown hK hP 0 rfl rfl 6 (by decide) hf_29 (fun _ h9 => h9) rfl dX0_verdict_31 ?_
      refine lv_iload_n hx hb dX0_verdict_34 rfl (lv_at hl 2 rfl) ?_
      refine lv_iload_n hx hb dX0_verdict_35 rfl (lv_at hl 3 rfl) ?_
      refine q_cs [.int (nI j), .int (nI r6)] (rest := [.ref qw]) ⟨hx, hb, hml, hown, hts⟩ (mX0_at l j r6) gX0_verdict_X0_at rfl rfl rfl hdX0_at ⟨Nat.le_of_ble_eq_true rfl, Nat.le_of_ble_eq_true rfl⟩ rfl hl.1 rfl (Nat.le_of_ble_eq_true rfl) dX0_verdict_36 ⟨Nat.zero_le _, Nat.zero_le _⟩ ?_
      refine q_ald (n := 48) (k := (6 * j + r6)) hx hb hK hP 4 0 rfl rfl (by omega) (by decide) dX0_verdict_39 ?_
      refine lv_istore (lv' := [(4, .int (fw (6 * j + r6))), (3, .int (fm (6 * j + r6))), (0, .ref h), (1, .int (nI j)), (2, .int (nI r6))]) hx hb dX0_verdict_40 hl (by decide) rfl (fun ls hl => ?_)
      refine lv_iconst (v := 0) hx hb dX0_verdict_42 (by decide) ?_
      refine lv_istore (lv' := [(5, .int 0), (4, .int (fw (6 * j + r6))), (3, .int (fm (6 * j + r6))), (0, .ref h), (1, .int (nI j)), (2, .int (nI r6))]) hx hb dX0_verdict_43 hl (by decide) rfl (fun ls hl => ?_)
      refine lv_iload hx hb dX0_verdict_45 (lv_at hl 0 rfl) ?_
      refine lv_iload_n hx hb dX0_verdict_47 rfl (lv_at hl 2 rfl) ?_
      refine q_jn (pj := 56) (v := ifz (!decide (mk fm j r6 = 0)) 1) (rest := [.int 0]) ?_ (fun J => ?_)
      rotate_left
      · skip
        refine lv_if_eq (tgt := 55) hx hb dX0_verdict_48 (by decide) (fun c_3 => ?_) (fun c_3 => ?_)
        · skip
          refine lv_iconst (v := 0) hx hb dX0_verdict_55 (by decide) ?_
          exact q_top (by simp [ifz, mk, c_1, c_2, c_3] <;> simp_all [mk]) J
        · skip
          refine lv_iconst (v := 1) hx hb dX0_verdict_51 (by decide) ?_
          refine lv_goto (tgt := 56) hx hb dX0_verdict_52 (by decide) ?_
          exact q_top (by simp [ifz, mk, c_1, c_2, c_3] <;> simp_all [mk]) J
      refine lv_iadd hx hb dX0_verdict_56 ?_
      refine lv_istore (lv' := [(5, .int (0 + (ifz (!decide (mk fm j r6 = 0)) 1))), (4, .int (fw (6 * j + r6))), (3, .int (fm (6 * j + r6))), (0, .ref h), (1, .int (nI j)), (2, .int (nI r6))]) hx hb dX0_verdict_57 hl (by decide) rfl (fun ls hl => ?_)
      refine lv_iload hx hb dX0_verdict_59 (lv_at hl 0 rfl) ?_
      refine lv_iload hx hb dX0_verdict_61 (lv_at hl 1 rfl) ?_
      refine lv_bipush (v := 100) hx hb dX0_verdict_63 (by decide) ?_
      refine q_jn (pj := 73) (v := ifz (!decide (mk fw j r6 = 100)) 2) (rest := [.int (0 + (ifz (!decide (mk fm j r6 = 0)) 1))]) ?_ (fun J => ?_)
      rotate_left
      · skip
        refine lv_icmp_eq (tgt := 72) hx hb dX0_verdict_65 (by decide) (fun c_4 => ?_) (fun c_4 => ?_)
        · skip
          refine lv_iconst (v := 0) hx hb dX0_verdict_72 (by decide) ?_
          exact q_top (by simp [ifz, mk, c_1, c_2, c_4] <;> simp_all [mk]) J
        · skip
          refine lv_iconst (v := 2) hx hb dX0_verdict_68 (by decide) ?_
          refine lv_goto (tgt := 73) hx hb dX0_verdict_69 (by decide) ?_
          exact q_top (by simp [ifz, mk, c_1, c_2, c_4] <;> simp_all [mk]) J
      refine lv_iadd hx hb dX0_verdict_73 ?_
      refine lv_istore (lv' := [(5, .int ((0 + (ifz (!decide (mk fm j r6 = 0)) 1)) + (ifz (!decide (mk fw j r6 = 100)) 2))), (4, .int (fw (6 * j + r6))), (3, .int (fm (6 * j + r6))), (0, .ref h), (1, .int (nI j)), (2, .int (nI r6))]) hx hb dX0_verdict_74 hl (by decide) rfl (fun ls hl => ?_)
      refine lv_iload hx hb dX0_verdict_76 (lv_at hl 0 rfl) ?_
      refine lv_aload_n hx hb dX0_verdict_78 rfl (lv_at hl 3 rfl) ?_
      refine lv_iload_n hx hb dX0_verdict_79 rfl (lv_at hl 4 rfl) ?_
      refine lv_iload_n hx hb dX0_verdict_80 rfl (lv_at hl 5 rfl) ?_
      refine q_cv [.int (nI j), .int (nI r6)] (rest := [.int ((0 + (ifz (!decide (mk fm j r6 = 0)) 1)) + (ifz (!decide (mk fw j r6 = 100)) 2))]) ⟨hx, hb, hml, hown, hts⟩ (mX0_isLegal l dC dI h qb qj qm qw qr cA n rec lim fb fj fm fw fr j r6 (by omega) (by omega)) gX0_verdict_X0_isLegal rfl rfl rfl hdX0_isLegal ⟨Nat.le_of_ble_eq_true rfl, Nat.le_of_ble_eq_true rfl⟩ rfl hK hP rfl rfl hl.1 rfl (Nat.le_of_ble_eq_true rfl) dX0_verdict_81 ⟨Nat.zero_le _, Nat.zero_le _⟩ ?_
      refine q_jn (pj := 92) (v := ifz (lgl (mk fm) (mk fw) lim j r6) 4) (rest := [.int ((0 + (ifz (!decide (mk fm j r6 = 0)) 1)) + (ifz (!decide (mk fw j r6 = 100)) 2))]) ?_ (fun J => ?_)
      rotate_left
      · skip
        refine lv_if_eq (tgt := 91) hx hb dX0_verdict_84 (by decide) (fun c_5 => ?_) (fun c_5 => ?_)
        · skip
          have c_5 : (lgl (mk fm) (mk fw) lim j r6) = false := b2i_0 c_5
          refine lv_iconst (v := 0) hx hb dX0_verdict_91 (by decide) ?_
          exact q_top (by simp [ifz, mk, c_1, c_2, c_5] <;> simp_all [mk]) J
        · skip
          have c_5 : (lgl (mk fm) (mk fw) lim j r6) = true := b2i_n c_5
          refine lv_iconst (v := 4) hx hb dX0_verdict_87 (by decide) ?_
          refine lv_goto (tgt := 92) hx hb dX0_verdict_88 (by decide) ?_
          exact q_top (by simp [ifz, mk, c_1, c_2, c_5] <;> simp_all [mk]) J
      refine lv_iadd hx hb dX0_verdict_92 ?_
      refine lv_istore (lv' := [(5, .int (((0 + (ifz (!decide (mk fm j r6 = 0)) 1)) + (ifz (!decide (mk fw j r6 = 100)) 2)) + (ifz (lgl (mk fm) (mk fw) lim j r6) 4))), (4, .int (fw (6 * j + r6))), (3, .int (fm (6 * j + r6))), (0, .ref h), (1, .int (nI j)), (2, .int (nI r6))]) hx hb dX0_verdict_93 hl (by decide) rfl (fun ls hl => ?_)
      refine lv_iload hx hb dX0_verdict_95 (lv_at hl 0 rfl) ?_
      refine lv_iconst (v := 3) hx hb dX0_verdict_97 (by decide) ?_
      refine lv_iconst (v := 0) hx hb dX0_verdict_98 (by decide) ?_
      refine lv_iload_n hx hb dX0_verdict_99 rfl (lv_at hl 2 rfl) ?_
      refine lv_aload_n hx hb dX0_verdict_100 rfl (lv_at hl 3 rfl) ?_
      refine va_get (D := (dC, dI)) (ci := 0) (v := .int rec) (C := RX0) (T := TX0) (N := 8) hx hb hts hin hown hK hP 0 rfl rfl 1 (by decide) hf_13 (fun _ h9 => h9) rfl dX0_verdict_101 ?_
      refine q_cs [.int 3, .int 0, .int (fm (6 * j + r6)), .int rec] (rest := [.int (((0 + (ifz (!decide (mk fm j r6 = 0)) 1)) + (ifz (!decide (mk fw j r6 = 100)) 2)) + (ifz (lgl (mk fm) (mk fw) lim j r6) 4))]) ⟨hx, hb, hml, hown, hts⟩ (mX0_valueFits l 3 0 (fm (6 * j + r6)) rec) gX0_verdict_X0_valueFits rfl rfl rfl hdX0_valueFits ⟨Nat.le_of_ble_eq_true rfl, Nat.le_of_ble_eq_true rfl⟩ rfl hl.1 rfl (Nat.le_of_ble_eq_true rfl) dX0_verdict_104 ⟨Nat.zero_le _, Nat.zero_le _⟩ ?_
      refine q_jn (pj := 116) (v := ifz (fitv 3 0 (mk fm j r6) rec) 8) (rest := [.int (((0 + (ifz (!decide (mk fm j r6 = 0)) 1)) + (ifz (!decide (mk fw j r6 = 100)) 2)) + (ifz (lgl (mk fm) (mk fw) lim j r6) 4))]) ?_ (fun J => ?_)
      rotate_left
      · skip
        refine lv_if_eq (tgt := 115) hx hb dX0_verdict_107 (by decide) (fun c_6 => ?_) (fun c_6 => ?_)
        · skip
          have c_6 : (fitv 3 0 (fm (6 * j + r6)) rec) = false := b2i_0 c_6
          refine lv_iconst (v := 0) hx hb dX0_verdict_115 (by decide) ?_
          exact q_top (by simp [ifz, mk, c_1, c_2, c_6] <;> simp_all [mk]) J
        · skip
          have c_6 : (fitv 3 0 (fm (6 * j + r6)) rec) = true := b2i_n c_6
          refine lv_bipush (v := 8) hx hb dX0_verdict_110 (by decide) ?_
          refine lv_goto (tgt := 116) hx hb dX0_verdict_112 (by decide) ?_
          exact q_top (by simp [ifz, mk, c_1, c_2, c_6] <;> simp_all [mk]) J
      refine lv_iadd hx hb dX0_verdict_116 ?_
      refine lv_istore (lv' := [(5, .int ((((0 + (ifz (!decide (mk fm j r6 = 0)) 1)) + (ifz (!decide (mk fw j r6 = 100)) 2)) + (ifz (lgl (mk fm) (mk fw) lim j r6) 4)) + (ifz (fitv 3 0 (mk fm j r6) rec) 8))), (4, .int (fw (6 * j + r6))), (3, .int (fm (6 * j + r6))), (0, .ref h), (1, .int (nI j)), (2, .int (nI r6))]) hx hb dX0_verdict_117 hl (by decide) rfl (fun ls hl => ?_)
      refine lv_iload hx hb dX0_verdict_119 (lv_at hl 0 rfl) ?_
      refine lv_iconst (v := 2) hx hb dX0_verdict_121 (by decide) ?_
      refine lv_iconst (v := 0) hx hb dX0_verdict_122 (by decide) ?_
      refine lv_iload_n hx hb dX0_verdict_123 rfl (lv_at hl 2 rfl) ?_
      refine lv_aload_n hx hb dX0_verdict_124 rfl (lv_at hl 3 rfl) ?_
      refine va_get (D := (dC, dI)) (ci := 0) (v := .int rec) (C := RX0) (T := TX0) (N := 8) hx hb hts hin hown hK hP 0 rfl rfl 1 (by decide) hf_13 (fun _ h9 => h9) rfl dX0_verdict_125 ?_
      refine q_cs [.int 2, .int 0, .int (fm (6 * j + r6)), .int rec] (rest := [.int ((((0 + (ifz (!decide (mk fm j r6 = 0)) 1)) + (ifz (!decide (mk fw j r6 = 100)) 2)) + (ifz (lgl (mk fm) (mk fw) lim j r6) 4)) + (ifz (fitv 3 0 (mk fm j r6) rec) 8))]) ⟨hx, hb, hml, hown, hts⟩ (mX0_valueFits l 2 0 (fm (6 * j + r6)) rec) gX0_verdict_X0_valueFits rfl rfl rfl hdX0_valueFits ⟨Nat.le_of_ble_eq_true rfl, Nat.le_of_ble_eq_true rfl⟩ rfl hl.1 rfl (Nat.le_of_ble_eq_true rfl) dX0_verdict_128 ⟨Nat.zero_le _, Nat.zero_le _⟩ ?_
      refine q_jn (pj := 140) (v := ifz (fitv 2 0 (mk fm j r6) rec) 16) (rest := [.int ((((0 + (ifz (!decide (mk fm j r6 = 0)) 1)) + (ifz (!decide (mk fw j r6 = 100)) 2)) + (ifz (lgl (mk fm) (mk fw) lim j r6) 4)) + (ifz (fitv 3 0 (mk fm j r6) rec) 8))]) ?_ (fun J => ?_)
      rotate_left
      · skip
        refine lv_if_eq (tgt := 139) hx hb dX0_verdict_131 (by decide) (fun c_7 => ?_) (fun c_7 => ?_)
        · skip
          have c_7 : (fitv 2 0 (fm (6 * j + r6)) rec) = false := b2i_0 c_7
          refine lv_iconst (v := 0) hx hb dX0_verdict_139 (by decide) ?_
          exact q_top (by simp [ifz, mk, c_1, c_2, c_7] <;> simp_all [mk]) J
        · skip
          have c_7 : (fitv 2 0 (fm (6 * j + r6)) rec) = true := b2i_n c_7
          refine lv_bipush (v := 16) hx hb dX0_verdict_134 (by decide) ?_
          refine lv_goto (tgt := 140) hx hb dX0_verdict_136 (by decide) ?_
          exact q_top (by simp [ifz, mk, c_1, c_2, c_7] <;> simp_all [mk]) J
      refine lv_iadd hx hb dX0_verdict_140 ?_
      refine lv_istore (lv' := [(5, .int (((((0 + (ifz (!decide (mk fm j r6 = 0)) 1)) + (ifz (!decide (mk fw j r6 = 100)) 2)) + (ifz (lgl (mk fm) (mk fw) lim j r6) 4)) + (ifz (fitv 3 0 (mk fm j r6) rec) 8)) + (ifz (fitv 2 0 (mk fm j r6) rec) 16))), (4, .int (fw (6 * j + r6))), (3, .int (fm (6 * j + r6))), (0, .ref h), (1, .int (nI j)), (2, .int (nI r6))]) hx hb dX0_verdict_141 hl (by decide) rfl (fun ls hl => ?_)
      refine lv_iload hx hb dX0_verdict_143 (lv_at hl 0 rfl) ?_
      refine lv_iconst (v := 4) hx hb dX0_verdict_145 (by decide) ?_
      refine lv_iconst (v := 0) hx hb dX0_verdict_146 (by decide) ?_
      refine lv_iload_n hx hb dX0_verdict_147 rfl (lv_at hl 2 rfl) ?_
      refine lv_aload_n hx hb dX0_verdict_148 rfl (lv_at hl 3 rfl) ?_
      refine va_get (D := (dC, dI)) (ci := 0) (v := .int rec) (C := RX0) (T := TX0) (N := 8) hx hb hts hin hown hK hP 0 rfl rfl 1 (by decide) hf_13 (fun _ h9 => h9) rfl dX0_verdict_149 ?_
      refine q_cs [.int 4, .int 0, .int (fm (6 * j + r6)), .int rec] (rest := [.int (((((0 + (ifz (!decide (mk fm j r6 = 0)) 1)) + (ifz (!decide (mk fw j r6 = 100)) 2)) + (ifz (lgl (mk fm) (mk fw) lim j r6) 4)) + (ifz (fitv 3 0 (mk fm j r6) rec) 8)) + (ifz (fitv 2 0 (mk fm j r6) rec) 16))]) ⟨hx, hb, hml, hown, hts⟩ (mX0_valueFits l 4 0 (fm (6 * j + r6)) rec) gX0_verdict_X0_valueFits rfl rfl rfl hdX0_valueFits ⟨Nat.le_of_ble_eq_true rfl, Nat.le_of_ble_eq_true rfl⟩ rfl hl.1 rfl (Nat.le_of_ble_eq_true rfl) dX0_verdict_152 ⟨Nat.zero_le _, Nat.zero_le _⟩ ?_
      refine q_jn (pj := 164) (v := ifz (fitv 4 0 (mk fm j r6) rec) 32) (rest := [.int (((((0 + (ifz (!decide (mk fm j r6 = 0)) 1)) + (ifz (!decide (mk fw j r6 = 100)) 2)) + (ifz (lgl (mk fm) (mk fw) lim j r6) 4)) + (ifz (fitv 3 0 (mk fm j r6) rec) 8)) + (ifz (fitv 2 0 (mk fm j r6) rec) 16))]) ?_ (fun J => ?_)
      rotate_left
      · skip
        refine lv_if_eq (tgt := 163) hx hb dX0_verdict_155 (by decide) (fun c_8 => ?_) (fun c_8 => ?_)
        · skip
          have c_8 : (fitv 4 0 (fm (6 * j + r6)) rec) = false := b2i_0 c_8
          refine lv_iconst (v := 0) hx hb dX0_verdict_163 (by decide) ?_
          exact q_top (by simp [ifz, mk, c_1, c_2, c_8] <;> simp_all [mk]) J
        · skip
          have c_8 : (fitv 4 0 (fm (6 * j + r6)) rec) = true := b2i_n c_8
          refine lv_bipush (v := 32) hx hb dX0_verdict_158 (by decide) ?_
          refine lv_goto (tgt := 164) hx hb dX0_verdict_160 (by decide) ?_
          exact q_top (by simp [ifz, mk, c_1, c_2, c_8] <;> simp_all [mk]) J
      refine lv_iadd hx hb dX0_verdict_164 ?_
      refine lv_istore (lv' := [(5, .int ((((((0 + (ifz (!decide (mk fm j r6 = 0)) 1)) + (ifz (!decide (mk fw j r6 = 100)) 2)) + (ifz (lgl (mk fm) (mk fw) lim j r6) 4)) + (ifz (fitv 3 0 (mk fm j r6) rec) 8)) + (ifz (fitv 2 0 (mk fm j r6) rec) 16)) + (ifz (fitv 4 0 (mk fm j r6) rec) 32))), (4, .int (fw (6 * j + r6))), (3, .int (fm (6 * j + r6))), (0, .ref h), (1, .int (nI j)), (2, .int (nI r6))]) hx hb dX0_verdict_165 hl (by decide) rfl (fun ls hl => ?_)
      refine lv_iload hx hb dX0_verdict_167 (lv_at hl 0 rfl) ?_
      refine lv_iconst (v := 1) hx hb dX0_verdict_169 (by decide) ?_
      refine lv_iconst (v := 1) hx hb dX0_verdict_170 (by decide) ?_
      refine lv_iload hx hb dX0_verdict_171 (lv_at hl 1 rfl) ?_
      refine lv_aload_n hx hb dX0_verdict_173 rfl (lv_at hl 3 rfl) ?_
      refine va_get (D := (dC, dI)) (ci := 0) (v := .int lim) (C := RX0) (T := TX0) (N := 8) hx hb hts hin hown hK hP 0 rfl rfl 2 (by decide) hf_16 (fun _ h9 => h9) rfl dX0_verdict_174 ?_
      refine q_cs [.int 1, .int 1, .int (fw (6 * j + r6)), .int lim] (rest := [.int ((((((0 + (ifz (!decide (mk fm j r6 = 0)) 1)) + (ifz (!decide (mk fw j r6 = 100)) 2)) + (ifz (lgl (mk fm) (mk fw) lim j r6) 4)) + (ifz (fitv 3 0 (mk fm j r6) rec) 8)) + (ifz (fitv 2 0 (mk fm j r6) rec) 16)) + (ifz (fitv 4 0 (mk fm j r6) rec) 32))]) ⟨hx, hb, hml, hown, hts⟩ (mX0_valueFits l 1 1 (fw (6 * j + r6)) lim) gX0_verdict_X0_valueFits rfl rfl rfl hdX0_valueFits ⟨Nat.le_of_ble_eq_true rfl, Nat.le_of_ble_eq_true rfl⟩ rfl hl.1 rfl (Nat.le_of_ble_eq_true rfl) dX0_verdict_177 ⟨Nat.zero_le _, Nat.zero_le _⟩ ?_
      refine q_jn (pj := 189) (v := ifz (fitv 1 1 (mk fw j r6) lim) 64) (rest := [.int ((((((0 + (ifz (!decide (mk fm j r6 = 0)) 1)) + (ifz (!decide (mk fw j r6 = 100)) 2)) + (ifz (lgl (mk fm) (mk fw) lim j r6) 4)) + (ifz (fitv 3 0 (mk fm j r6) rec) 8)) + (ifz (fitv 2 0 (mk fm j r6) rec) 16)) + (ifz (fitv 4 0 (mk fm j r6) rec) 32))]) ?_ (fun J => ?_)
      rotate_left
      · skip
        refine lv_if_eq (tgt := 188) hx hb dX0_verdict_180 (by decide) (fun c_9 => ?_) (fun c_9 => ?_)
        · skip
          have c_9 : (fitv 1 1 (fw (6 * j + r6)) lim) = false := b2i_0 c_9
          refine lv_iconst (v := 0) hx hb dX0_verdict_188 (by decide) ?_
          exact q_top (by simp [ifz, mk, c_1, c_2, c_9] <;> simp_all [mk]) J
        · skip
          have c_9 : (fitv 1 1 (fw (6 * j + r6)) lim) = true := b2i_n c_9
          refine lv_bipush (v := 64) hx hb dX0_verdict_183 (by decide) ?_
          refine lv_goto (tgt := 189) hx hb dX0_verdict_185 (by decide) ?_
          exact q_top (by simp [ifz, mk, c_1, c_2, c_9] <;> simp_all [mk]) J
      refine lv_iadd hx hb dX0_verdict_189 ?_
      refine lv_istore (lv' := [(5, .int (((((((0 + (ifz (!decide (mk fm j r6 = 0)) 1)) + (ifz (!decide (mk fw j r6 = 100)) 2)) + (ifz (lgl (mk fm) (mk fw) lim j r6) 4)) + (ifz (fitv 3 0 (mk fm j r6) rec) 8)) + (ifz (fitv 2 0 (mk fm j r6) rec) 16)) + (ifz (fitv 4 0 (mk fm j r6) rec) 32)) + (ifz (fitv 1 1 (mk fw j r6) lim) 64))), (4, .int (fw (6 * j + r6))), (3, .int (fm (6 * j + r6))), (0, .ref h), (1, .int (nI j)), (2, .int (nI r6))]) hx hb dX0_verdict_190 hl (by decide) rfl (fun ls hl => ?_)
      refine lv_iload hx hb dX0_verdict_192 (lv_at hl 0 rfl) ?_
      refine lv_aload_n hx hb dX0_verdict_194 rfl (lv_at hl 3 rfl) ?_
      refine lv_iload_n hx hb dX0_verdict_195 rfl (lv_at hl 4 rfl) ?_
      refine lv_iload_n hx hb dX0_verdict_196 rfl (lv_at hl 5 rfl) ?_
      refine q_cv [.int (nI j), .int (nI r6)] (rest := [.int (((((((0 + (ifz (!decide (mk fm j r6 = 0)) 1)) + (ifz (!decide (mk fw j r6 = 100)) 2)) + (ifz (lgl (mk fm) (mk fw) lim j r6) 4)) + (ifz (fitv 3 0 (mk fm j r6) rec) 8)) + (ifz (fitv 2 0 (mk fm j r6) rec) 16)) + (ifz (fitv 4 0 (mk fm j r6) rec) 32)) + (ifz (fitv 1 1 (mk fw j r6) lim) 64))]) ⟨hx, hb, hml, hown, hts⟩ (mX0_beatsEarlierRounds l dC dI h qb qj qm qw qr cA n rec lim fb fj fm fw fr j r6 (by omega) (by omega)) gX0_verdict_X0_beatsEarlierRounds rfl rfl rfl hdX0_beatsEarlierRounds ⟨Nat.le_of_ble_eq_true rfl, Nat.le_of_ble_eq_true rfl⟩ rfl hK hP rfl rfl hl.1 rfl (Nat.le_of_ble_eq_true rfl) dX0_verdict_197 ⟨Nat.zero_le _, Nat.zero_le _⟩ ?_
      refine q_jn (pj := 210) (v := ifz (bts (mk fm j) r6) 128) (rest := [.int (((((((0 + (ifz (!decide (mk fm j r6 = 0)) 1)) + (ifz (!decide (mk fw j r6 = 100)) 2)) + (ifz (lgl (mk fm) (mk fw) lim j r6) 4)) + (ifz (fitv 3 0 (mk fm j r6) rec) 8)) + (ifz (fitv 2 0 (mk fm j r6) rec) 16)) + (ifz (fitv 4 0 (mk fm j r6) rec) 32)) + (ifz (fitv 1 1 (mk fw j r6) lim) 64))]) ?_ (fun J => ?_)
      rotate_left
      · skip
        refine lv_if_eq (tgt := 209) hx hb dX0_verdict_200 (by decide) (fun c_10 => ?_) (fun c_10 => ?_)
        · skip
          have c_10 : (bts (mk fm j) r6) = false := b2i_0 c_10
          refine lv_iconst (v := 0) hx hb dX0_verdict_209 (by decide) ?_
          exact q_top (by simp [ifz, mk, c_1, c_2, c_10] <;> simp_all [mk]) J
        · skip
          have c_10 : (bts (mk fm j) r6) = true := b2i_n c_10
          refine lv_sipush (v := 128) hx hb dX0_verdict_203 (by decide) ?_
          refine lv_goto (tgt := 210) hx hb dX0_verdict_206 (by decide) ?_
          exact q_top (by simp [ifz, mk, c_1, c_2, c_10] <;> simp_all [mk]) J
      refine lv_iadd hx hb dX0_verdict_210 ?_
      refine lv_istore (lv' := [(5, .int ((((((((0 + (ifz (!decide (mk fm j r6 = 0)) 1)) + (ifz (!decide (mk fw j r6 = 100)) 2)) + (ifz (lgl (mk fm) (mk fw) lim j r6) 4)) + (ifz (fitv 3 0 (mk fm j r6) rec) 8)) + (ifz (fitv 2 0 (mk fm j r6) rec) 16)) + (ifz (fitv 4 0 (mk fm j r6) rec) 32)) + (ifz (fitv 1 1 (mk fw j r6) lim) 64)) + (ifz (bts (mk fm j) r6) 128))), (4, .int (fw (6 * j + r6))), (3, .int (fm (6 * j + r6))), (0, .ref h), (1, .int (nI j)), (2, .int (nI r6))]) hx hb dX0_verdict_211 hl (by decide) rfl (fun ls hl => ?_)
      refine lv_iload hx hb dX0_verdict_213 (lv_at hl 0 rfl) ?_
      exact q_ri hx hb hr hlk (by rw [aVerdict, if_pos (by simp [c_1, c_2]), nI_clamp (by omega), nI_clamp (by omega), vdt, Int32.zero_add]) dX0_verdict_215
    · skip
      have c_2 : (rnd r) = false := b2i_0 c_2
      refine lv_sipush (v := (-1000)) hx hb dX0_verdict_15 (by decide) ?_
      exact q_ri hx hb hr hlk (by simp [aVerdict, c_1, c_2]) dX0_verdict_18

theorem hdX0_told : yX0_told.cls = RX0 ∧ yX0_told.cls ≠ "java/lang/invoke/MethodHandle" ∧ yX0_told.cls ≠ "java/lang/invoke/VarHandle" ∧ (parseMethodDescriptor yX0_told.desc).map (fun d => d.parameters.length) = some 1 := by decide +kernel
set_option maxHeartbeats 4000000 in
set_option maxRecDepth 100000 in
theorem mX0_told (l : Launch) (dC : Nat → ClassId) (dI : Nat → Nat → Nat) (h qb qj qm qw qr : Nat) (cA : ClassId) (n : Nat) (rec lim : Int32) (fb fj fm fw fr : Nat → Int32) (w : Int32) (hn : n ≤ 8) : Met l yX0_told wsX0_told ({ frames := 4, cells := 0, slots := 0, locals := 90 }) (va_Pc [.ref h, .int w] (fun U => va_P (dC, dI) vwCl (wX h qb qj qm qw qr cA (nI n) rec lim fb fj fm fw fr) U.heap ∧ va_K (dC, dI) vwCl [(cA, .int)] U)) (QcRead (a0Told fj fm (mk fm) (mk fw) n rec lim w)) 0 0 (fun _ => False) := by
  refine Met.ofW (cc := cX0_told) (maxL := 2) (ret := (some .int)) (by decide) rfl ?_
  intro p e s m args below meth c s₁ B hml hv
  obtain ⟨rfl, hP, hK⟩ := hv
  have hx := B.exec
  have hb := B.bytes
  have hr := B.returns
  have hts := atoms_spec (ws := wsX0_told) B.pre
  have hown : s.vm.findClass RX0 = some m.cls := findClass_of_methodNamed B.named
  have hlk := B.notSynchronized
  have hin : ∀ w ∈ wsX00, w ∈ wsX0_told := fun w h => List.mem_cons_of_mem _ (List.mem_append_right _ h)
  have hf_7 := hts (.fieldLink RX0 7 "JumpBoard" "jumpers" "I") (by decide +kernel)
  have hf_13 := hts (.fieldLink RX0 13 "JumpBoard" "recordMark" "I") (by decide +kernel)
  have hf_16 := hts (.fieldLink RX0 16 "JumpBoard" "limitWind" "I") (by decide +kernel)
  have hl := lv_entry ([.ref h, .int w]) (n := 2) (Nat.le_of_ble_eq_true rfl)
  rw [lg_entry_eq]
  generalize (lg_sl ([.ref h, .int w]) ++ List.replicate (2 - (lg_sl ([.ref h, .int w])).length) Slot.unset).toArray = ls at hl ⊢
  have hl : lv_has ls 2 [(0, .ref h), (1, .int w)] := hl
  refine lv_iload_n hx hb dX0_told_0 rfl (lv_at hl 1 rfl) ?_
  by_cases c_1 : w = 0
  · skip
    refine lv_tableIn (tgt := 40) hx hb dX0_told_1 (by rw [c_1]; decide) (by rw [c_1]; decide) (by rw [c_1]; rfl) (by decide) ?_
    refine lv_aload_n hx hb dX0_told_40 rfl (lv_at hl 0 rfl) ?_
    refine va_get (D := (dC, dI)) (ci := 0) (v := .int (nI n)) (C := RX0) (T := TX0) (N := 8) hx hb hts hin hown hK hP 0 rfl rfl 0 (by decide) hf_7 (fun _ h9 => h9) rfl dX0_told_41 ?_
    exact q_ri hx hb hr hlk (by simp [a0Told, c_1]) dX0_told_44
  by_cases c_2 : w = 1
  · skip
    refine lv_tableIn (tgt := 45) hx hb dX0_told_1 (by rw [c_2]; decide) (by rw [c_2]; decide) (by rw [c_2]; rfl) (by decide) ?_
    refine lv_aload_n hx hb dX0_told_45 rfl (lv_at hl 0 rfl) ?_
    refine q_cv [] (rest := []) ⟨hx, hb, hml, hown, hts⟩ (mX0_howManyJumped l dC dI h qb qj qm qw qr cA n rec lim fb fj fm fw fr (by omega)) gX0_told_X0_howManyJumped rfl rfl rfl hdX0_howManyJumped ⟨Nat.le_of_ble_eq_true rfl, Nat.le_of_ble_eq_true rfl⟩ rfl hK hP rfl rfl hl.1 rfl (Nat.le_of_ble_eq_true rfl) dX0_told_46 ⟨Nat.zero_le _, Nat.zero_le _⟩ ?_
    exact q_ri hx hb hr hlk (by simp [a0Told, c_1, c_2]) dX0_told_49
  by_cases c_3 : w = 2
  · skip
    refine lv_tableIn (tgt := 50) hx hb dX0_told_1 (by rw [c_3]; decide) (by rw [c_3]; decide) (by rw [c_3]; rfl) (by decide) ?_
    refine lv_aload_n hx hb dX0_told_50 rfl (lv_at hl 0 rfl) ?_
    refine q_cv [] (rest := []) ⟨hx, hb, hml, hown, hts⟩ (mX0_howManyJumped l dC dI h qb qj qm qw qr cA n rec lim fb fj fm fw fr (by omega)) gX0_told_X0_howManyJumped rfl rfl rfl hdX0_howManyJumped ⟨Nat.le_of_ble_eq_true rfl, Nat.le_of_ble_eq_true rfl⟩ rfl hK hP rfl rfl hl.1 rfl (Nat.le_of_ble_eq_true rfl) dX0_told_51 ⟨Nat.zero_le _, Nat.zero_le _⟩ ?_
    refine lv_aload_n hx hb dX0_told_54 rfl (lv_at hl 0 rfl) ?_
    refine q_cv [] (rest := [.int (sumI fj n)]) ⟨hx, hb, hml, hown, hts⟩ (mX0_howManyMarked l dC dI h qb qj qm qw qr cA n rec lim fb fj fm fw fr) gX0_told_X0_howManyMarked rfl rfl rfl hdX0_howManyMarked ⟨Nat.le_of_ble_eq_true rfl, Nat.le_of_ble_eq_true rfl⟩ rfl hK hP rfl rfl hl.1 rfl (Nat.le_of_ble_eq_true rfl) dX0_told_55 ⟨Nat.zero_le _, Nat.zero_le _⟩ ?_
    refine lv_isub hx hb dX0_told_58 ?_
    exact q_ri hx hb hr hlk (by simp [a0Told, c_1, c_2, c_3]) dX0_told_59
  by_cases c_4 : w = 3
  · skip
    refine lv_tableIn (tgt := 60) hx hb dX0_told_1 (by rw [c_4]; decide) (by rw [c_4]; decide) (by rw [c_4]; rfl) (by decide) ?_
    refine lv_aload_n hx hb dX0_told_60 rfl (lv_at hl 0 rfl) ?_
    refine q_cv [] (rest := []) ⟨hx, hb, hml, hown, hts⟩ (mX0_howManyLegal l dC dI h qb qj qm qw qr cA n rec lim fb fj fm fw fr (by omega)) gX0_told_X0_howManyLegal rfl rfl rfl hdX0_howManyLegal ⟨Nat.le_of_ble_eq_true rfl, Nat.le_of_ble_eq_true rfl⟩ rfl hK hP rfl rfl hl.1 rfl (Nat.le_of_ble_eq_true rfl) dX0_told_61 ⟨Nat.zero_le _, Nat.zero_le _⟩ ?_
    exact q_ri hx hb hr hlk (by simp [a0Told, c_1, c_2, c_3, c_4]) dX0_told_64
  by_cases c_5 : w = 4
  · skip
    refine lv_tableIn (tgt := 65) hx hb dX0_told_1 (by rw [c_5]; decide) (by rw [c_5]; decide) (by rw [c_5]; rfl) (by decide) ?_
    refine lv_aload_n hx hb dX0_told_65 rfl (lv_at hl 0 rfl) ?_
    refine va_get (D := (dC, dI)) (ci := 0) (v := .int rec) (C := RX0) (T := TX0) (N := 8) hx hb hts hin hown hK hP 0 rfl rfl 1 (by decide) hf_13 (fun _ h9 => h9) rfl dX0_told_66 ?_
    exact q_ri hx hb hr hlk (by simp [a0Told, c_1, c_2, c_3, c_4, c_5]) dX0_told_69
  by_cases c_6 : w = 5
  · skip
    refine lv_tableIn (tgt := 70) hx hb dX0_told_1 (by rw [c_6]; decide) (by rw [c_6]; decide) (by rw [c_6]; rfl) (by decide) ?_
    refine lv_aload_n hx hb dX0_told_70 rfl (lv_at hl 0 rfl) ?_
    refine va_get (D := (dC, dI)) (ci := 0) (v := .int lim) (C := RX0) (T := TX0) (N := 8) hx hb hts hin hown hK hP 0 rfl rfl 2 (by decide) hf_16 (fun _ h9 => h9) rfl dX0_told_71 ?_
    exact q_ri hx hb hr hlk (by simp [a0Told, c_1, c_2, c_3, c_4, c_5, c_6]) dX0_told_74
  refine lv_tableOut (tgt := 75) hx hb dX0_told_1 (tOut6 c_1 c_2 c_3 c_4 c_5 c_6) (by decide) ?_
  refine lv_sipush (v := (-1000)) hx hb dX0_told_75 (by decide) ?_
  exact q_ri hx hb hr hlk (by simp [a0Told, c_1, c_2, c_3, c_4, c_5, c_6]) dX0_told_78
end
section
def cmpV (v o : Int32) : Int32 := if v < o then 1 else if v = o then 2 else 4
def unfF (q : Nat → Bool) : Nat → Nat → Nat
  | 0, _ => 0
  | k + 1, i => if q i = true then 0 else unfF q k (i + 1) + 1
def mxU (q : Nat → Bool) : Nat → Nat
  | 0 => 0
  | i + 1 => if mxU q i < unfF q (6 - i) i then unfF q (6 - i) i else mxU q i
def btsU (f : Nat → Int32) (r i : Nat) : Bool := if f r = 0 then false else !anyB (fun e => fitv 3 0 (f e) (f r)) i
def tqB (M V : Nat → Nat → Int32) (lim w : Int32) (j r : Nat) : Bool := if w = 1 then true else if w = 2 then decide (M j r = 0) else lgl M V lim j r
def a1Told (J : Nat → Nat) (M V : Nat → Nat → Int32) (n : Nat) (rec lim w : Int32) : Int32 := if w = 0 then nI n else if w = 4 then rec else if w = 5 then lim else if inR w 1 3 = true then nI (sumN (fun t => cntB (tqB M V lim w t) (J t)) n) else -1000
theorem inR_jmp {n : Nat} {x : Int32} (hn : n ≤ 8) : inR x 0 (nI n - 1) = jmp (nI n) x := by
  unfold inR jmp
  by_cases h : x < 0
  · simp [h]
  · have e : (nI n - 1 < x) ↔ nI n ≤ x := by
      obtain ⟨j, hj, rfl⟩ := nI_of h
      rw [nI_leI (by omega) hj, Int32.lt_iff_toInt_lt, show (nI n - 1).toInt = (n : Int) - 1 from pk_sub_toInt (b := 1) (by omega) (by decide), nI_toInt hj]
      omega
    simp [h, e]
theorem inR_rnd {x : Int32} : inR x 0 5 = rnd x := by
  unfold inR rnd
  have e : ((5 : Int32) < x) ↔ 6 ≤ x := by
    rw [Int32.lt_iff_toInt_lt, Int32.le_iff_toInt_le, show (5 : Int32).toInt = 5 from rfl, show (6 : Int32).toInt = 6 from rfl]
    omega
  simp [e]
theorem inR_hwo {x : Int32} : inR x 0 5 = hwo x := rfl
theorem inR_wht {x : Int32} : inR x 0 1 = wht x := by
  unfold inR wht
  have e0 : (x = 0) ↔ x.toInt = 0 := by rw [← Int32.toInt_inj]; rfl
  have e1 : (x = 1) ↔ x.toInt = 1 := by rw [← Int32.toInt_inj]; rfl
  have e2 : (x < 0) ↔ x.toInt < 0 := by rw [Int32.lt_iff_toInt_lt]; rfl
  have e3 : (1 < x) ↔ 1 < x.toInt := by rw [Int32.lt_iff_toInt_lt]; rfl
  by_cases a : x.toInt < 0
  · rw [if_pos (e2.mpr a), if_neg (fun q => by rw [e0] at q; omega), if_neg (fun q => by rw [e1] at q; omega)]
  · rw [if_neg (fun q => a (e2.mp q))]
    by_cases b : 1 < x.toInt
    · rw [if_pos (e3.mpr b), if_neg (fun q => by rw [e0] at q; omega), if_neg (fun q => by rw [e1] at q; omega)]
    · rw [if_neg (fun q => b (e3.mp q))]
      by_cases d : x.toInt = 0
      · rw [if_pos (e0.mpr d)]
      · rw [if_neg (fun q => d (e0.mp q)), if_pos (e1.mpr (by omega))]
theorem nI_five {k : Nat} (hk : k < 6) : (nI k = 5) ↔ k = 5 := nI_eq (b := 5) (by omega) (by decide)
theorem fit_nf {ft : Nat → Int32} (hT : ft 0 = 1 ∧ ft 1 = 3 ∧ ft 2 = 4 ∧ ft 3 = 6 ∧ ft 4 = 2 ∧ ft 5 = 5) {k : Nat} (hk : k < 6) {v o : Int32} : (!decide (ft k &&& cmpV v o = 0)) = nfit (nI k) v o := by
  obtain ⟨t0, t1, t2, t3, t4, t5⟩ := hT
  rcases Int32.lt_or_le v o with a | a
  · have b : ¬ v = o := fun q => by subst q; exact Int32.lt_irrefl a
    have e : cmpV v o = 1 := by simp [cmpV, a]
    have g : ¬ o < v := Int32.not_lt.mpr (Int32.le_of_lt a)
    have g2 : ¬ o ≤ v := Int32.not_le.mpr a
    have g3 : v ≤ o := Int32.le_of_lt a
    rw [e]
    rcases (show k = 0 ∨ k = 1 ∨ k = 2 ∨ k = 3 ∨ k = 4 ∨ k = 5 by omega) with rfl | rfl | rfl | rfl | rfl | rfl
    · rw [t0]; simp [nfit, a, nI_0] <;> decide
    · rw [t1, show nI 1 = 1 from rfl]; simp [nfit, g3] <;> decide
    · rw [t2, show nI 2 = 2 from rfl]; simp [nfit, g] <;> decide
    · rw [t3, show nI 3 = 3 from rfl]; simp [nfit, g2] <;> decide
    · rw [t4, show nI 4 = 4 from rfl]; simp [nfit, b] <;> decide
    · rw [t5, show nI 5 = 5 from rfl]; simp [nfit, b] <;> decide
  · have g : ¬ v < o := Int32.not_lt.mpr a
    by_cases b : v = o
    · subst b
      have e : cmpV v v = 2 := by simp [cmpV]
      rw [e]
      rcases (show k = 0 ∨ k = 1 ∨ k = 2 ∨ k = 3 ∨ k = 4 ∨ k = 5 by omega) with rfl | rfl | rfl | rfl | rfl | rfl
      · rw [t0]; simp [nfit, nI_0] <;> decide
      · rw [t1, show nI 1 = 1 from rfl]; simp [nfit] <;> decide
      · rw [t2, show nI 2 = 2 from rfl]; simp [nfit] <;> decide
      · rw [t3, show nI 3 = 3 from rfl]; simp [nfit] <;> decide
      · rw [t4, show nI 4 = 4 from rfl]; simp [nfit] <;> decide
      · rw [t5, show nI 5 = 5 from rfl]; simp [nfit] <;> decide
    · have e : cmpV v o = 4 := by simp [cmpV, b, g]
      have g2 : ¬ v ≤ o := fun q => b (Int32.le_antisymm q a)
      have g3 : o < v := Int32.not_le.mp g2
      rw [e]
      rcases (show k = 0 ∨ k = 1 ∨ k = 2 ∨ k = 3 ∨ k = 4 ∨ k = 5 by omega) with rfl | rfl | rfl | rfl | rfl | rfl
      · rw [t0]; simp [nfit, g, nI_0] <;> decide
      · rw [t1, show nI 1 = 1 from rfl]; simp [nfit, g2] <;> decide
      · rw [t2, show nI 2 = 2 from rfl]; simp [nfit, g3] <;> decide
      · rw [t3, show nI 3 = 3 from rfl]; simp [nfit, a] <;> decide
      · rw [t4, show nI 4 = 4 from rfl]; simp [nfit, b] <;> decide
      · rw [t5, show nI 5 = 5 from rfl]; simp [nfit, b] <;> decide
theorem qst_ask (n h w x v : Int32) : qst n h w x v = (ask n h w x && cde w v) := by simp [qst, ask, Bool.and_assoc]
theorem ask_j {n h w x : Int32} (q : ask n h w x = true) : jmp n x = true := by
  simp [ask] at q
  exact q.2.2
theorem ask_h {n h w x : Int32} (q : ask n h w x = true) : hwo h = true := by
  simp [ask] at q
  exact q.1
theorem aFits_ask (M V : Nat → Nat → Int32) (n h w x a b : Int32) : aFits M V n h w x a b = if ask n h w x && (rnd a && rnd b) then b2i (fitv h w (vlu M V w x.toNatClampNeg a.toNatClampNeg) (vlu M V w x.toNatClampNeg b.toNatClampNeg)) else -1000 := by simp [aFits, ask, Bool.and_assoc]
theorem unfF_eq {q : Nat → Bool} {i : Nat} (h : i < 6) : unfF q (6 - i) i = if q i = true then 0 else unfF q (6 - (i + 1)) (i + 1) + 1 := by
  rw [show 6 - i = (6 - (i + 1)) + 1 by omega]
  rfl
theorem unf_step {q : Nat → Bool} {f i : Nat} (hi : i < 6) (h : f ≤ i ∧ unfF q (6 - f) f = (i - f) + unfF q (6 - i) i) (c : q i = false) : f ≤ i + 1 ∧ unfF q (6 - f) f = (i + 1 - f) + unfF q (6 - (i + 1)) (i + 1) := by
  obtain ⟨a, b⟩ := h
  refine ⟨by omega, ?_⟩
  rw [b, unfF_eq hi]
  simp [c]
  omega
theorem unf_hit {q : Nat → Bool} {f i : Nat} (hi : i < 6) (h : f ≤ i ∧ unfF q (6 - f) f = (i - f) + unfF q (6 - i) i) (c : q i = true) : nI i - nI f = nI (unfF q (6 - f) f) := by
  obtain ⟨a, b⟩ := h
  rw [b, unfF_eq hi, pk_sub a]
  simp [c]
theorem unf_end {q : Nat → Bool} {f : Nat} (h : f ≤ 6 ∧ unfF q (6 - f) f = (6 - f) + unfF q (6 - 6) 6) : nI 6 - nI f = nI (unfF q (6 - f) f) := by
  obtain ⟨a, b⟩ := h
  rw [b, pk_sub a]
  rfl
theorem unfF_le (q : Nat → Bool) (k i : Nat) : unfF q k i ≤ k := by
  induction k generalizing i with
  | zero => exact Nat.le_refl 0
  | succ k ih =>
    have := ih (i + 1)
    simp only [unfF]
    split <;> omega
theorem mxU_le6 (q : Nat → Bool) (i : Nat) : mxU q i ≤ 6 := by
  induction i with
  | zero => exact Nat.zero_le 6
  | succ i ih =>
    have := unfF_le q (6 - i) i
    simp only [mxU]
    split <;> omega
theorem mxU_le {q : Nat → Bool} {i : Nat} (hi : i < 6) (c : nI (unfF q (6 - i) i) ≤ nI (mxU q i)) : nI (mxU q i) = nI (mxU q (i + 1)) := by
  have a := unfF_le q (6 - i) i
  have b := mxU_le6 q i
  rw [nI_leI (by omega) (by omega)] at c
  simp only [mxU]
  rw [if_neg (by omega)]
theorem mxU_gt {q : Nat → Bool} {i : Nat} (hi : i < 6) (c : ¬ nI (unfF q (6 - i) i) ≤ nI (mxU q i)) : nI (unfF q (6 - i) i) = nI (mxU q (i + 1)) := by
  have a := unfF_le q (6 - i) i
  have b := mxU_le6 q i
  rw [nI_leI (by omega) (by omega)] at c
  simp only [mxU]
  rw [if_pos (by omega)]
theorem mx_most (q : Nat → Bool) : mxU q 6 = mostB q 6 := by
  cases h0 : q 0 <;> cases h1 : q 1 <;> cases h2 : q 2 <;> cases h3 : q 3 <;> cases h4 : q 4 <;> cases h5 : q 5 <;> simp [mxU, unfF, mostB, lenB, h0, h1, h2, h3, h4, h5]
theorem grt_1 {g : Nat → Bool} {f : Nat → Int32} {b : Int32} {i : Nat} (c : g i = false) : grtU g f b i = grtU g f b (i + 1) := by
  rw [grtU.eq_2, if_neg (by rw [c]; decide)]
theorem grt_2 {g : Nat → Bool} {f : Nat → Int32} {b : Int32} {i : Nat} (c : g i = true) (d : b ≤ f i) : grtU g f b i = grtU g f b (i + 1) := by
  rw [grtU.eq_2, if_pos c, if_neg (Int32.not_lt.mpr d)]
theorem grt_3 {g : Nat → Bool} {f : Nat → Int32} {b : Int32} {i : Nat} (c : g i = true) (d : ¬ b ≤ f i) (e : f i ≤ grtU g f b i) : grtU g f b i = grtU g f b (i + 1) := by
  rw [grtU.eq_2, if_pos c, if_pos (Int32.not_le.mp d), if_neg (Int32.not_lt.mpr e)]
theorem grt_4 {g : Nat → Bool} {f : Nat → Int32} {b : Int32} {i : Nat} (c : g i = true) (d : ¬ b ≤ f i) (e : ¬ f i ≤ grtU g f b i) : f i = grtU g f b (i + 1) := by
  rw [grtU.eq_2, if_pos c, if_pos (Int32.not_le.mp d), if_pos (Int32.not_le.mp e)]
theorem btsU_succ (f : Nat → Int32) (r i : Nat) : btsU f r (i + 1) = (btsU f r i && !fitv 3 0 (f i) (f r)) := by
  unfold btsU
  split
  · rfl
  · simp [anyB]
theorem pm1_lt {f : Nat} (hf : f < 6) : nI (6 - (6 - f)) + (-1) < nI f := by
  rcases (show f = 0 ∨ f = 1 ∨ f = 2 ∨ f = 3 ∨ f = 4 ∨ f = 5 by omega) with rfl | rfl | rfl | rfl | rfl | rfl <;> decide
theorem hdX1_isIn : yX1_isIn.cls ≠ "java/lang/invoke/MethodHandle" ∧ yX1_isIn.cls ≠ "java/lang/invoke/VarHandle" ∧ (parseMethodDescriptor yX1_isIn.desc).map (fun d => d.parameters.length) = some 3 := by decide +kernel
set_option maxHeartbeats 4000000 in
set_option maxRecDepth 100000 in
theorem mX1_isIn (l : Launch) (x : Int32) (a : Int32) (b : Int32) : Met l yX1_isIn wsX1_isIn ({ frames := 0, cells := 0, slots := 0, locals := 0 }) (va_Pc [.int x, .int a, .int b] (fun _ => True)) (QcRead (b2i (inR x a b))) 0 0 (fun _ => False) := by
  refine Met.ofW (cc := cX1_isIn) (maxL := 3) (ret := (some .boolean)) (by decide) rfl ?_
  intro p e s m args below meth c s₁ B hml hv
  obtain ⟨rfl, -⟩ := hv
  have hx := B.exec
  have hb := B.bytes
  have hr := B.returns
  have hts := atoms_spec (ws := wsX1_isIn) B.pre
  have hown : s.vm.findClass RX1 = some m.cls := findClass_of_methodNamed B.named
  have hlk := B.notSynchronized
  have hl := lv_entry ([.int x, .int a, .int b]) (n := 3) (Nat.le_of_ble_eq_true rfl)
  rw [lg_entry_eq]
  generalize (lg_sl ([.int x, .int a, .int b]) ++ List.replicate (3 - (lg_sl ([.int x, .int a, .int b])).length) Slot.unset).toArray = ls at hl ⊢
  have hl : lv_has ls 3 [(0, .int x), (1, .int a), (2, .int b)] := hl
  refine lv_iload_n hx hb dX1_isIn_0 rfl (lv_at hl 0 rfl) ?_
  refine lv_iload_n hx hb dX1_isIn_1 rfl (lv_at hl 1 rfl) ?_
  refine lv_icmp_lt (tgt := 14) hx hb dX1_isIn_2 (by decide) (fun c_1 => ?_) (fun c_1 => ?_)
  · skip
    refine lv_iconst (v := 0) hx hb dX1_isIn_14 (by decide) ?_
    exact q_rb hx hb hr hlk (by simp [inR, b2i, c_1]) dX1_isIn_15
  · skip
    refine lv_iload_n hx hb dX1_isIn_5 rfl (lv_at hl 0 rfl) ?_
    refine lv_iload_n hx hb dX1_isIn_6 rfl (lv_at hl 2 rfl) ?_
    refine lv_icmp_gt (tgt := 14) hx hb dX1_isIn_7 (by decide) (fun c_2 => ?_) (fun c_2 => ?_)
    · skip
      refine lv_iconst (v := 0) hx hb dX1_isIn_14 (by decide) ?_
      exact q_rb hx hb hr hlk (by simp [inR, b2i, c_1, c_2]) dX1_isIn_15
    · skip
      refine lv_iconst (v := 1) hx hb dX1_isIn_10 (by decide) ?_
      refine lv_goto (tgt := 15) hx hb dX1_isIn_11 (by decide) ?_
      exact q_rb hx hb hr hlk (by simp [inR, b2i, c_1, c_2]) dX1_isIn_15

theorem hdX1_isJumper : yX1_isJumper.cls = RX1 ∧ yX1_isJumper.cls ≠ "java/lang/invoke/MethodHandle" ∧ yX1_isJumper.cls ≠ "java/lang/invoke/VarHandle" ∧ (parseMethodDescriptor yX1_isJumper.desc).map (fun d => d.parameters.length) = some 1 := by decide +kernel
set_option maxHeartbeats 4000000 in
set_option maxRecDepth 100000 in
theorem mX1_isJumper (l : Launch) (dC : Nat → ClassId) (dI : Nat → Nat → Nat) (h qb qj qm qw qt : Nat) (cA : ClassId) (n : Nat) (rec lim : Int32) (fb fj fm fw ft : Nat → Int32) (x : Int32) (hn : n ≤ 8) : Met l yX1_isJumper wsX1_isJumper ({ frames := 1, cells := 0, slots := 0, locals := 22 }) (va_Pc [.ref h, .int x] (fun U => va_P (dC, dI) vwCl (wY h qb qj qm qw qt cA (nI n) rec lim fb fj fm fw ft) U.heap ∧ va_K (dC, dI) vwCl [(cA, .int)] U)) (QcRead (b2i (jmp (nI n) x))) 0 0 (fun _ => False) := by
  refine Met.ofW (cc := cX1_isJumper) (maxL := 2) (ret := (some .boolean)) (by decide) rfl ?_
  intro p e s m args below meth c s₁ B hml hv
  obtain ⟨rfl, hP, hK⟩ := hv
  have hx := B.exec
  have hb := B.bytes
  have hr := B.returns
  have hts := atoms_spec (ws := wsX1_isJumper) B.pre
  have hown : s.vm.findClass RX1 = some m.cls := findClass_of_methodNamed B.named
  have hlk := B.notSynchronized
  have hin : ∀ w ∈ wsX10, w ∈ wsX1_isJumper := fun w h => List.mem_cons_of_mem _ (List.mem_append_right _ h)
  have hf_32 := hts (.fieldLink RX1 32 "JumpBoardModel" "jumpers" "I") (by decide +kernel)
  have hl := lv_entry ([.ref h, .int x]) (n := 2) (Nat.le_of_ble_eq_true rfl)
  rw [lg_entry_eq]
  generalize (lg_sl ([.ref h, .int x]) ++ List.replicate (2 - (lg_sl ([.ref h, .int x])).length) Slot.unset).toArray = ls at hl ⊢
  have hl : lv_has ls 2 [(0, .ref h), (1, .int x)] := hl
  refine lv_iload_n hx hb dX1_isJumper_0 rfl (lv_at hl 1 rfl) ?_
  refine lv_iconst (v := 0) hx hb dX1_isJumper_1 (by decide) ?_
  refine lv_aload_n hx hb dX1_isJumper_2 rfl (lv_at hl 0 rfl) ?_
  refine va_get (D := (dC, dI)) (ci := 1) (v := .int (nI n)) (C := RX1) (T := TX1) (N := 8) hx hb hts hin hown hK hP 0 rfl rfl 5 (by decide) hf_32 (fun _ h9 => h9) rfl dX1_isJumper_3 ?_
  refine lv_iconst (v := 1) hx hb dX1_isJumper_6 (by decide) ?_
  refine lv_isub hx hb dX1_isJumper_7 ?_
  refine q_cs [.int x, .int 0, .int ((nI n) - 1)] (rest := []) ⟨hx, hb, hml, hown, hts⟩ (mX1_isIn l x 0 ((nI n) - 1)) gX1_isJumper_X1_isIn rfl rfl rfl hdX1_isIn ⟨Nat.le_of_ble_eq_true rfl, Nat.le_of_ble_eq_true rfl⟩ rfl hl.1 rfl (Nat.le_of_ble_eq_true rfl) dX1_isJumper_8 ⟨Nat.zero_le _, Nat.zero_le _⟩ ?_
  exact q_rb hx hb hr hlk (by rw [inR_jmp hn]) dX1_isJumper_11

theorem hdX1_isRound : yX1_isRound.cls ≠ "java/lang/invoke/MethodHandle" ∧ yX1_isRound.cls ≠ "java/lang/invoke/VarHandle" ∧ (parseMethodDescriptor yX1_isRound.desc).map (fun d => d.parameters.length) = some 1 := by decide +kernel
set_option maxHeartbeats 4000000 in
set_option maxRecDepth 100000 in
theorem mX1_isRound (l : Launch) (x : Int32) : Met l yX1_isRound wsX1_isRound ({ frames := 1, cells := 0, slots := 0, locals := 22 }) (va_Pc [.int x] (fun _ => True)) (QcRead (b2i (rnd x))) 0 0 (fun _ => False) := by
  refine Met.ofW (cc := cX1_isRound) (maxL := 1) (ret := (some .boolean)) (by decide) rfl ?_
  intro p e s m args below meth c s₁ B hml hv
  obtain ⟨rfl, -⟩ := hv
  have hx := B.exec
  have hb := B.bytes
  have hr := B.returns
  have hts := atoms_spec (ws := wsX1_isRound) B.pre
  have hown : s.vm.findClass RX1 = some m.cls := findClass_of_methodNamed B.named
  have hlk := B.notSynchronized
  have hl := lv_entry ([.int x]) (n := 1) (Nat.le_of_ble_eq_true rfl)
  rw [lg_entry_eq]
  generalize (lg_sl ([.int x]) ++ List.replicate (1 - (lg_sl ([.int x])).length) Slot.unset).toArray = ls at hl ⊢
  have hl : lv_has ls 1 [(0, .int x)] := hl
  refine lv_iload_n hx hb dX1_isRound_0 rfl (lv_at hl 0 rfl) ?_
  refine lv_iconst (v := 0) hx hb dX1_isRound_1 (by decide) ?_
  refine lv_iconst (v := 5) hx hb dX1_isRound_2 (by decide) ?_
  refine q_cs [.int x, .int 0, .int 5] (rest := []) ⟨hx, hb, hml, hown, hts⟩ (mX1_isIn l x 0 5) gX1_isRound_X1_isIn rfl rfl rfl hdX1_isIn ⟨Nat.le_of_ble_eq_true rfl, Nat.le_of_ble_eq_true rfl⟩ rfl hl.1 rfl (Nat.le_of_ble_eq_true rfl) dX1_isRound_3 ⟨Nat.zero_le _, Nat.zero_le _⟩ ?_
  exact q_rb hx hb hr hlk (by rw [inR_rnd]) dX1_isRound_6

theorem hdX1_isCode : yX1_isCode.cls ≠ "java/lang/invoke/MethodHandle" ∧ yX1_isCode.cls ≠ "java/lang/invoke/VarHandle" ∧ (parseMethodDescriptor yX1_isCode.desc).map (fun d => d.parameters.length) = some 2 := by decide +kernel
set_option maxHeartbeats 4000000 in
set_option maxRecDepth 100000 in
theorem mX1_isCode (l : Launch) (w : Int32) (v : Int32) : Met l yX1_isCode wsX1_isCode ({ frames := 1, cells := 0, slots := 0, locals := 22 }) (va_Pc [.int w, .int v] (fun _ => True)) (QcRead (b2i (cde w v))) 0 0 (fun _ => False) := by
  refine Met.ofW (cc := cX1_isCode) (maxL := 2) (ret := (some .boolean)) (by decide) rfl ?_
  intro p e s m args below meth c s₁ B hml hv
  obtain ⟨rfl, -⟩ := hv
  have hx := B.exec
  have hb := B.bytes
  have hr := B.returns
  have hts := atoms_spec (ws := wsX1_isCode) B.pre
  have hown : s.vm.findClass RX1 = some m.cls := findClass_of_methodNamed B.named
  have hlk := B.notSynchronized
  have hl := lv_entry ([.int w, .int v]) (n := 2) (Nat.le_of_ble_eq_true rfl)
  rw [lg_entry_eq]
  generalize (lg_sl ([.int w, .int v]) ++ List.replicate (2 - (lg_sl ([.int w, .int v])).length) Slot.unset).toArray = ls at hl ⊢
  have hl : lv_has ls 2 [(0, .int w), (1, .int v)] := hl
  refine lv_iload_n hx hb dX1_isCode_0 rfl (lv_at hl 0 rfl) ?_
  refine lv_if_ne (tgt := 15) hx hb dX1_isCode_1 (by decide) (fun c_1 => ?_) (fun c_1 => ?_)
  · skip
    refine lv_iload_n hx hb dX1_isCode_15 rfl (lv_at hl 1 rfl) ?_
    refine lv_bipush (v := (-99)) hx hb dX1_isCode_16 (by decide) ?_
    refine lv_bipush (v := 100) hx hb dX1_isCode_18 (by decide) ?_
    refine q_cs [.int v, .int (-99), .int 100] (rest := []) ⟨hx, hb, hml, hown, hts⟩ (mX1_isIn l v (-99) 100) gX1_isCode_X1_isIn rfl rfl rfl hdX1_isIn ⟨Nat.le_of_ble_eq_true rfl, Nat.le_of_ble_eq_true rfl⟩ rfl hl.1 rfl (Nat.le_of_ble_eq_true rfl) dX1_isCode_20 ⟨Nat.zero_le _, Nat.zero_le _⟩ ?_
    exact q_rb hx hb hr hlk (by simp [cde, c_1]; rfl) dX1_isCode_23
  · skip
    refine lv_iload_n hx hb dX1_isCode_4 rfl (lv_at hl 1 rfl) ?_
    refine lv_iconst (v := 0) hx hb dX1_isCode_5 (by decide) ?_
    refine lv_sipush (v := 1200) hx hb dX1_isCode_6 (by decide) ?_
    refine q_cs [.int v, .int 0, .int 1200] (rest := []) ⟨hx, hb, hml, hown, hts⟩ (mX1_isIn l v 0 1200) gX1_isCode_X1_isIn rfl rfl rfl hdX1_isIn ⟨Nat.le_of_ble_eq_true rfl, Nat.le_of_ble_eq_true rfl⟩ rfl hl.1 rfl (Nat.le_of_ble_eq_true rfl) dX1_isCode_9 ⟨Nat.zero_le _, Nat.zero_le _⟩ ?_
    refine lv_goto (tgt := 23) hx hb dX1_isCode_12 (by decide) ?_
    exact q_rb hx hb hr hlk (by simp [cde, c_1]; rfl) dX1_isCode_23

theorem hdX1_none : yX1_none.cls ≠ "java/lang/invoke/MethodHandle" ∧ yX1_none.cls ≠ "java/lang/invoke/VarHandle" ∧ (parseMethodDescriptor yX1_none.desc).map (fun d => d.parameters.length) = some 1 := by decide +kernel
set_option maxHeartbeats 4000000 in
set_option maxRecDepth 100000 in
theorem mX1_none (l : Launch) (w : Int32) : Met l yX1_none wsX1_none ({ frames := 0, cells := 0, slots := 0, locals := 0 }) (va_Pc [.int w] (fun _ => True)) (QcRead (non w)) 0 0 (fun _ => False) := by
  refine Met.ofW (cc := cX1_none) (maxL := 1) (ret := (some .int)) (by decide) rfl ?_
  intro p e s m args below meth c s₁ B hml hv
  obtain ⟨rfl, -⟩ := hv
  have hx := B.exec
  have hb := B.bytes
  have hr := B.returns
  have hts := atoms_spec (ws := wsX1_none) B.pre
  have hown : s.vm.findClass RX1 = some m.cls := findClass_of_methodNamed B.named
  have hlk := B.notSynchronized
  have hl := lv_entry ([.int w]) (n := 1) (Nat.le_of_ble_eq_true rfl)
  rw [lg_entry_eq]
  generalize (lg_sl ([.int w]) ++ List.replicate (1 - (lg_sl ([.int w])).length) Slot.unset).toArray = ls at hl ⊢
  have hl : lv_has ls 1 [(0, .int w)] := hl
  refine lv_iload_n hx hb dX1_none_0 rfl (lv_at hl 0 rfl) ?_
  refine lv_if_ne (tgt := 8) hx hb dX1_none_1 (by decide) (fun c_1 => ?_) (fun c_1 => ?_)
  · skip
    refine lv_bipush (v := 100) hx hb dX1_none_8 (by decide) ?_
    exact q_ri hx hb hr hlk (by simp [non, c_1]) dX1_none_10
  · skip
    refine lv_iconst (v := 0) hx hb dX1_none_4 (by decide) ?_
    refine lv_goto (tgt := 10) hx hb dX1_none_5 (by decide) ?_
    exact q_ri hx hb hr hlk (by simp [non, c_1]) dX1_none_10

theorem hdX1_code : yX1_code.cls = RX1 ∧ yX1_code.cls ≠ "java/lang/invoke/MethodHandle" ∧ yX1_code.cls ≠ "java/lang/invoke/VarHandle" ∧ (parseMethodDescriptor yX1_code.desc).map (fun d => d.parameters.length) = some 3 := by decide +kernel
set_option maxHeartbeats 4000000 in
set_option maxRecDepth 100000 in
theorem mX1_code (l : Launch) (dC : Nat → ClassId) (dI : Nat → Nat → Nat) (h qb qj qm qw qt : Nat) (cA : ClassId) (n : Nat) (rec lim : Int32) (fb fj fm fw ft : Nat → Int32) (M : Nat → Nat → Int32) (V : Nat → Nat → Int32) (w : Int32) (j : Nat) (r : Nat) (hM : ∀ j r, j < 8 → r < 6 → (if nI r < fj j then fm (6 * j + r) else 0) = M j r) (hV : ∀ j r, j < 8 → r < 6 → (if nI r < fj j then fw (6 * j + r) else 100) = V j r) (hj : j < 8) (hr6 : r < 6) : Met l yX1_code wsX1_code ({ frames := 1, cells := 0, slots := 0, locals := 20 }) (va_Pc [.ref h, .int w, .int (nI j), .int (nI r)] (fun U => va_P (dC, dI) vwCl (wY h qb qj qm qw qt cA (nI n) rec lim fb fj fm fw ft) U.heap ∧ va_K (dC, dI) vwCl [(cA, .int)] U)) (QcRead (vlu M V w j r)) 0 0 (fun _ => False) := by
  refine Met.ofW (cc := cX1_code) (maxL := 4) (ret := (some .int)) (by decide) rfl ?_
  intro p e s m args below meth c s₁ B hml hv
  obtain ⟨rfl, hP, hK⟩ := hv
  have hx := B.exec
  have hb := B.bytes
  have hr := B.returns
  have hts := atoms_spec (ws := wsX1_code) B.pre
  have hown : s.vm.findClass RX1 = some m.cls := findClass_of_methodNamed B.named
  have hlk := B.notSynchronized
  have hin : ∀ w ∈ wsX10, w ∈ wsX1_code := fun w h => List.mem_cons_of_mem _ (List.mem_append_right _ h)
  have hf_13 := hts (.fieldLink RX1 13 "JumpBoardModel" "jumped" "[I") (by decide +kernel)
  have hf_16 := hts (.fieldLink RX1 16 "JumpBoardModel" "marks" "[I") (by decide +kernel)
  have hf_19 := hts (.fieldLink RX1 19 "JumpBoardModel" "winds" "[I") (by decide +kernel)
  have hl := lv_entry ([.ref h, .int w, .int (nI j), .int (nI r)]) (n := 4) (Nat.le_of_ble_eq_true rfl)
  rw [lg_entry_eq]
  generalize (lg_sl ([.ref h, .int w, .int (nI j), .int (nI r)]) ++ List.replicate (4 - (lg_sl ([.ref h, .int w, .int (nI j), .int (nI r)])).length) Slot.unset).toArray = ls at hl ⊢
  have hl : lv_has ls 4 [(0, .ref h), (1, .int w), (2, .int (nI j)), (3, .int (nI r))] := hl
  refine lv_iload_n hx hb dX1_code_0 rfl (lv_at hl 3 rfl) ?_
  refine lv_aload_n hx hb dX1_code_1 rfl (lv_at hl 0 rfl) ?_
  refine va_get (D := (dC, dI)) (ci := 1) (v := .ref qj) (C := RX1) (T := TX1) (N := 8) hx hb hts hin hown hK hP 0 rfl rfl 1 (by decide) hf_13 (fun _ h9 => h9) rfl dX1_code_2 ?_
  refine lv_iload_n hx hb dX1_code_5 rfl (lv_at hl 2 rfl) ?_
  refine q_ald (n := 8) (k := j) hx hb hK hP 2 0 rfl rfl (by omega) (by decide) dX1_code_6 ?_
  refine lv_icmp_lt (tgt := 15) hx hb dX1_code_7 (by decide) (fun c_1 => ?_) (fun c_1 => ?_)
  · skip
    refine lv_iload_n hx hb dX1_code_15 rfl (lv_at hl 1 rfl) ?_
    refine lv_if_ne (tgt := 33) hx hb dX1_code_16 (by decide) (fun c_2 => ?_) (fun c_2 => ?_)
    · skip
      refine lv_aload_n hx hb dX1_code_33 rfl (lv_at hl 0 rfl) ?_
      refine va_get (D := (dC, dI)) (ci := 1) (v := .ref qw) (C := RX1) (T := TX1) (N := 8) hx hb hts hin hown hK hP 0 rfl rfl 3 (by decide) hf_19 (fun _ h9 => h9) rfl dX1_code_34 ?_
      refine lv_bipush (v := 6) hx hb dX1_code_37 (by decide) ?_
      refine lv_iload_n hx hb dX1_code_39 rfl (lv_at hl 2 rfl) ?_
      refine lv_imul hx hb dX1_code_40 ?_
      refine lv_iload_n hx hb dX1_code_41 rfl (lv_at hl 3 rfl) ?_
      refine lv_iadd hx hb dX1_code_42 ?_
      refine q_top (y := nI (6 * j + r)) (by exact nI_6mul j r) ?_
      refine q_ald (n := 48) (k := (6 * j + r)) hx hb hK hP 4 0 rfl rfl (by omega) (by decide) dX1_code_43 ?_
      exact q_ri hx hb hr hlk (by rw [vlu, ← hM j r hj hr6, ← hV j r hj hr6, if_pos c_1, if_pos c_1]; simp [c_1, c_2]) dX1_code_44
    · skip
      refine lv_aload_n hx hb dX1_code_19 rfl (lv_at hl 0 rfl) ?_
      refine va_get (D := (dC, dI)) (ci := 1) (v := .ref qm) (C := RX1) (T := TX1) (N := 8) hx hb hts hin hown hK hP 0 rfl rfl 2 (by decide) hf_16 (fun _ h9 => h9) rfl dX1_code_20 ?_
      refine lv_bipush (v := 6) hx hb dX1_code_23 (by decide) ?_
      refine lv_iload_n hx hb dX1_code_25 rfl (lv_at hl 2 rfl) ?_
      refine lv_imul hx hb dX1_code_26 ?_
      refine lv_iload_n hx hb dX1_code_27 rfl (lv_at hl 3 rfl) ?_
      refine lv_iadd hx hb dX1_code_28 ?_
      refine q_top (y := nI (6 * j + r)) (by exact nI_6mul j r) ?_
      refine q_ald (n := 48) (k := (6 * j + r)) hx hb hK hP 3 0 rfl rfl (by omega) (by decide) dX1_code_29 ?_
      refine lv_goto (tgt := 44) hx hb dX1_code_30 (by decide) ?_
      exact q_ri hx hb hr hlk (by rw [vlu, ← hM j r hj hr6, ← hV j r hj hr6, if_pos c_1, if_pos c_1]; simp [c_1, c_2]) dX1_code_44
  · skip
    refine lv_iload_n hx hb dX1_code_10 rfl (lv_at hl 1 rfl) ?_
    refine q_cs [.int w] (rest := []) ⟨hx, hb, hml, hown, hts⟩ (mX1_none l w) gX1_code_X1_none rfl rfl rfl hdX1_none ⟨Nat.le_of_ble_eq_true rfl, Nat.le_of_ble_eq_true rfl⟩ rfl hl.1 rfl (Nat.le_of_ble_eq_true rfl) dX1_code_11 ⟨Nat.zero_le _, Nat.zero_le _⟩ ?_
    exact q_ri hx hb hr hlk (by rw [vlu, ← hM j r hj hr6, ← hV j r hj hr6, if_neg c_1, if_neg c_1]; rfl) dX1_code_14

theorem hdX1_fit : yX1_fit.cls = RX1 ∧ yX1_fit.cls ≠ "java/lang/invoke/MethodHandle" ∧ yX1_fit.cls ≠ "java/lang/invoke/VarHandle" ∧ (parseMethodDescriptor yX1_fit.desc).map (fun d => d.parameters.length) = some 4 := by decide +kernel
set_option maxHeartbeats 4000000 in
set_option maxRecDepth 100000 in
theorem mX1_fit (l : Launch) (dC : Nat → ClassId) (dI : Nat → Nat → Nat) (h qb qj qm qw qt : Nat) (cA : ClassId) (n : Nat) (rec lim : Int32) (fb fj fm fw ft : Nat → Int32) (k : Nat) (w : Int32) (v : Int32) (o : Int32) (hT : ft 0 = 1 ∧ ft 1 = 3 ∧ ft 2 = 4 ∧ ft 3 = 6 ∧ ft 4 = 2 ∧ ft 5 = 5) (hk : k < 6) : Met l yX1_fit wsX1_fit ({ frames := 1, cells := 0, slots := 0, locals := 20 }) (va_Pc [.ref h, .int (nI k), .int w, .int v, .int o] (fun U => va_P (dC, dI) vwCl (wY h qb qj qm qw qt cA (nI n) rec lim fb fj fm fw ft) U.heap ∧ va_K (dC, dI) vwCl [(cA, .int)] U)) (QcRead (b2i (fitv (nI k) w v o))) 0 0 (fun _ => False) := by
  refine Met.ofW (cc := cX1_fit) (maxL := 6) (ret := (some .boolean)) (by decide) rfl ?_
  intro p e s m args below meth c s₁ B hml hv
  obtain ⟨rfl, hP, hK⟩ := hv
  have hx := B.exec
  have hb := B.bytes
  have hr := B.returns
  have hts := atoms_spec (ws := wsX1_fit) B.pre
  have hown : s.vm.findClass RX1 = some m.cls := findClass_of_methodNamed B.named
  have hlk := B.notSynchronized
  have hin : ∀ w ∈ wsX10, w ∈ wsX1_fit := fun w h => List.mem_cons_of_mem _ (List.mem_append_right _ h)
  have hf_22 := hts (.fieldLink RX1 22 "JumpBoardModel" "takes" "[I") (by decide +kernel)
  have hl := lv_entry ([.ref h, .int (nI k), .int w, .int v, .int o]) (n := 6) (Nat.le_of_ble_eq_true rfl)
  rw [lg_entry_eq]
  generalize (lg_sl ([.ref h, .int (nI k), .int w, .int v, .int o]) ++ List.replicate (6 - (lg_sl ([.ref h, .int (nI k), .int w, .int v, .int o])).length) Slot.unset).toArray = ls at hl ⊢
  have hl : lv_has ls 6 [(0, .ref h), (1, .int (nI k)), (2, .int w), (3, .int v), (4, .int o)] := hl
  refine lv_iload_n hx hb dX1_fit_0 rfl (lv_at hl 3 rfl) ?_
  refine lv_iload_n hx hb dX1_fit_1 rfl (lv_at hl 2 rfl) ?_
  refine q_cs [.int w] (rest := [.int v]) ⟨hx, hb, hml, hown, hts⟩ (mX1_none l w) gX1_fit_X1_none rfl rfl rfl hdX1_none ⟨Nat.le_of_ble_eq_true rfl, Nat.le_of_ble_eq_true rfl⟩ rfl hl.1 rfl (Nat.le_of_ble_eq_true rfl) dX1_fit_2 ⟨Nat.zero_le _, Nat.zero_le _⟩ ?_
  refine lv_icmp_eq (tgt := 17) hx hb dX1_fit_5 (by decide) (fun c_1 => ?_) (fun c_1 => ?_)
  · skip
    refine lv_iload_n hx hb dX1_fit_17 rfl (lv_at hl 1 rfl) ?_
    refine lv_iconst (v := 5) hx hb dX1_fit_18 (by decide) ?_
    refine lv_icmp_ne (tgt := 26) hx hb dX1_fit_19 (by decide) (fun c_2 => ?_) (fun c_2 => ?_)
    · skip
      refine lv_iconst (v := 0) hx hb dX1_fit_26 (by decide) ?_
      exact q_rb hx hb hr hlk (by rw [fitv]; simp [b2i, c_1, c_2, nI_five hk] <;> simp_all [nI_five hk]) dX1_fit_27
    · skip
      refine lv_iconst (v := 1) hx hb dX1_fit_22 (by decide) ?_
      refine lv_goto (tgt := 27) hx hb dX1_fit_23 (by decide) ?_
      exact q_rb hx hb hr hlk (by rw [fitv]; simp [b2i, c_1, c_2, nI_five hk] <;> simp_all [nI_five hk]) dX1_fit_27
  · skip
    refine lv_iload hx hb dX1_fit_8 (lv_at hl 4 rfl) ?_
    refine lv_iload_n hx hb dX1_fit_10 rfl (lv_at hl 2 rfl) ?_
    refine q_cs [.int w] (rest := [.int o]) ⟨hx, hb, hml, hown, hts⟩ (mX1_none l w) gX1_fit_X1_none rfl rfl rfl hdX1_none ⟨Nat.le_of_ble_eq_true rfl, Nat.le_of_ble_eq_true rfl⟩ rfl hl.1 rfl (Nat.le_of_ble_eq_true rfl) dX1_fit_11 ⟨Nat.zero_le _, Nat.zero_le _⟩ ?_
    refine lv_icmp_ne (tgt := 28) hx hb dX1_fit_14 (by decide) (fun c_3 => ?_) (fun c_3 => ?_)
    · skip
      refine lv_iload_n hx hb dX1_fit_28 rfl (lv_at hl 3 rfl) ?_
      refine lv_iload hx hb dX1_fit_29 (lv_at hl 4 rfl) ?_
      refine q_jn (pj := 49) (v := cmpV v o) (rest := []) ?_ (fun J => ?_)
      rotate_left
      · skip
        refine lv_icmp_ge (tgt := 38) hx hb dX1_fit_31 (by decide) (fun c_4 => ?_) (fun c_4 => ?_)
        · skip
          refine lv_iload_n hx hb dX1_fit_38 rfl (lv_at hl 3 rfl) ?_
          refine lv_iload hx hb dX1_fit_39 (lv_at hl 4 rfl) ?_
          refine lv_icmp_ne (tgt := 48) hx hb dX1_fit_41 (by decide) (fun c_5 => ?_) (fun c_5 => ?_)
          · skip
            refine lv_iconst (v := 4) hx hb dX1_fit_48 (by decide) ?_
            exact q_top (by simp [cmpV, c_1, c_3, c_4, c_5]) J
          · skip
            refine lv_iconst (v := 2) hx hb dX1_fit_44 (by decide) ?_
            refine lv_goto (tgt := 49) hx hb dX1_fit_45 (by decide) ?_
            exact q_top (by simp [cmpV, c_1, c_3, c_4, c_5]) J
        · skip
          refine lv_iconst (v := 1) hx hb dX1_fit_34 (by decide) ?_
          refine lv_goto (tgt := 49) hx hb dX1_fit_35 (by decide) ?_
          exact q_top (by simp [cmpV, c_1, c_3, c_4]) J
      refine lv_istore (lv' := [(5, .int (cmpV v o)), (0, .ref h), (1, .int (nI k)), (2, .int w), (3, .int v), (4, .int o)]) hx hb dX1_fit_49 hl (by decide) rfl (fun ls hl => ?_)
      refine lv_aload_n hx hb dX1_fit_51 rfl (lv_at hl 1 rfl) ?_
      refine va_get (D := (dC, dI)) (ci := 1) (v := .ref qt) (C := RX1) (T := TX1) (N := 8) hx hb hts hin hown hK hP 0 rfl rfl 4 (by decide) hf_22 (fun _ h9 => h9) rfl dX1_fit_52 ?_
      refine lv_iload_n hx hb dX1_fit_55 rfl (lv_at hl 2 rfl) ?_
      refine q_ald (n := 6) (k := k) hx hb hK hP 5 0 rfl rfl (by omega) (by decide) dX1_fit_56 ?_
      refine lv_iload hx hb dX1_fit_57 (lv_at hl 0 rfl) ?_
      refine lv_iand hx hb dX1_fit_59 ?_
      refine lv_if_eq (tgt := 67) hx hb dX1_fit_60 (by decide) (fun c_6 => ?_) (fun c_6 => ?_)
      · skip
        refine lv_iconst (v := 0) hx hb dX1_fit_67 (by decide) ?_
        exact q_rb hx hb hr hlk (by rw [fitv, if_neg c_1, if_neg c_3, ← fit_nf hT hk]; simp [b2i, c_1, c_3, c_6]) dX1_fit_68
      · skip
        refine lv_iconst (v := 1) hx hb dX1_fit_63 (by decide) ?_
        refine lv_goto (tgt := 68) hx hb dX1_fit_64 (by decide) ?_
        exact q_rb hx hb hr hlk (by rw [fitv, if_neg c_1, if_neg c_3, ← fit_nf hT hk]; simp [b2i, c_1, c_3, c_6]) dX1_fit_68
    · skip
      refine lv_iload_n hx hb dX1_fit_17 rfl (lv_at hl 1 rfl) ?_
      refine lv_iconst (v := 5) hx hb dX1_fit_18 (by decide) ?_
      refine lv_icmp_ne (tgt := 26) hx hb dX1_fit_19 (by decide) (fun c_7 => ?_) (fun c_7 => ?_)
      · skip
        refine lv_iconst (v := 0) hx hb dX1_fit_26 (by decide) ?_
        exact q_rb hx hb hr hlk (by rw [fitv]; simp [b2i, c_1, c_3, c_7, nI_five hk] <;> simp_all [nI_five hk]) dX1_fit_27
      · skip
        refine lv_iconst (v := 1) hx hb dX1_fit_22 (by decide) ?_
        refine lv_goto (tgt := 27) hx hb dX1_fit_23 (by decide) ?_
        exact q_rb hx hb hr hlk (by rw [fitv]; simp [b2i, c_1, c_3, c_7, nI_five hk] <;> simp_all [nI_five hk]) dX1_fit_27

theorem hdX1_isAsked : yX1_isAsked.cls = RX1 ∧ yX1_isAsked.cls ≠ "java/lang/invoke/MethodHandle" ∧ yX1_isAsked.cls ≠ "java/lang/invoke/VarHandle" ∧ (parseMethodDescriptor yX1_isAsked.desc).map (fun d => d.parameters.length) = some 3 := by decide +kernel
set_option maxHeartbeats 4000000 in
set_option maxRecDepth 100000 in
theorem mX1_isAsked (l : Launch) (dC : Nat → ClassId) (dI : Nat → Nat → Nat) (h qb qj qm qw qt : Nat) (cA : ClassId) (n : Nat) (rec lim : Int32) (fb fj fm fw ft : Nat → Int32) (k : Int32) (w : Int32) (x : Int32) (hn : n ≤ 8) : Met l yX1_isAsked wsX1_isAsked ({ frames := 2, cells := 0, slots := 0, locals := 43 }) (va_Pc [.ref h, .int k, .int w, .int x] (fun U => va_P (dC, dI) vwCl (wY h qb qj qm qw qt cA (nI n) rec lim fb fj fm fw ft) U.heap ∧ va_K (dC, dI) vwCl [(cA, .int)] U)) (QcRead (b2i (ask (nI n) k w x))) 0 0 (fun _ => False) := by
  refine Met.ofW (cc := cX1_isAsked) (maxL := 4) (ret := (some .boolean)) (by decide) rfl ?_
  intro p e s m args below meth c s₁ B hml hv
  obtain ⟨rfl, hP, hK⟩ := hv
  have hx := B.exec
  have hb := B.bytes
  have hr := B.returns
  have hts := atoms_spec (ws := wsX1_isAsked) B.pre
  have hown : s.vm.findClass RX1 = some m.cls := findClass_of_methodNamed B.named
  have hlk := B.notSynchronized
  have hl := lv_entry ([.ref h, .int k, .int w, .int x]) (n := 4) (Nat.le_of_ble_eq_true rfl)
  rw [lg_entry_eq]
  generalize (lg_sl ([.ref h, .int k, .int w, .int x]) ++ List.replicate (4 - (lg_sl ([.ref h, .int k, .int w, .int x])).length) Slot.unset).toArray = ls at hl ⊢
  have hl : lv_has ls 4 [(0, .ref h), (1, .int k), (2, .int w), (3, .int x)] := hl
  refine lv_iload_n hx hb dX1_isAsked_0 rfl (lv_at hl 1 rfl) ?_
  refine lv_iconst (v := 0) hx hb dX1_isAsked_1 (by decide) ?_
  refine lv_iconst (v := 5) hx hb dX1_isAsked_2 (by decide) ?_
  refine q_cs [.int k, .int 0, .int 5] (rest := []) ⟨hx, hb, hml, hown, hts⟩ (mX1_isIn l k 0 5) gX1_isAsked_X1_isIn rfl rfl rfl hdX1_isIn ⟨Nat.le_of_ble_eq_true rfl, Nat.le_of_ble_eq_true rfl⟩ rfl hl.1 rfl (Nat.le_of_ble_eq_true rfl) dX1_isAsked_3 ⟨Nat.zero_le _, Nat.zero_le _⟩ ?_
  refine lv_if_eq (tgt := 30) hx hb dX1_isAsked_6 (by decide) (fun c_1 => ?_) (fun c_1 => ?_)
  · skip
    have c_1 : (inR k 0 5) = false := b2i_0 c_1
    refine lv_iconst (v := 0) hx hb dX1_isAsked_30 (by decide) ?_
    exact q_rb hx hb hr hlk (by simp_all [ask, b2i, inR_hwo, inR_wht]) dX1_isAsked_31
  · skip
    have c_1 : (inR k 0 5) = true := b2i_n c_1
    refine lv_iload_n hx hb dX1_isAsked_9 rfl (lv_at hl 2 rfl) ?_
    refine lv_iconst (v := 0) hx hb dX1_isAsked_10 (by decide) ?_
    refine lv_iconst (v := 1) hx hb dX1_isAsked_11 (by decide) ?_
    refine q_cs [.int w, .int 0, .int 1] (rest := []) ⟨hx, hb, hml, hown, hts⟩ (mX1_isIn l w 0 1) gX1_isAsked_X1_isIn rfl rfl rfl hdX1_isIn ⟨Nat.le_of_ble_eq_true rfl, Nat.le_of_ble_eq_true rfl⟩ rfl hl.1 rfl (Nat.le_of_ble_eq_true rfl) dX1_isAsked_12 ⟨Nat.zero_le _, Nat.zero_le _⟩ ?_
    refine lv_if_eq (tgt := 30) hx hb dX1_isAsked_15 (by decide) (fun c_2 => ?_) (fun c_2 => ?_)
    · skip
      have c_2 : (inR w 0 1) = false := b2i_0 c_2
      refine lv_iconst (v := 0) hx hb dX1_isAsked_30 (by decide) ?_
      exact q_rb hx hb hr hlk (by simp_all [ask, b2i, inR_hwo, inR_wht]) dX1_isAsked_31
    · skip
      have c_2 : (inR w 0 1) = true := b2i_n c_2
      refine lv_aload_n hx hb dX1_isAsked_18 rfl (lv_at hl 0 rfl) ?_
      refine lv_iload_n hx hb dX1_isAsked_19 rfl (lv_at hl 3 rfl) ?_
      refine q_cv [.int x] (rest := []) ⟨hx, hb, hml, hown, hts⟩ (mX1_isJumper l dC dI h qb qj qm qw qt cA n rec lim fb fj fm fw ft x (by omega)) gX1_isAsked_X1_isJumper rfl rfl rfl hdX1_isJumper ⟨Nat.le_of_ble_eq_true rfl, Nat.le_of_ble_eq_true rfl⟩ rfl hK hP rfl rfl hl.1 rfl (Nat.le_of_ble_eq_true rfl) dX1_isAsked_20 ⟨Nat.zero_le _, Nat.zero_le _⟩ ?_
      refine lv_if_eq (tgt := 30) hx hb dX1_isAsked_23 (by decide) (fun c_3 => ?_) (fun c_3 => ?_)
      · skip
        have c_3 : (jmp (nI n) x) = false := b2i_0 c_3
        refine lv_iconst (v := 0) hx hb dX1_isAsked_30 (by decide) ?_
        exact q_rb hx hb hr hlk (by simp_all [ask, b2i, inR_hwo, inR_wht]) dX1_isAsked_31
      · skip
        have c_3 : (jmp (nI n) x) = true := b2i_n c_3
        refine lv_iconst (v := 1) hx hb dX1_isAsked_26 (by decide) ?_
        refine lv_goto (tgt := 31) hx hb dX1_isAsked_27 (by decide) ?_
        exact q_rb hx hb hr hlk (by simp_all [ask, b2i, inR_hwo, inR_wht]) dX1_isAsked_31

theorem hdX1_isAskedOf : yX1_isAskedOf.cls = RX1 ∧ yX1_isAskedOf.cls ≠ "java/lang/invoke/MethodHandle" ∧ yX1_isAskedOf.cls ≠ "java/lang/invoke/VarHandle" ∧ (parseMethodDescriptor yX1_isAskedOf.desc).map (fun d => d.parameters.length) = some 4 := by decide +kernel
set_option maxHeartbeats 4000000 in
set_option maxRecDepth 100000 in
theorem mX1_isAskedOf (l : Launch) (dC : Nat → ClassId) (dI : Nat → Nat → Nat) (h qb qj qm qw qt : Nat) (cA : ClassId) (n : Nat) (rec lim : Int32) (fb fj fm fw ft : Nat → Int32) (k : Int32) (w : Int32) (x : Int32) (v : Int32) (hn : n ≤ 8) : Met l yX1_isAskedOf wsX1_isAskedOf ({ frames := 3, cells := 0, slots := 0, locals := 66 }) (va_Pc [.ref h, .int k, .int w, .int x, .int v] (fun U => va_P (dC, dI) vwCl (wY h qb qj qm qw qt cA (nI n) rec lim fb fj fm fw ft) U.heap ∧ va_K (dC, dI) vwCl [(cA, .int)] U)) (QcRead (b2i (qst (nI n) k w x v))) 0 0 (fun _ => False) := by
  refine Met.ofW (cc := cX1_isAskedOf) (maxL := 5) (ret := (some .boolean)) (by decide) rfl ?_
  intro p e s m args below meth c s₁ B hml hv
  obtain ⟨rfl, hP, hK⟩ := hv
  have hx := B.exec
  have hb := B.bytes
  have hr := B.returns
  have hts := atoms_spec (ws := wsX1_isAskedOf) B.pre
  have hown : s.vm.findClass RX1 = some m.cls := findClass_of_methodNamed B.named
  have hlk := B.notSynchronized
  have hl := lv_entry ([.ref h, .int k, .int w, .int x, .int v]) (n := 5) (Nat.le_of_ble_eq_true rfl)
  rw [lg_entry_eq]
  generalize (lg_sl ([.ref h, .int k, .int w, .int x, .int v]) ++ List.replicate (5 - (lg_sl ([.ref h, .int k, .int w, .int x, .int v])).length) Slot.unset).toArray = ls at hl ⊢
  have hl : lv_has ls 5 [(0, .ref h), (1, .int k), (2, .int w), (3, .int x), (4, .int v)] := hl
  refine lv_aload_n hx hb dX1_isAskedOf_0 rfl (lv_at hl 0 rfl) ?_
  refine lv_iload_n hx hb dX1_isAskedOf_1 rfl (lv_at hl 1 rfl) ?_
  refine lv_iload_n hx hb dX1_isAskedOf_2 rfl (lv_at hl 2 rfl) ?_
  refine lv_iload_n hx hb dX1_isAskedOf_3 rfl (lv_at hl 3 rfl) ?_
  refine q_cv [.int k, .int w, .int x] (rest := []) ⟨hx, hb, hml, hown, hts⟩ (mX1_isAsked l dC dI h qb qj qm qw qt cA n rec lim fb fj fm fw ft k w x (by omega)) gX1_isAskedOf_X1_isAsked rfl rfl rfl hdX1_isAsked ⟨Nat.le_of_ble_eq_true rfl, Nat.le_of_ble_eq_true rfl⟩ rfl hK hP rfl rfl hl.1 rfl (Nat.le_of_ble_eq_true rfl) dX1_isAskedOf_4 ⟨Nat.zero_le _, Nat.zero_le _⟩ ?_
  refine lv_if_eq (tgt := 23) hx hb dX1_isAskedOf_7 (by decide) (fun c_1 => ?_) (fun c_1 => ?_)
  · skip
    have c_1 : (ask (nI n) k w x) = false := b2i_0 c_1
    refine lv_iconst (v := 0) hx hb dX1_isAskedOf_23 (by decide) ?_
    exact q_rb hx hb hr hlk (by rw [qst_ask]; simp [b2i, c_1]) dX1_isAskedOf_24
  · skip
    have c_1 : (ask (nI n) k w x) = true := b2i_n c_1
    refine lv_iload_n hx hb dX1_isAskedOf_10 rfl (lv_at hl 2 rfl) ?_
    refine lv_iload hx hb dX1_isAskedOf_11 (lv_at hl 4 rfl) ?_
    refine q_cs [.int w, .int v] (rest := []) ⟨hx, hb, hml, hown, hts⟩ (mX1_isCode l w v) gX1_isAskedOf_X1_isCode rfl rfl rfl hdX1_isCode ⟨Nat.le_of_ble_eq_true rfl, Nat.le_of_ble_eq_true rfl⟩ rfl hl.1 rfl (Nat.le_of_ble_eq_true rfl) dX1_isAskedOf_13 ⟨Nat.zero_le _, Nat.zero_le _⟩ ?_
    refine lv_if_eq (tgt := 23) hx hb dX1_isAskedOf_16 (by decide) (fun c_2 => ?_) (fun c_2 => ?_)
    · skip
      have c_2 : (cde w v) = false := b2i_0 c_2
      refine lv_iconst (v := 0) hx hb dX1_isAskedOf_23 (by decide) ?_
      exact q_rb hx hb hr hlk (by rw [qst_ask]; simp [b2i, c_1, c_2]) dX1_isAskedOf_24
    · skip
      have c_2 : (cde w v) = true := b2i_n c_2
      refine lv_iconst (v := 1) hx hb dX1_isAskedOf_19 (by decide) ?_
      refine lv_goto (tgt := 24) hx hb dX1_isAskedOf_20 (by decide) ?_
      exact q_rb hx hb hr hlk (by rw [qst_ask]; simp [b2i, c_1, c_2]) dX1_isAskedOf_24

theorem hdX1_value : yX1_value.cls = RX1 ∧ yX1_value.cls ≠ "java/lang/invoke/MethodHandle" ∧ yX1_value.cls ≠ "java/lang/invoke/VarHandle" ∧ (parseMethodDescriptor yX1_value.desc).map (fun d => d.parameters.length) = some 3 := by decide +kernel
set_option maxHeartbeats 4000000 in
set_option maxRecDepth 100000 in
theorem mX1_value (l : Launch) (dC : Nat → ClassId) (dI : Nat → Nat → Nat) (h qb qj qm qw qt : Nat) (cA : ClassId) (n : Nat) (rec lim : Int32) (fb fj fm fw ft : Nat → Int32) (M : Nat → Nat → Int32) (V : Nat → Nat → Int32) (w : Int32) (x : Int32) (r : Int32) (hM : ∀ j r, j < 8 → r < 6 → (if nI r < fj j then fm (6 * j + r) else 0) = M j r) (hV : ∀ j r, j < 8 → r < 6 → (if nI r < fj j then fw (6 * j + r) else 100) = V j r) (hn : n ≤ 8) : Met l yX1_value wsX1_value ({ frames := 2, cells := 0, slots := 0, locals := 43 }) (va_Pc [.ref h, .int w, .int x, .int r] (fun U => va_P (dC, dI) vwCl (wY h qb qj qm qw qt cA (nI n) rec lim fb fj fm fw ft) U.heap ∧ va_K (dC, dI) vwCl [(cA, .int)] U)) (QcRead (aValue M V (nI n) w x r)) 0 0 (fun _ => False) := by
  refine Met.ofW (cc := cX1_value) (maxL := 4) (ret := (some .int)) (by decide) rfl ?_
  intro p e s m args below meth c s₁ B hml hv
  obtain ⟨rfl, hP, hK⟩ := hv
  have hx := B.exec
  have hb := B.bytes
  have hr := B.returns
  have hts := atoms_spec (ws := wsX1_value) B.pre
  have hown : s.vm.findClass RX1 = some m.cls := findClass_of_methodNamed B.named
  have hlk := B.notSynchronized
  have hl := lv_entry ([.ref h, .int w, .int x, .int r]) (n := 4) (Nat.le_of_ble_eq_true rfl)
  rw [lg_entry_eq]
  generalize (lg_sl ([.ref h, .int w, .int x, .int r]) ++ List.replicate (4 - (lg_sl ([.ref h, .int w, .int x, .int r])).length) Slot.unset).toArray = ls at hl ⊢
  have hl : lv_has ls 4 [(0, .ref h), (1, .int w), (2, .int x), (3, .int r)] := hl
  refine lv_iload_n hx hb dX1_value_0 rfl (lv_at hl 1 rfl) ?_
  refine lv_iconst (v := 0) hx hb dX1_value_1 (by decide) ?_
  refine lv_iconst (v := 1) hx hb dX1_value_2 (by decide) ?_
  refine q_cs [.int w, .int 0, .int 1] (rest := []) ⟨hx, hb, hml, hown, hts⟩ (mX1_isIn l w 0 1) gX1_value_X1_isIn rfl rfl rfl hdX1_isIn ⟨Nat.le_of_ble_eq_true rfl, Nat.le_of_ble_eq_true rfl⟩ rfl hl.1 rfl (Nat.le_of_ble_eq_true rfl) dX1_value_3 ⟨Nat.zero_le _, Nat.zero_le _⟩ ?_
  refine lv_if_eq (tgt := 24) hx hb dX1_value_6 (by decide) (fun c_1 => ?_) (fun c_1 => ?_)
  · skip
    have c_1 : (inR w 0 1) = false := b2i_0 c_1
    refine lv_sipush (v := (-1000)) hx hb dX1_value_24 (by decide) ?_
    exact q_ri hx hb hr hlk (by simp_all [aValue, inR_wht]) dX1_value_27
  · skip
    have c_1 : (inR w 0 1) = true := b2i_n c_1
    refine lv_aload_n hx hb dX1_value_9 rfl (lv_at hl 0 rfl) ?_
    refine lv_iload_n hx hb dX1_value_10 rfl (lv_at hl 2 rfl) ?_
    refine q_cv [.int x] (rest := []) ⟨hx, hb, hml, hown, hts⟩ (mX1_isJumper l dC dI h qb qj qm qw qt cA n rec lim fb fj fm fw ft x (by omega)) gX1_value_X1_isJumper rfl rfl rfl hdX1_isJumper ⟨Nat.le_of_ble_eq_true rfl, Nat.le_of_ble_eq_true rfl⟩ rfl hK hP rfl rfl hl.1 rfl (Nat.le_of_ble_eq_true rfl) dX1_value_11 ⟨Nat.zero_le _, Nat.zero_le _⟩ ?_
    refine lv_if_eq (tgt := 24) hx hb dX1_value_14 (by decide) (fun c_2 => ?_) (fun c_2 => ?_)
    · skip
      have c_2 : (jmp (nI n) x) = false := b2i_0 c_2
      refine lv_sipush (v := (-1000)) hx hb dX1_value_24 (by decide) ?_
      exact q_ri hx hb hr hlk (by simp_all [aValue, inR_wht]) dX1_value_27
    · skip
      have c_2 : (jmp (nI n) x) = true := b2i_n c_2
      refine lv_iload_n hx hb dX1_value_17 rfl (lv_at hl 3 rfl) ?_
      refine q_cs [.int r] (rest := []) ⟨hx, hb, hml, hown, hts⟩ (mX1_isRound l r) gX1_value_X1_isRound rfl rfl rfl hdX1_isRound ⟨Nat.le_of_ble_eq_true rfl, Nat.le_of_ble_eq_true rfl⟩ rfl hl.1 rfl (Nat.le_of_ble_eq_true rfl) dX1_value_18 ⟨Nat.zero_le _, Nat.zero_le _⟩ ?_
      refine lv_if_ne (tgt := 28) hx hb dX1_value_21 (by decide) (fun c_3 => ?_) (fun c_3 => ?_)
      · skip
        have c_3 : (rnd r) = true := b2i_n c_3
        obtain ⟨j, hj, rfl⟩ := jmp_of c_2 hn
        obtain ⟨r6, hr6, rfl⟩ := rnd_of c_3
        refine lv_aload_n hx hb dX1_value_28 rfl (lv_at hl 0 rfl) ?_
        refine lv_iload_n hx hb dX1_value_29 rfl (lv_at hl 1 rfl) ?_
        refine lv_iload_n hx hb dX1_value_30 rfl (lv_at hl 2 rfl) ?_
        refine lv_iload_n hx hb dX1_value_31 rfl (lv_at hl 3 rfl) ?_
        refine q_cv [.int w, .int (nI j), .int (nI r6)] (rest := []) ⟨hx, hb, hml, hown, hts⟩ (mX1_code l dC dI h qb qj qm qw qt cA n rec lim fb fj fm fw ft M V w j r6 hM hV (by omega) (by omega)) gX1_value_X1_code rfl rfl rfl hdX1_code ⟨Nat.le_of_ble_eq_true rfl, Nat.le_of_ble_eq_true rfl⟩ rfl hK hP rfl rfl hl.1 rfl (Nat.le_of_ble_eq_true rfl) dX1_value_32 ⟨Nat.zero_le _, Nat.zero_le _⟩ ?_
        exact q_ri hx hb hr hlk (by rw [aValue, if_pos (by simp_all [inR_wht]), nI_clamp (by omega), nI_clamp (by omega)]) dX1_value_35
      · skip
        have c_3 : (rnd r) = false := b2i_0 c_3
        refine lv_sipush (v := (-1000)) hx hb dX1_value_24 (by decide) ?_
        exact q_ri hx hb hr hlk (by simp_all [aValue, inR_wht]) dX1_value_27

theorem hdX1_fits : yX1_fits.cls = RX1 ∧ yX1_fits.cls ≠ "java/lang/invoke/MethodHandle" ∧ yX1_fits.cls ≠ "java/lang/invoke/VarHandle" ∧ (parseMethodDescriptor yX1_fits.desc).map (fun d => d.parameters.length) = some 5 := by decide +kernel
set_option maxHeartbeats 4000000 in
set_option maxRecDepth 100000 in
theorem mX1_fits (l : Launch) (dC : Nat → ClassId) (dI : Nat → Nat → Nat) (h qb qj qm qw qt : Nat) (cA : ClassId) (n : Nat) (rec lim : Int32) (fb fj fm fw ft : Nat → Int32) (M : Nat → Nat → Int32) (V : Nat → Nat → Int32) (k : Int32) (w : Int32) (x : Int32) (a : Int32) (b : Int32) (hM : ∀ j r, j < 8 → r < 6 → (if nI r < fj j then fm (6 * j + r) else 0) = M j r) (hV : ∀ j r, j < 8 → r < 6 → (if nI r < fj j then fw (6 * j + r) else 100) = V j r) (hT : ft 0 = 1 ∧ ft 1 = 3 ∧ ft 2 = 4 ∧ ft 3 = 6 ∧ ft 4 = 2 ∧ ft 5 = 5) (hn : n ≤ 8) : Met l yX1_fits wsX1_fits ({ frames := 3, cells := 0, slots := 0, locals := 66 }) (va_Pc [.ref h, .int k, .int w, .int x, .int a, .int b] (fun U => va_P (dC, dI) vwCl (wY h qb qj qm qw qt cA (nI n) rec lim fb fj fm fw ft) U.heap ∧ va_K (dC, dI) vwCl [(cA, .int)] U)) (QcRead (aFits M V (nI n) k w x a b)) 0 0 (fun _ => False) := by
  refine Met.ofW (cc := cX1_fits) (maxL := 6) (ret := (some .int)) (by decide) rfl ?_
  intro p e s m args below meth c s₁ B hml hv
  obtain ⟨rfl, hP, hK⟩ := hv
  have hx := B.exec
  have hb := B.bytes
  have hr := B.returns
  have hts := atoms_spec (ws := wsX1_fits) B.pre
  have hown : s.vm.findClass RX1 = some m.cls := findClass_of_methodNamed B.named
  have hlk := B.notSynchronized
  have hl := lv_entry ([.ref h, .int k, .int w, .int x, .int a, .int b]) (n := 6) (Nat.le_of_ble_eq_true rfl)
  rw [lg_entry_eq]
  generalize (lg_sl ([.ref h, .int k, .int w, .int x, .int a, .int b]) ++ List.replicate (6 - (lg_sl ([.ref h, .int k, .int w, .int x, .int a, .int b])).length) Slot.unset).toArray = ls at hl ⊢
  have hl : lv_has ls 6 [(0, .ref h), (1, .int k), (2, .int w), (3, .int x), (4, .int a), (5, .int b)] := hl
  refine lv_aload_n hx hb dX1_fits_0 rfl (lv_at hl 0 rfl) ?_
  refine lv_iload_n hx hb dX1_fits_1 rfl (lv_at hl 1 rfl) ?_
  refine lv_iload_n hx hb dX1_fits_2 rfl (lv_at hl 2 rfl) ?_
  refine lv_iload_n hx hb dX1_fits_3 rfl (lv_at hl 3 rfl) ?_
  refine q_cv [.int k, .int w, .int x] (rest := []) ⟨hx, hb, hml, hown, hts⟩ (mX1_isAsked l dC dI h qb qj qm qw qt cA n rec lim fb fj fm fw ft k w x (by omega)) gX1_fits_X1_isAsked rfl rfl rfl hdX1_isAsked ⟨Nat.le_of_ble_eq_true rfl, Nat.le_of_ble_eq_true rfl⟩ rfl hK hP rfl rfl hl.1 rfl (Nat.le_of_ble_eq_true rfl) dX1_fits_4 ⟨Nat.zero_le _, Nat.zero_le _⟩ ?_
  refine lv_if_eq (tgt := 26) hx hb dX1_fits_7 (by decide) (fun c_1 => ?_) (fun c_1 => ?_)
  · skip
    have c_1 : (ask (nI n) k w x) = false := b2i_0 c_1
    refine lv_sipush (v := (-1000)) hx hb dX1_fits_26 (by decide) ?_
    exact q_ri hx hb hr hlk (by rw [aFits_ask]; simp [c_1]) dX1_fits_29
  · skip
    have c_1 : (ask (nI n) k w x) = true := b2i_n c_1
    refine lv_iload hx hb dX1_fits_10 (lv_at hl 4 rfl) ?_
    refine q_cs [.int a] (rest := []) ⟨hx, hb, hml, hown, hts⟩ (mX1_isRound l a) gX1_fits_X1_isRound rfl rfl rfl hdX1_isRound ⟨Nat.le_of_ble_eq_true rfl, Nat.le_of_ble_eq_true rfl⟩ rfl hl.1 rfl (Nat.le_of_ble_eq_true rfl) dX1_fits_12 ⟨Nat.zero_le _, Nat.zero_le _⟩ ?_
    refine lv_if_eq (tgt := 26) hx hb dX1_fits_15 (by decide) (fun c_2 => ?_) (fun c_2 => ?_)
    · skip
      have c_2 : (rnd a) = false := b2i_0 c_2
      refine lv_sipush (v := (-1000)) hx hb dX1_fits_26 (by decide) ?_
      exact q_ri hx hb hr hlk (by rw [aFits_ask]; simp [c_1, c_2]) dX1_fits_29
    · skip
      have c_2 : (rnd a) = true := b2i_n c_2
      refine lv_iload hx hb dX1_fits_18 (lv_at hl 5 rfl) ?_
      refine q_cs [.int b] (rest := []) ⟨hx, hb, hml, hown, hts⟩ (mX1_isRound l b) gX1_fits_X1_isRound rfl rfl rfl hdX1_isRound ⟨Nat.le_of_ble_eq_true rfl, Nat.le_of_ble_eq_true rfl⟩ rfl hl.1 rfl (Nat.le_of_ble_eq_true rfl) dX1_fits_20 ⟨Nat.zero_le _, Nat.zero_le _⟩ ?_
      refine lv_if_ne (tgt := 30) hx hb dX1_fits_23 (by decide) (fun c_3 => ?_) (fun c_3 => ?_)
      · skip
        have c_3 : (rnd b) = true := b2i_n c_3
        obtain ⟨j, hj, rfl⟩ := jmp_of (ask_j c_1) hn
        obtain ⟨k6, hk6, rfl⟩ := hwo_of (ask_h c_1)
        obtain ⟨a6, ha6, rfl⟩ := rnd_of c_2
        obtain ⟨b6, hb6, rfl⟩ := rnd_of c_3
        refine lv_aload_n hx hb dX1_fits_30 rfl (lv_at hl 0 rfl) ?_
        refine lv_iload_n hx hb dX1_fits_31 rfl (lv_at hl 1 rfl) ?_
        refine lv_iload_n hx hb dX1_fits_32 rfl (lv_at hl 2 rfl) ?_
        refine lv_aload_n hx hb dX1_fits_33 rfl (lv_at hl 0 rfl) ?_
        refine lv_iload_n hx hb dX1_fits_34 rfl (lv_at hl 2 rfl) ?_
        refine lv_iload_n hx hb dX1_fits_35 rfl (lv_at hl 3 rfl) ?_
        refine lv_iload hx hb dX1_fits_36 (lv_at hl 4 rfl) ?_
        refine q_cv [.int w, .int (nI j), .int (nI a6)] (rest := [.int w, .int (nI k6), .ref h]) ⟨hx, hb, hml, hown, hts⟩ (mX1_code l dC dI h qb qj qm qw qt cA n rec lim fb fj fm fw ft M V w j a6 hM hV (by omega) (by omega)) gX1_fits_X1_code rfl rfl rfl hdX1_code ⟨Nat.le_of_ble_eq_true rfl, Nat.le_of_ble_eq_true rfl⟩ rfl hK hP rfl rfl hl.1 rfl (Nat.le_of_ble_eq_true rfl) dX1_fits_38 ⟨Nat.zero_le _, Nat.zero_le _⟩ ?_
        refine lv_aload_n hx hb dX1_fits_41 rfl (lv_at hl 0 rfl) ?_
        refine lv_iload_n hx hb dX1_fits_42 rfl (lv_at hl 2 rfl) ?_
        refine lv_iload_n hx hb dX1_fits_43 rfl (lv_at hl 3 rfl) ?_
        refine lv_iload hx hb dX1_fits_44 (lv_at hl 5 rfl) ?_
        refine q_cv [.int w, .int (nI j), .int (nI b6)] (rest := [.int (vlu M V w j a6), .int w, .int (nI k6), .ref h]) ⟨hx, hb, hml, hown, hts⟩ (mX1_code l dC dI h qb qj qm qw qt cA n rec lim fb fj fm fw ft M V w j b6 hM hV (by omega) (by omega)) gX1_fits_X1_code rfl rfl rfl hdX1_code ⟨Nat.le_of_ble_eq_true rfl, Nat.le_of_ble_eq_true rfl⟩ rfl hK hP rfl rfl hl.1 rfl (Nat.le_of_ble_eq_true rfl) dX1_fits_46 ⟨Nat.zero_le _, Nat.zero_le _⟩ ?_
        refine q_cv [.int (nI k6), .int w, .int (vlu M V w j a6), .int (vlu M V w j b6)] (rest := []) ⟨hx, hb, hml, hown, hts⟩ (mX1_fit l dC dI h qb qj qm qw qt cA n rec lim fb fj fm fw ft k6 w (vlu M V w j a6) (vlu M V w j b6) hT (by omega)) gX1_fits_X1_fit rfl rfl rfl hdX1_fit ⟨Nat.le_of_ble_eq_true rfl, Nat.le_of_ble_eq_true rfl⟩ rfl hK hP rfl rfl hl.1 rfl (Nat.le_of_ble_eq_true rfl) dX1_fits_49 ⟨Nat.zero_le _, Nat.zero_le _⟩ ?_
        refine lv_if_eq (tgt := 59) hx hb dX1_fits_52 (by decide) (fun c_4 => ?_) (fun c_4 => ?_)
        · skip
          have c_4 : (fitv (nI k6) w (vlu M V w j a6) (vlu M V w j b6)) = false := b2i_0 c_4
          refine lv_iconst (v := 0) hx hb dX1_fits_59 (by decide) ?_
          exact q_ri hx hb hr hlk (by rw [aFits_ask, if_pos (by simp [c_1, c_2, c_3]), nI_clamp (by omega), nI_clamp (by omega), nI_clamp (by omega), c_4]; rfl) dX1_fits_60
        · skip
          have c_4 : (fitv (nI k6) w (vlu M V w j a6) (vlu M V w j b6)) = true := b2i_n c_4
          refine lv_iconst (v := 1) hx hb dX1_fits_55 (by decide) ?_
          refine lv_goto (tgt := 60) hx hb dX1_fits_56 (by decide) ?_
          exact q_ri hx hb hr hlk (by rw [aFits_ask, if_pos (by simp [c_1, c_2, c_3]), nI_clamp (by omega), nI_clamp (by omega), nI_clamp (by omega), c_4]; rfl) dX1_fits_60
      · skip
        have c_3 : (rnd b) = false := b2i_0 c_3
        refine lv_sipush (v := (-1000)) hx hb dX1_fits_26 (by decide) ?_
        exact q_ri hx hb hr hlk (by rw [aFits_ask]; simp [c_1, c_2, c_3]) dX1_fits_29

theorem hdX1_count : yX1_count.cls = RX1 ∧ yX1_count.cls ≠ "java/lang/invoke/MethodHandle" ∧ yX1_count.cls ≠ "java/lang/invoke/VarHandle" ∧ (parseMethodDescriptor yX1_count.desc).map (fun d => d.parameters.length) = some 4 := by decide +kernel
set_option maxHeartbeats 4000000 in
set_option maxRecDepth 100000 in
theorem mX1_count (l : Launch) (dC : Nat → ClassId) (dI : Nat → Nat → Nat) (h qb qj qm qw qt : Nat) (cA : ClassId) (n : Nat) (rec lim : Int32) (fb fj fm fw ft : Nat → Int32) (M : Nat → Nat → Int32) (V : Nat → Nat → Int32) (k : Int32) (w : Int32) (x : Int32) (v : Int32) (hM : ∀ j r, j < 8 → r < 6 → (if nI r < fj j then fm (6 * j + r) else 0) = M j r) (hV : ∀ j r, j < 8 → r < 6 → (if nI r < fj j then fw (6 * j + r) else 100) = V j r) (hT : ft 0 = 1 ∧ ft 1 = 3 ∧ ft 2 = 4 ∧ ft 3 = 6 ∧ ft 4 = 2 ∧ ft 5 = 5) (hn : n ≤ 8) : Met l yX1_count wsX1_count ({ frames := 4, cells := 0, slots := 0, locals := 90 }) (va_Pc [.ref h, .int k, .int w, .int x, .int v] (fun U => va_P (dC, dI) vwCl (wY h qb qj qm qw qt cA (nI n) rec lim fb fj fm fw ft) U.heap ∧ va_K (dC, dI) vwCl [(cA, .int)] U)) (QcRead (aCount M V (nI n) k w x v)) 0 0 (fun _ => False) := by
  refine Met.ofW (cc := cX1_count) (maxL := 7) (ret := (some .int)) (by decide) rfl ?_
  intro p e s m args below meth c s₁ B hml hv
  obtain ⟨rfl, hP, hK⟩ := hv
  have hx := B.exec
  have hb := B.bytes
  have hr := B.returns
  have hts := atoms_spec (ws := wsX1_count) B.pre
  have hown : s.vm.findClass RX1 = some m.cls := findClass_of_methodNamed B.named
  have hlk := B.notSynchronized
  have hl := lv_entry ([.ref h, .int k, .int w, .int x, .int v]) (n := 7) (Nat.le_of_ble_eq_true rfl)
  rw [lg_entry_eq]
  generalize (lg_sl ([.ref h, .int k, .int w, .int x, .int v]) ++ List.replicate (7 - (lg_sl ([.ref h, .int k, .int w, .int x, .int v])).length) Slot.unset).toArray = ls at hl ⊢
  have hl : lv_has ls 7 [(0, .ref h), (1, .int k), (2, .int w), (3, .int x), (4, .int v)] := hl
  refine lv_aload_n hx hb dX1_count_0 rfl (lv_at hl 0 rfl) ?_
  refine lv_iload_n hx hb dX1_count_1 rfl (lv_at hl 1 rfl) ?_
  refine lv_iload_n hx hb dX1_count_2 rfl (lv_at hl 2 rfl) ?_
  refine lv_iload_n hx hb dX1_count_3 rfl (lv_at hl 3 rfl) ?_
  refine lv_iload hx hb dX1_count_4 (lv_at hl 4 rfl) ?_
  refine q_cv [.int k, .int w, .int x, .int v] (rest := []) ⟨hx, hb, hml, hown, hts⟩ (mX1_isAskedOf l dC dI h qb qj qm qw qt cA n rec lim fb fj fm fw ft k w x v (by omega)) gX1_count_X1_isAskedOf rfl rfl rfl hdX1_isAskedOf ⟨Nat.le_of_ble_eq_true rfl, Nat.le_of_ble_eq_true rfl⟩ rfl hK hP rfl rfl hl.1 rfl (Nat.le_of_ble_eq_true rfl) dX1_count_6 ⟨Nat.zero_le _, Nat.zero_le _⟩ ?_
  refine lv_if_ne (tgt := 16) hx hb dX1_count_9 (by decide) (fun c_1 => ?_) (fun c_1 => ?_)
  · skip
    have c_1 : (qst (nI n) k w x v) = true := b2i_n c_1
    obtain ⟨j, hj, rfl⟩ := jmp_of (qst_j c_1) hn
    obtain ⟨k6, hk6, rfl⟩ := hwo_of (qst_h c_1)
    refine lv_iconst (v := 0) hx hb dX1_count_16 (by decide) ?_
    refine lv_istore (lv' := [(5, .int 0), (0, .ref h), (1, .int (nI k6)), (2, .int w), (3, .int (nI j)), (4, .int v)]) hx hb dX1_count_17 hl (by decide) rfl (fun ls hl => ?_)
    refine lv_iconst (v := 0) hx hb dX1_count_19 (by decide) ?_
    refine lv_istore (lv' := [(6, .int 0), (5, .int 0), (0, .ref h), (1, .int (nI k6)), (2, .int w), (3, .int (nI j)), (4, .int v)]) hx hb dX1_count_20 hl (by decide) rfl (fun ls hl => ?_)
    refine q_lp (head := 22) (6) (fun i => [(0, .ref h), (1, .int (nI k6)), (2, .int w), (3, .int (nI j)), (4, .int v), (5, .int (nI (cntB (fun r => fitv (nI k6) w (vlu M V w j r) v) i))), (6, .int (nI i))]) (fun i => True) (0) (by omega) (trivial) (q_hl (lv_sub (l' := [(0, .ref h), (1, .int (nI k6)), (2, .int w), (3, .int (nI j)), (4, .int v), (5, .int 0), (6, .int 0)]) hl [2, 3, 4, 5, 6, 1, 0] rfl) (q_ck (q_ck (q_ck (q_ck (q_ck (q_ce (by rfl) (q_ce (by rfl) (rfl))))))))) ?_ ?_
    · intro i hi_i hI_i ih_i ls hl
      have hl : lv_has ls 7 [(0, .ref h), (1, .int (nI k6)), (2, .int w), (3, .int (nI j)), (4, .int v), (5, .int (nI (cntB (fun r => fitv (nI k6) w (vlu M V w j r) v) i))), (6, .int (nI i))] := hl
      refine lv_iload hx hb dX1_count_22 (lv_at hl 6 rfl) ?_
      refine lv_bipush (v := 6) hx hb dX1_count_24 (by decide) ?_
      refine lv_icmp_ge (tgt := 64) hx hb dX1_count_26 (by decide) (fun c_2 => absurd c_2 (nI_ge (b := 6) hi_i (by decide))) (fun c_2 => ?_)
      refine lv_iload hx hb dX1_count_29 (lv_at hl 5 rfl) ?_
      refine lv_aload_n hx hb dX1_count_31 rfl (lv_at hl 0 rfl) ?_
      refine lv_iload_n hx hb dX1_count_32 rfl (lv_at hl 1 rfl) ?_
      refine lv_iload_n hx hb dX1_count_33 rfl (lv_at hl 2 rfl) ?_
      refine lv_aload_n hx hb dX1_count_34 rfl (lv_at hl 0 rfl) ?_
      refine lv_iload_n hx hb dX1_count_35 rfl (lv_at hl 2 rfl) ?_
      refine lv_iload_n hx hb dX1_count_36 rfl (lv_at hl 3 rfl) ?_
      refine lv_iload hx hb dX1_count_37 (lv_at hl 6 rfl) ?_
      refine q_cv [.int w, .int (nI j), .int (nI i)] (rest := [.int w, .int (nI k6), .ref h, .int (nI (cntB (fun r => fitv (nI k6) w (vlu M V w j r) v) i))]) ⟨hx, hb, hml, hown, hts⟩ (mX1_code l dC dI h qb qj qm qw qt cA n rec lim fb fj fm fw ft M V w j i hM hV (by omega) (by omega)) gX1_count_X1_code rfl rfl rfl hdX1_code ⟨Nat.le_of_ble_eq_true rfl, Nat.le_of_ble_eq_true rfl⟩ rfl hK hP rfl rfl hl.1 rfl (Nat.le_of_ble_eq_true rfl) dX1_count_39 ⟨Nat.zero_le _, Nat.zero_le _⟩ ?_
      refine lv_iload hx hb dX1_count_42 (lv_at hl 4 rfl) ?_
      refine q_cv [.int (nI k6), .int w, .int (vlu M V w j i), .int v] (rest := [.int (nI (cntB (fun r => fitv (nI k6) w (vlu M V w j r) v) i))]) ⟨hx, hb, hml, hown, hts⟩ (mX1_fit l dC dI h qb qj qm qw qt cA n rec lim fb fj fm fw ft k6 w (vlu M V w j i) v hT (by omega)) gX1_count_X1_fit rfl rfl rfl hdX1_fit ⟨Nat.le_of_ble_eq_true rfl, Nat.le_of_ble_eq_true rfl⟩ rfl hK hP rfl rfl hl.1 rfl (Nat.le_of_ble_eq_true rfl) dX1_count_44 ⟨Nat.zero_le _, Nat.zero_le _⟩ ?_
      refine lv_if_eq (tgt := 54) hx hb dX1_count_47 (by decide) (fun c_3 => ?_) (fun c_3 => ?_)
      · skip
        have c_3 : (fitv (nI k6) w (vlu M V w j i) v) = false := b2i_0 c_3
        refine lv_iconst (v := 0) hx hb dX1_count_54 (by decide) ?_
        refine lv_iadd hx hb dX1_count_55 ?_
        refine lv_istore (lv' := [(5, .int ((nI (cntB (fun r => fitv (nI k6) w (vlu M V w j r) v) i)) + 0)), (0, .ref h), (1, .int (nI k6)), (2, .int w), (3, .int (nI j)), (4, .int v), (6, .int (nI i))]) hx hb dX1_count_56 hl (by decide) rfl (fun ls hl => ?_)
        refine lv_iinc (v := (nI (i + 1))) (lv' := [(6, .int (nI (i + 1))), (5, .int ((nI (cntB (fun r => fitv (nI k6) w (vlu M V w j r) v) i)) + 0)), (0, .ref h), (1, .int (nI k6)), (2, .int w), (3, .int (nI j)), (4, .int v)]) hx hb dX1_count_58 hl (k := 6) rfl (by exact nI_1 _) (by decide) rfl (fun ls hl => ?_)
        refine lv_goto (tgt := 22) hx hb dX1_count_61 (by decide) ?_
        exact ih_i (by exact trivial) ls (q_hl (lv_sub (l' := [(0, .ref h), (1, .int (nI k6)), (2, .int w), (3, .int (nI j)), (4, .int v), (5, .int ((nI (cntB (fun r => fitv (nI k6) w (vlu M V w j r) v) i)) + 0)), (6, .int (nI (i + 1)))]) hl [2, 3, 4, 5, 6, 1, 0] rfl) (q_ck (q_ck (q_ck (q_ck (q_ck (q_ce (by simp [cntB, c_1, c_3, nI_1]) (q_ck (rfl)))))))))
      · skip
        have c_3 : (fitv (nI k6) w (vlu M V w j i) v) = true := b2i_n c_3
        refine lv_iconst (v := 1) hx hb dX1_count_50 (by decide) ?_
        refine lv_goto (tgt := 55) hx hb dX1_count_51 (by decide) ?_
        refine lv_iadd hx hb dX1_count_55 ?_
        refine lv_istore (lv' := [(5, .int ((nI (cntB (fun r => fitv (nI k6) w (vlu M V w j r) v) i)) + 1)), (0, .ref h), (1, .int (nI k6)), (2, .int w), (3, .int (nI j)), (4, .int v), (6, .int (nI i))]) hx hb dX1_count_56 hl (by decide) rfl (fun ls hl => ?_)
        refine lv_iinc (v := (nI (i + 1))) (lv' := [(6, .int (nI (i + 1))), (5, .int ((nI (cntB (fun r => fitv (nI k6) w (vlu M V w j r) v) i)) + 1)), (0, .ref h), (1, .int (nI k6)), (2, .int w), (3, .int (nI j)), (4, .int v)]) hx hb dX1_count_58 hl (k := 6) rfl (by exact nI_1 _) (by decide) rfl (fun ls hl => ?_)
        refine lv_goto (tgt := 22) hx hb dX1_count_61 (by decide) ?_
        exact ih_i (by exact trivial) ls (q_hl (lv_sub (l' := [(0, .ref h), (1, .int (nI k6)), (2, .int w), (3, .int (nI j)), (4, .int v), (5, .int ((nI (cntB (fun r => fitv (nI k6) w (vlu M V w j r) v) i)) + 1)), (6, .int (nI (i + 1)))]) hl [2, 3, 4, 5, 6, 1, 0] rfl) (q_ck (q_ck (q_ck (q_ck (q_ck (q_ce (by simp [cntB, c_1, c_3, nI_1]) (q_ck (rfl)))))))))
    · intro hI_i ls hl
      have hl : lv_has ls 7 [(0, .ref h), (1, .int (nI k6)), (2, .int w), (3, .int (nI j)), (4, .int v), (5, .int (nI (cntB (fun r => fitv (nI k6) w (vlu M V w j r) v) 6))), (6, .int (nI 6))] := hl
      refine lv_iload hx hb dX1_count_22 (lv_at hl 6 rfl) ?_
      refine lv_bipush (v := 6) hx hb dX1_count_24 (by decide) ?_
      refine lv_icmp_ge (tgt := 64) hx hb dX1_count_26 (by decide) (fun c_4 => ?_) (fun c_4 => absurd (by decide) c_4)
      refine lv_iload hx hb dX1_count_64 (lv_at hl 5 rfl) ?_
      exact q_ri hx hb hr hlk (by rw [aCount, if_pos c_1, nI_clamp (by omega)]) dX1_count_66
  · skip
    have c_1 : (qst (nI n) k w x v) = false := b2i_0 c_1
    refine lv_sipush (v := (-1000)) hx hb dX1_count_12 (by decide) ?_
    exact q_ri hx hb hr hlk (by simp [aCount, c_1]) dX1_count_15

theorem hdX1_turned : yX1_turned.cls = RX1 ∧ yX1_turned.cls ≠ "java/lang/invoke/MethodHandle" ∧ yX1_turned.cls ≠ "java/lang/invoke/VarHandle" ∧ (parseMethodDescriptor yX1_turned.desc).map (fun d => d.parameters.length) = some 4 := by decide +kernel
set_option maxHeartbeats 4000000 in
set_option maxRecDepth 100000 in
theorem mX1_turned (l : Launch) (dC : Nat → ClassId) (dI : Nat → Nat → Nat) (h qb qj qm qw qt : Nat) (cA : ClassId) (n : Nat) (rec lim : Int32) (fb fj fm fw ft : Nat → Int32) (M : Nat → Nat → Int32) (V : Nat → Nat → Int32) (k : Int32) (w : Int32) (x : Int32) (v : Int32) (hM : ∀ j r, j < 8 → r < 6 → (if nI r < fj j then fm (6 * j + r) else 0) = M j r) (hV : ∀ j r, j < 8 → r < 6 → (if nI r < fj j then fw (6 * j + r) else 100) = V j r) (hT : ft 0 = 1 ∧ ft 1 = 3 ∧ ft 2 = 4 ∧ ft 3 = 6 ∧ ft 4 = 2 ∧ ft 5 = 5) (hn : n ≤ 8) : Met l yX1_turned wsX1_turned ({ frames := 4, cells := 0, slots := 0, locals := 90 }) (va_Pc [.ref h, .int k, .int w, .int x, .int v] (fun U => va_P (dC, dI) vwCl (wY h qb qj qm qw qt cA (nI n) rec lim fb fj fm fw ft) U.heap ∧ va_K (dC, dI) vwCl [(cA, .int)] U)) (QcRead (aTurned M V (nI n) k w x v)) 0 0 (fun _ => False) := by
  refine Met.ofW (cc := cX1_turned) (maxL := 7) (ret := (some .int)) (by decide) rfl ?_
  intro p e s m args below meth c s₁ B hml hv
  obtain ⟨rfl, hP, hK⟩ := hv
  have hx := B.exec
  have hb := B.bytes
  have hr := B.returns
  have hts := atoms_spec (ws := wsX1_turned) B.pre
  have hown : s.vm.findClass RX1 = some m.cls := findClass_of_methodNamed B.named
  have hlk := B.notSynchronized
  have hl := lv_entry ([.ref h, .int k, .int w, .int x, .int v]) (n := 7) (Nat.le_of_ble_eq_true rfl)
  rw [lg_entry_eq]
  generalize (lg_sl ([.ref h, .int k, .int w, .int x, .int v]) ++ List.replicate (7 - (lg_sl ([.ref h, .int k, .int w, .int x, .int v])).length) Slot.unset).toArray = ls at hl ⊢
  have hl : lv_has ls 7 [(0, .ref h), (1, .int k), (2, .int w), (3, .int x), (4, .int v)] := hl
  refine lv_aload_n hx hb dX1_turned_0 rfl (lv_at hl 0 rfl) ?_
  refine lv_iload_n hx hb dX1_turned_1 rfl (lv_at hl 1 rfl) ?_
  refine lv_iload_n hx hb dX1_turned_2 rfl (lv_at hl 2 rfl) ?_
  refine lv_iload_n hx hb dX1_turned_3 rfl (lv_at hl 3 rfl) ?_
  refine lv_iload hx hb dX1_turned_4 (lv_at hl 4 rfl) ?_
  refine q_cv [.int k, .int w, .int x, .int v] (rest := []) ⟨hx, hb, hml, hown, hts⟩ (mX1_isAskedOf l dC dI h qb qj qm qw qt cA n rec lim fb fj fm fw ft k w x v (by omega)) gX1_turned_X1_isAskedOf rfl rfl rfl hdX1_isAskedOf ⟨Nat.le_of_ble_eq_true rfl, Nat.le_of_ble_eq_true rfl⟩ rfl hK hP rfl rfl hl.1 rfl (Nat.le_of_ble_eq_true rfl) dX1_turned_6 ⟨Nat.zero_le _, Nat.zero_le _⟩ ?_
  refine lv_if_ne (tgt := 16) hx hb dX1_turned_9 (by decide) (fun c_1 => ?_) (fun c_1 => ?_)
  · skip
    have c_1 : (qst (nI n) k w x v) = true := b2i_n c_1
    obtain ⟨j, hj, rfl⟩ := jmp_of (qst_j c_1) hn
    obtain ⟨k6, hk6, rfl⟩ := hwo_of (qst_h c_1)
    refine lv_iconst (v := 0) hx hb dX1_turned_16 (by decide) ?_
    refine lv_istore (lv' := [(5, .int 0), (0, .ref h), (1, .int (nI k6)), (2, .int w), (3, .int (nI j)), (4, .int v)]) hx hb dX1_turned_17 hl (by decide) rfl (fun ls hl => ?_)
    refine lv_iconst (v := 0) hx hb dX1_turned_19 (by decide) ?_
    refine lv_istore (lv' := [(6, .int 0), (5, .int 0), (0, .ref h), (1, .int (nI k6)), (2, .int w), (3, .int (nI j)), (4, .int v)]) hx hb dX1_turned_20 hl (by decide) rfl (fun ls hl => ?_)
    refine q_lp (head := 22) (6) (fun i => [(0, .ref h), (1, .int (nI k6)), (2, .int w), (3, .int (nI j)), (4, .int v), (5, .int (nI (cntB (fun r => fitv (nI k6) w v (vlu M V w j r)) i))), (6, .int (nI i))]) (fun i => True) (0) (by omega) (trivial) (q_hl (lv_sub (l' := [(0, .ref h), (1, .int (nI k6)), (2, .int w), (3, .int (nI j)), (4, .int v), (5, .int 0), (6, .int 0)]) hl [2, 3, 4, 5, 6, 1, 0] rfl) (q_ck (q_ck (q_ck (q_ck (q_ck (q_ce (by rfl) (q_ce (by rfl) (rfl))))))))) ?_ ?_
    · intro i hi_i hI_i ih_i ls hl
      have hl : lv_has ls 7 [(0, .ref h), (1, .int (nI k6)), (2, .int w), (3, .int (nI j)), (4, .int v), (5, .int (nI (cntB (fun r => fitv (nI k6) w v (vlu M V w j r)) i))), (6, .int (nI i))] := hl
      refine lv_iload hx hb dX1_turned_22 (lv_at hl 6 rfl) ?_
      refine lv_bipush (v := 6) hx hb dX1_turned_24 (by decide) ?_
      refine lv_icmp_ge (tgt := 64) hx hb dX1_turned_26 (by decide) (fun c_2 => absurd c_2 (nI_ge (b := 6) hi_i (by decide))) (fun c_2 => ?_)
      refine lv_iload hx hb dX1_turned_29 (lv_at hl 5 rfl) ?_
      refine lv_aload_n hx hb dX1_turned_31 rfl (lv_at hl 0 rfl) ?_
      refine lv_iload_n hx hb dX1_turned_32 rfl (lv_at hl 1 rfl) ?_
      refine lv_iload_n hx hb dX1_turned_33 rfl (lv_at hl 2 rfl) ?_
      refine lv_iload hx hb dX1_turned_34 (lv_at hl 4 rfl) ?_
      refine lv_aload_n hx hb dX1_turned_36 rfl (lv_at hl 0 rfl) ?_
      refine lv_iload_n hx hb dX1_turned_37 rfl (lv_at hl 2 rfl) ?_
      refine lv_iload_n hx hb dX1_turned_38 rfl (lv_at hl 3 rfl) ?_
      refine lv_iload hx hb dX1_turned_39 (lv_at hl 6 rfl) ?_
      refine q_cv [.int w, .int (nI j), .int (nI i)] (rest := [.int v, .int w, .int (nI k6), .ref h, .int (nI (cntB (fun r => fitv (nI k6) w v (vlu M V w j r)) i))]) ⟨hx, hb, hml, hown, hts⟩ (mX1_code l dC dI h qb qj qm qw qt cA n rec lim fb fj fm fw ft M V w j i hM hV (by omega) (by omega)) gX1_turned_X1_code rfl rfl rfl hdX1_code ⟨Nat.le_of_ble_eq_true rfl, Nat.le_of_ble_eq_true rfl⟩ rfl hK hP rfl rfl hl.1 rfl (Nat.le_of_ble_eq_true rfl) dX1_turned_41 ⟨Nat.zero_le _, Nat.zero_le _⟩ ?_
      refine q_cv [.int (nI k6), .int w, .int v, .int (vlu M V w j i)] (rest := [.int (nI (cntB (fun r => fitv (nI k6) w v (vlu M V w j r)) i))]) ⟨hx, hb, hml, hown, hts⟩ (mX1_fit l dC dI h qb qj qm qw qt cA n rec lim fb fj fm fw ft k6 w v (vlu M V w j i) hT (by omega)) gX1_turned_X1_fit rfl rfl rfl hdX1_fit ⟨Nat.le_of_ble_eq_true rfl, Nat.le_of_ble_eq_true rfl⟩ rfl hK hP rfl rfl hl.1 rfl (Nat.le_of_ble_eq_true rfl) dX1_turned_44 ⟨Nat.zero_le _, Nat.zero_le _⟩ ?_
      refine lv_if_eq (tgt := 54) hx hb dX1_turned_47 (by decide) (fun c_3 => ?_) (fun c_3 => ?_)
      · skip
        have c_3 : (fitv (nI k6) w v (vlu M V w j i)) = false := b2i_0 c_3
        refine lv_iconst (v := 0) hx hb dX1_turned_54 (by decide) ?_
        refine lv_iadd hx hb dX1_turned_55 ?_
        refine lv_istore (lv' := [(5, .int ((nI (cntB (fun r => fitv (nI k6) w v (vlu M V w j r)) i)) + 0)), (0, .ref h), (1, .int (nI k6)), (2, .int w), (3, .int (nI j)), (4, .int v), (6, .int (nI i))]) hx hb dX1_turned_56 hl (by decide) rfl (fun ls hl => ?_)
        refine lv_iinc (v := (nI (i + 1))) (lv' := [(6, .int (nI (i + 1))), (5, .int ((nI (cntB (fun r => fitv (nI k6) w v (vlu M V w j r)) i)) + 0)), (0, .ref h), (1, .int (nI k6)), (2, .int w), (3, .int (nI j)), (4, .int v)]) hx hb dX1_turned_58 hl (k := 6) rfl (by exact nI_1 _) (by decide) rfl (fun ls hl => ?_)
        refine lv_goto (tgt := 22) hx hb dX1_turned_61 (by decide) ?_
        exact ih_i (by exact trivial) ls (q_hl (lv_sub (l' := [(0, .ref h), (1, .int (nI k6)), (2, .int w), (3, .int (nI j)), (4, .int v), (5, .int ((nI (cntB (fun r => fitv (nI k6) w v (vlu M V w j r)) i)) + 0)), (6, .int (nI (i + 1)))]) hl [2, 3, 4, 5, 6, 1, 0] rfl) (q_ck (q_ck (q_ck (q_ck (q_ck (q_ce (by simp [cntB, c_1, c_3, nI_1]) (q_ck (rfl)))))))))
      · skip
        have c_3 : (fitv (nI k6) w v (vlu M V w j i)) = true := b2i_n c_3
        refine lv_iconst (v := 1) hx hb dX1_turned_50 (by decide) ?_
        refine lv_goto (tgt := 55) hx hb dX1_turned_51 (by decide) ?_
        refine lv_iadd hx hb dX1_turned_55 ?_
        refine lv_istore (lv' := [(5, .int ((nI (cntB (fun r => fitv (nI k6) w v (vlu M V w j r)) i)) + 1)), (0, .ref h), (1, .int (nI k6)), (2, .int w), (3, .int (nI j)), (4, .int v), (6, .int (nI i))]) hx hb dX1_turned_56 hl (by decide) rfl (fun ls hl => ?_)
        refine lv_iinc (v := (nI (i + 1))) (lv' := [(6, .int (nI (i + 1))), (5, .int ((nI (cntB (fun r => fitv (nI k6) w v (vlu M V w j r)) i)) + 1)), (0, .ref h), (1, .int (nI k6)), (2, .int w), (3, .int (nI j)), (4, .int v)]) hx hb dX1_turned_58 hl (k := 6) rfl (by exact nI_1 _) (by decide) rfl (fun ls hl => ?_)
        refine lv_goto (tgt := 22) hx hb dX1_turned_61 (by decide) ?_
        exact ih_i (by exact trivial) ls (q_hl (lv_sub (l' := [(0, .ref h), (1, .int (nI k6)), (2, .int w), (3, .int (nI j)), (4, .int v), (5, .int ((nI (cntB (fun r => fitv (nI k6) w v (vlu M V w j r)) i)) + 1)), (6, .int (nI (i + 1)))]) hl [2, 3, 4, 5, 6, 1, 0] rfl) (q_ck (q_ck (q_ck (q_ck (q_ck (q_ce (by simp [cntB, c_1, c_3, nI_1]) (q_ck (rfl)))))))))
    · intro hI_i ls hl
      have hl : lv_has ls 7 [(0, .ref h), (1, .int (nI k6)), (2, .int w), (3, .int (nI j)), (4, .int v), (5, .int (nI (cntB (fun r => fitv (nI k6) w v (vlu M V w j r)) 6))), (6, .int (nI 6))] := hl
      refine lv_iload hx hb dX1_turned_22 (lv_at hl 6 rfl) ?_
      refine lv_bipush (v := 6) hx hb dX1_turned_24 (by decide) ?_
      refine lv_icmp_ge (tgt := 64) hx hb dX1_turned_26 (by decide) (fun c_4 => ?_) (fun c_4 => absurd (by decide) c_4)
      refine lv_iload hx hb dX1_turned_64 (lv_at hl 5 rfl) ?_
      exact q_ri hx hb hr hlk (by rw [aTurned, if_pos c_1, nI_clamp (by omega)]) dX1_turned_66
  · skip
    have c_1 : (qst (nI n) k w x v) = false := b2i_0 c_1
    refine lv_sipush (v := (-1000)) hx hb dX1_turned_12 (by decide) ?_
    exact q_ri hx hb hr hlk (by simp [aTurned, c_1]) dX1_turned_15

theorem hdX1_unfit : yX1_unfit.cls = RX1 ∧ yX1_unfit.cls ≠ "java/lang/invoke/MethodHandle" ∧ yX1_unfit.cls ≠ "java/lang/invoke/VarHandle" ∧ (parseMethodDescriptor yX1_unfit.desc).map (fun d => d.parameters.length) = some 5 := by decide +kernel
set_option maxHeartbeats 4000000 in
set_option maxRecDepth 100000 in
theorem mX1_unfit (l : Launch) (dC : Nat → ClassId) (dI : Nat → Nat → Nat) (h qb qj qm qw qt : Nat) (cA : ClassId) (n : Nat) (rec lim : Int32) (fb fj fm fw ft : Nat → Int32) (M : Nat → Nat → Int32) (V : Nat → Nat → Int32) (k : Nat) (w : Int32) (j : Nat) (f : Nat) (v : Int32) (hM : ∀ j r, j < 8 → r < 6 → (if nI r < fj j then fm (6 * j + r) else 0) = M j r) (hV : ∀ j r, j < 8 → r < 6 → (if nI r < fj j then fw (6 * j + r) else 100) = V j r) (hT : ft 0 = 1 ∧ ft 1 = 3 ∧ ft 2 = 4 ∧ ft 3 = 6 ∧ ft 4 = 2 ∧ ft 5 = 5) (hk : k < 6) (hj : j < 8) (hf6 : f < 6) : Met l yX1_unfit wsX1_unfit ({ frames := 2, cells := 0, slots := 0, locals := 45 }) (va_Pc [.ref h, .int (nI k), .int w, .int (nI j), .int (nI f), .int v] (fun U => va_P (dC, dI) vwCl (wY h qb qj qm qw qt cA (nI n) rec lim fb fj fm fw ft) U.heap ∧ va_K (dC, dI) vwCl [(cA, .int)] U)) (QcRead (nI (unfF (fun t => fitv (nI k) w (vlu M V w j t) v) (6 - f) f))) 0 0 (fun _ => False) := by
  refine Met.ofW (cc := cX1_unfit) (maxL := 7) (ret := (some .int)) (by decide) rfl ?_
  intro p e s m args below meth c s₁ B hml hv
  obtain ⟨rfl, hP, hK⟩ := hv
  have hx := B.exec
  have hb := B.bytes
  have hr := B.returns
  have hts := atoms_spec (ws := wsX1_unfit) B.pre
  have hown : s.vm.findClass RX1 = some m.cls := findClass_of_methodNamed B.named
  have hlk := B.notSynchronized
  have hl := lv_entry ([.ref h, .int (nI k), .int w, .int (nI j), .int (nI f), .int v]) (n := 7) (Nat.le_of_ble_eq_true rfl)
  rw [lg_entry_eq]
  generalize (lg_sl ([.ref h, .int (nI k), .int w, .int (nI j), .int (nI f), .int v]) ++ List.replicate (7 - (lg_sl ([.ref h, .int (nI k), .int w, .int (nI j), .int (nI f), .int v])).length) Slot.unset).toArray = ls at hl ⊢
  have hl : lv_has ls 7 [(0, .ref h), (1, .int (nI k)), (2, .int w), (3, .int (nI j)), (4, .int (nI f)), (5, .int v)] := hl
  refine lv_iload hx hb dX1_unfit_0 (lv_at hl 4 rfl) ?_
  refine lv_istore (lv' := [(6, .int (nI f)), (0, .ref h), (1, .int (nI k)), (2, .int w), (3, .int (nI j)), (4, .int (nI f)), (5, .int v)]) hx hb dX1_unfit_2 hl (by decide) rfl (fun ls hl => ?_)
  refine q_lp (head := 4) (6) (fun i => [(0, .ref h), (1, .int (nI k)), (2, .int w), (3, .int (nI j)), (4, .int (nI f)), (5, .int v), (6, .int (nI i))]) (fun i => f ≤ i ∧ unfF (fun t => fitv (nI k) w (vlu M V w j t) v) (6 - f) f = (i - f) + unfF (fun t => fitv (nI k) w (vlu M V w j t) v) (6 - i) i) (f) (by omega) (by constructor <;> simp) (lv_sub (l' := [(0, .ref h), (1, .int (nI k)), (2, .int w), (3, .int (nI j)), (4, .int (nI f)), (5, .int v), (6, .int (nI f))]) hl [1, 2, 3, 4, 5, 6, 0] rfl) ?_ ?_
  · intro i hi_i hI_i ih_i ls hl
    have hl : lv_has ls 7 [(0, .ref h), (1, .int (nI k)), (2, .int w), (3, .int (nI j)), (4, .int (nI f)), (5, .int v), (6, .int (nI i))] := hl
    refine lv_iload hx hb dX1_unfit_4 (lv_at hl 6 rfl) ?_
    refine lv_bipush (v := 6) hx hb dX1_unfit_6 (by decide) ?_
    refine lv_icmp_ge (tgt := 36) hx hb dX1_unfit_8 (by decide) (fun c_1 => absurd c_1 (nI_ge (b := 6) hi_i (by decide))) (fun c_1 => ?_)
    refine lv_aload_n hx hb dX1_unfit_11 rfl (lv_at hl 0 rfl) ?_
    refine lv_iload_n hx hb dX1_unfit_12 rfl (lv_at hl 1 rfl) ?_
    refine lv_iload_n hx hb dX1_unfit_13 rfl (lv_at hl 2 rfl) ?_
    refine lv_aload_n hx hb dX1_unfit_14 rfl (lv_at hl 0 rfl) ?_
    refine lv_iload_n hx hb dX1_unfit_15 rfl (lv_at hl 2 rfl) ?_
    refine lv_iload_n hx hb dX1_unfit_16 rfl (lv_at hl 3 rfl) ?_
    refine lv_iload hx hb dX1_unfit_17 (lv_at hl 6 rfl) ?_
    refine q_cv [.int w, .int (nI j), .int (nI i)] (rest := [.int w, .int (nI k), .ref h]) ⟨hx, hb, hml, hown, hts⟩ (mX1_code l dC dI h qb qj qm qw qt cA n rec lim fb fj fm fw ft M V w j i hM hV (by omega) (by omega)) gX1_unfit_X1_code rfl rfl rfl hdX1_code ⟨Nat.le_of_ble_eq_true rfl, Nat.le_of_ble_eq_true rfl⟩ rfl hK hP rfl rfl hl.1 rfl (Nat.le_of_ble_eq_true rfl) dX1_unfit_19 ⟨Nat.zero_le _, Nat.zero_le _⟩ ?_
    refine lv_iload hx hb dX1_unfit_22 (lv_at hl 5 rfl) ?_
    refine q_cv [.int (nI k), .int w, .int (vlu M V w j i), .int v] (rest := []) ⟨hx, hb, hml, hown, hts⟩ (mX1_fit l dC dI h qb qj qm qw qt cA n rec lim fb fj fm fw ft k w (vlu M V w j i) v hT (by omega)) gX1_unfit_X1_fit rfl rfl rfl hdX1_fit ⟨Nat.le_of_ble_eq_true rfl, Nat.le_of_ble_eq_true rfl⟩ rfl hK hP rfl rfl hl.1 rfl (Nat.le_of_ble_eq_true rfl) dX1_unfit_24 ⟨Nat.zero_le _, Nat.zero_le _⟩ ?_
    refine lv_if_ne (tgt := 36) hx hb dX1_unfit_27 (by decide) (fun c_2 => ?_) (fun c_2 => ?_)
    · skip
      have c_2 : (fitv (nI k) w (vlu M V w j i) v) = true := b2i_n c_2
      refine lv_iload hx hb dX1_unfit_36 (lv_at hl 6 rfl) ?_
      refine lv_iload hx hb dX1_unfit_38 (lv_at hl 4 rfl) ?_
      refine lv_isub hx hb dX1_unfit_40 ?_
      exact q_ri hx hb hr hlk (by first | exact unf_hit hi_i hI_i (by simp [c_2]) | exact unf_end hI_i) dX1_unfit_41
    · skip
      have c_2 : (fitv (nI k) w (vlu M V w j i) v) = false := b2i_0 c_2
      refine lv_iinc (v := (nI (i + 1))) (lv' := [(6, .int (nI (i + 1))), (0, .ref h), (1, .int (nI k)), (2, .int w), (3, .int (nI j)), (4, .int (nI f)), (5, .int v)]) hx hb dX1_unfit_30 hl (k := 6) rfl (by exact nI_1 _) (by decide) rfl (fun ls hl => ?_)
      refine lv_goto (tgt := 4) hx hb dX1_unfit_33 (by decide) ?_
      exact ih_i (by exact unf_step hi_i hI_i (by simp [c_2])) ls (lv_sub (l' := [(0, .ref h), (1, .int (nI k)), (2, .int w), (3, .int (nI j)), (4, .int (nI f)), (5, .int v), (6, .int (nI (i + 1)))]) hl [1, 2, 3, 4, 5, 6, 0] rfl)
  · intro hI_i ls hl
    have hl : lv_has ls 7 [(0, .ref h), (1, .int (nI k)), (2, .int w), (3, .int (nI j)), (4, .int (nI f)), (5, .int v), (6, .int (nI 6))] := hl
    refine lv_iload hx hb dX1_unfit_4 (lv_at hl 6 rfl) ?_
    refine lv_bipush (v := 6) hx hb dX1_unfit_6 (by decide) ?_
    refine lv_icmp_ge (tgt := 36) hx hb dX1_unfit_8 (by decide) (fun c_3 => ?_) (fun c_3 => absurd (by decide) c_3)
    refine lv_iload hx hb dX1_unfit_36 (lv_at hl 6 rfl) ?_
    refine lv_iload hx hb dX1_unfit_38 (lv_at hl 4 rfl) ?_
    refine lv_isub hx hb dX1_unfit_40 ?_
    exact q_ri hx hb hr hlk (by first | exact unf_hit hi_i hI_i (by simp []) | exact unf_end hI_i) dX1_unfit_41

theorem hdX1_longest : yX1_longest.cls = RX1 ∧ yX1_longest.cls ≠ "java/lang/invoke/MethodHandle" ∧ yX1_longest.cls ≠ "java/lang/invoke/VarHandle" ∧ (parseMethodDescriptor yX1_longest.desc).map (fun d => d.parameters.length) = some 4 := by decide +kernel
set_option maxHeartbeats 4000000 in
set_option maxRecDepth 100000 in
theorem mX1_longest (l : Launch) (dC : Nat → ClassId) (dI : Nat → Nat → Nat) (h qb qj qm qw qt : Nat) (cA : ClassId) (n : Nat) (rec lim : Int32) (fb fj fm fw ft : Nat → Int32) (M : Nat → Nat → Int32) (V : Nat → Nat → Int32) (k : Int32) (w : Int32) (x : Int32) (v : Int32) (hM : ∀ j r, j < 8 → r < 6 → (if nI r < fj j then fm (6 * j + r) else 0) = M j r) (hV : ∀ j r, j < 8 → r < 6 → (if nI r < fj j then fw (6 * j + r) else 100) = V j r) (hT : ft 0 = 1 ∧ ft 1 = 3 ∧ ft 2 = 4 ∧ ft 3 = 6 ∧ ft 4 = 2 ∧ ft 5 = 5) (hn : n ≤ 8) : Met l yX1_longest wsX1_longest ({ frames := 4, cells := 0, slots := 0, locals := 90 }) (va_Pc [.ref h, .int k, .int w, .int x, .int v] (fun U => va_P (dC, dI) vwCl (wY h qb qj qm qw qt cA (nI n) rec lim fb fj fm fw ft) U.heap ∧ va_K (dC, dI) vwCl [(cA, .int)] U)) (QcRead (aLongest M V (nI n) k w x v)) 0 0 (fun _ => False) := by
  refine Met.ofW (cc := cX1_longest) (maxL := 8) (ret := (some .int)) (by decide) rfl ?_
  intro p e s m args below meth c s₁ B hml hv
  obtain ⟨rfl, hP, hK⟩ := hv
  have hx := B.exec
  have hb := B.bytes
  have hr := B.returns
  have hts := atoms_spec (ws := wsX1_longest) B.pre
  have hown : s.vm.findClass RX1 = some m.cls := findClass_of_methodNamed B.named
  have hlk := B.notSynchronized
  have hl := lv_entry ([.ref h, .int k, .int w, .int x, .int v]) (n := 8) (Nat.le_of_ble_eq_true rfl)
  rw [lg_entry_eq]
  generalize (lg_sl ([.ref h, .int k, .int w, .int x, .int v]) ++ List.replicate (8 - (lg_sl ([.ref h, .int k, .int w, .int x, .int v])).length) Slot.unset).toArray = ls at hl ⊢
  have hl : lv_has ls 8 [(0, .ref h), (1, .int k), (2, .int w), (3, .int x), (4, .int v)] := hl
  refine lv_aload_n hx hb dX1_longest_0 rfl (lv_at hl 0 rfl) ?_
  refine lv_iload_n hx hb dX1_longest_1 rfl (lv_at hl 1 rfl) ?_
  refine lv_iload_n hx hb dX1_longest_2 rfl (lv_at hl 2 rfl) ?_
  refine lv_iload_n hx hb dX1_longest_3 rfl (lv_at hl 3 rfl) ?_
  refine lv_iload hx hb dX1_longest_4 (lv_at hl 4 rfl) ?_
  refine q_cv [.int k, .int w, .int x, .int v] (rest := []) ⟨hx, hb, hml, hown, hts⟩ (mX1_isAskedOf l dC dI h qb qj qm qw qt cA n rec lim fb fj fm fw ft k w x v (by omega)) gX1_longest_X1_isAskedOf rfl rfl rfl hdX1_isAskedOf ⟨Nat.le_of_ble_eq_true rfl, Nat.le_of_ble_eq_true rfl⟩ rfl hK hP rfl rfl hl.1 rfl (Nat.le_of_ble_eq_true rfl) dX1_longest_6 ⟨Nat.zero_le _, Nat.zero_le _⟩ ?_
  refine lv_if_ne (tgt := 16) hx hb dX1_longest_9 (by decide) (fun c_1 => ?_) (fun c_1 => ?_)
  · skip
    have c_1 : (qst (nI n) k w x v) = true := b2i_n c_1
    obtain ⟨j, hj, rfl⟩ := jmp_of (qst_j c_1) hn
    obtain ⟨k6, hk6, rfl⟩ := hwo_of (qst_h c_1)
    refine lv_iconst (v := 0) hx hb dX1_longest_16 (by decide) ?_
    refine lv_istore (lv' := [(5, .int 0), (0, .ref h), (1, .int (nI k6)), (2, .int w), (3, .int (nI j)), (4, .int v)]) hx hb dX1_longest_17 hl (by decide) rfl (fun ls hl => ?_)
    refine lv_iconst (v := 0) hx hb dX1_longest_19 (by decide) ?_
    refine lv_istore (lv' := [(6, .int 0), (5, .int 0), (0, .ref h), (1, .int (nI k6)), (2, .int w), (3, .int (nI j)), (4, .int v)]) hx hb dX1_longest_20 hl (by decide) rfl (fun ls hl => ?_)
    refine q_lp (head := 22) (6) (fun i => [(0, .ref h), (1, .int (nI k6)), (2, .int w), (3, .int (nI j)), (4, .int v), (5, .int (nI (mxU (fun t => fitv (nI k6) w (vlu M V w j t) v) i))), (6, .int (nI i))]) (fun i => True) (0) (by omega) (trivial) (q_hl (lv_sub (l' := [(0, .ref h), (1, .int (nI k6)), (2, .int w), (3, .int (nI j)), (4, .int v), (5, .int 0), (6, .int 0)]) hl [2, 3, 4, 5, 6, 1, 0] rfl) (q_ck (q_ck (q_ck (q_ck (q_ck (q_ce (by rfl) (q_ce (by rfl) (rfl))))))))) ?_ ?_
    · intro i hi_i hI_i ih_i ls hl
      have hl : lv_has ls 8 [(0, .ref h), (1, .int (nI k6)), (2, .int w), (3, .int (nI j)), (4, .int v), (5, .int (nI (mxU (fun t => fitv (nI k6) w (vlu M V w j t) v) i))), (6, .int (nI i))] := hl
      refine lv_iload hx hb dX1_longest_22 (lv_at hl 6 rfl) ?_
      refine lv_bipush (v := 6) hx hb dX1_longest_24 (by decide) ?_
      refine lv_icmp_ge (tgt := 64) hx hb dX1_longest_26 (by decide) (fun c_2 => absurd c_2 (nI_ge (b := 6) hi_i (by decide))) (fun c_2 => ?_)
      refine lv_aload_n hx hb dX1_longest_29 rfl (lv_at hl 0 rfl) ?_
      refine lv_iload_n hx hb dX1_longest_30 rfl (lv_at hl 1 rfl) ?_
      refine lv_iload_n hx hb dX1_longest_31 rfl (lv_at hl 2 rfl) ?_
      refine lv_iload_n hx hb dX1_longest_32 rfl (lv_at hl 3 rfl) ?_
      refine lv_iload hx hb dX1_longest_33 (lv_at hl 6 rfl) ?_
      refine lv_iload hx hb dX1_longest_35 (lv_at hl 4 rfl) ?_
      refine q_cv [.int (nI k6), .int w, .int (nI j), .int (nI i), .int v] (rest := []) ⟨hx, hb, hml, hown, hts⟩ (mX1_unfit l dC dI h qb qj qm qw qt cA n rec lim fb fj fm fw ft M V k6 w j i v hM hV hT (by omega) (by omega) (by omega)) gX1_longest_X1_unfit rfl rfl rfl hdX1_unfit ⟨Nat.le_of_ble_eq_true rfl, Nat.le_of_ble_eq_true rfl⟩ rfl hK hP rfl rfl hl.1 rfl (Nat.le_of_ble_eq_true rfl) dX1_longest_37 ⟨Nat.zero_le _, Nat.zero_le _⟩ ?_
      refine lv_istore (lv' := [(7, .int (nI (unfF (fun t => fitv (nI k6) w (vlu M V w j t) v) (6 - i) i))), (0, .ref h), (1, .int (nI k6)), (2, .int w), (3, .int (nI j)), (4, .int v), (5, .int (nI (mxU (fun t => fitv (nI k6) w (vlu M V w j t) v) i))), (6, .int (nI i))]) hx hb dX1_longest_40 hl (by decide) rfl (fun ls hl => ?_)
      refine lv_iload hx hb dX1_longest_42 (lv_at hl 0 rfl) ?_
      refine lv_iload hx hb dX1_longest_44 (lv_at hl 6 rfl) ?_
      refine q_jn (pj := 56) (v := nI (mxU (fun t => fitv (nI k6) w (vlu M V w j t) v) (i + 1))) (rest := []) ?_ (fun J => ?_)
      rotate_left
      · skip
        refine lv_icmp_le (tgt := 54) hx hb dX1_longest_46 (by decide) (fun c_3 => ?_) (fun c_3 => ?_)
        · skip
          refine lv_iload hx hb dX1_longest_54 (lv_at hl 6 rfl) ?_
          exact q_top (by first | exact mxU_le hi_i c_3 | exact mxU_gt hi_i c_3) J
        · skip
          refine lv_iload hx hb dX1_longest_49 (lv_at hl 0 rfl) ?_
          refine lv_goto (tgt := 56) hx hb dX1_longest_51 (by decide) ?_
          exact q_top (by first | exact mxU_le hi_i c_3 | exact mxU_gt hi_i c_3) J
      refine lv_istore (lv' := [(5, .int (nI (mxU (fun t => fitv (nI k6) w (vlu M V w j t) v) (i + 1)))), (7, .int (nI (unfF (fun t => fitv (nI k6) w (vlu M V w j t) v) (6 - i) i))), (0, .ref h), (1, .int (nI k6)), (2, .int w), (3, .int (nI j)), (4, .int v), (6, .int (nI i))]) hx hb dX1_longest_56 hl (by decide) rfl (fun ls hl => ?_)
      refine lv_iinc (v := (nI (i + 1))) (lv' := [(6, .int (nI (i + 1))), (5, .int (nI (mxU (fun t => fitv (nI k6) w (vlu M V w j t) v) (i + 1)))), (7, .int (nI (unfF (fun t => fitv (nI k6) w (vlu M V w j t) v) (6 - i) i))), (0, .ref h), (1, .int (nI k6)), (2, .int w), (3, .int (nI j)), (4, .int v)]) hx hb dX1_longest_58 hl (k := 7) rfl (by exact nI_1 _) (by decide) rfl (fun ls hl => ?_)
      refine lv_goto (tgt := 22) hx hb dX1_longest_61 (by decide) ?_
      exact ih_i (by exact trivial) ls (lv_sub (l' := [(0, .ref h), (1, .int (nI k6)), (2, .int w), (3, .int (nI j)), (4, .int v), (5, .int (nI (mxU (fun t => fitv (nI k6) w (vlu M V w j t) v) (i + 1)))), (6, .int (nI (i + 1)))]) hl [3, 4, 5, 6, 7, 1, 0] rfl)
    · intro hI_i ls hl
      have hl : lv_has ls 8 [(0, .ref h), (1, .int (nI k6)), (2, .int w), (3, .int (nI j)), (4, .int v), (5, .int (nI (mxU (fun t => fitv (nI k6) w (vlu M V w j t) v) 6))), (6, .int (nI 6))] := hl
      refine lv_iload hx hb dX1_longest_22 (lv_at hl 6 rfl) ?_
      refine lv_bipush (v := 6) hx hb dX1_longest_24 (by decide) ?_
      refine lv_icmp_ge (tgt := 64) hx hb dX1_longest_26 (by decide) (fun c_4 => ?_) (fun c_4 => absurd (by decide) c_4)
      refine lv_iload hx hb dX1_longest_64 (lv_at hl 5 rfl) ?_
      exact q_ri hx hb hr hlk (by rw [aLongest, if_pos c_1, nI_clamp (by omega), ← mx_most]) dX1_longest_66
  · skip
    have c_1 : (qst (nI n) k w x v) = false := b2i_0 c_1
    refine lv_sipush (v := (-1000)) hx hb dX1_longest_12 (by decide) ?_
    exact q_ri hx hb hr hlk (by simp [aLongest, c_1]) dX1_longest_15

theorem hdX1_skip : yX1_skip.cls = RX1 ∧ yX1_skip.cls ≠ "java/lang/invoke/MethodHandle" ∧ yX1_skip.cls ≠ "java/lang/invoke/VarHandle" ∧ (parseMethodDescriptor yX1_skip.desc).map (fun d => d.parameters.length) = some 5 := by decide +kernel
set_option maxHeartbeats 4000000 in
set_option maxRecDepth 100000 in
theorem mX1_skip (l : Launch) (dC : Nat → ClassId) (dI : Nat → Nat → Nat) (h qb qj qm qw qt : Nat) (cA : ClassId) (n : Nat) (rec lim : Int32) (fb fj fm fw ft : Nat → Int32) (M : Nat → Nat → Int32) (V : Nat → Nat → Int32) (k : Int32) (w : Int32) (x : Int32) (f : Int32) (v : Int32) (hM : ∀ j r, j < 8 → r < 6 → (if nI r < fj j then fm (6 * j + r) else 0) = M j r) (hV : ∀ j r, j < 8 → r < 6 → (if nI r < fj j then fw (6 * j + r) else 100) = V j r) (hT : ft 0 = 1 ∧ ft 1 = 3 ∧ ft 2 = 4 ∧ ft 3 = 6 ∧ ft 4 = 2 ∧ ft 5 = 5) (hn : n ≤ 8) : Met l yX1_skip wsX1_skip ({ frames := 4, cells := 0, slots := 0, locals := 90 }) (va_Pc [.ref h, .int k, .int w, .int x, .int f, .int v] (fun U => va_P (dC, dI) vwCl (wY h qb qj qm qw qt cA (nI n) rec lim fb fj fm fw ft) U.heap ∧ va_K (dC, dI) vwCl [(cA, .int)] U)) (QcRead (aSkip M V (nI n) k w x f v)) 0 0 (fun _ => False) := by
  refine Met.ofW (cc := cX1_skip) (maxL := 8) (ret := (some .int)) (by decide) rfl ?_
  intro p e s m args below meth c s₁ B hml hv
  obtain ⟨rfl, hP, hK⟩ := hv
  have hx := B.exec
  have hb := B.bytes
  have hr := B.returns
  have hts := atoms_spec (ws := wsX1_skip) B.pre
  have hown : s.vm.findClass RX1 = some m.cls := findClass_of_methodNamed B.named
  have hlk := B.notSynchronized
  have hl := lv_entry ([.ref h, .int k, .int w, .int x, .int f, .int v]) (n := 8) (Nat.le_of_ble_eq_true rfl)
  rw [lg_entry_eq]
  generalize (lg_sl ([.ref h, .int k, .int w, .int x, .int f, .int v]) ++ List.replicate (8 - (lg_sl ([.ref h, .int k, .int w, .int x, .int f, .int v])).length) Slot.unset).toArray = ls at hl ⊢
  have hl : lv_has ls 8 [(0, .ref h), (1, .int k), (2, .int w), (3, .int x), (4, .int f), (5, .int v)] := hl
  refine lv_aload_n hx hb dX1_skip_0 rfl (lv_at hl 0 rfl) ?_
  refine lv_iload_n hx hb dX1_skip_1 rfl (lv_at hl 1 rfl) ?_
  refine lv_iload_n hx hb dX1_skip_2 rfl (lv_at hl 2 rfl) ?_
  refine lv_iload_n hx hb dX1_skip_3 rfl (lv_at hl 3 rfl) ?_
  refine lv_iload hx hb dX1_skip_4 (lv_at hl 5 rfl) ?_
  refine q_cv [.int k, .int w, .int x, .int v] (rest := []) ⟨hx, hb, hml, hown, hts⟩ (mX1_isAskedOf l dC dI h qb qj qm qw qt cA n rec lim fb fj fm fw ft k w x v (by omega)) gX1_skip_X1_isAskedOf rfl rfl rfl hdX1_isAskedOf ⟨Nat.le_of_ble_eq_true rfl, Nat.le_of_ble_eq_true rfl⟩ rfl hK hP rfl rfl hl.1 rfl (Nat.le_of_ble_eq_true rfl) dX1_skip_6 ⟨Nat.zero_le _, Nat.zero_le _⟩ ?_
  refine lv_if_eq (tgt := 20) hx hb dX1_skip_9 (by decide) (fun c_1 => ?_) (fun c_1 => ?_)
  · skip
    have c_1 : (qst (nI n) k w x v) = false := b2i_0 c_1
    refine lv_sipush (v := (-1000)) hx hb dX1_skip_20 (by decide) ?_
    exact q_ri hx hb hr hlk (by simp [aSkip, c_1]) dX1_skip_23
  · skip
    have c_1 : (qst (nI n) k w x v) = true := b2i_n c_1
    refine lv_iload hx hb dX1_skip_12 (lv_at hl 4 rfl) ?_
    refine q_cs [.int f] (rest := []) ⟨hx, hb, hml, hown, hts⟩ (mX1_isRound l f) gX1_skip_X1_isRound rfl rfl rfl hdX1_isRound ⟨Nat.le_of_ble_eq_true rfl, Nat.le_of_ble_eq_true rfl⟩ rfl hl.1 rfl (Nat.le_of_ble_eq_true rfl) dX1_skip_14 ⟨Nat.zero_le _, Nat.zero_le _⟩ ?_
    refine lv_if_ne (tgt := 24) hx hb dX1_skip_17 (by decide) (fun c_2 => ?_) (fun c_2 => ?_)
    · skip
      have c_2 : (rnd f) = true := b2i_n c_2
      obtain ⟨j, hj, rfl⟩ := jmp_of (qst_j c_1) hn
      obtain ⟨k6, hk6, rfl⟩ := hwo_of (qst_h c_1)
      obtain ⟨f6, hf6, rfl⟩ := rnd_of c_2
      refine lv_bipush (v := 6) hx hb dX1_skip_24 (by decide) ?_
      refine lv_istore (lv' := [(6, .int 6), (0, .ref h), (1, .int (nI k6)), (2, .int w), (3, .int (nI j)), (4, .int (nI f6)), (5, .int v)]) hx hb dX1_skip_26 hl (by decide) rfl (fun ls hl => ?_)
      refine lv_iconst (v := 5) hx hb dX1_skip_28 (by decide) ?_
      refine lv_istore (lv' := [(7, .int 5), (6, .int 6), (0, .ref h), (1, .int (nI k6)), (2, .int w), (3, .int (nI j)), (4, .int (nI f6)), (5, .int v)]) hx hb dX1_skip_29 hl (by decide) rfl (fun ls hl => ?_)
      refine q_lp (head := 31) (6 - f6) (fun i => [(0, .ref h), (1, .int (nI k6)), (2, .int w), (3, .int (nI j)), (4, .int (nI f6)), (5, .int v), (6, .int (nI (skpF (fun t => fitv (nI k6) w (vlu M V w j t) v) i (6 - i)))), (7, .int (nI (6 - i) + (-1)))]) (fun i => True) (0) (by omega) (trivial) (q_hl (lv_sub (l' := [(0, .ref h), (1, .int (nI k6)), (2, .int w), (3, .int (nI j)), (4, .int (nI f6)), (5, .int v), (6, .int 6), (7, .int 5)]) hl [2, 3, 4, 5, 6, 7, 1, 0] rfl) (q_ck (q_ck (q_ck (q_ck (q_ck (q_ck (q_ce (by rfl) (q_ce (by decide) (rfl)))))))))) ?_ ?_
      · intro i hi_i hI_i ih_i ls hl
        have hl : lv_has ls 8 [(0, .ref h), (1, .int (nI k6)), (2, .int w), (3, .int (nI j)), (4, .int (nI f6)), (5, .int v), (6, .int (nI (skpF (fun t => fitv (nI k6) w (vlu M V w j t) v) i (6 - i)))), (7, .int (nI (6 - i) + (-1)))] := hl
        refine lv_iload hx hb dX1_skip_31 (lv_at hl 7 rfl) ?_
        refine lv_iload hx hb dX1_skip_33 (lv_at hl 4 rfl) ?_
        refine lv_icmp_lt (tgt := 72) hx hb dX1_skip_35 (by decide) (fun c_3 => absurd c_3 (by rw [sb_m1 (by omega)]; exact nI_nlt (by omega) (by omega))) (fun c_3 => ?_)
        have e7 : nI (6 - i) + (-1) = nI (6 - i - 1) := sb_m1 (by omega)
        rw [e7] at hl
        refine lv_aload_n hx hb dX1_skip_38 rfl (lv_at hl 0 rfl) ?_
        refine lv_iload_n hx hb dX1_skip_39 rfl (lv_at hl 1 rfl) ?_
        refine lv_iload_n hx hb dX1_skip_40 rfl (lv_at hl 2 rfl) ?_
        refine lv_aload_n hx hb dX1_skip_41 rfl (lv_at hl 0 rfl) ?_
        refine lv_iload_n hx hb dX1_skip_42 rfl (lv_at hl 2 rfl) ?_
        refine lv_iload_n hx hb dX1_skip_43 rfl (lv_at hl 3 rfl) ?_
        refine lv_iload hx hb dX1_skip_44 (lv_at hl 7 rfl) ?_
        refine q_cv [.int w, .int (nI j), .int (nI (6 - i - 1))] (rest := [.int w, .int (nI k6), .ref h]) ⟨hx, hb, hml, hown, hts⟩ (mX1_code l dC dI h qb qj qm qw qt cA n rec lim fb fj fm fw ft M V w j (6 - i - 1) hM hV (by omega) (by omega)) gX1_skip_X1_code rfl rfl rfl hdX1_code ⟨Nat.le_of_ble_eq_true rfl, Nat.le_of_ble_eq_true rfl⟩ rfl hK hP rfl rfl hl.1 rfl (Nat.le_of_ble_eq_true rfl) dX1_skip_46 ⟨Nat.zero_le _, Nat.zero_le _⟩ ?_
        refine lv_iload hx hb dX1_skip_49 (lv_at hl 5 rfl) ?_
        refine q_cv [.int (nI k6), .int w, .int (vlu M V w j (6 - i - 1)), .int v] (rest := []) ⟨hx, hb, hml, hown, hts⟩ (mX1_fit l dC dI h qb qj qm qw qt cA n rec lim fb fj fm fw ft k6 w (vlu M V w j (6 - i - 1)) v hT (by omega)) gX1_skip_X1_fit rfl rfl rfl hdX1_fit ⟨Nat.le_of_ble_eq_true rfl, Nat.le_of_ble_eq_true rfl⟩ rfl hK hP rfl rfl hl.1 rfl (Nat.le_of_ble_eq_true rfl) dX1_skip_51 ⟨Nat.zero_le _, Nat.zero_le _⟩ ?_
        refine lv_if_eq (tgt := 62) hx hb dX1_skip_54 (by decide) (fun c_4 => ?_) (fun c_4 => ?_)
        · skip
          have c_4 : (fitv (nI k6) w (vlu M V w j (6 - i - 1)) v) = false := b2i_0 c_4
          refine lv_iload hx hb dX1_skip_62 (lv_at hl 7 rfl) ?_
          refine lv_istore (lv' := [(6, .int (nI (6 - i - 1))), (0, .ref h), (1, .int (nI k6)), (2, .int w), (3, .int (nI j)), (4, .int (nI f6)), (5, .int v), (7, .int (nI (6 - i - 1)))]) hx hb dX1_skip_64 hl (by decide) rfl (fun ls hl => ?_)
          refine lv_iinc (v := ((nI (6 - i - 1)) + (-1))) (lv' := [(7, .int ((nI (6 - i - 1)) + (-1))), (6, .int (nI (6 - i - 1))), (0, .ref h), (1, .int (nI k6)), (2, .int w), (3, .int (nI j)), (4, .int (nI f6)), (5, .int v)]) hx hb dX1_skip_66 hl (k := 7) rfl (by rfl) (by decide) rfl (fun ls hl => ?_)
          refine lv_goto (tgt := 31) hx hb dX1_skip_69 (by decide) ?_
          exact ih_i (by exact trivial) ls (q_hl (lv_sub (l' := [(0, .ref h), (1, .int (nI k6)), (2, .int w), (3, .int (nI j)), (4, .int (nI f6)), (5, .int v), (6, .int (nI (6 - i - 1))), (7, .int ((nI (6 - i - 1)) + (-1)))]) hl [2, 3, 4, 5, 6, 7, 1, 0] rfl) (q_ck (q_ck (q_ck (q_ck (q_ck (q_ck (q_ce (by rw [show 6 - (i + 1) = 6 - i - 1 from rfl, skpF, show 6 - i - 1 + 1 = 6 - i by omega]; simp [c_1, c_2, c_4]) (q_ce (by rfl) (rfl))))))))))
        · skip
          have c_4 : (fitv (nI k6) w (vlu M V w j (6 - i - 1)) v) = true := b2i_n c_4
          refine lv_iload hx hb dX1_skip_57 (lv_at hl 6 rfl) ?_
          refine lv_goto (tgt := 64) hx hb dX1_skip_59 (by decide) ?_
          refine lv_istore (lv' := [(6, .int (nI (skpF (fun t => fitv (nI k6) w (vlu M V w j t) v) i (6 - i)))), (0, .ref h), (1, .int (nI k6)), (2, .int w), (3, .int (nI j)), (4, .int (nI f6)), (5, .int v), (7, .int (nI (6 - i - 1)))]) hx hb dX1_skip_64 hl (by decide) rfl (fun ls hl => ?_)
          refine lv_iinc (v := ((nI (6 - i - 1)) + (-1))) (lv' := [(7, .int ((nI (6 - i - 1)) + (-1))), (6, .int (nI (skpF (fun t => fitv (nI k6) w (vlu M V w j t) v) i (6 - i)))), (0, .ref h), (1, .int (nI k6)), (2, .int w), (3, .int (nI j)), (4, .int (nI f6)), (5, .int v)]) hx hb dX1_skip_66 hl (k := 7) rfl (by rfl) (by decide) rfl (fun ls hl => ?_)
          refine lv_goto (tgt := 31) hx hb dX1_skip_69 (by decide) ?_
          exact ih_i (by exact trivial) ls (q_hl (lv_sub (l' := [(0, .ref h), (1, .int (nI k6)), (2, .int w), (3, .int (nI j)), (4, .int (nI f6)), (5, .int v), (6, .int (nI (skpF (fun t => fitv (nI k6) w (vlu M V w j t) v) i (6 - i)))), (7, .int ((nI (6 - i - 1)) + (-1)))]) hl [2, 3, 4, 5, 6, 7, 1, 0] rfl) (q_ck (q_ck (q_ck (q_ck (q_ck (q_ck (q_ce (by rw [show 6 - (i + 1) = 6 - i - 1 from rfl, skpF, show 6 - i - 1 + 1 = 6 - i by omega]; simp [c_1, c_2, c_4]) (q_ce (by rfl) (rfl))))))))))
      · intro hI_i ls hl
        have hl : lv_has ls 8 [(0, .ref h), (1, .int (nI k6)), (2, .int w), (3, .int (nI j)), (4, .int (nI f6)), (5, .int v), (6, .int (nI (skpF (fun t => fitv (nI k6) w (vlu M V w j t) v) (6 - f6) (6 - (6 - f6))))), (7, .int (nI (6 - (6 - f6)) + (-1)))] := hl
        refine lv_iload hx hb dX1_skip_31 (lv_at hl 7 rfl) ?_
        refine lv_iload hx hb dX1_skip_33 (lv_at hl 4 rfl) ?_
        refine lv_icmp_lt (tgt := 72) hx hb dX1_skip_35 (by decide) (fun c_5 => ?_) (fun c_5 => absurd (pm1_lt hf6) c_5)
        refine lv_iload hx hb dX1_skip_72 (lv_at hl 6 rfl) ?_
        exact q_ri hx hb hr hlk (by rw [aSkip, if_pos (by simp [c_1, c_2]), nI_clamp (by omega), nI_clamp (by omega), show 6 - (6 - f6) = f6 by omega]) dX1_skip_74
    · skip
      have c_2 : (rnd f) = false := b2i_0 c_2
      refine lv_sipush (v := (-1000)) hx hb dX1_skip_20 (by decide) ?_
      exact q_ri hx hb hr hlk (by simp [aSkip, c_1, c_2]) dX1_skip_23

theorem hdX1_pick : yX1_pick.cls = RX1 ∧ yX1_pick.cls ≠ "java/lang/invoke/MethodHandle" ∧ yX1_pick.cls ≠ "java/lang/invoke/VarHandle" ∧ (parseMethodDescriptor yX1_pick.desc).map (fun d => d.parameters.length) = some 4 := by decide +kernel
set_option maxHeartbeats 4000000 in
set_option maxRecDepth 100000 in
theorem mX1_pick (l : Launch) (dC : Nat → ClassId) (dI : Nat → Nat → Nat) (h qb qj qm qw qt : Nat) (cA : ClassId) (n : Nat) (rec lim : Int32) (fb fj fm fw ft : Nat → Int32) (M : Nat → Nat → Int32) (V : Nat → Nat → Int32) (k : Int32) (w : Int32) (x : Int32) (v : Int32) (hM : ∀ j r, j < 8 → r < 6 → (if nI r < fj j then fm (6 * j + r) else 0) = M j r) (hV : ∀ j r, j < 8 → r < 6 → (if nI r < fj j then fw (6 * j + r) else 100) = V j r) (hT : ft 0 = 1 ∧ ft 1 = 3 ∧ ft 2 = 4 ∧ ft 3 = 6 ∧ ft 4 = 2 ∧ ft 5 = 5) (hn : n ≤ 8) : Met l yX1_pick wsX1_pick ({ frames := 4, cells := 0, slots := 0, locals := 90 }) (va_Pc [.ref h, .int k, .int w, .int x, .int v] (fun U => va_P (dC, dI) vwCl (wY h qb qj qm qw qt cA (nI n) rec lim fb fj fm fw ft) U.heap ∧ va_K (dC, dI) vwCl [(cA, .int)] U)) (QcRead (aPick M V (nI n) k w x v)) 0 0 (fun _ => False) := by
  refine Met.ofW (cc := cX1_pick) (maxL := 8) (ret := (some .int)) (by decide) rfl ?_
  intro p e s m args below meth c s₁ B hml hv
  obtain ⟨rfl, hP, hK⟩ := hv
  have hx := B.exec
  have hb := B.bytes
  have hr := B.returns
  have hts := atoms_spec (ws := wsX1_pick) B.pre
  have hown : s.vm.findClass RX1 = some m.cls := findClass_of_methodNamed B.named
  have hlk := B.notSynchronized
  have hl := lv_entry ([.ref h, .int k, .int w, .int x, .int v]) (n := 8) (Nat.le_of_ble_eq_true rfl)
  rw [lg_entry_eq]
  generalize (lg_sl ([.ref h, .int k, .int w, .int x, .int v]) ++ List.replicate (8 - (lg_sl ([.ref h, .int k, .int w, .int x, .int v])).length) Slot.unset).toArray = ls at hl ⊢
  have hl : lv_has ls 8 [(0, .ref h), (1, .int k), (2, .int w), (3, .int x), (4, .int v)] := hl
  refine lv_aload_n hx hb dX1_pick_0 rfl (lv_at hl 0 rfl) ?_
  refine lv_iload_n hx hb dX1_pick_1 rfl (lv_at hl 1 rfl) ?_
  refine lv_iload_n hx hb dX1_pick_2 rfl (lv_at hl 2 rfl) ?_
  refine lv_iload_n hx hb dX1_pick_3 rfl (lv_at hl 3 rfl) ?_
  refine lv_iload hx hb dX1_pick_4 (lv_at hl 4 rfl) ?_
  refine q_cv [.int k, .int w, .int x, .int v] (rest := []) ⟨hx, hb, hml, hown, hts⟩ (mX1_isAskedOf l dC dI h qb qj qm qw qt cA n rec lim fb fj fm fw ft k w x v (by omega)) gX1_pick_X1_isAskedOf rfl rfl rfl hdX1_isAskedOf ⟨Nat.le_of_ble_eq_true rfl, Nat.le_of_ble_eq_true rfl⟩ rfl hK hP rfl rfl hl.1 rfl (Nat.le_of_ble_eq_true rfl) dX1_pick_6 ⟨Nat.zero_le _, Nat.zero_le _⟩ ?_
  refine lv_if_ne (tgt := 16) hx hb dX1_pick_9 (by decide) (fun c_1 => ?_) (fun c_1 => ?_)
  · skip
    have c_1 : (qst (nI n) k w x v) = true := b2i_n c_1
    obtain ⟨j, hj, rfl⟩ := jmp_of (qst_j c_1) hn
    obtain ⟨k6, hk6, rfl⟩ := hwo_of (qst_h c_1)
    refine lv_iload hx hb dX1_pick_16 (lv_at hl 4 rfl) ?_
    refine lv_istore (lv' := [(5, .int v), (0, .ref h), (1, .int (nI k6)), (2, .int w), (3, .int (nI j)), (4, .int v)]) hx hb dX1_pick_18 hl (by decide) rfl (fun ls hl => ?_)
    refine lv_iconst (v := 0) hx hb dX1_pick_20 (by decide) ?_
    refine lv_istore (lv' := [(6, .int 0), (5, .int v), (0, .ref h), (1, .int (nI k6)), (2, .int w), (3, .int (nI j)), (4, .int v)]) hx hb dX1_pick_21 hl (by decide) rfl (fun ls hl => ?_)
    refine q_lp (head := 23) (6) (fun i => [(0, .ref h), (1, .int (nI k6)), (2, .int w), (3, .int (nI j)), (4, .int v), (5, .int (pckF (nI k6) w (vlu M V w j) v i)), (6, .int (nI i))]) (fun i => True) (0) (by omega) (trivial) (q_hl (lv_sub (l' := [(0, .ref h), (1, .int (nI k6)), (2, .int w), (3, .int (nI j)), (4, .int v), (5, .int v), (6, .int 0)]) hl [2, 3, 4, 5, 6, 1, 0] rfl) (q_ck (q_ck (q_ck (q_ck (q_ck (q_ce (by rfl) (q_ce (by rfl) (rfl))))))))) ?_ ?_
    · intro i hi_i hI_i ih_i ls hl
      have hl : lv_has ls 8 [(0, .ref h), (1, .int (nI k6)), (2, .int w), (3, .int (nI j)), (4, .int v), (5, .int (pckF (nI k6) w (vlu M V w j) v i)), (6, .int (nI i))] := hl
      refine lv_iload hx hb dX1_pick_23 (lv_at hl 6 rfl) ?_
      refine lv_bipush (v := 6) hx hb dX1_pick_25 (by decide) ?_
      refine lv_icmp_ge (tgt := 68) hx hb dX1_pick_27 (by decide) (fun c_2 => absurd c_2 (nI_ge (b := 6) hi_i (by decide))) (fun c_2 => ?_)
      refine lv_aload_n hx hb dX1_pick_30 rfl (lv_at hl 0 rfl) ?_
      refine lv_iload_n hx hb dX1_pick_31 rfl (lv_at hl 2 rfl) ?_
      refine lv_iload_n hx hb dX1_pick_32 rfl (lv_at hl 3 rfl) ?_
      refine lv_iload hx hb dX1_pick_33 (lv_at hl 6 rfl) ?_
      refine q_cv [.int w, .int (nI j), .int (nI i)] (rest := []) ⟨hx, hb, hml, hown, hts⟩ (mX1_code l dC dI h qb qj qm qw qt cA n rec lim fb fj fm fw ft M V w j i hM hV (by omega) (by omega)) gX1_pick_X1_code rfl rfl rfl hdX1_code ⟨Nat.le_of_ble_eq_true rfl, Nat.le_of_ble_eq_true rfl⟩ rfl hK hP rfl rfl hl.1 rfl (Nat.le_of_ble_eq_true rfl) dX1_pick_35 ⟨Nat.zero_le _, Nat.zero_le _⟩ ?_
      refine lv_istore (lv' := [(7, .int (vlu M V w j i)), (0, .ref h), (1, .int (nI k6)), (2, .int w), (3, .int (nI j)), (4, .int v), (5, .int (pckF (nI k6) w (vlu M V w j) v i)), (6, .int (nI i))]) hx hb dX1_pick_38 hl (by decide) rfl (fun ls hl => ?_)
      refine lv_aload_n hx hb dX1_pick_40 rfl (lv_at hl 1 rfl) ?_
      refine lv_iload_n hx hb dX1_pick_41 rfl (lv_at hl 2 rfl) ?_
      refine lv_iload_n hx hb dX1_pick_42 rfl (lv_at hl 3 rfl) ?_
      refine lv_iload hx hb dX1_pick_43 (lv_at hl 0 rfl) ?_
      refine lv_iload hx hb dX1_pick_45 (lv_at hl 6 rfl) ?_
      refine q_cv [.int (nI k6), .int w, .int (vlu M V w j i), .int (pckF (nI k6) w (vlu M V w j) v i)] (rest := []) ⟨hx, hb, hml, hown, hts⟩ (mX1_fit l dC dI h qb qj qm qw qt cA n rec lim fb fj fm fw ft k6 w (vlu M V w j i) (pckF (nI k6) w (vlu M V w j) v i) hT (by omega)) gX1_pick_X1_fit rfl rfl rfl hdX1_fit ⟨Nat.le_of_ble_eq_true rfl, Nat.le_of_ble_eq_true rfl⟩ rfl hK hP rfl rfl hl.1 rfl (Nat.le_of_ble_eq_true rfl) dX1_pick_47 ⟨Nat.zero_le _, Nat.zero_le _⟩ ?_
      refine lv_if_eq (tgt := 58) hx hb dX1_pick_50 (by decide) (fun c_3 => ?_) (fun c_3 => ?_)
      · skip
        have c_3 : (fitv (nI k6) w (vlu M V w j i) (pckF (nI k6) w (vlu M V w j) v i)) = false := b2i_0 c_3
        refine lv_iload hx hb dX1_pick_58 (lv_at hl 6 rfl) ?_
        refine lv_istore (lv' := [(5, .int (pckF (nI k6) w (vlu M V w j) v i)), (7, .int (vlu M V w j i)), (0, .ref h), (1, .int (nI k6)), (2, .int w), (3, .int (nI j)), (4, .int v), (6, .int (nI i))]) hx hb dX1_pick_60 hl (by decide) rfl (fun ls hl => ?_)
        refine lv_iinc (v := (nI (i + 1))) (lv' := [(6, .int (nI (i + 1))), (5, .int (pckF (nI k6) w (vlu M V w j) v i)), (7, .int (vlu M V w j i)), (0, .ref h), (1, .int (nI k6)), (2, .int w), (3, .int (nI j)), (4, .int v)]) hx hb dX1_pick_62 hl (k := 7) rfl (by exact nI_1 _) (by decide) rfl (fun ls hl => ?_)
        refine lv_goto (tgt := 23) hx hb dX1_pick_65 (by decide) ?_
        exact ih_i (by exact trivial) ls (q_hl (lv_sub (l' := [(0, .ref h), (1, .int (nI k6)), (2, .int w), (3, .int (nI j)), (4, .int v), (5, .int (pckF (nI k6) w (vlu M V w j) v i)), (6, .int (nI (i + 1)))]) hl [3, 4, 5, 6, 7, 1, 0] rfl) (q_ck (q_ck (q_ck (q_ck (q_ck (q_ce (by simp [pckF, c_1, c_3]) (q_ck (rfl)))))))))
      · skip
        have c_3 : (fitv (nI k6) w (vlu M V w j i) (pckF (nI k6) w (vlu M V w j) v i)) = true := b2i_n c_3
        refine lv_iload hx hb dX1_pick_53 (lv_at hl 0 rfl) ?_
        refine lv_goto (tgt := 60) hx hb dX1_pick_55 (by decide) ?_
        refine lv_istore (lv' := [(5, .int (vlu M V w j i)), (7, .int (vlu M V w j i)), (0, .ref h), (1, .int (nI k6)), (2, .int w), (3, .int (nI j)), (4, .int v), (6, .int (nI i))]) hx hb dX1_pick_60 hl (by decide) rfl (fun ls hl => ?_)
        refine lv_iinc (v := (nI (i + 1))) (lv' := [(6, .int (nI (i + 1))), (5, .int (vlu M V w j i)), (7, .int (vlu M V w j i)), (0, .ref h), (1, .int (nI k6)), (2, .int w), (3, .int (nI j)), (4, .int v)]) hx hb dX1_pick_62 hl (k := 7) rfl (by exact nI_1 _) (by decide) rfl (fun ls hl => ?_)
        refine lv_goto (tgt := 23) hx hb dX1_pick_65 (by decide) ?_
        exact ih_i (by exact trivial) ls (q_hl (lv_sub (l' := [(0, .ref h), (1, .int (nI k6)), (2, .int w), (3, .int (nI j)), (4, .int v), (5, .int (vlu M V w j i)), (6, .int (nI (i + 1)))]) hl [3, 4, 5, 6, 7, 1, 0] rfl) (q_ck (q_ck (q_ck (q_ck (q_ck (q_ce (by simp [pckF, c_1, c_3]) (q_ck (rfl)))))))))
    · intro hI_i ls hl
      have hl : lv_has ls 8 [(0, .ref h), (1, .int (nI k6)), (2, .int w), (3, .int (nI j)), (4, .int v), (5, .int (pckF (nI k6) w (vlu M V w j) v 6)), (6, .int (nI 6))] := hl
      refine lv_iload hx hb dX1_pick_23 (lv_at hl 6 rfl) ?_
      refine lv_bipush (v := 6) hx hb dX1_pick_25 (by decide) ?_
      refine lv_icmp_ge (tgt := 68) hx hb dX1_pick_27 (by decide) (fun c_4 => ?_) (fun c_4 => absurd (by decide) c_4)
      refine lv_iload hx hb dX1_pick_68 (lv_at hl 5 rfl) ?_
      exact q_ri hx hb hr hlk (by rw [aPick, if_pos c_1, nI_clamp (by omega)]) dX1_pick_70
  · skip
    have c_1 : (qst (nI n) k w x v) = false := b2i_0 c_1
    refine lv_sipush (v := (-1000)) hx hb dX1_pick_12 (by decide) ?_
    exact q_ri hx hb hr hlk (by simp [aPick, c_1]) dX1_pick_15

theorem hdX1_isLegal : yX1_isLegal.cls = RX1 ∧ yX1_isLegal.cls ≠ "java/lang/invoke/MethodHandle" ∧ yX1_isLegal.cls ≠ "java/lang/invoke/VarHandle" ∧ (parseMethodDescriptor yX1_isLegal.desc).map (fun d => d.parameters.length) = some 2 := by decide +kernel
set_option maxHeartbeats 4000000 in
set_option maxRecDepth 100000 in
theorem mX1_isLegal (l : Launch) (dC : Nat → ClassId) (dI : Nat → Nat → Nat) (h qb qj qm qw qt : Nat) (cA : ClassId) (n : Nat) (rec lim : Int32) (fb fj fm fw ft : Nat → Int32) (M : Nat → Nat → Int32) (V : Nat → Nat → Int32) (j : Nat) (r : Nat) (hM : ∀ j r, j < 8 → r < 6 → (if nI r < fj j then fm (6 * j + r) else 0) = M j r) (hV : ∀ j r, j < 8 → r < 6 → (if nI r < fj j then fw (6 * j + r) else 100) = V j r) (hT : ft 0 = 1 ∧ ft 1 = 3 ∧ ft 2 = 4 ∧ ft 3 = 6 ∧ ft 4 = 2 ∧ ft 5 = 5) (hj : j < 8) (hr6 : r < 6) : Met l yX1_isLegal wsX1_isLegal ({ frames := 2, cells := 0, slots := 0, locals := 45 }) (va_Pc [.ref h, .int (nI j), .int (nI r)] (fun U => va_P (dC, dI) vwCl (wY h qb qj qm qw qt cA (nI n) rec lim fb fj fm fw ft) U.heap ∧ va_K (dC, dI) vwCl [(cA, .int)] U)) (QcRead (b2i (lgl M V lim j r))) 0 0 (fun _ => False) := by
  refine Met.ofW (cc := cX1_isLegal) (maxL := 3) (ret := (some .boolean)) (by decide) rfl ?_
  intro p e s m args below meth c s₁ B hml hv
  obtain ⟨rfl, hP, hK⟩ := hv
  have hx := B.exec
  have hb := B.bytes
  have hr := B.returns
  have hts := atoms_spec (ws := wsX1_isLegal) B.pre
  have hown : s.vm.findClass RX1 = some m.cls := findClass_of_methodNamed B.named
  have hlk := B.notSynchronized
  have hin : ∀ w ∈ wsX10, w ∈ wsX1_isLegal := fun w h => List.mem_cons_of_mem _ (List.mem_append_right _ h)
  have hf_29 := hts (.fieldLink RX1 29 "JumpBoardModel" "limitWind" "I") (by decide +kernel)
  have hl := lv_entry ([.ref h, .int (nI j), .int (nI r)]) (n := 3) (Nat.le_of_ble_eq_true rfl)
  rw [lg_entry_eq]
  generalize (lg_sl ([.ref h, .int (nI j), .int (nI r)]) ++ List.replicate (3 - (lg_sl ([.ref h, .int (nI j), .int (nI r)])).length) Slot.unset).toArray = ls at hl ⊢
  have hl : lv_has ls 3 [(0, .ref h), (1, .int (nI j)), (2, .int (nI r))] := hl
  refine lv_aload_n hx hb dX1_isLegal_0 rfl (lv_at hl 0 rfl) ?_
  refine lv_iconst (v := 0) hx hb dX1_isLegal_1 (by decide) ?_
  refine lv_iload_n hx hb dX1_isLegal_2 rfl (lv_at hl 1 rfl) ?_
  refine lv_iload_n hx hb dX1_isLegal_3 rfl (lv_at hl 2 rfl) ?_
  refine q_cv [.int 0, .int (nI j), .int (nI r)] (rest := []) ⟨hx, hb, hml, hown, hts⟩ (mX1_code l dC dI h qb qj qm qw qt cA n rec lim fb fj fm fw ft M V 0 j r hM hV (by omega) (by omega)) gX1_isLegal_X1_code rfl rfl rfl hdX1_code ⟨Nat.le_of_ble_eq_true rfl, Nat.le_of_ble_eq_true rfl⟩ rfl hK hP rfl rfl hl.1 rfl (Nat.le_of_ble_eq_true rfl) dX1_isLegal_4 ⟨Nat.zero_le _, Nat.zero_le _⟩ ?_
  refine q_top (y := M j r) (by rfl) ?_
  refine lv_if_eq (tgt := 34) hx hb dX1_isLegal_7 (by decide) (fun c_1 => ?_) (fun c_1 => ?_)
  · skip
    refine lv_iconst (v := 0) hx hb dX1_isLegal_34 (by decide) ?_
    exact q_rb hx hb hr hlk (by simp [lgl, b2i, c_1]) dX1_isLegal_35
  · skip
    refine lv_aload_n hx hb dX1_isLegal_10 rfl (lv_at hl 0 rfl) ?_
    refine lv_iconst (v := 2) hx hb dX1_isLegal_11 (by decide) ?_
    refine lv_iconst (v := 1) hx hb dX1_isLegal_12 (by decide) ?_
    refine lv_aload_n hx hb dX1_isLegal_13 rfl (lv_at hl 0 rfl) ?_
    refine lv_iconst (v := 1) hx hb dX1_isLegal_14 (by decide) ?_
    refine lv_iload_n hx hb dX1_isLegal_15 rfl (lv_at hl 1 rfl) ?_
    refine lv_iload_n hx hb dX1_isLegal_16 rfl (lv_at hl 2 rfl) ?_
    refine q_cv [.int 1, .int (nI j), .int (nI r)] (rest := [.int 1, .int 2, .ref h]) ⟨hx, hb, hml, hown, hts⟩ (mX1_code l dC dI h qb qj qm qw qt cA n rec lim fb fj fm fw ft M V 1 j r hM hV (by omega) (by omega)) gX1_isLegal_X1_code rfl rfl rfl hdX1_code ⟨Nat.le_of_ble_eq_true rfl, Nat.le_of_ble_eq_true rfl⟩ rfl hK hP rfl rfl hl.1 rfl (Nat.le_of_ble_eq_true rfl) dX1_isLegal_17 ⟨Nat.zero_le _, Nat.zero_le _⟩ ?_
    refine q_top (y := V j r) (by rfl) ?_
    refine lv_aload_n hx hb dX1_isLegal_20 rfl (lv_at hl 0 rfl) ?_
    refine va_get (D := (dC, dI)) (ci := 1) (v := .int lim) (C := RX1) (T := TX1) (N := 8) hx hb hts hin hown hK hP 0 rfl rfl 7 (by decide) hf_29 (fun _ h9 => h9) rfl dX1_isLegal_21 ?_
    refine q_cv [.int 2, .int 1, .int (V j r), .int lim] (rest := []) ⟨hx, hb, hml, hown, hts⟩ (mX1_fit l dC dI h qb qj qm qw qt cA n rec lim fb fj fm fw ft 2 1 (V j r) lim hT (by omega)) gX1_isLegal_X1_fit rfl rfl rfl hdX1_fit ⟨Nat.le_of_ble_eq_true rfl, Nat.le_of_ble_eq_true rfl⟩ rfl hK hP rfl rfl hl.1 rfl (Nat.le_of_ble_eq_true rfl) dX1_isLegal_24 ⟨Nat.zero_le _, Nat.zero_le _⟩ ?_
    refine q_top (y := b2i (fitv 2 1 (V j r) lim)) rfl ?_
    refine lv_if_ne (tgt := 34) hx hb dX1_isLegal_27 (by decide) (fun c_2 => ?_) (fun c_2 => ?_)
    · skip
      have c_2 : (fitv 2 1 (V j r) lim) = true := b2i_n c_2
      refine lv_iconst (v := 0) hx hb dX1_isLegal_34 (by decide) ?_
      exact q_rb hx hb hr hlk (by simp [lgl, b2i, c_1, c_2]) dX1_isLegal_35
    · skip
      have c_2 : (fitv 2 1 (V j r) lim) = false := b2i_0 c_2
      refine lv_iconst (v := 1) hx hb dX1_isLegal_30 (by decide) ?_
      refine lv_goto (tgt := 35) hx hb dX1_isLegal_31 (by decide) ?_
      exact q_rb hx hb hr hlk (by simp [lgl, b2i, c_1, c_2]) dX1_isLegal_35

theorem hdX1_greatest : yX1_greatest.cls = RX1 ∧ yX1_greatest.cls ≠ "java/lang/invoke/MethodHandle" ∧ yX1_greatest.cls ≠ "java/lang/invoke/VarHandle" ∧ (parseMethodDescriptor yX1_greatest.desc).map (fun d => d.parameters.length) = some 2 := by decide +kernel
set_option maxHeartbeats 4000000 in
set_option maxRecDepth 100000 in
theorem mX1_greatest (l : Launch) (dC : Nat → ClassId) (dI : Nat → Nat → Nat) (h qb qj qm qw qt : Nat) (cA : ClassId) (n : Nat) (rec lim : Int32) (fb fj fm fw ft : Nat → Int32) (M : Nat → Nat → Int32) (V : Nat → Nat → Int32) (j : Nat) (b : Int32) (hM : ∀ j r, j < 8 → r < 6 → (if nI r < fj j then fm (6 * j + r) else 0) = M j r) (hV : ∀ j r, j < 8 → r < 6 → (if nI r < fj j then fw (6 * j + r) else 100) = V j r) (hT : ft 0 = 1 ∧ ft 1 = 3 ∧ ft 2 = 4 ∧ ft 3 = 6 ∧ ft 4 = 2 ∧ ft 5 = 5) (hj : j < 8) : Met l yX1_greatest wsX1_greatest ({ frames := 3, cells := 0, slots := 0, locals := 67 }) (va_Pc [.ref h, .int (nI j), .int b] (fun U => va_P (dC, dI) vwCl (wY h qb qj qm qw qt cA (nI n) rec lim fb fj fm fw ft) U.heap ∧ va_K (dC, dI) vwCl [(cA, .int)] U)) (QcRead (grtU (lgl M V lim j) (M j) b 6)) 0 0 (fun _ => False) := by
  refine Met.ofW (cc := cX1_greatest) (maxL := 6) (ret := (some .int)) (by decide) rfl ?_
  intro p e s m args below meth c s₁ B hml hv
  obtain ⟨rfl, hP, hK⟩ := hv
  have hx := B.exec
  have hb := B.bytes
  have hr := B.returns
  have hts := atoms_spec (ws := wsX1_greatest) B.pre
  have hown : s.vm.findClass RX1 = some m.cls := findClass_of_methodNamed B.named
  have hlk := B.notSynchronized
  have hl := lv_entry ([.ref h, .int (nI j), .int b]) (n := 6) (Nat.le_of_ble_eq_true rfl)
  rw [lg_entry_eq]
  generalize (lg_sl ([.ref h, .int (nI j), .int b]) ++ List.replicate (6 - (lg_sl ([.ref h, .int (nI j), .int b])).length) Slot.unset).toArray = ls at hl ⊢
  have hl : lv_has ls 6 [(0, .ref h), (1, .int (nI j)), (2, .int b)] := hl
  refine lv_iconst (v := 0) hx hb dX1_greatest_0 (by decide) ?_
  refine lv_istore_n (lv' := [(3, .int 0), (0, .ref h), (1, .int (nI j)), (2, .int b)]) hx hb dX1_greatest_1 rfl hl (by decide) rfl (fun ls hl => ?_)
  refine lv_iconst (v := 0) hx hb dX1_greatest_2 (by decide) ?_
  refine lv_istore (lv' := [(4, .int 0), (3, .int 0), (0, .ref h), (1, .int (nI j)), (2, .int b)]) hx hb dX1_greatest_3 hl (by decide) rfl (fun ls hl => ?_)
  refine q_lp (head := 5) (6) (fun i => [(0, .ref h), (1, .int (nI j)), (2, .int b), (3, .int (grtU (lgl M V lim j) (M j) b i)), (4, .int (nI i))]) (fun i => True) (0) (by omega) (trivial) (q_hl (lv_sub (l' := [(0, .ref h), (1, .int (nI j)), (2, .int b), (3, .int 0), (4, .int 0)]) hl [2, 3, 4, 1, 0] rfl) (q_ck (q_ck (q_ck (q_ce (by rfl) (q_ce (by rfl) (rfl))))))) ?_ ?_
  · intro i hi_i hI_i ih_i ls hl
    have hl : lv_has ls 6 [(0, .ref h), (1, .int (nI j)), (2, .int b), (3, .int (grtU (lgl M V lim j) (M j) b i)), (4, .int (nI i))] := hl
    refine lv_iload hx hb dX1_greatest_5 (lv_at hl 4 rfl) ?_
    refine lv_bipush (v := 6) hx hb dX1_greatest_7 (by decide) ?_
    refine lv_icmp_ge (tgt := 53) hx hb dX1_greatest_9 (by decide) (fun c_1 => absurd c_1 (nI_ge (b := 6) hi_i (by decide))) (fun c_1 => ?_)
    refine lv_aload_n hx hb dX1_greatest_12 rfl (lv_at hl 0 rfl) ?_
    refine lv_iconst (v := 0) hx hb dX1_greatest_13 (by decide) ?_
    refine lv_iload_n hx hb dX1_greatest_14 rfl (lv_at hl 1 rfl) ?_
    refine lv_iload hx hb dX1_greatest_15 (lv_at hl 4 rfl) ?_
    refine q_cv [.int 0, .int (nI j), .int (nI i)] (rest := []) ⟨hx, hb, hml, hown, hts⟩ (mX1_code l dC dI h qb qj qm qw qt cA n rec lim fb fj fm fw ft M V 0 j i hM hV (by omega) (by omega)) gX1_greatest_X1_code rfl rfl rfl hdX1_code ⟨Nat.le_of_ble_eq_true rfl, Nat.le_of_ble_eq_true rfl⟩ rfl hK hP rfl rfl hl.1 rfl (Nat.le_of_ble_eq_true rfl) dX1_greatest_17 ⟨Nat.zero_le _, Nat.zero_le _⟩ ?_
    refine q_top (y := M j i) (by rfl) ?_
    refine lv_istore (lv' := [(5, .int (M j i)), (0, .ref h), (1, .int (nI j)), (2, .int b), (3, .int (grtU (lgl M V lim j) (M j) b i)), (4, .int (nI i))]) hx hb dX1_greatest_20 hl (by decide) rfl (fun ls hl => ?_)
    refine lv_aload_n hx hb dX1_greatest_22 rfl (lv_at hl 1 rfl) ?_
    refine lv_iload_n hx hb dX1_greatest_23 rfl (lv_at hl 2 rfl) ?_
    refine lv_iload hx hb dX1_greatest_24 (lv_at hl 5 rfl) ?_
    refine q_cv [.int (nI j), .int (nI i)] (rest := []) ⟨hx, hb, hml, hown, hts⟩ (mX1_isLegal l dC dI h qb qj qm qw qt cA n rec lim fb fj fm fw ft M V j i hM hV hT (by omega) (by omega)) gX1_greatest_X1_isLegal rfl rfl rfl hdX1_isLegal ⟨Nat.le_of_ble_eq_true rfl, Nat.le_of_ble_eq_true rfl⟩ rfl hK hP rfl rfl hl.1 rfl (Nat.le_of_ble_eq_true rfl) dX1_greatest_26 ⟨Nat.zero_le _, Nat.zero_le _⟩ ?_
    refine lv_if_eq (tgt := 47) hx hb dX1_greatest_29 (by decide) (fun c_2 => ?_) (fun c_2 => ?_)
    · skip
      have c_2 : (lgl M V lim j i) = false := b2i_0 c_2
      refine lv_iinc (v := (nI (i + 1))) (lv' := [(4, .int (nI (i + 1))), (5, .int (M j i)), (0, .ref h), (1, .int (nI j)), (2, .int b), (3, .int (grtU (lgl M V lim j) (M j) b i))]) hx hb dX1_greatest_47 hl (k := 5) rfl (by exact nI_1 _) (by decide) rfl (fun ls hl => ?_)
      refine lv_goto (tgt := 5) hx hb dX1_greatest_50 (by decide) ?_
      exact ih_i (by exact trivial) ls (q_hl (lv_sub (l' := [(0, .ref h), (1, .int (nI j)), (2, .int b), (3, .int (grtU (lgl M V lim j) (M j) b i)), (4, .int (nI (i + 1)))]) hl [2, 3, 4, 5, 0] rfl) (q_ck (q_ck (q_ck (q_ce (by first | exact grt_1 c_2 | exact grt_2 c_2 trivial | exact grt_3 c_2 trivial trivial | exact grt_4 c_2 trivial trivial) (q_ck (rfl)))))))
    · skip
      have c_2 : (lgl M V lim j i) = true := b2i_n c_2
      refine lv_iload hx hb dX1_greatest_32 (lv_at hl 0 rfl) ?_
      refine lv_iload_n hx hb dX1_greatest_34 rfl (lv_at hl 3 rfl) ?_
      refine lv_icmp_ge (tgt := 47) hx hb dX1_greatest_35 (by decide) (fun c_3 => ?_) (fun c_3 => ?_)
      · skip
        refine lv_iinc (v := (nI (i + 1))) (lv' := [(4, .int (nI (i + 1))), (5, .int (M j i)), (0, .ref h), (1, .int (nI j)), (2, .int b), (3, .int (grtU (lgl M V lim j) (M j) b i))]) hx hb dX1_greatest_47 hl (k := 5) rfl (by exact nI_1 _) (by decide) rfl (fun ls hl => ?_)
        refine lv_goto (tgt := 5) hx hb dX1_greatest_50 (by decide) ?_
        exact ih_i (by exact trivial) ls (q_hl (lv_sub (l' := [(0, .ref h), (1, .int (nI j)), (2, .int b), (3, .int (grtU (lgl M V lim j) (M j) b i)), (4, .int (nI (i + 1)))]) hl [2, 3, 4, 5, 0] rfl) (q_ck (q_ck (q_ck (q_ce (by first | exact grt_1 c_2 | exact grt_2 c_2 c_3 | exact grt_3 c_2 c_3 trivial | exact grt_4 c_2 c_3 trivial) (q_ck (rfl)))))))
      · skip
        refine lv_iload hx hb dX1_greatest_38 (lv_at hl 0 rfl) ?_
        refine lv_iload_n hx hb dX1_greatest_40 rfl (lv_at hl 4 rfl) ?_
        refine lv_icmp_le (tgt := 47) hx hb dX1_greatest_41 (by decide) (fun c_4 => ?_) (fun c_4 => ?_)
        · skip
          refine lv_iinc (v := (nI (i + 1))) (lv' := [(4, .int (nI (i + 1))), (5, .int (M j i)), (0, .ref h), (1, .int (nI j)), (2, .int b), (3, .int (grtU (lgl M V lim j) (M j) b i))]) hx hb dX1_greatest_47 hl (k := 5) rfl (by exact nI_1 _) (by decide) rfl (fun ls hl => ?_)
          refine lv_goto (tgt := 5) hx hb dX1_greatest_50 (by decide) ?_
          exact ih_i (by exact trivial) ls (q_hl (lv_sub (l' := [(0, .ref h), (1, .int (nI j)), (2, .int b), (3, .int (grtU (lgl M V lim j) (M j) b i)), (4, .int (nI (i + 1)))]) hl [2, 3, 4, 5, 0] rfl) (q_ck (q_ck (q_ck (q_ce (by first | exact grt_1 c_2 | exact grt_2 c_2 c_3 | exact grt_3 c_2 c_3 c_4 | exact grt_4 c_2 c_3 c_4) (q_ck (rfl)))))))
        · skip
          refine lv_iload hx hb dX1_greatest_44 (lv_at hl 0 rfl) ?_
          refine lv_istore_n (lv' := [(3, .int (M j i)), (5, .int (M j i)), (0, .ref h), (1, .int (nI j)), (2, .int b), (4, .int (nI i))]) hx hb dX1_greatest_46 rfl hl (by decide) rfl (fun ls hl => ?_)
          refine lv_iinc (v := (nI (i + 1))) (lv' := [(4, .int (nI (i + 1))), (3, .int (M j i)), (5, .int (M j i)), (0, .ref h), (1, .int (nI j)), (2, .int b)]) hx hb dX1_greatest_47 hl (k := 5) rfl (by exact nI_1 _) (by decide) rfl (fun ls hl => ?_)
          refine lv_goto (tgt := 5) hx hb dX1_greatest_50 (by decide) ?_
          exact ih_i (by exact trivial) ls (q_hl (lv_sub (l' := [(0, .ref h), (1, .int (nI j)), (2, .int b), (3, .int (M j i)), (4, .int (nI (i + 1)))]) hl [3, 4, 5, 1, 0] rfl) (q_ck (q_ck (q_ck (q_ce (by first | exact grt_1 c_2 | exact grt_2 c_2 c_3 | exact grt_3 c_2 c_3 c_4 | exact grt_4 c_2 c_3 c_4) (q_ck (rfl)))))))
  · intro hI_i ls hl
    have hl : lv_has ls 6 [(0, .ref h), (1, .int (nI j)), (2, .int b), (3, .int (grtU (lgl M V lim j) (M j) b 6)), (4, .int (nI 6))] := hl
    refine lv_iload hx hb dX1_greatest_5 (lv_at hl 4 rfl) ?_
    refine lv_bipush (v := 6) hx hb dX1_greatest_7 (by decide) ?_
    refine lv_icmp_ge (tgt := 53) hx hb dX1_greatest_9 (by decide) (fun c_5 => ?_) (fun c_5 => absurd (by decide) c_5)
    refine lv_iload_n hx hb dX1_greatest_53 rfl (lv_at hl 3 rfl) ?_
    exact q_ri hx hb hr hlk (by rfl) dX1_greatest_54

theorem hdX1_many : yX1_many.cls = RX1 ∧ yX1_many.cls ≠ "java/lang/invoke/MethodHandle" ∧ yX1_many.cls ≠ "java/lang/invoke/VarHandle" ∧ (parseMethodDescriptor yX1_many.desc).map (fun d => d.parameters.length) = some 2 := by decide +kernel
set_option maxHeartbeats 4000000 in
set_option maxRecDepth 100000 in
theorem mX1_many (l : Launch) (dC : Nat → ClassId) (dI : Nat → Nat → Nat) (h qb qj qm qw qt : Nat) (cA : ClassId) (n : Nat) (rec lim : Int32) (fb fj fm fw ft : Nat → Int32) (M : Nat → Nat → Int32) (V : Nat → Nat → Int32) (j : Nat) (g : Int32) (hM : ∀ j r, j < 8 → r < 6 → (if nI r < fj j then fm (6 * j + r) else 0) = M j r) (hV : ∀ j r, j < 8 → r < 6 → (if nI r < fj j then fw (6 * j + r) else 100) = V j r) (hT : ft 0 = 1 ∧ ft 1 = 3 ∧ ft 2 = 4 ∧ ft 3 = 6 ∧ ft 4 = 2 ∧ ft 5 = 5) (hj : j < 8) : Met l yX1_many wsX1_many ({ frames := 3, cells := 0, slots := 0, locals := 67 }) (va_Pc [.ref h, .int (nI j), .int g] (fun U => va_P (dC, dI) vwCl (wY h qb qj qm qw qt cA (nI n) rec lim fb fj fm fw ft) U.heap ∧ va_K (dC, dI) vwCl [(cA, .int)] U)) (QcRead (nI (cntB (fun t => lgl M V lim j t && decide (M j t = g)) 6))) 0 0 (fun _ => False) := by
  refine Met.ofW (cc := cX1_many) (maxL := 5) (ret := (some .int)) (by decide) rfl ?_
  intro p e s m args below meth c s₁ B hml hv
  obtain ⟨rfl, hP, hK⟩ := hv
  have hx := B.exec
  have hb := B.bytes
  have hr := B.returns
  have hts := atoms_spec (ws := wsX1_many) B.pre
  have hown : s.vm.findClass RX1 = some m.cls := findClass_of_methodNamed B.named
  have hlk := B.notSynchronized
  have hl := lv_entry ([.ref h, .int (nI j), .int g]) (n := 5) (Nat.le_of_ble_eq_true rfl)
  rw [lg_entry_eq]
  generalize (lg_sl ([.ref h, .int (nI j), .int g]) ++ List.replicate (5 - (lg_sl ([.ref h, .int (nI j), .int g])).length) Slot.unset).toArray = ls at hl ⊢
  have hl : lv_has ls 5 [(0, .ref h), (1, .int (nI j)), (2, .int g)] := hl
  refine lv_iconst (v := 0) hx hb dX1_many_0 (by decide) ?_
  refine lv_istore_n (lv' := [(3, .int 0), (0, .ref h), (1, .int (nI j)), (2, .int g)]) hx hb dX1_many_1 rfl hl (by decide) rfl (fun ls hl => ?_)
  refine lv_iconst (v := 0) hx hb dX1_many_2 (by decide) ?_
  refine lv_istore (lv' := [(4, .int 0), (3, .int 0), (0, .ref h), (1, .int (nI j)), (2, .int g)]) hx hb dX1_many_3 hl (by decide) rfl (fun ls hl => ?_)
  refine q_lp (head := 5) (6) (fun i => [(0, .ref h), (1, .int (nI j)), (2, .int g), (3, .int (nI (cntB (fun t => lgl M V lim j t && decide (M j t = g)) i))), (4, .int (nI i))]) (fun i => True) (0) (by omega) (trivial) (q_hl (lv_sub (l' := [(0, .ref h), (1, .int (nI j)), (2, .int g), (3, .int 0), (4, .int 0)]) hl [2, 3, 4, 1, 0] rfl) (q_ck (q_ck (q_ck (q_ce (by rfl) (q_ce (by rfl) (rfl))))))) ?_ ?_
  · intro i hi_i hI_i ih_i ls hl
    have hl : lv_has ls 5 [(0, .ref h), (1, .int (nI j)), (2, .int g), (3, .int (nI (cntB (fun t => lgl M V lim j t && decide (M j t = g)) i))), (4, .int (nI i))] := hl
    refine lv_iload hx hb dX1_many_5 (lv_at hl 4 rfl) ?_
    refine lv_bipush (v := 6) hx hb dX1_many_7 (by decide) ?_
    refine lv_icmp_ge (tgt := 48) hx hb dX1_many_9 (by decide) (fun c_1 => absurd c_1 (nI_ge (b := 6) hi_i (by decide))) (fun c_1 => ?_)
    refine lv_iload_n hx hb dX1_many_12 rfl (lv_at hl 3 rfl) ?_
    refine lv_aload_n hx hb dX1_many_13 rfl (lv_at hl 0 rfl) ?_
    refine lv_iload_n hx hb dX1_many_14 rfl (lv_at hl 1 rfl) ?_
    refine lv_iload hx hb dX1_many_15 (lv_at hl 4 rfl) ?_
    refine q_cv [.int (nI j), .int (nI i)] (rest := [.int (nI (cntB (fun t => lgl M V lim j t && decide (M j t = g)) i))]) ⟨hx, hb, hml, hown, hts⟩ (mX1_isLegal l dC dI h qb qj qm qw qt cA n rec lim fb fj fm fw ft M V j i hM hV hT (by omega) (by omega)) gX1_many_X1_isLegal rfl rfl rfl hdX1_isLegal ⟨Nat.le_of_ble_eq_true rfl, Nat.le_of_ble_eq_true rfl⟩ rfl hK hP rfl rfl hl.1 rfl (Nat.le_of_ble_eq_true rfl) dX1_many_17 ⟨Nat.zero_le _, Nat.zero_le _⟩ ?_
    refine lv_if_eq (tgt := 39) hx hb dX1_many_20 (by decide) (fun c_2 => ?_) (fun c_2 => ?_)
    · skip
      have c_2 : (lgl M V lim j i) = false := b2i_0 c_2
      refine lv_iconst (v := 0) hx hb dX1_many_39 (by decide) ?_
      refine lv_iadd hx hb dX1_many_40 ?_
      refine lv_istore_n (lv' := [(3, .int ((nI (cntB (fun t => lgl M V lim j t && decide (M j t = g)) i)) + 0)), (0, .ref h), (1, .int (nI j)), (2, .int g), (4, .int (nI i))]) hx hb dX1_many_41 rfl hl (by decide) rfl (fun ls hl => ?_)
      refine lv_iinc (v := (nI (i + 1))) (lv' := [(4, .int (nI (i + 1))), (3, .int ((nI (cntB (fun t => lgl M V lim j t && decide (M j t = g)) i)) + 0)), (0, .ref h), (1, .int (nI j)), (2, .int g)]) hx hb dX1_many_42 hl (k := 4) rfl (by exact nI_1 _) (by decide) rfl (fun ls hl => ?_)
      refine lv_goto (tgt := 5) hx hb dX1_many_45 (by decide) ?_
      exact ih_i (by exact trivial) ls (q_hl (lv_sub (l' := [(0, .ref h), (1, .int (nI j)), (2, .int g), (3, .int ((nI (cntB (fun t => lgl M V lim j t && decide (M j t = g)) i)) + 0)), (4, .int (nI (i + 1)))]) hl [2, 3, 4, 1, 0] rfl) (q_ck (q_ck (q_ck (q_ce (by simp [cntB, c_2, nI_1]) (q_ck (rfl)))))))
    · skip
      have c_2 : (lgl M V lim j i) = true := b2i_n c_2
      refine lv_aload_n hx hb dX1_many_23 rfl (lv_at hl 0 rfl) ?_
      refine lv_iconst (v := 0) hx hb dX1_many_24 (by decide) ?_
      refine lv_iload_n hx hb dX1_many_25 rfl (lv_at hl 1 rfl) ?_
      refine lv_iload hx hb dX1_many_26 (lv_at hl 4 rfl) ?_
      refine q_cv [.int 0, .int (nI j), .int (nI i)] (rest := [.int (nI (cntB (fun t => lgl M V lim j t && decide (M j t = g)) i))]) ⟨hx, hb, hml, hown, hts⟩ (mX1_code l dC dI h qb qj qm qw qt cA n rec lim fb fj fm fw ft M V 0 j i hM hV (by omega) (by omega)) gX1_many_X1_code rfl rfl rfl hdX1_code ⟨Nat.le_of_ble_eq_true rfl, Nat.le_of_ble_eq_true rfl⟩ rfl hK hP rfl rfl hl.1 rfl (Nat.le_of_ble_eq_true rfl) dX1_many_28 ⟨Nat.zero_le _, Nat.zero_le _⟩ ?_
      refine q_top (y := M j i) (by rfl) ?_
      refine lv_iload_n hx hb dX1_many_31 rfl (lv_at hl 2 rfl) ?_
      refine lv_icmp_ne (tgt := 39) hx hb dX1_many_32 (by decide) (fun c_3 => ?_) (fun c_3 => ?_)
      · skip
        refine lv_iconst (v := 0) hx hb dX1_many_39 (by decide) ?_
        refine lv_iadd hx hb dX1_many_40 ?_
        refine lv_istore_n (lv' := [(3, .int ((nI (cntB (fun t => lgl M V lim j t && decide (M j t = g)) i)) + 0)), (0, .ref h), (1, .int (nI j)), (2, .int g), (4, .int (nI i))]) hx hb dX1_many_41 rfl hl (by decide) rfl (fun ls hl => ?_)
        refine lv_iinc (v := (nI (i + 1))) (lv' := [(4, .int (nI (i + 1))), (3, .int ((nI (cntB (fun t => lgl M V lim j t && decide (M j t = g)) i)) + 0)), (0, .ref h), (1, .int (nI j)), (2, .int g)]) hx hb dX1_many_42 hl (k := 4) rfl (by exact nI_1 _) (by decide) rfl (fun ls hl => ?_)
        refine lv_goto (tgt := 5) hx hb dX1_many_45 (by decide) ?_
        exact ih_i (by exact trivial) ls (q_hl (lv_sub (l' := [(0, .ref h), (1, .int (nI j)), (2, .int g), (3, .int ((nI (cntB (fun t => lgl M V lim j t && decide (M j t = g)) i)) + 0)), (4, .int (nI (i + 1)))]) hl [2, 3, 4, 1, 0] rfl) (q_ck (q_ck (q_ck (q_ce (by simp [cntB, c_2, c_3, nI_1]) (q_ck (rfl)))))))
      · skip
        refine lv_iconst (v := 1) hx hb dX1_many_35 (by decide) ?_
        refine lv_goto (tgt := 40) hx hb dX1_many_36 (by decide) ?_
        refine lv_iadd hx hb dX1_many_40 ?_
        refine lv_istore_n (lv' := [(3, .int ((nI (cntB (fun t => lgl M V lim j t && decide (M j t = g)) i)) + 1)), (0, .ref h), (1, .int (nI j)), (2, .int g), (4, .int (nI i))]) hx hb dX1_many_41 rfl hl (by decide) rfl (fun ls hl => ?_)
        refine lv_iinc (v := (nI (i + 1))) (lv' := [(4, .int (nI (i + 1))), (3, .int ((nI (cntB (fun t => lgl M V lim j t && decide (M j t = g)) i)) + 1)), (0, .ref h), (1, .int (nI j)), (2, .int g)]) hx hb dX1_many_42 hl (k := 4) rfl (by exact nI_1 _) (by decide) rfl (fun ls hl => ?_)
        refine lv_goto (tgt := 5) hx hb dX1_many_45 (by decide) ?_
        exact ih_i (by exact trivial) ls (q_hl (lv_sub (l' := [(0, .ref h), (1, .int (nI j)), (2, .int g), (3, .int ((nI (cntB (fun t => lgl M V lim j t && decide (M j t = g)) i)) + 1)), (4, .int (nI (i + 1)))]) hl [2, 3, 4, 1, 0] rfl) (q_ck (q_ck (q_ck (q_ce (by simp [cntB, c_2, c_3, nI_1]) (q_ck (rfl)))))))
  · intro hI_i ls hl
    have hl : lv_has ls 5 [(0, .ref h), (1, .int (nI j)), (2, .int g), (3, .int (nI (cntB (fun t => lgl M V lim j t && decide (M j t = g)) 6))), (4, .int (nI 6))] := hl
    refine lv_iload hx hb dX1_many_5 (lv_at hl 4 rfl) ?_
    refine lv_bipush (v := 6) hx hb dX1_many_7 (by decide) ?_
    refine lv_icmp_ge (tgt := 48) hx hb dX1_many_9 (by decide) (fun c_4 => ?_) (fun c_4 => absurd (by decide) c_4)
    refine lv_iload_n hx hb dX1_many_48 rfl (lv_at hl 3 rfl) ?_
    exact q_ri hx hb hr hlk (by rfl) dX1_many_49

theorem hdX1_isNewBest : yX1_isNewBest.cls = RX1 ∧ yX1_isNewBest.cls ≠ "java/lang/invoke/MethodHandle" ∧ yX1_isNewBest.cls ≠ "java/lang/invoke/VarHandle" ∧ (parseMethodDescriptor yX1_isNewBest.desc).map (fun d => d.parameters.length) = some 2 := by decide +kernel
set_option maxHeartbeats 4000000 in
set_option maxRecDepth 100000 in
theorem mX1_isNewBest (l : Launch) (dC : Nat → ClassId) (dI : Nat → Nat → Nat) (h qb qj qm qw qt : Nat) (cA : ClassId) (n : Nat) (rec lim : Int32) (fb fj fm fw ft : Nat → Int32) (M : Nat → Nat → Int32) (V : Nat → Nat → Int32) (j : Nat) (r : Nat) (hM : ∀ j r, j < 8 → r < 6 → (if nI r < fj j then fm (6 * j + r) else 0) = M j r) (hV : ∀ j r, j < 8 → r < 6 → (if nI r < fj j then fw (6 * j + r) else 100) = V j r) (hT : ft 0 = 1 ∧ ft 1 = 3 ∧ ft 2 = 4 ∧ ft 3 = 6 ∧ ft 4 = 2 ∧ ft 5 = 5) (hj : j < 8) (hr6 : r < 6) : Met l yX1_isNewBest wsX1_isNewBest ({ frames := 2, cells := 0, slots := 0, locals := 45 }) (va_Pc [.ref h, .int (nI j), .int (nI r)] (fun U => va_P (dC, dI) vwCl (wY h qb qj qm qw qt cA (nI n) rec lim fb fj fm fw ft) U.heap ∧ va_K (dC, dI) vwCl [(cA, .int)] U)) (QcRead (b2i (bts (M j) r))) 0 0 (fun _ => False) := by
  refine Met.ofW (cc := cX1_isNewBest) (maxL := 6) (ret := (some .boolean)) (by decide) rfl ?_
  intro p e s m args below meth c s₁ B hml hv
  obtain ⟨rfl, hP, hK⟩ := hv
  have hx := B.exec
  have hb := B.bytes
  have hr := B.returns
  have hts := atoms_spec (ws := wsX1_isNewBest) B.pre
  have hown : s.vm.findClass RX1 = some m.cls := findClass_of_methodNamed B.named
  have hlk := B.notSynchronized
  have hl := lv_entry ([.ref h, .int (nI j), .int (nI r)]) (n := 6) (Nat.le_of_ble_eq_true rfl)
  rw [lg_entry_eq]
  generalize (lg_sl ([.ref h, .int (nI j), .int (nI r)]) ++ List.replicate (6 - (lg_sl ([.ref h, .int (nI j), .int (nI r)])).length) Slot.unset).toArray = ls at hl ⊢
  have hl : lv_has ls 6 [(0, .ref h), (1, .int (nI j)), (2, .int (nI r))] := hl
  refine lv_aload_n hx hb dX1_isNewBest_0 rfl (lv_at hl 0 rfl) ?_
  refine lv_iconst (v := 0) hx hb dX1_isNewBest_1 (by decide) ?_
  refine lv_iload_n hx hb dX1_isNewBest_2 rfl (lv_at hl 1 rfl) ?_
  refine lv_iload_n hx hb dX1_isNewBest_3 rfl (lv_at hl 2 rfl) ?_
  refine q_cv [.int 0, .int (nI j), .int (nI r)] (rest := []) ⟨hx, hb, hml, hown, hts⟩ (mX1_code l dC dI h qb qj qm qw qt cA n rec lim fb fj fm fw ft M V 0 j r hM hV (by omega) (by omega)) gX1_isNewBest_X1_code rfl rfl rfl hdX1_code ⟨Nat.le_of_ble_eq_true rfl, Nat.le_of_ble_eq_true rfl⟩ rfl hK hP rfl rfl hl.1 rfl (Nat.le_of_ble_eq_true rfl) dX1_isNewBest_4 ⟨Nat.zero_le _, Nat.zero_le _⟩ ?_
  refine q_top (y := M j r) (by rfl) ?_
  refine lv_istore_n (lv' := [(3, .int (M j r)), (0, .ref h), (1, .int (nI j)), (2, .int (nI r))]) hx hb dX1_isNewBest_7 rfl hl (by decide) rfl (fun ls hl => ?_)
  refine lv_iload_n hx hb dX1_isNewBest_8 rfl (lv_at hl 0 rfl) ?_
  refine q_jn (pj := 17) (v := b2i (btsU (M j) r 0)) (rest := []) ?_ (fun J => ?_)
  rotate_left
  · skip
    refine lv_if_eq (tgt := 16) hx hb dX1_isNewBest_9 (by decide) (fun c_1 => ?_) (fun c_1 => ?_)
    · skip
      refine lv_iconst (v := 0) hx hb dX1_isNewBest_16 (by decide) ?_
      exact q_top (by simp [btsU, anyB, b2i, c_1]) J
    · skip
      refine lv_iconst (v := 1) hx hb dX1_isNewBest_12 (by decide) ?_
      refine lv_goto (tgt := 17) hx hb dX1_isNewBest_13 (by decide) ?_
      exact q_top (by simp [btsU, anyB, b2i, c_1]) J
  refine lv_istore (lv' := [(4, .int (b2i (btsU (M j) r 0))), (3, .int (M j r)), (0, .ref h), (1, .int (nI j)), (2, .int (nI r))]) hx hb dX1_isNewBest_17 hl (by decide) rfl (fun ls hl => ?_)
  refine lv_iconst (v := 0) hx hb dX1_isNewBest_19 (by decide) ?_
  refine lv_istore (lv' := [(5, .int 0), (4, .int (b2i (btsU (M j) r 0))), (3, .int (M j r)), (0, .ref h), (1, .int (nI j)), (2, .int (nI r))]) hx hb dX1_isNewBest_20 hl (by decide) rfl (fun ls hl => ?_)
  refine q_lp (head := 22) (r) (fun i => [(0, .ref h), (1, .int (nI j)), (2, .int (nI r)), (3, .int (M j r)), (4, .int (b2i (btsU (M j) r i))), (5, .int (nI i))]) (fun i => True) (0) (by omega) (trivial) (q_hl (lv_sub (l' := [(0, .ref h), (1, .int (nI j)), (2, .int (nI r)), (3, .int (M j r)), (4, .int (b2i (btsU (M j) r 0))), (5, .int 0)]) hl [3, 4, 5, 2, 1, 0] rfl) (q_ck (q_ck (q_ck (q_ck (q_ck (q_ce (by rfl) (rfl)))))))) ?_ ?_
  · intro i hi_i hI_i ih_i ls hl
    have hl : lv_has ls 6 [(0, .ref h), (1, .int (nI j)), (2, .int (nI r)), (3, .int (M j r)), (4, .int (b2i (btsU (M j) r i))), (5, .int (nI i))] := hl
    refine lv_iload hx hb dX1_isNewBest_22 (lv_at hl 5 rfl) ?_
    refine lv_iload_n hx hb dX1_isNewBest_24 rfl (lv_at hl 2 rfl) ?_
    refine lv_icmp_ge (tgt := 64) hx hb dX1_isNewBest_25 (by decide) (fun c_2 => absurd c_2 (nI_ge hi_i (by omega))) (fun c_2 => ?_)
    refine lv_iload hx hb dX1_isNewBest_28 (lv_at hl 4 rfl) ?_
    refine q_jn (pj := 56) (v := b2i (btsU (M j) r (i + 1))) (rest := []) ?_ (fun J => ?_)
    rotate_left
    · skip
      refine lv_if_eq (tgt := 55) hx hb dX1_isNewBest_30 (by decide) (fun c_3 => ?_) (fun c_3 => ?_)
      · skip
        have c_3 : (btsU (M j) r i) = false := b2i_0 c_3
        refine lv_iconst (v := 0) hx hb dX1_isNewBest_55 (by decide) ?_
        exact q_top (by rw [btsU_succ]; simp [b2i, c_3]) J
      · skip
        have c_3 : (btsU (M j) r i) = true := b2i_n c_3
        refine lv_aload_n hx hb dX1_isNewBest_33 rfl (lv_at hl 0 rfl) ?_
        refine lv_iconst (v := 3) hx hb dX1_isNewBest_34 (by decide) ?_
        refine lv_iconst (v := 0) hx hb dX1_isNewBest_35 (by decide) ?_
        refine lv_aload_n hx hb dX1_isNewBest_36 rfl (lv_at hl 0 rfl) ?_
        refine lv_iconst (v := 0) hx hb dX1_isNewBest_37 (by decide) ?_
        refine lv_iload_n hx hb dX1_isNewBest_38 rfl (lv_at hl 1 rfl) ?_
        refine lv_iload hx hb dX1_isNewBest_39 (lv_at hl 5 rfl) ?_
        refine q_cv [.int 0, .int (nI j), .int (nI i)] (rest := [.int 0, .int 3, .ref h]) ⟨hx, hb, hml, hown, hts⟩ (mX1_code l dC dI h qb qj qm qw qt cA n rec lim fb fj fm fw ft M V 0 j i hM hV (by omega) (by omega)) gX1_isNewBest_X1_code rfl rfl rfl hdX1_code ⟨Nat.le_of_ble_eq_true rfl, Nat.le_of_ble_eq_true rfl⟩ rfl hK hP rfl rfl hl.1 rfl (Nat.le_of_ble_eq_true rfl) dX1_isNewBest_41 ⟨Nat.zero_le _, Nat.zero_le _⟩ ?_
        refine q_top (y := M j i) (by rfl) ?_
        refine lv_iload_n hx hb dX1_isNewBest_44 rfl (lv_at hl 3 rfl) ?_
        refine q_cv [.int 3, .int 0, .int (M j i), .int (M j r)] (rest := []) ⟨hx, hb, hml, hown, hts⟩ (mX1_fit l dC dI h qb qj qm qw qt cA n rec lim fb fj fm fw ft 3 0 (M j i) (M j r) hT (by omega)) gX1_isNewBest_X1_fit rfl rfl rfl hdX1_fit ⟨Nat.le_of_ble_eq_true rfl, Nat.le_of_ble_eq_true rfl⟩ rfl hK hP rfl rfl hl.1 rfl (Nat.le_of_ble_eq_true rfl) dX1_isNewBest_45 ⟨Nat.zero_le _, Nat.zero_le _⟩ ?_
        refine q_top (y := b2i (fitv 3 0 (M j i) (M j r))) rfl ?_
        refine lv_if_ne (tgt := 55) hx hb dX1_isNewBest_48 (by decide) (fun c_4 => ?_) (fun c_4 => ?_)
        · skip
          have c_4 : (fitv 3 0 (M j i) (M j r)) = true := b2i_n c_4
          refine lv_iconst (v := 0) hx hb dX1_isNewBest_55 (by decide) ?_
          exact q_top (by rw [btsU_succ]; simp [b2i, c_3, c_4]) J
        · skip
          have c_4 : (fitv 3 0 (M j i) (M j r)) = false := b2i_0 c_4
          refine lv_iconst (v := 1) hx hb dX1_isNewBest_51 (by decide) ?_
          refine lv_goto (tgt := 56) hx hb dX1_isNewBest_52 (by decide) ?_
          exact q_top (by rw [btsU_succ]; simp [b2i, c_3, c_4]) J
    refine lv_istore (lv' := [(4, .int (b2i (btsU (M j) r (i + 1)))), (0, .ref h), (1, .int (nI j)), (2, .int (nI r)), (3, .int (M j r)), (5, .int (nI i))]) hx hb dX1_isNewBest_56 hl (by decide) rfl (fun ls hl => ?_)
    refine lv_iinc (v := (nI (i + 1))) (lv' := [(5, .int (nI (i + 1))), (4, .int (b2i (btsU (M j) r (i + 1)))), (0, .ref h), (1, .int (nI j)), (2, .int (nI r)), (3, .int (M j r))]) hx hb dX1_isNewBest_58 hl (k := 5) rfl (by exact nI_1 _) (by decide) rfl (fun ls hl => ?_)
    refine lv_goto (tgt := 22) hx hb dX1_isNewBest_61 (by decide) ?_
    exact ih_i (by exact trivial) ls (lv_sub (l' := [(0, .ref h), (1, .int (nI j)), (2, .int (nI r)), (3, .int (M j r)), (4, .int (b2i (btsU (M j) r (i + 1)))), (5, .int (nI (i + 1)))]) hl [2, 3, 4, 5, 1, 0] rfl)
  · intro hI_i ls hl
    have hl : lv_has ls 6 [(0, .ref h), (1, .int (nI j)), (2, .int (nI r)), (3, .int (M j r)), (4, .int (b2i (btsU (M j) r r))), (5, .int (nI r))] := hl
    refine lv_iload hx hb dX1_isNewBest_22 (lv_at hl 5 rfl) ?_
    refine lv_iload_n hx hb dX1_isNewBest_24 rfl (lv_at hl 2 rfl) ?_
    refine lv_icmp_ge (tgt := 64) hx hb dX1_isNewBest_25 (by decide) (fun c_5 => ?_) (fun c_5 => absurd (nI_le (Nat.le_refl r) (by omega)) c_5)
    refine lv_iload hx hb dX1_isNewBest_64 (lv_at hl 4 rfl) ?_
    exact q_rb hx hb hr hlk (by rfl) dX1_isNewBest_66

theorem hdX1_verdict : yX1_verdict.cls = RX1 ∧ yX1_verdict.cls ≠ "java/lang/invoke/MethodHandle" ∧ yX1_verdict.cls ≠ "java/lang/invoke/VarHandle" ∧ (parseMethodDescriptor yX1_verdict.desc).map (fun d => d.parameters.length) = some 2 := by decide +kernel
set_option maxHeartbeats 4000000 in
set_option maxRecDepth 100000 in
theorem mX1_verdict (l : Launch) (dC : Nat → ClassId) (dI : Nat → Nat → Nat) (h qb qj qm qw qt : Nat) (cA : ClassId) (n : Nat) (rec lim : Int32) (fb fj fm fw ft : Nat → Int32) (M : Nat → Nat → Int32) (V : Nat → Nat → Int32) (x : Int32) (r : Int32) (hM : ∀ j r, j < 8 → r < 6 → (if nI r < fj j then fm (6 * j + r) else 0) = M j r) (hV : ∀ j r, j < 8 → r < 6 → (if nI r < fj j then fw (6 * j + r) else 100) = V j r) (hT : ft 0 = 1 ∧ ft 1 = 3 ∧ ft 2 = 4 ∧ ft 3 = 6 ∧ ft 4 = 2 ∧ ft 5 = 5) (hn : n ≤ 8) : Met l yX1_verdict wsX1_verdict ({ frames := 3, cells := 0, slots := 0, locals := 70 }) (va_Pc [.ref h, .int x, .int r] (fun U => va_P (dC, dI) vwCl (wY h qb qj qm qw qt cA (nI n) rec lim fb fj fm fw ft) U.heap ∧ va_K (dC, dI) vwCl [(cA, .int)] U)) (QcRead (aVerdict M V rec lim (nI n) x r)) 0 0 (fun _ => False) := by
  refine Met.ofW (cc := cX1_verdict) (maxL := 6) (ret := (some .int)) (by decide) rfl ?_
  intro p e s m args below meth c s₁ B hml hv
  obtain ⟨rfl, hP, hK⟩ := hv
  have hx := B.exec
  have hb := B.bytes
  have hr := B.returns
  have hts := atoms_spec (ws := wsX1_verdict) B.pre
  have hown : s.vm.findClass RX1 = some m.cls := findClass_of_methodNamed B.named
  have hlk := B.notSynchronized
  have hin : ∀ w ∈ wsX10, w ∈ wsX1_verdict := fun w h => List.mem_cons_of_mem _ (List.mem_append_right _ h)
  have hf_25 := hts (.fieldLink RX1 25 "JumpBoardModel" "recordMark" "I") (by decide +kernel)
  have hf_29 := hts (.fieldLink RX1 29 "JumpBoardModel" "limitWind" "I") (by decide +kernel)
  have hl := lv_entry ([.ref h, .int x, .int r]) (n := 6) (Nat.le_of_ble_eq_true rfl)
  rw [lg_entry_eq]
  generalize (lg_sl ([.ref h, .int x, .int r]) ++ List.replicate (6 - (lg_sl ([.ref h, .int x, .int r])).length) Slot.unset).toArray = ls at hl ⊢
  have hl : lv_has ls 6 [(0, .ref h), (1, .int x), (2, .int r)] := hl
  refine lv_aload_n hx hb dX1_verdict_0 rfl (lv_at hl 0 rfl) ?_
  refine lv_iload_n hx hb dX1_verdict_1 rfl (lv_at hl 1 rfl) ?_
  refine q_cv [.int x] (rest := []) ⟨hx, hb, hml, hown, hts⟩ (mX1_isJumper l dC dI h qb qj qm qw qt cA n rec lim fb fj fm fw ft x (by omega)) gX1_verdict_X1_isJumper rfl rfl rfl hdX1_isJumper ⟨Nat.le_of_ble_eq_true rfl, Nat.le_of_ble_eq_true rfl⟩ rfl hK hP rfl rfl hl.1 rfl (Nat.le_of_ble_eq_true rfl) dX1_verdict_2 ⟨Nat.zero_le _, Nat.zero_le _⟩ ?_
  refine lv_if_eq (tgt := 15) hx hb dX1_verdict_5 (by decide) (fun c_1 => ?_) (fun c_1 => ?_)
  · skip
    have c_1 : (jmp (nI n) x) = false := b2i_0 c_1
    refine lv_sipush (v := (-1000)) hx hb dX1_verdict_15 (by decide) ?_
    exact q_ri hx hb hr hlk (by simp [aVerdict, c_1]) dX1_verdict_18
  · skip
    have c_1 : (jmp (nI n) x) = true := b2i_n c_1
    refine lv_iload_n hx hb dX1_verdict_8 rfl (lv_at hl 2 rfl) ?_
    refine q_cs [.int r] (rest := []) ⟨hx, hb, hml, hown, hts⟩ (mX1_isRound l r) gX1_verdict_X1_isRound rfl rfl rfl hdX1_isRound ⟨Nat.le_of_ble_eq_true rfl, Nat.le_of_ble_eq_true rfl⟩ rfl hl.1 rfl (Nat.le_of_ble_eq_true rfl) dX1_verdict_9 ⟨Nat.zero_le _, Nat.zero_le _⟩ ?_
    refine lv_if_ne (tgt := 19) hx hb dX1_verdict_12 (by decide) (fun c_2 => ?_) (fun c_2 => ?_)
    · skip
      have c_2 : (rnd r) = true := b2i_n c_2
      obtain ⟨j, hj, rfl⟩ := jmp_of c_1 hn
      obtain ⟨r6, hr6, rfl⟩ := rnd_of c_2
      refine lv_aload_n hx hb dX1_verdict_19 rfl (lv_at hl 0 rfl) ?_
      refine lv_iconst (v := 0) hx hb dX1_verdict_20 (by decide) ?_
      refine lv_iload_n hx hb dX1_verdict_21 rfl (lv_at hl 1 rfl) ?_
      refine lv_iload_n hx hb dX1_verdict_22 rfl (lv_at hl 2 rfl) ?_
      refine q_cv [.int 0, .int (nI j), .int (nI r6)] (rest := []) ⟨hx, hb, hml, hown, hts⟩ (mX1_code l dC dI h qb qj qm qw qt cA n rec lim fb fj fm fw ft M V 0 j r6 hM hV (by omega) (by omega)) gX1_verdict_X1_code rfl rfl rfl hdX1_code ⟨Nat.le_of_ble_eq_true rfl, Nat.le_of_ble_eq_true rfl⟩ rfl hK hP rfl rfl hl.1 rfl (Nat.le_of_ble_eq_true rfl) dX1_verdict_23 ⟨Nat.zero_le _, Nat.zero_le _⟩ ?_
      refine q_top (y := M j r6) (by rfl) ?_
      refine lv_istore_n (lv' := [(3, .int (M j r6)), (0, .ref h), (1, .int (nI j)), (2, .int (nI r6))]) hx hb dX1_verdict_26 rfl hl (by decide) rfl (fun ls hl => ?_)
      refine lv_aload_n hx hb dX1_verdict_27 rfl (lv_at hl 1 rfl) ?_
      refine lv_iconst (v := 1) hx hb dX1_verdict_28 (by decide) ?_
      refine lv_iload_n hx hb dX1_verdict_29 rfl (lv_at hl 2 rfl) ?_
      refine lv_iload_n hx hb dX1_verdict_30 rfl (lv_at hl 3 rfl) ?_
      refine q_cv [.int 1, .int (nI j), .int (nI r6)] (rest := []) ⟨hx, hb, hml, hown, hts⟩ (mX1_code l dC dI h qb qj qm qw qt cA n rec lim fb fj fm fw ft M V 1 j r6 hM hV (by omega) (by omega)) gX1_verdict_X1_code rfl rfl rfl hdX1_code ⟨Nat.le_of_ble_eq_true rfl, Nat.le_of_ble_eq_true rfl⟩ rfl hK hP rfl rfl hl.1 rfl (Nat.le_of_ble_eq_true rfl) dX1_verdict_31 ⟨Nat.zero_le _, Nat.zero_le _⟩ ?_
      refine q_top (y := V j r6) (by rfl) ?_
      refine lv_istore (lv' := [(4, .int (V j r6)), (3, .int (M j r6)), (0, .ref h), (1, .int (nI j)), (2, .int (nI r6))]) hx hb dX1_verdict_34 hl (by decide) rfl (fun ls hl => ?_)
      refine lv_iload_n hx hb dX1_verdict_36 rfl (lv_at hl 1 rfl) ?_
      refine q_jn (pj := 45) (v := ifz (!decide (M j r6 = 0)) 1) (rest := []) ?_ (fun J => ?_)
      rotate_left
      · skip
        refine lv_if_eq (tgt := 44) hx hb dX1_verdict_37 (by decide) (fun c_3 => ?_) (fun c_3 => ?_)
        · skip
          refine lv_iconst (v := 0) hx hb dX1_verdict_44 (by decide) ?_
          exact q_top (by simp [ifz, c_1, c_2, c_3] <;> simp_all) J
        · skip
          refine lv_iconst (v := 1) hx hb dX1_verdict_40 (by decide) ?_
          refine lv_goto (tgt := 45) hx hb dX1_verdict_41 (by decide) ?_
          exact q_top (by simp [ifz, c_1, c_2, c_3] <;> simp_all) J
      refine lv_istore (lv' := [(5, .int (ifz (!decide (M j r6 = 0)) 1)), (4, .int (V j r6)), (3, .int (M j r6)), (0, .ref h), (1, .int (nI j)), (2, .int (nI r6))]) hx hb dX1_verdict_45 hl (by decide) rfl (fun ls hl => ?_)
      refine lv_iload hx hb dX1_verdict_47 (lv_at hl 0 rfl) ?_
      refine lv_iload hx hb dX1_verdict_49 (lv_at hl 1 rfl) ?_
      refine lv_bipush (v := 100) hx hb dX1_verdict_51 (by decide) ?_
      refine q_jn (pj := 61) (v := ifz (!decide (V j r6 = 100)) 2) (rest := [.int (ifz (!decide (M j r6 = 0)) 1)]) ?_ (fun J => ?_)
      rotate_left
      · skip
        refine lv_icmp_eq (tgt := 60) hx hb dX1_verdict_53 (by decide) (fun c_4 => ?_) (fun c_4 => ?_)
        · skip
          refine lv_iconst (v := 0) hx hb dX1_verdict_60 (by decide) ?_
          exact q_top (by simp [ifz, c_1, c_2, c_4] <;> simp_all) J
        · skip
          refine lv_iconst (v := 2) hx hb dX1_verdict_56 (by decide) ?_
          refine lv_goto (tgt := 61) hx hb dX1_verdict_57 (by decide) ?_
          exact q_top (by simp [ifz, c_1, c_2, c_4] <;> simp_all) J
      refine lv_iadd hx hb dX1_verdict_61 ?_
      refine lv_istore (lv' := [(5, .int ((ifz (!decide (M j r6 = 0)) 1) + (ifz (!decide (V j r6 = 100)) 2))), (4, .int (V j r6)), (3, .int (M j r6)), (0, .ref h), (1, .int (nI j)), (2, .int (nI r6))]) hx hb dX1_verdict_62 hl (by decide) rfl (fun ls hl => ?_)
      refine lv_iload hx hb dX1_verdict_64 (lv_at hl 0 rfl) ?_
      refine lv_aload_n hx hb dX1_verdict_66 rfl (lv_at hl 3 rfl) ?_
      refine lv_iload_n hx hb dX1_verdict_67 rfl (lv_at hl 4 rfl) ?_
      refine lv_iload_n hx hb dX1_verdict_68 rfl (lv_at hl 5 rfl) ?_
      refine q_cv [.int (nI j), .int (nI r6)] (rest := [.int ((ifz (!decide (M j r6 = 0)) 1) + (ifz (!decide (V j r6 = 100)) 2))]) ⟨hx, hb, hml, hown, hts⟩ (mX1_isLegal l dC dI h qb qj qm qw qt cA n rec lim fb fj fm fw ft M V j r6 hM hV hT (by omega) (by omega)) gX1_verdict_X1_isLegal rfl rfl rfl hdX1_isLegal ⟨Nat.le_of_ble_eq_true rfl, Nat.le_of_ble_eq_true rfl⟩ rfl hK hP rfl rfl hl.1 rfl (Nat.le_of_ble_eq_true rfl) dX1_verdict_69 ⟨Nat.zero_le _, Nat.zero_le _⟩ ?_
      refine q_jn (pj := 80) (v := ifz (lgl M V lim j r6) 4) (rest := [.int ((ifz (!decide (M j r6 = 0)) 1) + (ifz (!decide (V j r6 = 100)) 2))]) ?_ (fun J => ?_)
      rotate_left
      · skip
        refine lv_if_eq (tgt := 79) hx hb dX1_verdict_72 (by decide) (fun c_5 => ?_) (fun c_5 => ?_)
        · skip
          have c_5 : (lgl M V lim j r6) = false := b2i_0 c_5
          refine lv_iconst (v := 0) hx hb dX1_verdict_79 (by decide) ?_
          exact q_top (by simp [ifz, c_1, c_2, c_5] <;> simp_all) J
        · skip
          have c_5 : (lgl M V lim j r6) = true := b2i_n c_5
          refine lv_iconst (v := 4) hx hb dX1_verdict_75 (by decide) ?_
          refine lv_goto (tgt := 80) hx hb dX1_verdict_76 (by decide) ?_
          exact q_top (by simp [ifz, c_1, c_2, c_5] <;> simp_all) J
      refine lv_iadd hx hb dX1_verdict_80 ?_
      refine lv_istore (lv' := [(5, .int (((ifz (!decide (M j r6 = 0)) 1) + (ifz (!decide (V j r6 = 100)) 2)) + (ifz (lgl M V lim j r6) 4))), (4, .int (V j r6)), (3, .int (M j r6)), (0, .ref h), (1, .int (nI j)), (2, .int (nI r6))]) hx hb dX1_verdict_81 hl (by decide) rfl (fun ls hl => ?_)
      refine lv_iload hx hb dX1_verdict_83 (lv_at hl 0 rfl) ?_
      refine lv_aload_n hx hb dX1_verdict_85 rfl (lv_at hl 3 rfl) ?_
      refine lv_iconst (v := 3) hx hb dX1_verdict_86 (by decide) ?_
      refine lv_iconst (v := 0) hx hb dX1_verdict_87 (by decide) ?_
      refine lv_iload_n hx hb dX1_verdict_88 rfl (lv_at hl 2 rfl) ?_
      refine lv_aload_n hx hb dX1_verdict_89 rfl (lv_at hl 3 rfl) ?_
      refine va_get (D := (dC, dI)) (ci := 1) (v := .int rec) (C := RX1) (T := TX1) (N := 8) hx hb hts hin hown hK hP 0 rfl rfl 6 (by decide) hf_25 (fun _ h9 => h9) rfl dX1_verdict_90 ?_
      refine q_cv [.int 3, .int 0, .int (M j r6), .int rec] (rest := [.int (((ifz (!decide (M j r6 = 0)) 1) + (ifz (!decide (V j r6 = 100)) 2)) + (ifz (lgl M V lim j r6) 4))]) ⟨hx, hb, hml, hown, hts⟩ (mX1_fit l dC dI h qb qj qm qw qt cA n rec lim fb fj fm fw ft 3 0 (M j r6) rec hT (by omega)) gX1_verdict_X1_fit rfl rfl rfl hdX1_fit ⟨Nat.le_of_ble_eq_true rfl, Nat.le_of_ble_eq_true rfl⟩ rfl hK hP rfl rfl hl.1 rfl (Nat.le_of_ble_eq_true rfl) dX1_verdict_93 ⟨Nat.zero_le _, Nat.zero_le _⟩ ?_
      refine q_top (y := b2i (fitv 3 0 (M j r6) rec)) rfl ?_
      refine q_jn (pj := 105) (v := ifz (fitv 3 0 (M j r6) rec) 8) (rest := [.int (((ifz (!decide (M j r6 = 0)) 1) + (ifz (!decide (V j r6 = 100)) 2)) + (ifz (lgl M V lim j r6) 4))]) ?_ (fun J => ?_)
      rotate_left
      · skip
        refine lv_if_eq (tgt := 104) hx hb dX1_verdict_96 (by decide) (fun c_6 => ?_) (fun c_6 => ?_)
        · skip
          have c_6 : (fitv 3 0 (M j r6) rec) = false := b2i_0 c_6
          refine lv_iconst (v := 0) hx hb dX1_verdict_104 (by decide) ?_
          exact q_top (by simp [ifz, c_1, c_2, c_6] <;> simp_all) J
        · skip
          have c_6 : (fitv 3 0 (M j r6) rec) = true := b2i_n c_6
          refine lv_bipush (v := 8) hx hb dX1_verdict_99 (by decide) ?_
          refine lv_goto (tgt := 105) hx hb dX1_verdict_101 (by decide) ?_
          exact q_top (by simp [ifz, c_1, c_2, c_6] <;> simp_all) J
      refine lv_iadd hx hb dX1_verdict_105 ?_
      refine lv_istore (lv' := [(5, .int ((((ifz (!decide (M j r6 = 0)) 1) + (ifz (!decide (V j r6 = 100)) 2)) + (ifz (lgl M V lim j r6) 4)) + (ifz (fitv 3 0 (M j r6) rec) 8))), (4, .int (V j r6)), (3, .int (M j r6)), (0, .ref h), (1, .int (nI j)), (2, .int (nI r6))]) hx hb dX1_verdict_106 hl (by decide) rfl (fun ls hl => ?_)
      refine lv_iload hx hb dX1_verdict_108 (lv_at hl 0 rfl) ?_
      refine lv_aload_n hx hb dX1_verdict_110 rfl (lv_at hl 3 rfl) ?_
      refine lv_iconst (v := 2) hx hb dX1_verdict_111 (by decide) ?_
      refine lv_iconst (v := 0) hx hb dX1_verdict_112 (by decide) ?_
      refine lv_iload_n hx hb dX1_verdict_113 rfl (lv_at hl 2 rfl) ?_
      refine lv_aload_n hx hb dX1_verdict_114 rfl (lv_at hl 3 rfl) ?_
      refine va_get (D := (dC, dI)) (ci := 1) (v := .int rec) (C := RX1) (T := TX1) (N := 8) hx hb hts hin hown hK hP 0 rfl rfl 6 (by decide) hf_25 (fun _ h9 => h9) rfl dX1_verdict_115 ?_
      refine q_cv [.int 2, .int 0, .int (M j r6), .int rec] (rest := [.int ((((ifz (!decide (M j r6 = 0)) 1) + (ifz (!decide (V j r6 = 100)) 2)) + (ifz (lgl M V lim j r6) 4)) + (ifz (fitv 3 0 (M j r6) rec) 8))]) ⟨hx, hb, hml, hown, hts⟩ (mX1_fit l dC dI h qb qj qm qw qt cA n rec lim fb fj fm fw ft 2 0 (M j r6) rec hT (by omega)) gX1_verdict_X1_fit rfl rfl rfl hdX1_fit ⟨Nat.le_of_ble_eq_true rfl, Nat.le_of_ble_eq_true rfl⟩ rfl hK hP rfl rfl hl.1 rfl (Nat.le_of_ble_eq_true rfl) dX1_verdict_118 ⟨Nat.zero_le _, Nat.zero_le _⟩ ?_
      refine q_top (y := b2i (fitv 2 0 (M j r6) rec)) rfl ?_
      refine q_jn (pj := 130) (v := ifz (fitv 2 0 (M j r6) rec) 16) (rest := [.int ((((ifz (!decide (M j r6 = 0)) 1) + (ifz (!decide (V j r6 = 100)) 2)) + (ifz (lgl M V lim j r6) 4)) + (ifz (fitv 3 0 (M j r6) rec) 8))]) ?_ (fun J => ?_)
      rotate_left
      · skip
        refine lv_if_eq (tgt := 129) hx hb dX1_verdict_121 (by decide) (fun c_7 => ?_) (fun c_7 => ?_)
        · skip
          have c_7 : (fitv 2 0 (M j r6) rec) = false := b2i_0 c_7
          refine lv_iconst (v := 0) hx hb dX1_verdict_129 (by decide) ?_
          exact q_top (by simp [ifz, c_1, c_2, c_7] <;> simp_all) J
        · skip
          have c_7 : (fitv 2 0 (M j r6) rec) = true := b2i_n c_7
          refine lv_bipush (v := 16) hx hb dX1_verdict_124 (by decide) ?_
          refine lv_goto (tgt := 130) hx hb dX1_verdict_126 (by decide) ?_
          exact q_top (by simp [ifz, c_1, c_2, c_7] <;> simp_all) J
      refine lv_iadd hx hb dX1_verdict_130 ?_
      refine lv_istore (lv' := [(5, .int (((((ifz (!decide (M j r6 = 0)) 1) + (ifz (!decide (V j r6 = 100)) 2)) + (ifz (lgl M V lim j r6) 4)) + (ifz (fitv 3 0 (M j r6) rec) 8)) + (ifz (fitv 2 0 (M j r6) rec) 16))), (4, .int (V j r6)), (3, .int (M j r6)), (0, .ref h), (1, .int (nI j)), (2, .int (nI r6))]) hx hb dX1_verdict_131 hl (by decide) rfl (fun ls hl => ?_)
      refine lv_iload hx hb dX1_verdict_133 (lv_at hl 0 rfl) ?_
      refine lv_aload_n hx hb dX1_verdict_135 rfl (lv_at hl 3 rfl) ?_
      refine lv_iconst (v := 4) hx hb dX1_verdict_136 (by decide) ?_
      refine lv_iconst (v := 0) hx hb dX1_verdict_137 (by decide) ?_
      refine lv_iload_n hx hb dX1_verdict_138 rfl (lv_at hl 2 rfl) ?_
      refine lv_aload_n hx hb dX1_verdict_139 rfl (lv_at hl 3 rfl) ?_
      refine va_get (D := (dC, dI)) (ci := 1) (v := .int rec) (C := RX1) (T := TX1) (N := 8) hx hb hts hin hown hK hP 0 rfl rfl 6 (by decide) hf_25 (fun _ h9 => h9) rfl dX1_verdict_140 ?_
      refine q_cv [.int 4, .int 0, .int (M j r6), .int rec] (rest := [.int (((((ifz (!decide (M j r6 = 0)) 1) + (ifz (!decide (V j r6 = 100)) 2)) + (ifz (lgl M V lim j r6) 4)) + (ifz (fitv 3 0 (M j r6) rec) 8)) + (ifz (fitv 2 0 (M j r6) rec) 16))]) ⟨hx, hb, hml, hown, hts⟩ (mX1_fit l dC dI h qb qj qm qw qt cA n rec lim fb fj fm fw ft 4 0 (M j r6) rec hT (by omega)) gX1_verdict_X1_fit rfl rfl rfl hdX1_fit ⟨Nat.le_of_ble_eq_true rfl, Nat.le_of_ble_eq_true rfl⟩ rfl hK hP rfl rfl hl.1 rfl (Nat.le_of_ble_eq_true rfl) dX1_verdict_143 ⟨Nat.zero_le _, Nat.zero_le _⟩ ?_
      refine q_top (y := b2i (fitv 4 0 (M j r6) rec)) rfl ?_
      refine q_jn (pj := 155) (v := ifz (fitv 4 0 (M j r6) rec) 32) (rest := [.int (((((ifz (!decide (M j r6 = 0)) 1) + (ifz (!decide (V j r6 = 100)) 2)) + (ifz (lgl M V lim j r6) 4)) + (ifz (fitv 3 0 (M j r6) rec) 8)) + (ifz (fitv 2 0 (M j r6) rec) 16))]) ?_ (fun J => ?_)
      rotate_left
      · skip
        refine lv_if_eq (tgt := 154) hx hb dX1_verdict_146 (by decide) (fun c_8 => ?_) (fun c_8 => ?_)
        · skip
          have c_8 : (fitv 4 0 (M j r6) rec) = false := b2i_0 c_8
          refine lv_iconst (v := 0) hx hb dX1_verdict_154 (by decide) ?_
          exact q_top (by simp [ifz, c_1, c_2, c_8] <;> simp_all) J
        · skip
          have c_8 : (fitv 4 0 (M j r6) rec) = true := b2i_n c_8
          refine lv_bipush (v := 32) hx hb dX1_verdict_149 (by decide) ?_
          refine lv_goto (tgt := 155) hx hb dX1_verdict_151 (by decide) ?_
          exact q_top (by simp [ifz, c_1, c_2, c_8] <;> simp_all) J
      refine lv_iadd hx hb dX1_verdict_155 ?_
      refine lv_istore (lv' := [(5, .int ((((((ifz (!decide (M j r6 = 0)) 1) + (ifz (!decide (V j r6 = 100)) 2)) + (ifz (lgl M V lim j r6) 4)) + (ifz (fitv 3 0 (M j r6) rec) 8)) + (ifz (fitv 2 0 (M j r6) rec) 16)) + (ifz (fitv 4 0 (M j r6) rec) 32))), (4, .int (V j r6)), (3, .int (M j r6)), (0, .ref h), (1, .int (nI j)), (2, .int (nI r6))]) hx hb dX1_verdict_156 hl (by decide) rfl (fun ls hl => ?_)
      refine lv_iload hx hb dX1_verdict_158 (lv_at hl 0 rfl) ?_
      refine lv_aload_n hx hb dX1_verdict_160 rfl (lv_at hl 3 rfl) ?_
      refine lv_iconst (v := 1) hx hb dX1_verdict_161 (by decide) ?_
      refine lv_iconst (v := 1) hx hb dX1_verdict_162 (by decide) ?_
      refine lv_iload hx hb dX1_verdict_163 (lv_at hl 1 rfl) ?_
      refine lv_aload_n hx hb dX1_verdict_165 rfl (lv_at hl 3 rfl) ?_
      refine va_get (D := (dC, dI)) (ci := 1) (v := .int lim) (C := RX1) (T := TX1) (N := 8) hx hb hts hin hown hK hP 0 rfl rfl 7 (by decide) hf_29 (fun _ h9 => h9) rfl dX1_verdict_166 ?_
      refine q_cv [.int 1, .int 1, .int (V j r6), .int lim] (rest := [.int ((((((ifz (!decide (M j r6 = 0)) 1) + (ifz (!decide (V j r6 = 100)) 2)) + (ifz (lgl M V lim j r6) 4)) + (ifz (fitv 3 0 (M j r6) rec) 8)) + (ifz (fitv 2 0 (M j r6) rec) 16)) + (ifz (fitv 4 0 (M j r6) rec) 32))]) ⟨hx, hb, hml, hown, hts⟩ (mX1_fit l dC dI h qb qj qm qw qt cA n rec lim fb fj fm fw ft 1 1 (V j r6) lim hT (by omega)) gX1_verdict_X1_fit rfl rfl rfl hdX1_fit ⟨Nat.le_of_ble_eq_true rfl, Nat.le_of_ble_eq_true rfl⟩ rfl hK hP rfl rfl hl.1 rfl (Nat.le_of_ble_eq_true rfl) dX1_verdict_169 ⟨Nat.zero_le _, Nat.zero_le _⟩ ?_
      refine q_top (y := b2i (fitv 1 1 (V j r6) lim)) rfl ?_
      refine q_jn (pj := 181) (v := ifz (fitv 1 1 (V j r6) lim) 64) (rest := [.int ((((((ifz (!decide (M j r6 = 0)) 1) + (ifz (!decide (V j r6 = 100)) 2)) + (ifz (lgl M V lim j r6) 4)) + (ifz (fitv 3 0 (M j r6) rec) 8)) + (ifz (fitv 2 0 (M j r6) rec) 16)) + (ifz (fitv 4 0 (M j r6) rec) 32))]) ?_ (fun J => ?_)
      rotate_left
      · skip
        refine lv_if_eq (tgt := 180) hx hb dX1_verdict_172 (by decide) (fun c_9 => ?_) (fun c_9 => ?_)
        · skip
          have c_9 : (fitv 1 1 (V j r6) lim) = false := b2i_0 c_9
          refine lv_iconst (v := 0) hx hb dX1_verdict_180 (by decide) ?_
          exact q_top (by simp [ifz, c_1, c_2, c_9] <;> simp_all) J
        · skip
          have c_9 : (fitv 1 1 (V j r6) lim) = true := b2i_n c_9
          refine lv_bipush (v := 64) hx hb dX1_verdict_175 (by decide) ?_
          refine lv_goto (tgt := 181) hx hb dX1_verdict_177 (by decide) ?_
          exact q_top (by simp [ifz, c_1, c_2, c_9] <;> simp_all) J
      refine lv_iadd hx hb dX1_verdict_181 ?_
      refine lv_istore (lv' := [(5, .int (((((((ifz (!decide (M j r6 = 0)) 1) + (ifz (!decide (V j r6 = 100)) 2)) + (ifz (lgl M V lim j r6) 4)) + (ifz (fitv 3 0 (M j r6) rec) 8)) + (ifz (fitv 2 0 (M j r6) rec) 16)) + (ifz (fitv 4 0 (M j r6) rec) 32)) + (ifz (fitv 1 1 (V j r6) lim) 64))), (4, .int (V j r6)), (3, .int (M j r6)), (0, .ref h), (1, .int (nI j)), (2, .int (nI r6))]) hx hb dX1_verdict_182 hl (by decide) rfl (fun ls hl => ?_)
      refine lv_iload hx hb dX1_verdict_184 (lv_at hl 0 rfl) ?_
      refine lv_aload_n hx hb dX1_verdict_186 rfl (lv_at hl 3 rfl) ?_
      refine lv_iload_n hx hb dX1_verdict_187 rfl (lv_at hl 4 rfl) ?_
      refine lv_iload_n hx hb dX1_verdict_188 rfl (lv_at hl 5 rfl) ?_
      refine q_cv [.int (nI j), .int (nI r6)] (rest := [.int (((((((ifz (!decide (M j r6 = 0)) 1) + (ifz (!decide (V j r6 = 100)) 2)) + (ifz (lgl M V lim j r6) 4)) + (ifz (fitv 3 0 (M j r6) rec) 8)) + (ifz (fitv 2 0 (M j r6) rec) 16)) + (ifz (fitv 4 0 (M j r6) rec) 32)) + (ifz (fitv 1 1 (V j r6) lim) 64))]) ⟨hx, hb, hml, hown, hts⟩ (mX1_isNewBest l dC dI h qb qj qm qw qt cA n rec lim fb fj fm fw ft M V j r6 hM hV hT (by omega) (by omega)) gX1_verdict_X1_isNewBest rfl rfl rfl hdX1_isNewBest ⟨Nat.le_of_ble_eq_true rfl, Nat.le_of_ble_eq_true rfl⟩ rfl hK hP rfl rfl hl.1 rfl (Nat.le_of_ble_eq_true rfl) dX1_verdict_189 ⟨Nat.zero_le _, Nat.zero_le _⟩ ?_
      refine q_jn (pj := 202) (v := ifz (bts (M j) r6) 128) (rest := [.int (((((((ifz (!decide (M j r6 = 0)) 1) + (ifz (!decide (V j r6 = 100)) 2)) + (ifz (lgl M V lim j r6) 4)) + (ifz (fitv 3 0 (M j r6) rec) 8)) + (ifz (fitv 2 0 (M j r6) rec) 16)) + (ifz (fitv 4 0 (M j r6) rec) 32)) + (ifz (fitv 1 1 (V j r6) lim) 64))]) ?_ (fun J => ?_)
      rotate_left
      · skip
        refine lv_if_eq (tgt := 201) hx hb dX1_verdict_192 (by decide) (fun c_10 => ?_) (fun c_10 => ?_)
        · skip
          have c_10 : (bts (M j) r6) = false := b2i_0 c_10
          refine lv_iconst (v := 0) hx hb dX1_verdict_201 (by decide) ?_
          exact q_top (by simp [ifz, c_1, c_2, c_10] <;> simp_all) J
        · skip
          have c_10 : (bts (M j) r6) = true := b2i_n c_10
          refine lv_sipush (v := 128) hx hb dX1_verdict_195 (by decide) ?_
          refine lv_goto (tgt := 202) hx hb dX1_verdict_198 (by decide) ?_
          exact q_top (by simp [ifz, c_1, c_2, c_10] <;> simp_all) J
      refine lv_iadd hx hb dX1_verdict_202 ?_
      exact q_ri hx hb hr hlk (by rw [aVerdict, if_pos (by simp [c_1, c_2]), nI_clamp (by omega), nI_clamp (by omega), vdt]) dX1_verdict_203
    · skip
      have c_2 : (rnd r) = false := b2i_0 c_2
      refine lv_sipush (v := (-1000)) hx hb dX1_verdict_15 (by decide) ?_
      exact q_ri hx hb hr hlk (by simp [aVerdict, c_1, c_2]) dX1_verdict_18

theorem hdX1_told : yX1_told.cls = RX1 ∧ yX1_told.cls ≠ "java/lang/invoke/MethodHandle" ∧ yX1_told.cls ≠ "java/lang/invoke/VarHandle" ∧ (parseMethodDescriptor yX1_told.desc).map (fun d => d.parameters.length) = some 1 := by decide +kernel
set_option maxHeartbeats 4000000 in
set_option maxRecDepth 100000 in
theorem mX1_told (l : Launch) (dC : Nat → ClassId) (dI : Nat → Nat → Nat) (h qb qj qm qw qt : Nat) (cA : ClassId) (n : Nat) (rec lim : Int32) (fb fj fm fw ft : Nat → Int32) (M : Nat → Nat → Int32) (V : Nat → Nat → Int32) (J : Nat → Nat) (w : Int32) (hM : ∀ j r, j < 8 → r < 6 → (if nI r < fj j then fm (6 * j + r) else 0) = M j r) (hV : ∀ j r, j < 8 → r < 6 → (if nI r < fj j then fw (6 * j + r) else 100) = V j r) (hT : ft 0 = 1 ∧ ft 1 = 3 ∧ ft 2 = 4 ∧ ft 3 = 6 ∧ ft 4 = 2 ∧ ft 5 = 5) (hn : n ≤ 8) (hJ : ∀ j, j < 8 → fj j = nI (J j) ∧ J j ≤ 6) : Met l yX1_told wsX1_told ({ frames := 3, cells := 0, slots := 0, locals := 67 }) (va_Pc [.ref h, .int w] (fun U => va_P (dC, dI) vwCl (wY h qb qj qm qw qt cA (nI n) rec lim fb fj fm fw ft) U.heap ∧ va_K (dC, dI) vwCl [(cA, .int)] U)) (QcRead (a1Told J M V n rec lim w)) 0 0 (fun _ => False) := by
  refine Met.ofW (cc := cX1_told) (maxL := 6) (ret := (some .int)) (by decide) rfl ?_
  intro p e s m args below meth c s₁ B hml hv
  obtain ⟨rfl, hP, hK⟩ := hv
  have hx := B.exec
  have hb := B.bytes
  have hr := B.returns
  have hts := atoms_spec (ws := wsX1_told) B.pre
  have hown : s.vm.findClass RX1 = some m.cls := findClass_of_methodNamed B.named
  have hlk := B.notSynchronized
  have hin : ∀ w ∈ wsX10, w ∈ wsX1_told := fun w h => List.mem_cons_of_mem _ (List.mem_append_right _ h)
  have hf_13 := hts (.fieldLink RX1 13 "JumpBoardModel" "jumped" "[I") (by decide +kernel)
  have hf_25 := hts (.fieldLink RX1 25 "JumpBoardModel" "recordMark" "I") (by decide +kernel)
  have hf_29 := hts (.fieldLink RX1 29 "JumpBoardModel" "limitWind" "I") (by decide +kernel)
  have hf_32 := hts (.fieldLink RX1 32 "JumpBoardModel" "jumpers" "I") (by decide +kernel)
  have hl := lv_entry ([.ref h, .int w]) (n := 6) (Nat.le_of_ble_eq_true rfl)
  rw [lg_entry_eq]
  generalize (lg_sl ([.ref h, .int w]) ++ List.replicate (6 - (lg_sl ([.ref h, .int w])).length) Slot.unset).toArray = ls at hl ⊢
  have hl : lv_has ls 6 [(0, .ref h), (1, .int w)] := hl
  refine lv_iload_n hx hb dX1_told_0 rfl (lv_at hl 1 rfl) ?_
  refine lv_if_ne (tgt := 9) hx hb dX1_told_1 (by decide) (fun c_1 => ?_) (fun c_1 => ?_)
  · skip
    refine lv_iload_n hx hb dX1_told_9 rfl (lv_at hl 1 rfl) ?_
    refine lv_iconst (v := 4) hx hb dX1_told_10 (by decide) ?_
    refine lv_icmp_ne (tgt := 19) hx hb dX1_told_11 (by decide) (fun c_2 => ?_) (fun c_2 => ?_)
    · skip
      refine lv_iload_n hx hb dX1_told_19 rfl (lv_at hl 1 rfl) ?_
      refine lv_iconst (v := 5) hx hb dX1_told_20 (by decide) ?_
      refine lv_icmp_ne (tgt := 29) hx hb dX1_told_21 (by decide) (fun c_3 => ?_) (fun c_3 => ?_)
      · skip
        refine lv_iload_n hx hb dX1_told_29 rfl (lv_at hl 1 rfl) ?_
        refine lv_iconst (v := 1) hx hb dX1_told_30 (by decide) ?_
        refine lv_iconst (v := 3) hx hb dX1_told_31 (by decide) ?_
        refine q_cs [.int w, .int 1, .int 3] (rest := []) ⟨hx, hb, hml, hown, hts⟩ (mX1_isIn l w 1 3) gX1_told_X1_isIn rfl rfl rfl hdX1_isIn ⟨Nat.le_of_ble_eq_true rfl, Nat.le_of_ble_eq_true rfl⟩ rfl hl.1 rfl (Nat.le_of_ble_eq_true rfl) dX1_told_32 ⟨Nat.zero_le _, Nat.zero_le _⟩ ?_
        refine lv_if_ne (tgt := 42) hx hb dX1_told_35 (by decide) (fun c_4 => ?_) (fun c_4 => ?_)
        · skip
          have c_4 : (inR w 1 3) = true := b2i_n c_4
          refine lv_iconst (v := 0) hx hb dX1_told_42 (by decide) ?_
          refine lv_istore_n (lv' := [(2, .int 0), (0, .ref h), (1, .int w)]) hx hb dX1_told_43 rfl hl (by decide) rfl (fun ls hl => ?_)
          refine lv_iconst (v := 0) hx hb dX1_told_44 (by decide) ?_
          refine lv_istore_n (lv' := [(3, .int 0), (2, .int 0), (0, .ref h), (1, .int w)]) hx hb dX1_told_45 rfl hl (by decide) rfl (fun ls hl => ?_)
          refine q_lp (head := 46) (n) (fun i => [(0, .ref h), (1, .int w), (2, .int (nI (sumN (fun t => cntB (tqB M V lim w t) (J t)) i))), (3, .int (nI i))]) (fun i => True) (0) (by omega) (trivial) (q_hl (lv_sub (l' := [(0, .ref h), (1, .int w), (2, .int 0), (3, .int 0)]) hl [2, 3, 1, 0] rfl) (q_ck (q_ck (q_ce (by rfl) (q_ce (by rfl) (rfl)))))) ?_ ?_
          · intro i hi_i hI_i ih_i ls hl
            have hl : lv_has ls 6 [(0, .ref h), (1, .int w), (2, .int (nI (sumN (fun t => cntB (tqB M V lim w t) (J t)) i))), (3, .int (nI i))] := hl
            refine lv_iload_n hx hb dX1_told_46 rfl (lv_at hl 3 rfl) ?_
            refine lv_aload_n hx hb dX1_told_47 rfl (lv_at hl 0 rfl) ?_
            refine va_get (D := (dC, dI)) (ci := 1) (v := .int (nI n)) (C := RX1) (T := TX1) (N := 8) hx hb hts hin hown hK hP 0 rfl rfl 5 (by decide) hf_32 (fun _ h9 => h9) rfl dX1_told_48 ?_
            refine lv_icmp_ge (tgt := 134) hx hb dX1_told_51 (by decide) (fun c_5 => absurd c_5 (nI_ge hi_i (by omega))) (fun c_5 => ?_)
            have hJi := (hJ i (by omega)).2
            refine lv_iconst (v := 0) hx hb dX1_told_54 (by decide) ?_
            refine lv_istore (lv' := [(4, .int 0), (0, .ref h), (1, .int w), (2, .int (nI (sumN (fun t => cntB (tqB M V lim w t) (J t)) i))), (3, .int (nI i))]) hx hb dX1_told_55 hl (by decide) rfl (fun ls hl => ?_)
            refine q_lp (head := 57) (J i) (fun k => [(0, .ref h), (1, .int w), (2, .int (nI (sumN (fun t => cntB (tqB M V lim w t) (J t)) i + cntB (tqB M V lim w i) k))), (3, .int (nI i)), (4, .int (nI k))]) (fun k => True) (0) (by omega) (trivial) (q_hl (lv_sub (l' := [(0, .ref h), (1, .int w), (2, .int (nI (sumN (fun t => cntB (tqB M V lim w t) (J t)) i))), (3, .int (nI i)), (4, .int 0)]) hl [1, 2, 3, 4, 0] rfl) (q_ck (q_ck (q_ce (by rfl) (q_ck (q_ce (by rfl) (rfl))))))) ?_ ?_
            · intro k hi_k hI_k ih_k ls hl
              have hl : lv_has ls 6 [(0, .ref h), (1, .int w), (2, .int (nI (sumN (fun t => cntB (tqB M V lim w t) (J t)) i + cntB (tqB M V lim w i) k))), (3, .int (nI i)), (4, .int (nI k))] := hl
              refine lv_iload hx hb dX1_told_57 (lv_at hl 4 rfl) ?_
              refine lv_aload_n hx hb dX1_told_59 rfl (lv_at hl 0 rfl) ?_
              refine va_get (D := (dC, dI)) (ci := 1) (v := .ref qj) (C := RX1) (T := TX1) (N := 8) hx hb hts hin hown hK hP 0 rfl rfl 1 (by decide) hf_13 (fun _ h9 => h9) rfl dX1_told_60 ?_
              refine lv_iload_n hx hb dX1_told_63 rfl (lv_at hl 3 rfl) ?_
              refine q_ald (n := 8) (k := i) hx hb hK hP 2 0 rfl rfl (by omega) (by decide) dX1_told_64 ?_
              refine q_top (y := nI (J i)) (by exact (hJ i (by omega)).1) ?_
              refine lv_icmp_ge (tgt := 128) hx hb dX1_told_65 (by decide) (fun c_6 => absurd c_6 (nI_ge hi_k (by omega))) (fun c_6 => ?_)
              refine lv_iload_n hx hb dX1_told_68 rfl (lv_at hl 1 rfl) ?_
              refine lv_iconst (v := 1) hx hb dX1_told_69 (by decide) ?_
              refine q_jn (pj := 107) (v := b2i (tqB M V lim w i k)) (rest := []) ?_ (fun J => ?_)
              rotate_left
              · skip
                refine lv_icmp_eq (tgt := 102) hx hb dX1_told_70 (by decide) (fun c_7 => ?_) (fun c_7 => ?_)
                · skip
                  refine lv_iconst (v := 1) hx hb dX1_told_102 (by decide) ?_
                  refine lv_goto (tgt := 107) hx hb dX1_told_103 (by decide) ?_
                  exact q_top (by simp [tqB, b2i, c_1, c_2, c_3, c_4, c_7] <;> simp_all) J
                · skip
                  refine lv_iload_n hx hb dX1_told_73 rfl (lv_at hl 1 rfl) ?_
                  refine lv_iconst (v := 2) hx hb dX1_told_74 (by decide) ?_
                  refine lv_icmp_ne (tgt := 92) hx hb dX1_told_75 (by decide) (fun c_8 => ?_) (fun c_8 => ?_)
                  · skip
                    refine lv_aload_n hx hb dX1_told_92 rfl (lv_at hl 0 rfl) ?_
                    refine lv_iload_n hx hb dX1_told_93 rfl (lv_at hl 3 rfl) ?_
                    refine lv_iload hx hb dX1_told_94 (lv_at hl 4 rfl) ?_
                    refine q_cv [.int (nI i), .int (nI k)] (rest := []) ⟨hx, hb, hml, hown, hts⟩ (mX1_isLegal l dC dI h qb qj qm qw qt cA n rec lim fb fj fm fw ft M V i k hM hV hT (by omega) (by omega)) gX1_told_X1_isLegal rfl rfl rfl hdX1_isLegal ⟨Nat.le_of_ble_eq_true rfl, Nat.le_of_ble_eq_true rfl⟩ rfl hK hP rfl rfl hl.1 rfl (Nat.le_of_ble_eq_true rfl) dX1_told_96 ⟨Nat.zero_le _, Nat.zero_le _⟩ ?_
                    refine lv_if_eq (tgt := 106) hx hb dX1_told_99 (by decide) (fun c_9 => ?_) (fun c_9 => ?_)
                    · skip
                      have c_9 : (lgl M V lim i k) = false := b2i_0 c_9
                      refine lv_iconst (v := 0) hx hb dX1_told_106 (by decide) ?_
                      exact q_top (by simp [tqB, b2i, c_1, c_2, c_3, c_4, c_7, c_8, c_9] <;> simp_all) J
                    · skip
                      have c_9 : (lgl M V lim i k) = true := b2i_n c_9
                      refine lv_iconst (v := 1) hx hb dX1_told_102 (by decide) ?_
                      refine lv_goto (tgt := 107) hx hb dX1_told_103 (by decide) ?_
                      exact q_top (by simp [tqB, b2i, c_1, c_2, c_3, c_4, c_7, c_8, c_9] <;> simp_all) J
                  · skip
                    refine lv_aload_n hx hb dX1_told_78 rfl (lv_at hl 0 rfl) ?_
                    refine lv_iconst (v := 0) hx hb dX1_told_79 (by decide) ?_
                    refine lv_iload_n hx hb dX1_told_80 rfl (lv_at hl 3 rfl) ?_
                    refine lv_iload hx hb dX1_told_81 (lv_at hl 4 rfl) ?_
                    refine q_cv [.int 0, .int (nI i), .int (nI k)] (rest := []) ⟨hx, hb, hml, hown, hts⟩ (mX1_code l dC dI h qb qj qm qw qt cA n rec lim fb fj fm fw ft M V 0 i k hM hV (by omega) (by omega)) gX1_told_X1_code rfl rfl rfl hdX1_code ⟨Nat.le_of_ble_eq_true rfl, Nat.le_of_ble_eq_true rfl⟩ rfl hK hP rfl rfl hl.1 rfl (Nat.le_of_ble_eq_true rfl) dX1_told_83 ⟨Nat.zero_le _, Nat.zero_le _⟩ ?_
                    refine q_top (y := M i k) (by rfl) ?_
                    refine lv_if_ne (tgt := 106) hx hb dX1_told_86 (by decide) (fun c_10 => ?_) (fun c_10 => ?_)
                    · skip
                      refine lv_iconst (v := 0) hx hb dX1_told_106 (by decide) ?_
                      exact q_top (by simp [tqB, b2i, c_1, c_2, c_3, c_4, c_7, c_8, c_10] <;> simp_all) J
                    · skip
                      refine lv_goto (tgt := 102) hx hb dX1_told_89 (by decide) ?_
                      refine lv_iconst (v := 1) hx hb dX1_told_102 (by decide) ?_
                      refine lv_goto (tgt := 107) hx hb dX1_told_103 (by decide) ?_
                      exact q_top (by simp [tqB, b2i, c_1, c_2, c_3, c_4, c_7, c_8, c_10] <;> simp_all) J
              refine lv_istore (lv' := [(5, .int (b2i (tqB M V lim w i k))), (0, .ref h), (1, .int w), (2, .int (nI (sumN (fun t => cntB (tqB M V lim w t) (J t)) i + cntB (tqB M V lim w i) k))), (3, .int (nI i)), (4, .int (nI k))]) hx hb dX1_told_107 hl (by decide) rfl (fun ls hl => ?_)
              refine lv_iload_n hx hb dX1_told_109 rfl (lv_at hl 3 rfl) ?_
              refine lv_iload hx hb dX1_told_110 (lv_at hl 0 rfl) ?_
              refine lv_if_eq (tgt := 119) hx hb dX1_told_112 (by decide) (fun c_11 => ?_) (fun c_11 => ?_)
              · skip
                have c_11 : (tqB M V lim w i k) = false := b2i_0 c_11
                refine lv_iconst (v := 0) hx hb dX1_told_119 (by decide) ?_
                refine lv_iadd hx hb dX1_told_120 ?_
                refine lv_istore_n (lv' := [(2, .int ((nI (sumN (fun t => cntB (tqB M V lim w t) (J t)) i + cntB (tqB M V lim w i) k)) + 0)), (5, .int (b2i (tqB M V lim w i k))), (0, .ref h), (1, .int w), (3, .int (nI i)), (4, .int (nI k))]) hx hb dX1_told_121 rfl hl (by decide) rfl (fun ls hl => ?_)
                refine lv_iinc (v := (nI (k + 1))) (lv' := [(4, .int (nI (k + 1))), (2, .int ((nI (sumN (fun t => cntB (tqB M V lim w t) (J t)) i + cntB (tqB M V lim w i) k)) + 0)), (5, .int (b2i (tqB M V lim w i k))), (0, .ref h), (1, .int w), (3, .int (nI i))]) hx hb dX1_told_122 hl (k := 5) rfl (by exact nI_1 _) (by decide) rfl (fun ls hl => ?_)
                refine lv_goto (tgt := 57) hx hb dX1_told_125 (by decide) ?_
                exact ih_k (by exact trivial) ls (q_hl (lv_sub (l' := [(0, .ref h), (1, .int w), (2, .int ((nI (sumN (fun t => cntB (tqB M V lim w t) (J t)) i + cntB (tqB M V lim w i) k)) + 0)), (3, .int (nI i)), (4, .int (nI (k + 1)))]) hl [3, 4, 1, 5, 0] rfl) (q_ck (q_ck (q_ce (by simp [cntB, c_1, c_2, c_3, c_4, c_11, nI_1, Nat.add_assoc]) (q_ck (q_ck (rfl)))))))
              · skip
                have c_11 : (tqB M V lim w i k) = true := b2i_n c_11
                refine lv_iconst (v := 1) hx hb dX1_told_115 (by decide) ?_
                refine lv_goto (tgt := 120) hx hb dX1_told_116 (by decide) ?_
                refine lv_iadd hx hb dX1_told_120 ?_
                refine lv_istore_n (lv' := [(2, .int ((nI (sumN (fun t => cntB (tqB M V lim w t) (J t)) i + cntB (tqB M V lim w i) k)) + 1)), (5, .int (b2i (tqB M V lim w i k))), (0, .ref h), (1, .int w), (3, .int (nI i)), (4, .int (nI k))]) hx hb dX1_told_121 rfl hl (by decide) rfl (fun ls hl => ?_)
                refine lv_iinc (v := (nI (k + 1))) (lv' := [(4, .int (nI (k + 1))), (2, .int ((nI (sumN (fun t => cntB (tqB M V lim w t) (J t)) i + cntB (tqB M V lim w i) k)) + 1)), (5, .int (b2i (tqB M V lim w i k))), (0, .ref h), (1, .int w), (3, .int (nI i))]) hx hb dX1_told_122 hl (k := 5) rfl (by exact nI_1 _) (by decide) rfl (fun ls hl => ?_)
                refine lv_goto (tgt := 57) hx hb dX1_told_125 (by decide) ?_
                exact ih_k (by exact trivial) ls (q_hl (lv_sub (l' := [(0, .ref h), (1, .int w), (2, .int ((nI (sumN (fun t => cntB (tqB M V lim w t) (J t)) i + cntB (tqB M V lim w i) k)) + 1)), (3, .int (nI i)), (4, .int (nI (k + 1)))]) hl [3, 4, 1, 5, 0] rfl) (q_ck (q_ck (q_ce (by simp [cntB, c_1, c_2, c_3, c_4, c_11, nI_1, Nat.add_assoc]) (q_ck (q_ck (rfl)))))))
            · intro hI_k ls hl
              have hl : lv_has ls 6 [(0, .ref h), (1, .int w), (2, .int (nI (sumN (fun t => cntB (tqB M V lim w t) (J t)) i + cntB (tqB M V lim w i) (J i)))), (3, .int (nI i)), (4, .int (nI (J i)))] := hl
              refine lv_iload hx hb dX1_told_57 (lv_at hl 4 rfl) ?_
              refine lv_aload_n hx hb dX1_told_59 rfl (lv_at hl 0 rfl) ?_
              refine va_get (D := (dC, dI)) (ci := 1) (v := .ref qj) (C := RX1) (T := TX1) (N := 8) hx hb hts hin hown hK hP 0 rfl rfl 1 (by decide) hf_13 (fun _ h9 => h9) rfl dX1_told_60 ?_
              refine lv_iload_n hx hb dX1_told_63 rfl (lv_at hl 3 rfl) ?_
              refine q_ald (n := 8) (k := i) hx hb hK hP 2 0 rfl rfl (by omega) (by decide) dX1_told_64 ?_
              refine q_top (y := nI (J i)) (by exact (hJ i (by omega)).1) ?_
              refine lv_icmp_ge (tgt := 128) hx hb dX1_told_65 (by decide) (fun c_12 => ?_) (fun c_12 => absurd (nI_le (Nat.le_refl (J i)) (by omega)) c_12)
              refine lv_iinc (v := (nI (i + 1))) (lv' := [(3, .int (nI (i + 1))), (0, .ref h), (1, .int w), (2, .int (nI (sumN (fun t => cntB (tqB M V lim w t) (J t)) i + cntB (tqB M V lim w i) (J i)))), (4, .int (nI (J i)))]) hx hb dX1_told_128 hl (k := 3) rfl (by exact nI_1 _) (by decide) rfl (fun ls hl => ?_)
              refine lv_goto (tgt := 46) hx hb dX1_told_131 (by decide) ?_
              exact ih_i (by exact trivial) ls (q_hl (lv_sub (l' := [(0, .ref h), (1, .int w), (2, .int (nI (sumN (fun t => cntB (tqB M V lim w t) (J t)) i + cntB (tqB M V lim w i) (J i)))), (3, .int (nI (i + 1)))]) hl [1, 2, 3, 0] rfl) (q_ck (q_ck (q_ce (by rfl) (q_ck (rfl))))))
          · intro hI_i ls hl
            have hl : lv_has ls 6 [(0, .ref h), (1, .int w), (2, .int (nI (sumN (fun t => cntB (tqB M V lim w t) (J t)) n))), (3, .int (nI n))] := hl
            refine lv_iload_n hx hb dX1_told_46 rfl (lv_at hl 3 rfl) ?_
            refine lv_aload_n hx hb dX1_told_47 rfl (lv_at hl 0 rfl) ?_
            refine va_get (D := (dC, dI)) (ci := 1) (v := .int (nI n)) (C := RX1) (T := TX1) (N := 8) hx hb hts hin hown hK hP 0 rfl rfl 5 (by decide) hf_32 (fun _ h9 => h9) rfl dX1_told_48 ?_
            refine lv_icmp_ge (tgt := 134) hx hb dX1_told_51 (by decide) (fun c_13 => ?_) (fun c_13 => absurd (nI_le (Nat.le_refl n) (by omega)) c_13)
            refine lv_iload_n hx hb dX1_told_134 rfl (lv_at hl 2 rfl) ?_
            exact q_ri hx hb hr hlk (by simp [a1Told, c_1, c_2, c_3, c_4]) dX1_told_135
        · skip
          have c_4 : (inR w 1 3) = false := b2i_0 c_4
          refine lv_sipush (v := (-1000)) hx hb dX1_told_38 (by decide) ?_
          exact q_ri hx hb hr hlk (by simp [a1Told, c_1, c_2, c_3, c_4]) dX1_told_41
      · skip
        refine lv_aload_n hx hb dX1_told_24 rfl (lv_at hl 0 rfl) ?_
        refine va_get (D := (dC, dI)) (ci := 1) (v := .int lim) (C := RX1) (T := TX1) (N := 8) hx hb hts hin hown hK hP 0 rfl rfl 7 (by decide) hf_29 (fun _ h9 => h9) rfl dX1_told_25 ?_
        exact q_ri hx hb hr hlk (by simp [a1Told, c_1, c_2, c_3]) dX1_told_28
    · skip
      refine lv_aload_n hx hb dX1_told_14 rfl (lv_at hl 0 rfl) ?_
      refine va_get (D := (dC, dI)) (ci := 1) (v := .int rec) (C := RX1) (T := TX1) (N := 8) hx hb hts hin hown hK hP 0 rfl rfl 6 (by decide) hf_25 (fun _ h9 => h9) rfl dX1_told_15 ?_
      exact q_ri hx hb hr hlk (by simp [a1Told, c_1, c_2]) dX1_told_18
  · skip
    refine lv_aload_n hx hb dX1_told_4 rfl (lv_at hl 0 rfl) ?_
    refine va_get (D := (dC, dI)) (ci := 1) (v := .int (nI n)) (C := RX1) (T := TX1) (N := 8) hx hb hts hin hown hK hP 0 rfl rfl 5 (by decide) hf_32 (fun _ h9 => h9) rfl dX1_told_5 ?_
    exact q_ri hx hb hr hlk (by simp [a1Told, c_1]) dX1_told_8
end
section
/-! the order of the rows: how many marks are at least v says it all -/
theorem i32_le {x y : Int32} : x ≤ y ↔ x.toInt ≤ y.toInt := Int32.le_iff_toInt_le
theorem i32_lt {x y : Int32} : x < y ↔ x.toInt < y.toInt := Int32.lt_iff_toInt_lt
theorem i32_eq {x y : Int32} : x = y ↔ x.toInt = y.toInt := Int32.toInt_inj.symm
theorem i32_z : (0 : Int32).toInt = 0 := rfl
theorem cntB_le (q : Nat → Bool) (i : Nat) : cntB q i ≤ i := by
  induction i with
  | zero => exact Nat.le_refl 0
  | succ i ih =>
    simp only [cntB]
    split <;> omega
theorem cntB_congr {q r : Nat → Bool} {i : Nat} (h : ∀ t, t < i → q t = r t) : cntB q i = cntB r i := by
  induction i with
  | zero => rfl
  | succ i ih =>
    simp only [cntB]
    rw [ih (fun t ht => h t (by omega)), h i (by omega)]
theorem cntB_0 {q : Nat → Bool} {i : Nat} (h : ∀ t, t < i → q t = false) : cntB q i = 0 := by
  induction i with
  | zero => rfl
  | succ i ih =>
    simp only [cntB]
    rw [ih (fun t ht => h t (by omega)), h i (by omega)]
    rfl
theorem cntB_pos {q : Nat → Bool} {i t : Nat} (ht : t < i) (h : q t = true) : 0 < cntB q i := by
  induction i with
  | zero => omega
  | succ i ih =>
    simp only [cntB]
    rcases Nat.lt_or_ge t i with a | a
    · have := ih a
      omega
    · have : t = i := by omega
      subst this
      rw [if_pos h]
      omega
theorem cntB_add {q a b : Nat → Bool} {i : Nat} (h : ∀ t, t < i → (q t = (a t || b t)) ∧ (a t && b t) = false) : cntB q i = cntB a i + cntB b i := by
  induction i with
  | zero => rfl
  | succ i ih =>
    simp only [cntB]
    rw [ih (fun t ht => h t (by omega)), (h i (by omega)).1]
    have h2 := (h i (by omega)).2
    cases ha : a i <;> cases hb : b i <;> simp [ha, hb] at h2 ⊢ <;> omega
def cge (g : Nat → Bool) (f : Nat → Int32) (v : Int) (i : Nat) : Nat := cntB (fun r => g r && decide (v ≤ (f r).toInt)) i
theorem mvR_spec {row : Nat → Int32} {x : Int32} {v : Int} {d : Nat} (hr : ∀ t, v ≤ (row t).toInt ↔ t < d) (t : Nat) : v ≤ (mvR row x t).toInt ↔ (v ≤ x.toInt ∧ t ≤ d) := by
  induction t with
  | zero => simp [mvR]
  | succ t ih =>
    have h1 := hr t
    simp only [mvR]
    split
    · rename_i h
      rw [i32_lt] at h
      constructor
      · intro q
        have := ih.mp (by omega)
        have := h1.mp q
        exact ⟨this |> fun _ => (ih.mp (by omega)).1, by omega⟩
      · intro q
        exact h1.mpr (by omega)
    · rename_i h
      rw [i32_lt] at h
      constructor
      · intro q
        have := ih.mp q
        have := h1.mp (by omega)
        exact ⟨(ih.mp q).1, by omega⟩
      · intro q
        exact ih.mpr ⟨q.1, by omega⟩
theorem insR_spec {row : Nat → Int32} {x : Int32} {v : Int} {d : Nat} (hr : ∀ t, v ≤ (row t).toInt ↔ t < d) (t : Nat) : v ≤ (insR row x t).toInt ↔ t < d + (if v ≤ x.toInt then 1 else 0) := by
  have h1 := hr t
  have h2 := mvR_spec (x := x) hr t
  unfold insR
  split
  · rename_i h
    rw [i32_lt] at h
    rw [h2]
    constructor
    · rintro ⟨a, b⟩
      rw [if_pos a]; omega
    · intro q
      split at q
      · rename_i a
        exact ⟨a, by omega⟩
      · have := h2.mp (by have := h1.mpr (by omega); omega)
        exact this
  · rename_i h
    rw [i32_lt] at h
    rw [h1]
    constructor
    · intro q
      split <;> omega
    · intro q
      split at q
      · rename_i a
        rcases Nat.lt_or_ge t d with b | b
        · exact b
        · have := h2.mpr ⟨a, by omega⟩
          exact h1.mp (by omega)
      · omega
theorem rowU_spec (g : Nat → Bool) (f : Nat → Int32) (i : Nat) {v : Int} (hv : 0 < v) : ∀ t, v ≤ (rowU g f i t).toInt ↔ t < cge g f v i := by
  induction i with
  | zero =>
    intro t
    simp only [rowU, cge, cntB, i32_z]
    omega
  | succ i ih =>
    intro t
    simp only [rowU]
    split
    · rename_i h
      rw [insR_spec ih t]
      simp only [cge, cntB, h, Bool.true_and, decide_eq_true_eq]
    · rename_i h
      rw [ih t]
      simp [cge, cntB, h]
theorem mvR_nn {row : Nat → Int32} {x : Int32} (hr : ∀ t, 0 ≤ (row t).toInt) (hx : 0 ≤ x.toInt) (t : Nat) : 0 ≤ (mvR row x t).toInt := by
  induction t with
  | zero => exact hx
  | succ t ih =>
    simp only [mvR]
    split
    · exact hr t
    · exact ih
theorem rowU_nn {g : Nat → Bool} {f : Nat → Int32} {i : Nat} (hf : ∀ r, r < i → 0 ≤ (f r).toInt) : ∀ t, 0 ≤ (rowU g f i t).toInt := by
  induction i with
  | zero =>
    intro t
    simp only [rowU, i32_z]
    omega
  | succ i ih =>
    intro t
    have ih := ih (fun r hr => hf r (by omega))
    simp only [rowU]
    split
    · unfold insR
      split
      · exact mvR_nn ih (hf i (by omega)) t
      · exact ih t
    · exact ih t
theorem lxF_t {ra rb : Nat → Int32} {t : Nat} (k i : Nat) (he : ∀ u, i ≤ u → u < t → ra u = rb u) (hi : i ≤ t) (ht : t < i + k) (h : rb t < ra t) : lxF ra rb k i = true := by
  induction k generalizing i with
  | zero => omega
  | succ k ih =>
    simp only [lxF]
    rcases Nat.lt_or_ge i t with a | a
    · rw [if_pos (he i (Nat.le_refl i) a)]
      exact ih (i + 1) (fun u h1 h2 => he u (by omega) h2) (by omega) (by omega)
    · have : i = t := by omega
      subst this
      rw [if_neg (fun q => by rw [q] at h; exact Int32.lt_irrefl h)]
      simp [h]
theorem lxF_f {ra rb : Nat → Int32} {t : Nat} (k i : Nat) (he : ∀ u, i ≤ u → u < t → ra u = rb u) (hi : i ≤ t) (ht : t < i + k) (h : ra t < rb t) : lxF ra rb k i = false := by
  induction k generalizing i with
  | zero => omega
  | succ k ih =>
    simp only [lxF]
    rcases Nat.lt_or_ge i t with a | a
    · rw [if_pos (he i (Nat.le_refl i) a)]
      exact ih (i + 1) (fun u h1 h2 => he u (by omega) h2) (by omega) (by omega)
    · have : i = t := by omega
      subst this
      rw [if_neg (fun q => by rw [q] at h; exact Int32.lt_irrefl h), decide_eq_false]
      rw [i32_lt] at h ⊢
      omega
theorem lxF_e {ra rb : Nat → Int32} (k i : Nat) (he : ∀ u, ra u = rb u) : lxF ra rb k i = false := by
  induction k generalizing i with
  | zero => rfl
  | succ k ih =>
    simp only [lxF]
    rw [if_pos (he i)]
    exact ih (i + 1)
theorem lxF_congr {ra rb sa sb : Nat → Int32} (k i : Nat) (ha : ∀ u, u < i + k → ra u = sa u) (hb : ∀ u, u < i + k → rb u = sb u) : lxF ra rb k i = lxF sa sb k i := by
  induction k generalizing i with
  | zero => rfl
  | succ k ih =>
    simp only [lxF]
    rw [ha i (by omega), hb i (by omega), ih (i + 1) (fun u h => ha u (by omega)) (fun u h => hb u (by omega))]
theorem lx6_congr {ra rb sa sb : Nat → Int32} (ha : ∀ u, u < 6 → ra u = sa u) (hb : ∀ u, u < 6 → rb u = sb u) : lx6 ra rb = lx6 sa sb := lxF_congr 6 0 (fun u h => ha u (by omega)) (fun u h => hb u (by omega))
def AH (ca cb : Int → Nat) : Prop := ∃ w : Int, 0 < w ∧ (∀ v, w < v → ca v = cb v) ∧ cb w < ca w
section OrdA
variable {ra rb : Nat → Int32} {ca cb : Int → Nat}
theorem row_eq (h1 : ∀ v, 0 < v → ∀ t, v ≤ (ra t).toInt ↔ t < ca v) (h2 : ∀ v, 0 < v → ∀ t, v ≤ (rb t).toInt ↔ t < cb v) (na : ∀ t, 0 ≤ (ra t).toInt) (nb : ∀ t, 0 ≤ (rb t).toInt) {u : Nat} (h : ∀ v, 0 < v → (u < ca v ↔ u < cb v)) : ra u = rb u := by
  rw [i32_eq]
  have a := na u
  have b := nb u
  rcases Int.lt_trichotomy (ra u).toInt (rb u).toInt with q | q | q
  · have p : 0 < (rb u).toInt := by omega
    have := (h1 _ p u).mpr ((h _ p).mpr ((h2 _ p u).mp (Int.le_refl _)))
    omega
  · exact q
  · have p : 0 < (ra u).toInt := by omega
    have := (h2 _ p u).mpr ((h _ p).mp ((h1 _ p u).mp (Int.le_refl _)))
    omega
theorem ah_row (h1 : ∀ v, 0 < v → ∀ t, v ≤ (ra t).toInt ↔ t < ca v) (h2 : ∀ v, 0 < v → ∀ t, v ≤ (rb t).toInt ↔ t < cb v) (na : ∀ t, 0 ≤ (ra t).toInt) (nb : ∀ t, 0 ≤ (rb t).toInt) (h6 : ∀ v, ca v ≤ 6) (h : AH ca cb) : ∃ t, t < 6 ∧ (∀ u, 0 ≤ u → u < t → ra u = rb u) ∧ rb t < ra t := by
  obtain ⟨w, hw, he, hl⟩ := h
  refine ⟨cb w, Nat.lt_of_lt_of_le hl (h6 w), fun u _ hu => row_eq h1 h2 na nb (fun v hv => ?_), ?_⟩
  · rcases Int.lt_or_le w v with q | q
    · rw [he v q]
    · have a := (h1 w hw u).mpr (by omega)
      have b := (h2 w hw u).mpr hu
      exact ⟨fun _ => (h2 v hv u).mp (by omega), fun _ => (h1 v hv u).mp (by omega)⟩
  · have a := (h1 w hw (cb w)).mpr hl
    have b : ¬ w ≤ (rb (cb w)).toInt := fun q => absurd ((h2 w hw _).mp q) (Nat.lt_irrefl _)
    rw [i32_lt]
    omega
theorem ah_lt (h1 : ∀ v, 0 < v → ∀ t, v ≤ (ra t).toInt ↔ t < ca v) (h2 : ∀ v, 0 < v → ∀ t, v ≤ (rb t).toInt ↔ t < cb v) (na : ∀ t, 0 ≤ (ra t).toInt) (nb : ∀ t, 0 ≤ (rb t).toInt) (h6 : ∀ v, ca v ≤ 6) (h : AH ca cb) : lx6 ra rb = true ∧ lx6 rb ra = false := by
  obtain ⟨t, ht, he, hl⟩ := ah_row h1 h2 na nb h6 h
  exact ⟨lxF_t 6 0 he (Nat.zero_le t) (by omega) hl, lxF_f 6 0 (fun u a b => (he u a b).symm) (Nat.zero_le t) (by omega) hl⟩
theorem ah_eq (h1 : ∀ v, 0 < v → ∀ t, v ≤ (ra t).toInt ↔ t < ca v) (h2 : ∀ v, 0 < v → ∀ t, v ≤ (rb t).toInt ↔ t < cb v) (na : ∀ t, 0 ≤ (ra t).toInt) (nb : ∀ t, 0 ≤ (rb t).toInt) (h : ∀ v, 0 < v → ca v = cb v) : lx6 ra rb = false ∧ lx6 rb ra = false := by
  have e : ∀ u, ra u = rb u := fun u => row_eq h1 h2 na nb (fun v hv => by rw [h v hv])
  exact ⟨lxF_e 6 0 e, lxF_e 6 0 (fun u => (e u).symm)⟩
end OrdA
theorem AH.trans {ca cb cd : Int → Nat} (h : AH ca cb) (k : AH cb cd) : AH ca cd := by
  obtain ⟨w, hw, he, hl⟩ := h
  obtain ⟨x, hx, ke, kl⟩ := k
  rcases Int.lt_trichotomy w x with q | q | q
  · exact ⟨x, hx, fun v hv => by rw [he v (by omega), ke v hv], by rw [he x q]; exact kl⟩
  · subst q
    exact ⟨w, hw, fun v hv => by rw [he v hv, ke v hv], by omega⟩
  · exact ⟨w, hw, fun v hv => by rw [he v hv, ke v (by omega)], by rw [← ke w q]; exact hl⟩
theorem AH.congr_r {ca cb cd : Int → Nat} (h : AH ca cb) (k : ∀ v, 0 < v → cb v = cd v) : AH ca cd := by
  obtain ⟨w, hw, he, hl⟩ := h
  exact ⟨w, hw, fun v hv => by rw [he v hv, k v (by omega)], by rw [← k w hw]; exact hl⟩
theorem AH.congr_l {ca cb cd : Int → Nat} (h : AH ca cb) (k : ∀ v, 0 < v → ca v = cd v) : AH cd cb := by
  obtain ⟨w, hw, he, hl⟩ := h
  exact ⟨w, hw, fun v hv => by rw [← k v (by omega), he v hv], by rw [← k w hw]; exact hl⟩
/-- of two counts that agree far up, one is ahead, or they agree everywhere -/
theorem AH.tri {ca cb : Int → Nat} (N : Nat) (h : ∀ v : Int, (N : Int) < v → ca v = cb v) : AH ca cb ∨ AH cb ca ∨ ∀ v, 0 < v → ca v = cb v := by
  induction N with
  | zero => exact Or.inr (Or.inr (fun v hv => h v (by omega)))
  | succ N ih =>
    rcases Nat.lt_trichotomy (ca (N + 1 : Nat)) (cb (N + 1 : Nat)) with q | q | q
    · exact Or.inr (Or.inl ⟨(N + 1 : Nat), by omega, fun v hv => (h v hv).symm, q⟩)
    · refine ih (fun v hv => ?_)
      rcases Int.lt_or_le ((N + 1 : Nat) : Int) v with a | a
      · exact h v a
      · have : v = ((N + 1 : Nat) : Int) := by omega
        rw [this]; exact q
    · exact Or.inl ⟨(N + 1 : Nat), by omega, fun v hv => h v hv, q⟩
end
section
/-! jumpers compared: by the rows, and by the greatest marks and how many there are of them -/
def cj (M V : Nat → Nat → Int32) (lim : Int32) (j : Nat) (v : Int) : Nat := cge (lgl M V lim j) (M j) v 6
def okM (M : Nat → Nat → Int32) : Prop := ∀ j r, j < 8 → r < 6 → 0 ≤ (M j r).toInt ∧ (M j r).toInt ≤ 1200
def cmpR (M V : Nat → Nat → Int32) (lim : Int32) (a b : Nat) : Int32 := if lx6 (srt M V lim a) (srt M V lim b) = true then 1 else if lx6 (srt M V lim b) (srt M V lim a) = true then -1 else 0
def zB (M V : Nat → Nat → Int32) (lim : Int32) (a b : Nat) (u : Int32) : Int32 := if grtU (lgl M V lim a) (M a) u 6 ≤ grtU (lgl M V lim b) (M b) u 6 then grtU (lgl M V lim b) (M b) u 6 else grtU (lgl M V lim a) (M a) u 6
def mnI (M V : Nat → Nat → Int32) (lim : Int32) (j : Nat) (z : Int32) : Nat := cntB (fun t => lgl M V lim j t && decide (M j t = z)) 6
def mrI (M V : Nat → Nat → Int32) (lim : Int32) (a b : Nat) (z : Int32) : Int32 := if z = 0 then 0 else nI (mnI M V lim a z) - nI (mnI M V lim b z)
theorem grt_spec {g : Nat → Bool} {f : Nat → Int32} {b : Int32} {i : Nat} : 0 ≤ (grtU g f b i).toInt ∧ ((grtU g f b i).toInt = 0 ∨ (grtU g f b i).toInt < b.toInt) ∧ ∀ r, r < i → g r = true → (f r).toInt < b.toInt → (f r).toInt ≤ (grtU g f b i).toInt := by
  induction i with
  | zero => exact ⟨Int.le_refl 0, Or.inl rfl, fun r h => by omega⟩
  | succ i ih =>
    obtain ⟨h1, h2, h3⟩ := ih
    simp only [grtU]
    split
    · rename_i hg
      split
      · rename_i hb
        rw [i32_lt] at hb
        split
        · rename_i hc
          rw [i32_lt] at hc
          refine ⟨by omega, Or.inr hb, fun r hr g1 g2 => ?_⟩
          rcases Nat.lt_or_ge r i with q | q
          · have := h3 r q g1 g2
            omega
          · have : r = i := by omega
            subst this
            omega
        · rename_i hc
          rw [i32_lt] at hc
          refine ⟨h1, h2, fun r hr g1 g2 => ?_⟩
          rcases Nat.lt_or_ge r i with q | q
          · exact h3 r q g1 g2
          · have : r = i := by omega
            subst this
            omega
      · rename_i hb
        rw [i32_lt] at hb
        refine ⟨h1, h2, fun r hr g1 g2 => ?_⟩
        rcases Nat.lt_or_ge r i with q | q
        · exact h3 r q g1 g2
        · have : r = i := by omega
          subst this
          omega
    · rename_i hg
      refine ⟨h1, h2, fun r hr g1 g2 => ?_⟩
      rcases Nat.lt_or_ge r i with q | q
      · exact h3 r q g1 g2
      · have : r = i := by omega
        subst this
        exact absurd g1 hg
theorem bst_spec {g : Nat → Bool} {f : Nat → Int32} {i : Nat} : 0 ≤ (bstU g f i).toInt ∧ ((bstU g f i).toInt = 0 ∨ ∃ r, r < i ∧ g r = true ∧ f r = bstU g f i) ∧ ∀ r, r < i → g r = true → (f r).toInt ≤ (bstU g f i).toInt := by
  induction i with
  | zero => exact ⟨Int.le_refl 0, Or.inl rfl, fun r h => by omega⟩
  | succ i ih =>
    obtain ⟨h1, h2, h3⟩ := ih
    simp only [bstU]
    split
    · rename_i hg
      split
      · rename_i hc
        rw [i32_lt] at hc
        refine ⟨by omega, Or.inr ⟨i, by omega, hg, rfl⟩, fun r hr g1 => ?_⟩
        rcases Nat.lt_or_ge r i with q | q
        · have := h3 r q g1
          omega
        · have : r = i := by omega
          subst this
          omega
      · rename_i hc
        rw [i32_lt] at hc
        refine ⟨h1, h2.imp id (fun ⟨r, a, b⟩ => ⟨r, by omega, b⟩), fun r hr g1 => ?_⟩
        rcases Nat.lt_or_ge r i with q | q
        · exact h3 r q g1
        · have : r = i := by omega
          subst this
          omega
    · rename_i hg
      refine ⟨h1, h2.imp id (fun ⟨r, a, b⟩ => ⟨r, by omega, b⟩), fun r hr g1 => ?_⟩
      rcases Nat.lt_or_ge r i with q | q
      · exact h3 r q g1
      · have : r = i := by omega
        subst this
        exact absurd g1 hg
theorem grt_bst {g : Nat → Bool} {f : Nat → Int32} {b : Int32} {i : Nat} (h : ∀ r, r < i → (f r).toInt < b.toInt) : grtU g f b i = bstU g f i := by
  induction i with
  | zero => rfl
  | succ i ih =>
    simp only [grtU, bstU]
    rw [ih (fun r hr => h r (by omega)), if_pos (i32_lt.mpr (h i (by omega)))]
section Cmp
variable {M V : Nat → Nat → Int32} {lim : Int32}
theorem srt_spec (j : Nat) : ∀ v, 0 < v → ∀ t, v ≤ (srt M V lim j t).toInt ↔ t < cj M V lim j v := fun _ hv => rowU_spec _ _ 6 hv
theorem srt_nn (hB : okM M) {j : Nat} (hj : j < 8) : ∀ t, 0 ≤ (srt M V lim j t).toInt := rowU_nn (fun r hr => (hB j r hj hr).1)
theorem cj_6 (j : Nat) (v : Int) : cj M V lim j v ≤ 6 := cntB_le _ 6
theorem cj_hi (hB : okM M) {j : Nat} (hj : j < 8) {v : Int} (hv : 1200 < v) : cj M V lim j v = 0 := by
  refine cntB_0 (fun t ht => ?_)
  have := (hB j t hj ht).2
  simp
  intro _
  omega
theorem cj_tri (hB : okM M) {a b : Nat} (ha : a < 8) (hb : b < 8) : AH (cj M V lim a) (cj M V lim b) ∨ AH (cj M V lim b) (cj M V lim a) ∨ ∀ v, 0 < v → cj M V lim a v = cj M V lim b v :=
  AH.tri 1200 (fun v hv => by rw [cj_hi hB ha (by omega), cj_hi hB hb (by omega)])
theorem lx_t (hB : okM M) {a b : Nat} (ha : a < 8) (hb : b < 8) (h : AH (cj M V lim a) (cj M V lim b)) : lx6 (srt M V lim a) (srt M V lim b) = true ∧ lx6 (srt M V lim b) (srt M V lim a) = false :=
  ah_lt (srt_spec a) (srt_spec b) (srt_nn hB ha) (srt_nn hB hb) (cj_6 a) h
theorem lx_e (hB : okM M) {a b : Nat} (ha : a < 8) (hb : b < 8) (h : ∀ v, 0 < v → cj M V lim a v = cj M V lim b v) : lx6 (srt M V lim a) (srt M V lim b) = false ∧ lx6 (srt M V lim b) (srt M V lim a) = false :=
  ah_eq (srt_spec a) (srt_spec b) (srt_nn hB ha) (srt_nn hB hb) h
theorem cmp_1 (hB : okM M) {a b : Nat} (ha : a < 8) (hb : b < 8) (h : AH (cj M V lim a) (cj M V lim b)) : cmpR M V lim a b = 1 := by
  rw [cmpR, if_pos (lx_t hB ha hb h).1]
theorem cmp_m (hB : okM M) {a b : Nat} (ha : a < 8) (hb : b < 8) (h : AH (cj M V lim b) (cj M V lim a)) : cmpR M V lim a b = -1 := by
  rw [cmpR, if_neg (by rw [(lx_t hB hb ha h).2]; decide), if_pos (lx_t hB hb ha h).1]
theorem cmp_0 (hB : okM M) {a b : Nat} (ha : a < 8) (hb : b < 8) (h : ∀ v, 0 < v → cj M V lim a v = cj M V lim b v) : cmpR M V lim a b = 0 := by
  rw [cmpR, if_neg (by rw [(lx_e hB ha hb h).1]; decide), if_neg (by rw [(lx_e hB ha hb h).2]; decide)]
def cI (M V : Nat → Nat → Int32) (lim : Int32) (a b : Nat) (u : Int32) : Prop := 0 ≤ u.toInt ∧ u.toInt ≤ 1201 ∧ ∀ v : Int, u.toInt ≤ v → 0 < v → cj M V lim a v = cj M V lim b v
theorem cI_0 (hB : okM M) {a b : Nat} (ha : a < 8) (hb : b < 8) : cI M V lim a b 1201 := by
  refine ⟨by decide, by decide, fun v hv _ => ?_⟩
  have : (1201 : Int32).toInt = 1201 := rfl
  rw [cj_hi hB ha (by omega), cj_hi hB hb (by omega)]
/-- between the greatest mark below u and u there is none -/
theorem cj_gap {j : Nat} {u : Int32} {v : Int} (h1 : (grtU (lgl M V lim j) (M j) u 6).toInt < v) (h2 : v ≤ u.toInt) : cj M V lim j v = cj M V lim j u.toInt := by
  refine cntB_congr (fun t ht => ?_)
  have h3 := (grt_spec (g := lgl M V lim j) (f := M j) (b := u) (i := 6)).2.2 t ht
  cases hg : lgl M V lim j t
  · simp
  · have h3 := h3 hg
    simp
    omega
theorem cI_z {a b : Nat} {u : Int32} (h : cI M V lim a b u) (hu : 0 < u.toInt) : 0 ≤ (zB M V lim a b u).toInt ∧ (zB M V lim a b u).toInt < u.toInt ∧ ∀ v : Int, (zB M V lim a b u).toInt < v → cj M V lim a v = cj M V lim b v := by
  obtain ⟨h1, h2, h3⟩ := h
  have ga := grt_spec (g := lgl M V lim a) (f := M a) (b := u) (i := 6)
  have gb := grt_spec (g := lgl M V lim b) (f := M b) (b := u) (i := 6)
  have key : 0 ≤ (zB M V lim a b u).toInt ∧ (zB M V lim a b u).toInt < u.toInt ∧ (grtU (lgl M V lim a) (M a) u 6).toInt ≤ (zB M V lim a b u).toInt ∧ (grtU (lgl M V lim b) (M b) u 6).toInt ≤ (zB M V lim a b u).toInt := by
    unfold zB
    split
    · rename_i q
      rw [i32_le] at q
      omega
    · rename_i q
      rw [i32_le] at q
      omega
  refine ⟨key.1, key.2.1, fun v hv => ?_⟩
  rcases Int.lt_or_le v u.toInt with q | q
  · rw [cj_gap (by omega) (Int.le_of_lt q), cj_gap (j := b) (by omega) (Int.le_of_lt q)]
    exact h3 _ (Int.le_refl _) hu
  · exact h3 v q (by omega)
theorem cj_many (j : Nat) (z : Int32) : cj M V lim j z.toInt = mnI M V lim j z + cj M V lim j (z.toInt + 1) := by
  refine cntB_add (fun t ht => ?_)
  cases hg : lgl M V lim j t
  · simp
  · simp only [Bool.true_and, i32_eq]
    constructor
    · rw [← Bool.decide_or]
      congr 1
      apply propext
      omega
    · rw [← Bool.decide_and, decide_eq_false]
      omega
theorem mnI_6 (j : Nat) (z : Int32) : mnI M V lim j z ≤ 6 := cntB_le _ 6
theorem mrI_eq {a b : Nat} {z : Int32} (hz : ¬ z = 0) : (mrI M V lim a b z).toInt = (mnI M V lim a z : Int) - mnI M V lim b z := by
  rw [mrI, if_neg hz]
  have := mnI_6 (M := M) (V := V) (lim := lim) a z
  have := mnI_6 (M := M) (V := V) (lim := lim) b z
  exact pk_sub_toInt (by omega) (by omega)
theorem cmp_back {a b : Nat} {u : Int32} (h : cI M V lim a b u) (hu : ¬ u ≤ 0) (hm : mrI M V lim a b (zB M V lim a b u) = 0) : cI M V lim a b (zB M V lim a b u) ∧ (zB M V lim a b u).toInt.toNat < u.toInt.toNat := by
  rw [i32_le, i32_z] at hu
  have hu : 0 < u.toInt := by omega
  obtain ⟨h1, h2, h3⟩ := cI_z h hu
  have h9 := h.2.1
  refine ⟨⟨h1, by omega, fun v hv hp => ?_⟩, by omega⟩
  rcases Int.lt_or_le (zB M V lim a b u).toInt v with q | q
  · exact h3 v q
  · have e : v = (zB M V lim a b u).toInt := by omega
    have hz : ¬ zB M V lim a b u = 0 := fun q => by rw [q, i32_z] at e; omega
    have e2 := mrI_eq (M := M) (V := V) (lim := lim) (a := a) (b := b) hz
    rw [hm, i32_z] at e2
    rw [e, cj_many, cj_many, h3 _ (by omega)]
    omega
theorem cmp_p (hB : okM M) {a b : Nat} (ha : a < 8) (hb : b < 8) {u : Int32} (h : cI M V lim a b u) (hu : ¬ u ≤ 0) (hm : ¬ mrI M V lim a b (zB M V lim a b u) = 0) (hp : ¬ mrI M V lim a b (zB M V lim a b u) ≤ 0) : cmpR M V lim a b = 1 := by
  rw [i32_le, i32_z] at hu hp
  obtain ⟨h1, h2, h3⟩ := cI_z h (by omega)
  have hz : ¬ zB M V lim a b u = 0 := fun q => by rw [q] at hm; exact hm rfl
  have e2 := mrI_eq (M := M) (V := V) (lim := lim) (a := a) (b := b) hz
  have hz2 : ¬ (zB M V lim a b u).toInt = 0 := fun q => hz (i32_eq.mpr q)
  refine cmp_1 hB ha hb ⟨(zB M V lim a b u).toInt, by omega, h3, ?_⟩
  rw [cj_many, cj_many, h3 _ (by omega)]
  omega
theorem cmp_n (hB : okM M) {a b : Nat} (ha : a < 8) (hb : b < 8) {u : Int32} (h : cI M V lim a b u) (hu : ¬ u ≤ 0) (hm : ¬ mrI M V lim a b (zB M V lim a b u) = 0) (hp : mrI M V lim a b (zB M V lim a b u) ≤ 0) : cmpR M V lim a b = -1 := by
  rw [i32_le, i32_z] at hu
  rw [i32_le, i32_z] at hp
  obtain ⟨h1, h2, h3⟩ := cI_z h (by omega)
  have hz : ¬ zB M V lim a b u = 0 := fun q => by rw [q] at hm; exact hm rfl
  have e2 := mrI_eq (M := M) (V := V) (lim := lim) (a := a) (b := b) hz
  have e3 : ¬ (mrI M V lim a b (zB M V lim a b u)).toInt = 0 := fun q => hm (i32_eq.mpr q)
  have hz2 : ¬ (zB M V lim a b u).toInt = 0 := fun q => hz (i32_eq.mpr q)
  refine cmp_m hB ha hb ⟨(zB M V lim a b u).toInt, by omega, fun v hv => (h3 v hv).symm, ?_⟩
  rw [cj_many, cj_many, h3 _ (by omega)]
  omega
theorem cmp_e (hB : okM M) {a b : Nat} (ha : a < 8) (hb : b < 8) {u : Int32} (h : cI M V lim a b u) (hu : u ≤ 0) : cmpR M V lim a b = 0 := by
  rw [i32_le, i32_z] at hu
  exact cmp_0 hB ha hb (fun v hv => h.2.2 v (by omega) hv)
theorem cmpR_le {a b : Nat} (h : cmpR M V lim a b ≤ 0) : lx6 (srt M V lim a) (srt M V lim b) = false := by
  cases q : lx6 (srt M V lim a) (srt M V lim b)
  · rfl
  · rw [cmpR, if_pos q] at h
    exact absurd h (by decide)
theorem cmpR_gt {a b : Nat} (h : ¬ cmpR M V lim a b ≤ 0) : lx6 (srt M V lim a) (srt M V lim b) = true := by
  cases q : lx6 (srt M V lim a) (srt M V lim b)
  · rw [cmpR, if_neg (by rw [q]; decide)] at h
    split at h
    · exact absurd (by decide) h
    · exact absurd (by decide) h
  · rfl
theorem lgl_pos (hB : okM M) {j r : Nat} (hj : j < 8) (hr : r < 6) (h : lgl M V lim j r = true) : 0 < (M j r).toInt := by
  have := (hB j r hj hr).1
  unfold lgl at h
  split at h
  · cases h
  · rename_i q
    rw [i32_eq, i32_z] at q
    omega
theorem bst_none (hB : okM M) {j : Nat} (hj : j < 8) (h : bstU (lgl M V lim j) (M j) 6 = 0) : ∀ v : Int, 0 < v → cj M V lim j v = 0 := by
  intro v hv
  refine cntB_0 (fun t ht => ?_)
  have h3 := (bst_spec (g := lgl M V lim j) (f := M j) (i := 6)).2.2 t ht
  cases hg : lgl M V lim j t
  · rfl
  · have h3 := h3 hg
    rw [h, i32_z] at h3
    simp
    omega
theorem bst_some (hB : okM M) {j : Nat} (hj : j < 8) (h : ¬ bstU (lgl M V lim j) (M j) 6 = 0) {cb : Int → Nat} (hb : ∀ v : Int, 0 < v → cb v = 0) : AH (cj M V lim j) cb := by
  obtain ⟨h1, h2, h3⟩ := bst_spec (g := lgl M V lim j) (f := M j) (i := 6)
  have hz : ¬ (bstU (lgl M V lim j) (M j) 6).toInt = 0 := fun q => h (i32_eq.mpr q)
  rcases h2 with q | ⟨r, hr, hg, he⟩
  · exact absurd q hz
  · refine ⟨(bstU (lgl M V lim j) (M j) 6).toInt, by omega, fun v hv => ?_, ?_⟩
    · rw [hb v (by omega)]
      refine cntB_0 (fun t ht => ?_)
      have h4 := h3 t ht
      cases hg : lgl M V lim j t
      · rfl
      · have h4 := h4 hg
        simp
        omega
    · rw [hb _ (by omega)]
      exact cntB_pos hr (by simp [hg, he])
theorem cmp_b1 (hB : okM M) {a b : Nat} (ha : a < 8) (hb : b < 8) (h1 : ¬ bstU (lgl M V lim a) (M a) 6 = 0) (h2 : bstU (lgl M V lim b) (M b) 6 = 0) : cmpR M V lim a b = 1 := cmp_1 hB ha hb (bst_some hB ha h1 (bst_none hB hb h2))
theorem cmp_b2 (hB : okM M) {a b : Nat} (ha : a < 8) (hb : b < 8) (h1 : bstU (lgl M V lim a) (M a) 6 = 0) (h2 : ¬ bstU (lgl M V lim b) (M b) 6 = 0) : cmpR M V lim a b = -1 := cmp_m hB ha hb (bst_some hB hb h2 (bst_none hB ha h1))
theorem cmp_b3 (hB : okM M) {a b : Nat} (ha : a < 8) (hb : b < 8) (h1 : bstU (lgl M V lim a) (M a) 6 = 0) (h2 : bstU (lgl M V lim b) (M b) 6 = 0) : cmpR M V lim a b = 0 := cmp_0 hB ha hb (fun v hv => by rw [bst_none hB ha h1 v hv, bst_none hB hb h2 v hv])
/-- who jumps before whom -/
theorem bef_iff (hB : okM M) {a b : Nat} (ha : a < 8) (hb : b < 8) : befR (srt M V lim) a b = true ↔ (AH (cj M V lim b) (cj M V lim a) ∨ ((∀ v, 0 < v → cj M V lim a v = cj M V lim b v) ∧ a < b)) := by
  unfold befR
  rcases cj_tri (V := V) (lim := lim) hB ha hb with q | q | q
  · rw [(lx_t hB ha hb q).1, (lx_t hB ha hb q).2]
    simp
    constructor
    · intro k
      have := lx_t hB hb ha k
      rw [(lx_t hB ha hb q).1] at this
      cases this.2
    · intro k
      have := lx_e hB ha hb k
      rw [(lx_t hB ha hb q).1] at this
      cases this.1
  · rw [(lx_t hB hb ha q).1]
    simp [q]
  · rw [(lx_e hB ha hb q).1, (lx_e hB ha hb q).2]
    simp
    constructor
    · intro k
      exact Or.inr ⟨q, k⟩
    · rintro (k | k)
      · have := lx_t hB hb ha k
        rw [(lx_e hB ha hb q).2] at this
        cases this.1
      · exact k.2
theorem AH_irr {f : Int → Nat} (h : AH f f) : False := by
  obtain ⟨w, _, _, h⟩ := h
  omega
theorem bef_irr (hB : okM M) {a : Nat} (ha : a < 8) : befR (srt M V lim) a a = false := by
  cases q : befR (srt M V lim) a a
  · rfl
  · rw [bef_iff hB ha ha] at q
    rcases q with q | q
    · exact (AH_irr q).elim
    · omega
theorem bef_tr (hB : okM M) {a b d : Nat} (ha : a < 8) (hb : b < 8) (hd : d < 8) (h1 : befR (srt M V lim) a b = true) (h2 : befR (srt M V lim) b d = true) : befR (srt M V lim) a d = true := by
  rw [bef_iff hB ha hb] at h1
  rw [bef_iff hB hb hd] at h2
  rw [bef_iff hB ha hd]
  rcases h1 with p | ⟨p, p'⟩
  · rcases h2 with q | ⟨q, q'⟩
    · exact Or.inl (q.trans p)
    · exact Or.inl (p.congr_l q)
  · rcases h2 with q | ⟨q, q'⟩
    · exact Or.inl (q.congr_r (fun v hv => (p v hv).symm))
    · exact Or.inr ⟨fun v hv => by rw [p v hv, q v hv], by omega⟩
theorem bef_tot (hB : okM M) {a b : Nat} (ha : a < 8) (hb : b < 8) (h : a ≠ b) : befR (srt M V lim) a b = true ∨ befR (srt M V lim) b a = true := by
  rw [bef_iff hB ha hb, bef_iff hB hb ha]
  rcases cj_tri (V := V) (lim := lim) hB ha hb with q | q | q
  · exact Or.inr (Or.inl q)
  · exact Or.inl (Or.inl q)
  · rcases Nat.lt_or_ge a b with k | k
    · exact Or.inl (Or.inr ⟨q, k⟩)
    · exact Or.inr (Or.inr ⟨fun v hv => (q v hv).symm, by omega⟩)
end Cmp
theorem cnt_one {x n : Nat} (h : x < n) : cntB (fun o => decide (o = x)) n = 1 := by
  induction n with
  | zero => omega
  | succ n ih =>
    simp only [cntB]
    rcases Nat.lt_or_ge x n with q | q
    · rw [ih q, if_neg (by simp; omega)]
    · have : x = n := by omega
      subst this
      rw [cntB_0 (fun t ht => by simp; omega)]
      simp
theorem max_ex {lt : Nat → Nat → Bool} {S : Nat → Bool} {n : Nat} (tr : ∀ a b d, a < n → b < n → d < n → lt a b = true → lt b d = true → lt a d = true) (tot : ∀ a b, a < n → b < n → a ≠ b → lt a b = true ∨ lt b a = true) : ∀ i, i ≤ n → 0 < cntB S i → ∃ m, m < i ∧ S m = true ∧ ∀ o, o < i → S o = true → o ≠ m → lt o m = true := by
  intro i
  induction i with
  | zero =>
    intro _ h
    exact absurd h (Nat.lt_irrefl 0)
  | succ i ih =>
    intro hi h
    by_cases q : 0 < cntB S i
    · obtain ⟨m, hm, sm, hx⟩ := ih (by omega) q
      by_cases si : S i = true
      · rcases tot i m (by omega) (by omega) (by omega) with k | k
        · refine ⟨m, by omega, sm, fun o ho so hne => ?_⟩
          rcases Nat.lt_or_ge o i with w | w
          · exact hx o w so hne
          · have : o = i := by omega
            rw [this]; exact k
        · refine ⟨i, by omega, si, fun o ho so hne => ?_⟩
          by_cases w : o = m
          · rw [w]; exact k
          · exact tr o m i (by omega) (by omega) (by omega) (hx o (by omega) so w) k
      · refine ⟨m, by omega, sm, fun o ho so hne => ?_⟩
        rcases Nat.lt_or_ge o i with w | w
        · exact hx o w so hne
        · have : o = i := by omega
          rw [this] at so
          exact absurd so si
    · have hz : cntB S i = 0 := by omega
      have si : S i = true := by
        cases k : S i
        · simp only [cntB, k] at h
          rw [hz] at h
          exact absurd h (by decide)
        · rfl
      refine ⟨i, by omega, si, fun o ho so hne => ?_⟩
      have := cntB_pos (i := i) (t := o) (by omega) so
      omega
theorem rank_on {lt : Nat → Nat → Bool} {n : Nat} (irr : ∀ a, a < n → lt a a = false) (tr : ∀ a b d, a < n → b < n → d < n → lt a b = true → lt b d = true → lt a d = true) (tot : ∀ a b, a < n → b < n → a ≠ b → lt a b = true ∨ lt b a = true) : ∀ (m : Nat) (S : Nat → Bool), cntB S n = m → ∀ k, k < m → ∃ i, i < n ∧ S i = true ∧ cntB (fun o => S o && lt o i) n = k := by
  intro m
  induction m with
  | zero =>
    intro S _ k hk
    omega
  | succ m ih =>
    intro S hS k hk
    obtain ⟨x, hx, sx, hm⟩ := max_ex tr tot n (Nat.le_refl n) (by omega : 0 < cntB S n)
    have e1 : cntB S n = cntB (fun o => S o && !decide (o = x)) n + cntB (fun o => decide (o = x)) n := by
      refine cntB_add (fun t ht => ?_)
      by_cases q : t = x
      · subst q
        simp [sx]
      · simp [q]
    rw [cnt_one hx] at e1
    have e2 : cntB (fun o => S o && !decide (o = x)) n = m := by omega
    rcases Nat.lt_or_ge k m with q | q
    · obtain ⟨i, hi, si, hr⟩ := ih _ e2 k q
      simp at si
      refine ⟨i, hi, si.1, ?_⟩
      rw [← hr]
      refine cntB_congr (fun t ht => ?_)
      by_cases w : t = x
      · subst w
        have h1 := hm i hi si.1 si.2
        have h2 : lt t i = false := by
          cases z : lt t i
          · rfl
          · have := tr t i t hx hi hx z h1
            rw [irr t hx] at this
            cases this
        simp [h2]
      · simp [w]
    · refine ⟨x, hx, sx, ?_⟩
      have : k = m := by omega
      rw [this, ← e2]
      refine cntB_congr (fun t ht => ?_)
      by_cases w : t = x
      · subst w
        simp [irr t hx]
      · cases st : S t
        · simp
        · simp [hm t ht st w, w]
theorem rank_ex {M V : Nat → Nat → Int32} {lim : Int32} (hB : okM M) {n k : Nat} (hn : n ≤ 8) (hk : k < n) : ∃ i, i < n ∧ cntB (fun o => befR (srt M V lim) o i) n = k := by
  obtain ⟨i, hi, _, h⟩ := rank_on (lt := befR (srt M V lim)) (n := n) (fun a ha => bef_irr hB (by omega)) (fun a b d ha hb hd => bef_tr hB (by omega) (by omega) (by omega)) (fun a b ha hb h => bef_tot hB (by omega) (by omega) h) n (fun _ => true) (by
    have : ∀ i, cntB (fun _ => true) i = i := by
      intro i
      induction i with
      | zero => rfl
      | succ i ih => simp only [cntB, ih, if_true]
    exact this n) k hk
  exact ⟨i, hi, by rw [← h]; exact cntB_congr (fun t _ => by simp)⟩
theorem fndI_eq {z z' : Int32} {rk : Nat → Int32} {k : Int32} {n i : Nat} (hi : i < n) (h : rk i = k) : fndI z rk k n = fndI z' rk k n := by
  induction n with
  | zero => omega
  | succ n ih =>
    simp only [fndI]
    split
    · rfl
    · rename_i q
      rcases Nat.lt_or_ge i n with w | w
      · exact ih w
      · have : i = n := by omega
        subst this
        exact absurd h q
theorem aOrder_eq {M V : Nat → Nat → Int32} {lim : Int32} (hB : okM M) {n : Nat} (hn : n ≤ 8) (z z' k : Int32) : aOrder z M V lim n k = aOrder z' M V lim n k := by
  unfold aOrder
  split
  · rename_i h
    obtain ⟨j, hj, rfl⟩ := jmp_of h hn
    obtain ⟨i, hi, e⟩ := rank_ex (V := V) (lim := lim) hB hn hj
    exact fndI_eq hi (by rw [e])
  · rfl
end
section
theorem plc_0 {q : Nat → Bool} {i : Nat} (h : q i = false) : (nI (cntB q i) + 1) + 0 = nI (cntB q (i + 1)) + 1 := by
  simp only [cntB, h, Int32.add_zero]
  rfl
theorem plc_1 {q : Nat → Bool} {i : Nat} (h : q i = true) : (nI (cntB q i) + 1) + 1 = nI (cntB q (i + 1)) + 1 := by
  simp only [cntB, h, if_true]
  rw [nI_1]
theorem bnz {x : Int32} (h : (!decide (x = 0)) = true) : ¬ x = 0 := by simpa using h
theorem bzz {x : Int32} (h : (!decide (x = 0)) = false) : x = 0 := by simpa using h
theorem beh_1 {M V : Nat → Nat → Int32} {lim : Int32} {i j : Nat} (h : 0 < cmpR M V lim j i) : (1 : Int32) = ifz (befR (srt M V lim) i j) 1 := by
  have := cmpR_gt (Int32.not_le.mpr h)
  simp [ifz, befR, this]
theorem cmpR_z {M V : Nat → Nat → Int32} {lim : Int32} {i j : Nat} (h : cmpR M V lim j i = 0) : lx6 (srt M V lim j) (srt M V lim i) = false ∧ lx6 (srt M V lim i) (srt M V lim j) = false := by
  unfold cmpR at h
  split at h
  · exact absurd h (by decide)
  · split at h
    · exact absurd h (by decide)
    · rename_i a b
      exact ⟨by simpa using a, by simpa using b⟩
theorem cmpR_nz {M V : Nat → Nat → Int32} {lim : Int32} {i j : Nat} (h1 : ¬ 0 < cmpR M V lim j i) (h : ¬ cmpR M V lim j i = 0) : lx6 (srt M V lim j) (srt M V lim i) = false ∧ lx6 (srt M V lim i) (srt M V lim j) = true := by
  unfold cmpR at h h1
  split at h
  · rename_i a
    rw [if_pos a] at h1
    exact absurd (by decide) h1
  · split at h
    · rename_i a b
      exact ⟨by simpa using a, b⟩
    · exact absurd rfl h
theorem beh_2 {M V : Nat → Nat → Int32} {lim : Int32} {i j : Nat} (h1 : ¬ 0 < cmpR M V lim j i) (h : ¬ cmpR M V lim j i = 0) : (0 : Int32) = ifz (befR (srt M V lim) i j) 1 := by
  obtain ⟨a, b⟩ := cmpR_nz h1 h
  simp [ifz, befR, a, b]
theorem beh_3 {M V : Nat → Nat → Int32} {lim : Int32} {i j : Nat} (hi : i < 8) (hj : j < 8) (h : cmpR M V lim j i = 0) (k : nI j ≤ nI i) : (0 : Int32) = ifz (befR (srt M V lim) i j) 1 := by
  obtain ⟨a, b⟩ := cmpR_z h
  rw [nI_leI (by omega) (by omega)] at k
  simp [ifz, befR, a, b]
  omega
theorem beh_4 {M V : Nat → Nat → Int32} {lim : Int32} {i j : Nat} (hi : i < 8) (hj : j < 8) (h : cmpR M V lim j i = 0) (k : ¬ nI j ≤ nI i) : (1 : Int32) = ifz (befR (srt M V lim) i j) 1 := by
  obtain ⟨a, b⟩ := cmpR_z h
  rw [nI_leI (by omega) (by omega)] at k
  simp [ifz, befR, a, b]
  omega
theorem hdX1_compared : yX1_compared.cls = RX1 ∧ yX1_compared.cls ≠ "java/lang/invoke/MethodHandle" ∧ yX1_compared.cls ≠ "java/lang/invoke/VarHandle" ∧ (parseMethodDescriptor yX1_compared.desc).map (fun d => d.parameters.length) = some 2 := by decide +kernel
set_option maxHeartbeats 4000000 in
set_option maxRecDepth 100000 in
theorem mX1_compared (l : Launch) (dC : Nat → ClassId) (dI : Nat → Nat → Nat) (h qb qj qm qw qt : Nat) (cA : ClassId) (n : Nat) (rec lim : Int32) (fb fj fm fw ft : Nat → Int32) (M : Nat → Nat → Int32) (V : Nat → Nat → Int32) (a : Nat) (b : Nat) (hM : ∀ j r, j < 8 → r < 6 → (if nI r < fj j then fm (6 * j + r) else 0) = M j r) (hV : ∀ j r, j < 8 → r < 6 → (if nI r < fj j then fw (6 * j + r) else 100) = V j r) (hT : ft 0 = 1 ∧ ft 1 = 3 ∧ ft 2 = 4 ∧ ft 3 = 6 ∧ ft 4 = 2 ∧ ft 5 = 5) (hB : okM M) (ha : a < 8) (hb8 : b < 8) : Met l yX1_compared wsX1_compared ({ frames := 4, cells := 0, slots := 0, locals := 92 }) (va_Pc [.ref h, .int (nI a), .int (nI b)] (fun U => va_P (dC, dI) vwCl (wY h qb qj qm qw qt cA (nI n) rec lim fb fj fm fw ft) U.heap ∧ va_K (dC, dI) vwCl [(cA, .int)] U)) (QcRead (cmpR M V lim a b)) 0 0 (fun _ => False) := by
  refine Met.ofW (cc := cX1_compared) (maxL := 7) (ret := (some .int)) (by decide) rfl ?_
  intro p e s m args below meth c s₁ B hml hv
  obtain ⟨rfl, hP, hK⟩ := hv
  have hx := B.exec
  have hb := B.bytes
  have hr := B.returns
  have hts := atoms_spec (ws := wsX1_compared) B.pre
  have hown : s.vm.findClass RX1 = some m.cls := findClass_of_methodNamed B.named
  have hlk := B.notSynchronized
  have hl := lv_entry ([.ref h, .int (nI a), .int (nI b)]) (n := 7) (Nat.le_of_ble_eq_true rfl)
  rw [lg_entry_eq]
  generalize (lg_sl ([.ref h, .int (nI a), .int (nI b)]) ++ List.replicate (7 - (lg_sl ([.ref h, .int (nI a), .int (nI b)])).length) Slot.unset).toArray = ls at hl ⊢
  have hl : lv_has ls 7 [(0, .ref h), (1, .int (nI a)), (2, .int (nI b))] := hl
  refine lv_sipush (v := 1201) hx hb dX1_compared_0 (by decide) ?_
  refine lv_istore_n (lv' := [(3, .int 1201), (0, .ref h), (1, .int (nI a)), (2, .int (nI b))]) hx hb dX1_compared_3 rfl hl (by decide) rfl (fun ls hl => ?_)
  refine q_lm (head := 4) (σ := Int32) (fun u => u.toInt.toNat) (fun u => [(0, .ref h), (1, .int (nI a)), (2, .int (nI b)), (3, .int u)]) (fun u => cI M V lim a b u) (1201) (cI_0 hB ha hb8) (lv_sub (l' := [(0, .ref h), (1, .int (nI a)), (2, .int (nI b)), (3, .int 1201)]) hl [1, 2, 3, 0] rfl) ?_
  intro u hI_u ih_u ls hl
  have hl : lv_has ls 7 [(0, .ref h), (1, .int (nI a)), (2, .int (nI b)), (3, .int u)] := hl
  refine lv_iload_n hx hb dX1_compared_4 rfl (lv_at hl 3 rfl) ?_
  refine lv_if_le (tgt := 81) hx hb dX1_compared_5 (by decide) (fun c_1 => ?_) (fun c_1 => ?_)
  · skip
    refine lv_iconst (v := 0) hx hb dX1_compared_81 (by decide) ?_
    exact q_ri hx hb hr hlk (by exact (cmp_e hB ha hb8 hI_u c_1).symm) dX1_compared_82
  · skip
    refine lv_aload_n hx hb dX1_compared_8 rfl (lv_at hl 0 rfl) ?_
    refine lv_iload_n hx hb dX1_compared_9 rfl (lv_at hl 1 rfl) ?_
    refine lv_iload_n hx hb dX1_compared_10 rfl (lv_at hl 3 rfl) ?_
    refine q_cv [.int (nI a), .int u] (rest := []) ⟨hx, hb, hml, hown, hts⟩ (mX1_greatest l dC dI h qb qj qm qw qt cA n rec lim fb fj fm fw ft M V a u hM hV hT (by omega)) gX1_compared_X1_greatest rfl rfl rfl hdX1_greatest ⟨Nat.le_of_ble_eq_true rfl, Nat.le_of_ble_eq_true rfl⟩ rfl hK hP rfl rfl hl.1 rfl (Nat.le_of_ble_eq_true rfl) dX1_compared_11 ⟨Nat.zero_le _, Nat.zero_le _⟩ ?_
    refine lv_istore (lv' := [(4, .int (grtU (lgl M V lim a) (M a) u 6)), (0, .ref h), (1, .int (nI a)), (2, .int (nI b)), (3, .int u)]) hx hb dX1_compared_14 hl (by decide) rfl (fun ls hl => ?_)
    refine lv_aload_n hx hb dX1_compared_16 rfl (lv_at hl 1 rfl) ?_
    refine lv_iload_n hx hb dX1_compared_17 rfl (lv_at hl 3 rfl) ?_
    refine lv_iload_n hx hb dX1_compared_18 rfl (lv_at hl 4 rfl) ?_
    refine q_cv [.int (nI b), .int u] (rest := []) ⟨hx, hb, hml, hown, hts⟩ (mX1_greatest l dC dI h qb qj qm qw qt cA n rec lim fb fj fm fw ft M V b u hM hV hT (by omega)) gX1_compared_X1_greatest rfl rfl rfl hdX1_greatest ⟨Nat.le_of_ble_eq_true rfl, Nat.le_of_ble_eq_true rfl⟩ rfl hK hP rfl rfl hl.1 rfl (Nat.le_of_ble_eq_true rfl) dX1_compared_19 ⟨Nat.zero_le _, Nat.zero_le _⟩ ?_
    refine lv_istore (lv' := [(5, .int (grtU (lgl M V lim b) (M b) u 6)), (4, .int (grtU (lgl M V lim a) (M a) u 6)), (0, .ref h), (1, .int (nI a)), (2, .int (nI b)), (3, .int u)]) hx hb dX1_compared_22 hl (by decide) rfl (fun ls hl => ?_)
    refine lv_iload hx hb dX1_compared_24 (lv_at hl 1 rfl) ?_
    refine lv_iload hx hb dX1_compared_26 (lv_at hl 0 rfl) ?_
    refine q_jn (pj := 38) (v := zB M V lim a b u) (rest := []) ?_ (fun J => ?_)
    rotate_left
    · skip
      refine lv_icmp_le (tgt := 36) hx hb dX1_compared_28 (by decide) (fun c_2 => ?_) (fun c_2 => ?_)
      · skip
        refine lv_iload hx hb dX1_compared_36 (lv_at hl 0 rfl) ?_
        exact q_top (by simp [zB, c_2]) J
      · skip
        refine lv_iload hx hb dX1_compared_31 (lv_at hl 1 rfl) ?_
        refine lv_goto (tgt := 38) hx hb dX1_compared_33 (by decide) ?_
        exact q_top (by simp [zB, c_2]) J
    refine lv_istore_n (lv' := [(3, .int (zB M V lim a b u)), (5, .int (grtU (lgl M V lim b) (M b) u 6)), (4, .int (grtU (lgl M V lim a) (M a) u 6)), (0, .ref h), (1, .int (nI a)), (2, .int (nI b))]) hx hb dX1_compared_38 rfl hl (by decide) rfl (fun ls hl => ?_)
    refine lv_iload_n hx hb dX1_compared_39 rfl (lv_at hl 0 rfl) ?_
    refine q_jn (pj := 60) (v := mrI M V lim a b (zB M V lim a b u)) (rest := []) ?_ (fun J => ?_)
    rotate_left
    · skip
      refine lv_if_ne (tgt := 47) hx hb dX1_compared_40 (by decide) (fun c_3 => ?_) (fun c_3 => ?_)
      · skip
        refine lv_aload_n hx hb dX1_compared_47 rfl (lv_at hl 3 rfl) ?_
        refine lv_iload_n hx hb dX1_compared_48 rfl (lv_at hl 4 rfl) ?_
        refine lv_iload_n hx hb dX1_compared_49 rfl (lv_at hl 0 rfl) ?_
        refine q_cv [.int (nI a), .int (zB M V lim a b u)] (rest := []) ⟨hx, hb, hml, hown, hts⟩ (mX1_many l dC dI h qb qj qm qw qt cA n rec lim fb fj fm fw ft M V a (zB M V lim a b u) hM hV hT (by omega)) gX1_compared_X1_many rfl rfl rfl hdX1_many ⟨Nat.le_of_ble_eq_true rfl, Nat.le_of_ble_eq_true rfl⟩ rfl hK hP rfl rfl hl.1 rfl (Nat.le_of_ble_eq_true rfl) dX1_compared_50 ⟨Nat.zero_le _, Nat.zero_le _⟩ ?_
        refine lv_aload_n hx hb dX1_compared_53 rfl (lv_at hl 3 rfl) ?_
        refine lv_iload_n hx hb dX1_compared_54 rfl (lv_at hl 5 rfl) ?_
        refine lv_iload_n hx hb dX1_compared_55 rfl (lv_at hl 0 rfl) ?_
        refine q_cv [.int (nI b), .int (zB M V lim a b u)] (rest := [.int (nI (cntB (fun t => lgl M V lim a t && decide (M a t = (zB M V lim a b u))) 6))]) ⟨hx, hb, hml, hown, hts⟩ (mX1_many l dC dI h qb qj qm qw qt cA n rec lim fb fj fm fw ft M V b (zB M V lim a b u) hM hV hT (by omega)) gX1_compared_X1_many rfl rfl rfl hdX1_many ⟨Nat.le_of_ble_eq_true rfl, Nat.le_of_ble_eq_true rfl⟩ rfl hK hP rfl rfl hl.1 rfl (Nat.le_of_ble_eq_true rfl) dX1_compared_56 ⟨Nat.zero_le _, Nat.zero_le _⟩ ?_
        refine lv_isub hx hb dX1_compared_59 ?_
        exact q_top (by simp [mrI, mnI, c_3]) J
      · skip
        refine lv_iconst (v := 0) hx hb dX1_compared_43 (by decide) ?_
        refine lv_goto (tgt := 60) hx hb dX1_compared_44 (by decide) ?_
        exact q_top (by simp [mrI, mnI, c_3]) J
    refine lv_istore (lv' := [(6, .int (mrI M V lim a b (zB M V lim a b u))), (3, .int (zB M V lim a b u)), (5, .int (grtU (lgl M V lim b) (M b) u 6)), (4, .int (grtU (lgl M V lim a) (M a) u 6)), (0, .ref h), (1, .int (nI a)), (2, .int (nI b))]) hx hb dX1_compared_60 hl (by decide) rfl (fun ls hl => ?_)
    refine lv_iload hx hb dX1_compared_62 (lv_at hl 0 rfl) ?_
    refine lv_if_eq (tgt := 78) hx hb dX1_compared_64 (by decide) (fun c_4 => ?_) (fun c_4 => ?_)
    · skip
      refine lv_goto (tgt := 4) hx hb dX1_compared_78 (by decide) ?_
      exact ih_u (zB M V lim a b u) (by exact (cmp_back hI_u c_1 c_4).1) (by exact (cmp_back hI_u c_1 c_4).2) ls (lv_sub (l' := [(0, .ref h), (1, .int (nI a)), (2, .int (nI b)), (3, .int (zB M V lim a b u))]) hl [4, 5, 6, 1] rfl)
    · skip
      refine lv_iload hx hb dX1_compared_67 (lv_at hl 0 rfl) ?_
      refine lv_if_le (tgt := 76) hx hb dX1_compared_69 (by decide) (fun c_5 => ?_) (fun c_5 => ?_)
      · skip
        refine lv_iconst (v := (-1)) hx hb dX1_compared_76 (by decide) ?_
        exact q_ri hx hb hr hlk (by exact (cmp_n hB ha hb8 hI_u c_1 c_4 c_5).symm) dX1_compared_77
      · skip
        refine lv_iconst (v := 1) hx hb dX1_compared_72 (by decide) ?_
        refine lv_goto (tgt := 77) hx hb dX1_compared_73 (by decide) ?_
        exact q_ri hx hb hr hlk (by exact (cmp_p hB ha hb8 hI_u c_1 c_4 c_5).symm) dX1_compared_77

theorem hdX1_best : yX1_best.cls = RX1 ∧ yX1_best.cls ≠ "java/lang/invoke/MethodHandle" ∧ yX1_best.cls ≠ "java/lang/invoke/VarHandle" ∧ (parseMethodDescriptor yX1_best.desc).map (fun d => d.parameters.length) = some 1 := by decide +kernel
set_option maxHeartbeats 4000000 in
set_option maxRecDepth 100000 in
theorem mX1_best (l : Launch) (dC : Nat → ClassId) (dI : Nat → Nat → Nat) (h qb qj qm qw qt : Nat) (cA : ClassId) (n : Nat) (rec lim : Int32) (fb fj fm fw ft : Nat → Int32) (M : Nat → Nat → Int32) (V : Nat → Nat → Int32) (x : Int32) (hM : ∀ j r, j < 8 → r < 6 → (if nI r < fj j then fm (6 * j + r) else 0) = M j r) (hV : ∀ j r, j < 8 → r < 6 → (if nI r < fj j then fw (6 * j + r) else 100) = V j r) (hT : ft 0 = 1 ∧ ft 1 = 3 ∧ ft 2 = 4 ∧ ft 3 = 6 ∧ ft 4 = 2 ∧ ft 5 = 5) (hn : n ≤ 8) (hB : okM M) : Met l yX1_best wsX1_best ({ frames := 4, cells := 0, slots := 0, locals := 92 }) (va_Pc [.ref h, .int x] (fun U => va_P (dC, dI) vwCl (wY h qb qj qm qw qt cA (nI n) rec lim fb fj fm fw ft) U.heap ∧ va_K (dC, dI) vwCl [(cA, .int)] U)) (QcRead (aBest M V lim (nI n) x)) 0 0 (fun _ => False) := by
  refine Met.ofW (cc := cX1_best) (maxL := 2) (ret := (some .int)) (by decide) rfl ?_
  intro p e s m args below meth c s₁ B hml hv
  obtain ⟨rfl, hP, hK⟩ := hv
  have hx := B.exec
  have hb := B.bytes
  have hr := B.returns
  have hts := atoms_spec (ws := wsX1_best) B.pre
  have hown : s.vm.findClass RX1 = some m.cls := findClass_of_methodNamed B.named
  have hlk := B.notSynchronized
  have hl := lv_entry ([.ref h, .int x]) (n := 2) (Nat.le_of_ble_eq_true rfl)
  rw [lg_entry_eq]
  generalize (lg_sl ([.ref h, .int x]) ++ List.replicate (2 - (lg_sl ([.ref h, .int x])).length) Slot.unset).toArray = ls at hl ⊢
  have hl : lv_has ls 2 [(0, .ref h), (1, .int x)] := hl
  refine lv_aload_n hx hb dX1_best_0 rfl (lv_at hl 0 rfl) ?_
  refine lv_iload_n hx hb dX1_best_1 rfl (lv_at hl 1 rfl) ?_
  refine q_cv [.int x] (rest := []) ⟨hx, hb, hml, hown, hts⟩ (mX1_isJumper l dC dI h qb qj qm qw qt cA n rec lim fb fj fm fw ft x (by omega)) gX1_best_X1_isJumper rfl rfl rfl hdX1_isJumper ⟨Nat.le_of_ble_eq_true rfl, Nat.le_of_ble_eq_true rfl⟩ rfl hK hP rfl rfl hl.1 rfl (Nat.le_of_ble_eq_true rfl) dX1_best_2 ⟨Nat.zero_le _, Nat.zero_le _⟩ ?_
  refine lv_if_eq (tgt := 19) hx hb dX1_best_5 (by decide) (fun c_1 => ?_) (fun c_1 => ?_)
  · skip
    have c_1 : (jmp (nI n) x) = false := b2i_0 c_1
    refine lv_sipush (v := (-1000)) hx hb dX1_best_19 (by decide) ?_
    exact q_ri hx hb hr hlk (by first | (rw [aBest, if_pos c_1, nI_clamp (by omega)]; done) | simp [aBest, c_1]) dX1_best_22
  · skip
    have c_1 : (jmp (nI n) x) = true := b2i_n c_1
    obtain ⟨j, hj, rfl⟩ := jmp_of c_1 hn
    refine lv_aload_n hx hb dX1_best_8 rfl (lv_at hl 0 rfl) ?_
    refine lv_iload_n hx hb dX1_best_9 rfl (lv_at hl 1 rfl) ?_
    refine lv_sipush (v := 1201) hx hb dX1_best_10 (by decide) ?_
    refine q_cv [.int (nI j), .int 1201] (rest := []) ⟨hx, hb, hml, hown, hts⟩ (mX1_greatest l dC dI h qb qj qm qw qt cA n rec lim fb fj fm fw ft M V j 1201 hM hV hT (by omega)) gX1_best_X1_greatest rfl rfl rfl hdX1_greatest ⟨Nat.le_of_ble_eq_true rfl, Nat.le_of_ble_eq_true rfl⟩ rfl hK hP rfl rfl hl.1 rfl (Nat.le_of_ble_eq_true rfl) dX1_best_13 ⟨Nat.zero_le _, Nat.zero_le _⟩ ?_
    refine q_top (y := bstU (lgl M V lim j) (M j) 6) (by exact grt_bst (fun r hr => Int.lt_of_le_of_lt (hB j r (by omega) hr).2 (by decide))) ?_
    refine lv_goto (tgt := 22) hx hb dX1_best_16 (by decide) ?_
    exact q_ri hx hb hr hlk (by first | (rw [aBest, if_pos c_1, nI_clamp (by omega)]; done) | simp [aBest, c_1]) dX1_best_22

theorem hdX1_ahead : yX1_ahead.cls = RX1 ∧ yX1_ahead.cls ≠ "java/lang/invoke/MethodHandle" ∧ yX1_ahead.cls ≠ "java/lang/invoke/VarHandle" ∧ (parseMethodDescriptor yX1_ahead.desc).map (fun d => d.parameters.length) = some 2 := by decide +kernel
set_option maxHeartbeats 4000000 in
set_option maxRecDepth 100000 in
theorem mX1_ahead (l : Launch) (dC : Nat → ClassId) (dI : Nat → Nat → Nat) (h qb qj qm qw qt : Nat) (cA : ClassId) (n : Nat) (rec lim : Int32) (fb fj fm fw ft : Nat → Int32) (M : Nat → Nat → Int32) (V : Nat → Nat → Int32) (x : Int32) (y : Int32) (hM : ∀ j r, j < 8 → r < 6 → (if nI r < fj j then fm (6 * j + r) else 0) = M j r) (hV : ∀ j r, j < 8 → r < 6 → (if nI r < fj j then fw (6 * j + r) else 100) = V j r) (hT : ft 0 = 1 ∧ ft 1 = 3 ∧ ft 2 = 4 ∧ ft 3 = 6 ∧ ft 4 = 2 ∧ ft 5 = 5) (hn : n ≤ 8) (hB : okM M) : Met l yX1_ahead wsX1_ahead ({ frames := 5, cells := 0, slots := 0, locals := 118 }) (va_Pc [.ref h, .int x, .int y] (fun U => va_P (dC, dI) vwCl (wY h qb qj qm qw qt cA (nI n) rec lim fb fj fm fw ft) U.heap ∧ va_K (dC, dI) vwCl [(cA, .int)] U)) (QcRead (aAhead M V lim (nI n) x y)) 0 0 (fun _ => False) := by
  refine Met.ofW (cc := cX1_ahead) (maxL := 3) (ret := (some .int)) (by decide) rfl ?_
  intro p e s m args below meth c s₁ B hml hv
  obtain ⟨rfl, hP, hK⟩ := hv
  have hx := B.exec
  have hb := B.bytes
  have hr := B.returns
  have hts := atoms_spec (ws := wsX1_ahead) B.pre
  have hown : s.vm.findClass RX1 = some m.cls := findClass_of_methodNamed B.named
  have hlk := B.notSynchronized
  have hl := lv_entry ([.ref h, .int x, .int y]) (n := 3) (Nat.le_of_ble_eq_true rfl)
  rw [lg_entry_eq]
  generalize (lg_sl ([.ref h, .int x, .int y]) ++ List.replicate (3 - (lg_sl ([.ref h, .int x, .int y])).length) Slot.unset).toArray = ls at hl ⊢
  have hl : lv_has ls 3 [(0, .ref h), (1, .int x), (2, .int y)] := hl
  refine lv_aload_n hx hb dX1_ahead_0 rfl (lv_at hl 0 rfl) ?_
  refine lv_iload_n hx hb dX1_ahead_1 rfl (lv_at hl 1 rfl) ?_
  refine q_cv [.int x] (rest := []) ⟨hx, hb, hml, hown, hts⟩ (mX1_isJumper l dC dI h qb qj qm qw qt cA n rec lim fb fj fm fw ft x (by omega)) gX1_ahead_X1_isJumper rfl rfl rfl hdX1_isJumper ⟨Nat.le_of_ble_eq_true rfl, Nat.le_of_ble_eq_true rfl⟩ rfl hK hP rfl rfl hl.1 rfl (Nat.le_of_ble_eq_true rfl) dX1_ahead_2 ⟨Nat.zero_le _, Nat.zero_le _⟩ ?_
  refine lv_if_eq (tgt := 16) hx hb dX1_ahead_5 (by decide) (fun c_1 => ?_) (fun c_1 => ?_)
  · skip
    have c_1 : (jmp (nI n) x) = false := b2i_0 c_1
    refine lv_sipush (v := (-1000)) hx hb dX1_ahead_16 (by decide) ?_
    exact q_ri hx hb hr hlk (by simp [aAhead, c_1]) dX1_ahead_19
  · skip
    have c_1 : (jmp (nI n) x) = true := b2i_n c_1
    refine lv_aload_n hx hb dX1_ahead_8 rfl (lv_at hl 0 rfl) ?_
    refine lv_iload_n hx hb dX1_ahead_9 rfl (lv_at hl 2 rfl) ?_
    refine q_cv [.int y] (rest := []) ⟨hx, hb, hml, hown, hts⟩ (mX1_isJumper l dC dI h qb qj qm qw qt cA n rec lim fb fj fm fw ft y (by omega)) gX1_ahead_X1_isJumper rfl rfl rfl hdX1_isJumper ⟨Nat.le_of_ble_eq_true rfl, Nat.le_of_ble_eq_true rfl⟩ rfl hK hP rfl rfl hl.1 rfl (Nat.le_of_ble_eq_true rfl) dX1_ahead_10 ⟨Nat.zero_le _, Nat.zero_le _⟩ ?_
    refine lv_if_ne (tgt := 20) hx hb dX1_ahead_13 (by decide) (fun c_2 => ?_) (fun c_2 => ?_)
    · skip
      have c_2 : (jmp (nI n) y) = true := b2i_n c_2
      obtain ⟨a8, ha8, rfl⟩ := jmp_of c_1 hn
      obtain ⟨b8, hb8, rfl⟩ := jmp_of c_2 hn
      refine lv_aload_n hx hb dX1_ahead_20 rfl (lv_at hl 0 rfl) ?_
      refine lv_iload_n hx hb dX1_ahead_21 rfl (lv_at hl 1 rfl) ?_
      refine lv_iload_n hx hb dX1_ahead_22 rfl (lv_at hl 2 rfl) ?_
      refine q_cv [.int (nI a8), .int (nI b8)] (rest := []) ⟨hx, hb, hml, hown, hts⟩ (mX1_compared l dC dI h qb qj qm qw qt cA n rec lim fb fj fm fw ft M V a8 b8 hM hV hT hB (by omega) (by omega)) gX1_ahead_X1_compared rfl rfl rfl hdX1_compared ⟨Nat.le_of_ble_eq_true rfl, Nat.le_of_ble_eq_true rfl⟩ rfl hK hP rfl rfl hl.1 rfl (Nat.le_of_ble_eq_true rfl) dX1_ahead_23 ⟨Nat.zero_le _, Nat.zero_le _⟩ ?_
      refine lv_if_le (tgt := 33) hx hb dX1_ahead_26 (by decide) (fun c_3 => ?_) (fun c_3 => ?_)
      · skip
        refine lv_iconst (v := 0) hx hb dX1_ahead_33 (by decide) ?_
        exact q_ri hx hb hr hlk (by rw [aAhead, if_pos (by simp [c_1, c_2]), nI_clamp (by omega), nI_clamp (by omega)]; rw [cmpR_le c_3]; rfl) dX1_ahead_34
      · skip
        refine lv_iconst (v := 1) hx hb dX1_ahead_29 (by decide) ?_
        refine lv_goto (tgt := 34) hx hb dX1_ahead_30 (by decide) ?_
        exact q_ri hx hb hr hlk (by rw [aAhead, if_pos (by simp [c_1, c_2]), nI_clamp (by omega), nI_clamp (by omega)]; rw [cmpR_gt c_3]; rfl) dX1_ahead_34
    · skip
      have c_2 : (jmp (nI n) y) = false := b2i_0 c_2
      refine lv_sipush (v := (-1000)) hx hb dX1_ahead_16 (by decide) ?_
      exact q_ri hx hb hr hlk (by simp [aAhead, c_1, c_2]) dX1_ahead_19

theorem hdX1_place : yX1_place.cls = RX1 ∧ yX1_place.cls ≠ "java/lang/invoke/MethodHandle" ∧ yX1_place.cls ≠ "java/lang/invoke/VarHandle" ∧ (parseMethodDescriptor yX1_place.desc).map (fun d => d.parameters.length) = some 1 := by decide +kernel
set_option maxHeartbeats 4000000 in
set_option maxRecDepth 100000 in
theorem mX1_place (l : Launch) (dC : Nat → ClassId) (dI : Nat → Nat → Nat) (h qb qj qm qw qt : Nat) (cA : ClassId) (n : Nat) (rec lim : Int32) (fb fj fm fw ft : Nat → Int32) (M : Nat → Nat → Int32) (V : Nat → Nat → Int32) (x : Int32) (hM : ∀ j r, j < 8 → r < 6 → (if nI r < fj j then fm (6 * j + r) else 0) = M j r) (hV : ∀ j r, j < 8 → r < 6 → (if nI r < fj j then fw (6 * j + r) else 100) = V j r) (hT : ft 0 = 1 ∧ ft 1 = 3 ∧ ft 2 = 4 ∧ ft 3 = 6 ∧ ft 4 = 2 ∧ ft 5 = 5) (hn : n ≤ 8) (hB : okM M) : Met l yX1_place wsX1_place ({ frames := 5, cells := 0, slots := 0, locals := 118 }) (va_Pc [.ref h, .int x] (fun U => va_P (dC, dI) vwCl (wY h qb qj qm qw qt cA (nI n) rec lim fb fj fm fw ft) U.heap ∧ va_K (dC, dI) vwCl [(cA, .int)] U)) (QcRead (aPlace M V lim n x)) 0 0 (fun _ => False) := by
  refine Met.ofW (cc := cX1_place) (maxL := 4) (ret := (some .int)) (by decide) rfl ?_
  intro p e s m args below meth c s₁ B hml hv
  obtain ⟨rfl, hP, hK⟩ := hv
  have hx := B.exec
  have hb := B.bytes
  have hr := B.returns
  have hts := atoms_spec (ws := wsX1_place) B.pre
  have hown : s.vm.findClass RX1 = some m.cls := findClass_of_methodNamed B.named
  have hlk := B.notSynchronized
  have hin : ∀ w ∈ wsX10, w ∈ wsX1_place := fun w h => List.mem_cons_of_mem _ (List.mem_append_right _ h)
  have hf_32 := hts (.fieldLink RX1 32 "JumpBoardModel" "jumpers" "I") (by decide +kernel)
  have hl := lv_entry ([.ref h, .int x]) (n := 4) (Nat.le_of_ble_eq_true rfl)
  rw [lg_entry_eq]
  generalize (lg_sl ([.ref h, .int x]) ++ List.replicate (4 - (lg_sl ([.ref h, .int x])).length) Slot.unset).toArray = ls at hl ⊢
  have hl : lv_has ls 4 [(0, .ref h), (1, .int x)] := hl
  refine lv_aload_n hx hb dX1_place_0 rfl (lv_at hl 0 rfl) ?_
  refine lv_iload_n hx hb dX1_place_1 rfl (lv_at hl 1 rfl) ?_
  refine q_cv [.int x] (rest := []) ⟨hx, hb, hml, hown, hts⟩ (mX1_isJumper l dC dI h qb qj qm qw qt cA n rec lim fb fj fm fw ft x (by omega)) gX1_place_X1_isJumper rfl rfl rfl hdX1_isJumper ⟨Nat.le_of_ble_eq_true rfl, Nat.le_of_ble_eq_true rfl⟩ rfl hK hP rfl rfl hl.1 rfl (Nat.le_of_ble_eq_true rfl) dX1_place_2 ⟨Nat.zero_le _, Nat.zero_le _⟩ ?_
  refine lv_if_ne (tgt := 12) hx hb dX1_place_5 (by decide) (fun c_1 => ?_) (fun c_1 => ?_)
  · skip
    have c_1 : (jmp (nI n) x) = true := b2i_n c_1
    obtain ⟨j, hj, rfl⟩ := jmp_of c_1 hn
    refine lv_aload_n hx hb dX1_place_12 rfl (lv_at hl 0 rfl) ?_
    refine lv_iload_n hx hb dX1_place_13 rfl (lv_at hl 1 rfl) ?_
    refine q_cv [.int (nI j)] (rest := []) ⟨hx, hb, hml, hown, hts⟩ (mX1_best l dC dI h qb qj qm qw qt cA n rec lim fb fj fm fw ft M V (nI j) hM hV hT (by omega) hB) gX1_place_X1_best rfl rfl rfl hdX1_best ⟨Nat.le_of_ble_eq_true rfl, Nat.le_of_ble_eq_true rfl⟩ rfl hK hP rfl rfl hl.1 rfl (Nat.le_of_ble_eq_true rfl) dX1_place_14 ⟨Nat.zero_le _, Nat.zero_le _⟩ ?_
    refine q_top (y := bstU (lgl M V lim j) (M j) 6) (by rw [aBest, if_pos (jmp_nI (by omega) (by omega)), nI_clamp (by omega)]) ?_
    refine lv_if_ne (tgt := 22) hx hb dX1_place_17 (by decide) (fun c_2 => ?_) (fun c_2 => ?_)
    · skip
      refine lv_iconst (v := 1) hx hb dX1_place_22 (by decide) ?_
      refine lv_istore_n (lv' := [(2, .int 1), (0, .ref h), (1, .int (nI j))]) hx hb dX1_place_23 rfl hl (by decide) rfl (fun ls hl => ?_)
      refine lv_iconst (v := 0) hx hb dX1_place_24 (by decide) ?_
      refine lv_istore_n (lv' := [(3, .int 0), (2, .int 1), (0, .ref h), (1, .int (nI j))]) hx hb dX1_place_25 rfl hl (by decide) rfl (fun ls hl => ?_)
      refine q_lp (head := 26) (n) (fun i => [(0, .ref h), (1, .int (nI j)), (2, .int (nI (cntB (fun o => lx6 (srt M V lim o) (srt M V lim j)) i) + 1)), (3, .int (nI i))]) (fun i => True) (0) (by omega) (trivial) (q_hl (lv_sub (l' := [(0, .ref h), (1, .int (nI j)), (2, .int 1), (3, .int 0)]) hl [2, 3, 1, 0] rfl) (q_ck (q_ck (q_ce (by rfl) (q_ce (by rfl) (rfl)))))) ?_ ?_
      · intro i hi_i hI_i ih_i ls hl
        have hl : lv_has ls 4 [(0, .ref h), (1, .int (nI j)), (2, .int (nI (cntB (fun o => lx6 (srt M V lim o) (srt M V lim j)) i) + 1)), (3, .int (nI i))] := hl
        refine lv_iload_n hx hb dX1_place_26 rfl (lv_at hl 3 rfl) ?_
        refine lv_aload_n hx hb dX1_place_27 rfl (lv_at hl 0 rfl) ?_
        refine va_get (D := (dC, dI)) (ci := 1) (v := .int (nI n)) (C := RX1) (T := TX1) (N := 8) hx hb hts hin hown hK hP 0 rfl rfl 5 (by decide) hf_32 (fun _ h9 => h9) rfl dX1_place_28 ?_
        refine lv_icmp_ge (tgt := 57) hx hb dX1_place_31 (by decide) (fun c_3 => absurd c_3 (nI_ge hi_i (by omega))) (fun c_3 => ?_)
        refine lv_iload_n hx hb dX1_place_34 rfl (lv_at hl 2 rfl) ?_
        refine lv_aload_n hx hb dX1_place_35 rfl (lv_at hl 0 rfl) ?_
        refine lv_iload_n hx hb dX1_place_36 rfl (lv_at hl 3 rfl) ?_
        refine lv_iload_n hx hb dX1_place_37 rfl (lv_at hl 1 rfl) ?_
        refine q_cv [.int (nI i), .int (nI j)] (rest := [.int (nI (cntB (fun o => lx6 (srt M V lim o) (srt M V lim j)) i) + 1)]) ⟨hx, hb, hml, hown, hts⟩ (mX1_compared l dC dI h qb qj qm qw qt cA n rec lim fb fj fm fw ft M V i j hM hV hT hB (by omega) (by omega)) gX1_place_X1_compared rfl rfl rfl hdX1_compared ⟨Nat.le_of_ble_eq_true rfl, Nat.le_of_ble_eq_true rfl⟩ rfl hK hP rfl rfl hl.1 rfl (Nat.le_of_ble_eq_true rfl) dX1_place_38 ⟨Nat.zero_le _, Nat.zero_le _⟩ ?_
        refine lv_if_le (tgt := 48) hx hb dX1_place_41 (by decide) (fun c_4 => ?_) (fun c_4 => ?_)
        · skip
          refine lv_iconst (v := 0) hx hb dX1_place_48 (by decide) ?_
          refine lv_iadd hx hb dX1_place_49 ?_
          refine lv_istore_n (lv' := [(2, .int ((nI (cntB (fun o => lx6 (srt M V lim o) (srt M V lim j)) i) + 1) + 0)), (0, .ref h), (1, .int (nI j)), (3, .int (nI i))]) hx hb dX1_place_50 rfl hl (by decide) rfl (fun ls hl => ?_)
          refine lv_iinc (v := (nI (i + 1))) (lv' := [(3, .int (nI (i + 1))), (2, .int ((nI (cntB (fun o => lx6 (srt M V lim o) (srt M V lim j)) i) + 1) + 0)), (0, .ref h), (1, .int (nI j))]) hx hb dX1_place_51 hl (k := 3) rfl (by exact nI_1 _) (by decide) rfl (fun ls hl => ?_)
          refine lv_goto (tgt := 26) hx hb dX1_place_54 (by decide) ?_
          exact ih_i (by exact trivial) ls (q_hl (lv_sub (l' := [(0, .ref h), (1, .int (nI j)), (2, .int ((nI (cntB (fun o => lx6 (srt M V lim o) (srt M V lim j)) i) + 1) + 0)), (3, .int (nI (i + 1)))]) hl [2, 3, 1, 0] rfl) (q_ck (q_ck (q_ce (by exact plc_0 (cmpR_le c_4)) (q_ck (rfl))))))
        · skip
          refine lv_iconst (v := 1) hx hb dX1_place_44 (by decide) ?_
          refine lv_goto (tgt := 49) hx hb dX1_place_45 (by decide) ?_
          refine lv_iadd hx hb dX1_place_49 ?_
          refine lv_istore_n (lv' := [(2, .int ((nI (cntB (fun o => lx6 (srt M V lim o) (srt M V lim j)) i) + 1) + 1)), (0, .ref h), (1, .int (nI j)), (3, .int (nI i))]) hx hb dX1_place_50 rfl hl (by decide) rfl (fun ls hl => ?_)
          refine lv_iinc (v := (nI (i + 1))) (lv' := [(3, .int (nI (i + 1))), (2, .int ((nI (cntB (fun o => lx6 (srt M V lim o) (srt M V lim j)) i) + 1) + 1)), (0, .ref h), (1, .int (nI j))]) hx hb dX1_place_51 hl (k := 3) rfl (by exact nI_1 _) (by decide) rfl (fun ls hl => ?_)
          refine lv_goto (tgt := 26) hx hb dX1_place_54 (by decide) ?_
          exact ih_i (by exact trivial) ls (q_hl (lv_sub (l' := [(0, .ref h), (1, .int (nI j)), (2, .int ((nI (cntB (fun o => lx6 (srt M V lim o) (srt M V lim j)) i) + 1) + 1)), (3, .int (nI (i + 1)))]) hl [2, 3, 1, 0] rfl) (q_ck (q_ck (q_ce (by exact plc_1 (cmpR_gt c_4)) (q_ck (rfl))))))
      · intro hI_i ls hl
        have hl : lv_has ls 4 [(0, .ref h), (1, .int (nI j)), (2, .int (nI (cntB (fun o => lx6 (srt M V lim o) (srt M V lim j)) n) + 1)), (3, .int (nI n))] := hl
        refine lv_iload_n hx hb dX1_place_26 rfl (lv_at hl 3 rfl) ?_
        refine lv_aload_n hx hb dX1_place_27 rfl (lv_at hl 0 rfl) ?_
        refine va_get (D := (dC, dI)) (ci := 1) (v := .int (nI n)) (C := RX1) (T := TX1) (N := 8) hx hb hts hin hown hK hP 0 rfl rfl 5 (by decide) hf_32 (fun _ h9 => h9) rfl dX1_place_28 ?_
        refine lv_icmp_ge (tgt := 57) hx hb dX1_place_31 (by decide) (fun c_5 => ?_) (fun c_5 => absurd (nI_le (Nat.le_refl n) (by omega)) c_5)
        refine lv_iload_n hx hb dX1_place_57 rfl (lv_at hl 2 rfl) ?_
        exact q_ri hx hb hr hlk (by rw [aPlace, if_pos c_1, nI_clamp (by omega), if_neg c_2]) dX1_place_58
    · skip
      refine lv_iconst (v := 0) hx hb dX1_place_20 (by decide) ?_
      exact q_ri hx hb hr hlk (by rw [aPlace, if_pos c_1, nI_clamp (by omega), if_pos c_2]) dX1_place_21
  · skip
    have c_1 : (jmp (nI n) x) = false := b2i_0 c_1
    refine lv_sipush (v := (-1000)) hx hb dX1_place_8 (by decide) ?_
    exact q_ri hx hb hr hlk (by simp [aPlace, c_1]) dX1_place_11

theorem hdX1_behind : yX1_behind.cls = RX1 ∧ yX1_behind.cls ≠ "java/lang/invoke/MethodHandle" ∧ yX1_behind.cls ≠ "java/lang/invoke/VarHandle" ∧ (parseMethodDescriptor yX1_behind.desc).map (fun d => d.parameters.length) = some 1 := by decide +kernel
set_option maxHeartbeats 4000000 in
set_option maxRecDepth 100000 in
theorem mX1_behind (l : Launch) (dC : Nat → ClassId) (dI : Nat → Nat → Nat) (h qb qj qm qw qt : Nat) (cA : ClassId) (n : Nat) (rec lim : Int32) (fb fj fm fw ft : Nat → Int32) (M : Nat → Nat → Int32) (V : Nat → Nat → Int32) (j : Nat) (hM : ∀ j r, j < 8 → r < 6 → (if nI r < fj j then fm (6 * j + r) else 0) = M j r) (hV : ∀ j r, j < 8 → r < 6 → (if nI r < fj j then fw (6 * j + r) else 100) = V j r) (hT : ft 0 = 1 ∧ ft 1 = 3 ∧ ft 2 = 4 ∧ ft 3 = 6 ∧ ft 4 = 2 ∧ ft 5 = 5) (hn : n ≤ 8) (hB : okM M) (hjn : j < n) : Met l yX1_behind wsX1_behind ({ frames := 5, cells := 0, slots := 0, locals := 118 }) (va_Pc [.ref h, .int (nI j)] (fun U => va_P (dC, dI) vwCl (wY h qb qj qm qw qt cA (nI n) rec lim fb fj fm fw ft) U.heap ∧ va_K (dC, dI) vwCl [(cA, .int)] U)) (QcRead (nI (cntB (fun o => befR (srt M V lim) o j) n))) 0 0 (fun _ => False) := by
  refine Met.ofW (cc := cX1_behind) (maxL := 7) (ret := (some .int)) (by decide) rfl ?_
  intro p e s m args below meth c s₁ B hml hv
  obtain ⟨rfl, hP, hK⟩ := hv
  have hx := B.exec
  have hb := B.bytes
  have hr := B.returns
  have hts := atoms_spec (ws := wsX1_behind) B.pre
  have hown : s.vm.findClass RX1 = some m.cls := findClass_of_methodNamed B.named
  have hlk := B.notSynchronized
  have hin : ∀ w ∈ wsX10, w ∈ wsX1_behind := fun w h => List.mem_cons_of_mem _ (List.mem_append_right _ h)
  have hf_32 := hts (.fieldLink RX1 32 "JumpBoardModel" "jumpers" "I") (by decide +kernel)
  have hl := lv_entry ([.ref h, .int (nI j)]) (n := 7) (Nat.le_of_ble_eq_true rfl)
  rw [lg_entry_eq]
  generalize (lg_sl ([.ref h, .int (nI j)]) ++ List.replicate (7 - (lg_sl ([.ref h, .int (nI j)])).length) Slot.unset).toArray = ls at hl ⊢
  have hl : lv_has ls 7 [(0, .ref h), (1, .int (nI j))] := hl
  refine lv_iconst (v := 0) hx hb dX1_behind_0 (by decide) ?_
  refine lv_istore_n (lv' := [(2, .int 0), (0, .ref h), (1, .int (nI j))]) hx hb dX1_behind_1 rfl hl (by decide) rfl (fun ls hl => ?_)
  refine lv_aload_n hx hb dX1_behind_2 rfl (lv_at hl 1 rfl) ?_
  refine lv_iload_n hx hb dX1_behind_3 rfl (lv_at hl 2 rfl) ?_
  refine q_cv [.int (nI j)] (rest := []) ⟨hx, hb, hml, hown, hts⟩ (mX1_best l dC dI h qb qj qm qw qt cA n rec lim fb fj fm fw ft M V (nI j) hM hV hT (by omega) hB) gX1_behind_X1_best rfl rfl rfl hdX1_best ⟨Nat.le_of_ble_eq_true rfl, Nat.le_of_ble_eq_true rfl⟩ rfl hK hP rfl rfl hl.1 rfl (Nat.le_of_ble_eq_true rfl) dX1_behind_4 ⟨Nat.zero_le _, Nat.zero_le _⟩ ?_
  refine q_top (y := bstU (lgl M V lim j) (M j) 6) (by rw [aBest, if_pos (jmp_nI (by omega) (by omega)), nI_clamp (by omega)]) ?_
  refine q_jn (pj := 15) (v := b2i (!decide (bstU (lgl M V lim j) (M j) 6 = 0))) (rest := []) ?_ (fun J => ?_)
  rotate_left
  · skip
    refine lv_if_eq (tgt := 14) hx hb dX1_behind_7 (by decide) (fun c_1 => ?_) (fun c_1 => ?_)
    · skip
      refine lv_iconst (v := 0) hx hb dX1_behind_14 (by decide) ?_
      exact q_top (by simp [b2i, c_1]) J
    · skip
      refine lv_iconst (v := 1) hx hb dX1_behind_10 (by decide) ?_
      refine lv_goto (tgt := 15) hx hb dX1_behind_11 (by decide) ?_
      exact q_top (by simp [b2i, c_1]) J
  refine lv_istore_n (lv' := [(3, .int (b2i (!decide (bstU (lgl M V lim j) (M j) 6 = 0)))), (2, .int 0), (0, .ref h), (1, .int (nI j))]) hx hb dX1_behind_15 rfl hl (by decide) rfl (fun ls hl => ?_)
  refine lv_iconst (v := 0) hx hb dX1_behind_16 (by decide) ?_
  refine lv_istore (lv' := [(4, .int 0), (3, .int (b2i (!decide (bstU (lgl M V lim j) (M j) 6 = 0)))), (2, .int 0), (0, .ref h), (1, .int (nI j))]) hx hb dX1_behind_17 hl (by decide) rfl (fun ls hl => ?_)
  refine q_lp (head := 19) (n) (fun i => [(0, .ref h), (1, .int (nI j)), (2, .int (nI (cntB (fun o => befR (srt M V lim) o j) i))), (3, .int (b2i (!decide (bstU (lgl M V lim j) (M j) 6 = 0)))), (4, .int (nI i))]) (fun i => True) (0) (by omega) (trivial) (q_hl (lv_sub (l' := [(0, .ref h), (1, .int (nI j)), (2, .int 0), (3, .int (b2i (!decide (bstU (lgl M V lim j) (M j) 6 = 0)))), (4, .int 0)]) hl [3, 4, 2, 1, 0] rfl) (q_ck (q_ck (q_ce (by rfl) (q_ck (q_ce (by rfl) (rfl))))))) ?_ ?_
  · intro i hi_i hI_i ih_i ls hl
    have hl : lv_has ls 7 [(0, .ref h), (1, .int (nI j)), (2, .int (nI (cntB (fun o => befR (srt M V lim) o j) i))), (3, .int (b2i (!decide (bstU (lgl M V lim j) (M j) 6 = 0)))), (4, .int (nI i))] := hl
    refine lv_iload hx hb dX1_behind_19 (lv_at hl 4 rfl) ?_
    refine lv_aload_n hx hb dX1_behind_21 rfl (lv_at hl 0 rfl) ?_
    refine va_get (D := (dC, dI)) (ci := 1) (v := .int (nI n)) (C := RX1) (T := TX1) (N := 8) hx hb hts hin hown hK hP 0 rfl rfl 5 (by decide) hf_32 (fun _ h9 => h9) rfl dX1_behind_22 ?_
    refine lv_icmp_ge (tgt := 113) hx hb dX1_behind_25 (by decide) (fun c_2 => absurd c_2 (nI_ge hi_i (by omega))) (fun c_2 => ?_)
    refine lv_aload_n hx hb dX1_behind_28 rfl (lv_at hl 0 rfl) ?_
    refine lv_iload hx hb dX1_behind_29 (lv_at hl 4 rfl) ?_
    refine q_cv [.int (nI i)] (rest := []) ⟨hx, hb, hml, hown, hts⟩ (mX1_best l dC dI h qb qj qm qw qt cA n rec lim fb fj fm fw ft M V (nI i) hM hV hT (by omega) hB) gX1_behind_X1_best rfl rfl rfl hdX1_best ⟨Nat.le_of_ble_eq_true rfl, Nat.le_of_ble_eq_true rfl⟩ rfl hK hP rfl rfl hl.1 rfl (Nat.le_of_ble_eq_true rfl) dX1_behind_31 ⟨Nat.zero_le _, Nat.zero_le _⟩ ?_
    refine q_top (y := bstU (lgl M V lim i) (M i) 6) (by rw [aBest, if_pos (jmp_nI (by omega) (by omega)), nI_clamp (by omega)]) ?_
    refine q_jn (pj := 42) (v := b2i (!decide (bstU (lgl M V lim i) (M i) 6 = 0))) (rest := []) ?_ (fun J => ?_)
    rotate_left
    · skip
      refine lv_if_eq (tgt := 41) hx hb dX1_behind_34 (by decide) (fun c_3 => ?_) (fun c_3 => ?_)
      · skip
        refine lv_iconst (v := 0) hx hb dX1_behind_41 (by decide) ?_
        exact q_top (by simp [b2i, c_3]) J
      · skip
        refine lv_iconst (v := 1) hx hb dX1_behind_37 (by decide) ?_
        refine lv_goto (tgt := 42) hx hb dX1_behind_38 (by decide) ?_
        exact q_top (by simp [b2i, c_3]) J
    refine lv_istore (lv' := [(5, .int (b2i (!decide (bstU (lgl M V lim i) (M i) 6 = 0)))), (0, .ref h), (1, .int (nI j)), (2, .int (nI (cntB (fun o => befR (srt M V lim) o j) i))), (3, .int (b2i (!decide (bstU (lgl M V lim j) (M j) 6 = 0)))), (4, .int (nI i))]) hx hb dX1_behind_42 hl (by decide) rfl (fun ls hl => ?_)
    refine lv_iload_n hx hb dX1_behind_44 rfl (lv_at hl 4 rfl) ?_
    refine q_jn (pj := 81) (v := cmpR M V lim j i) (rest := []) ?_ (fun J => ?_)
    rotate_left
    · skip
      refine lv_if_eq (tgt := 63) hx hb dX1_behind_45 (by decide) (fun c_4 => ?_) (fun c_4 => ?_)
      · skip
        have c_4 : (!decide (bstU (lgl M V lim j) (M j) 6 = 0)) = false := b2i_0 c_4
        refine lv_iload_n hx hb dX1_behind_63 rfl (lv_at hl 4 rfl) ?_
        refine lv_if_eq (tgt := 71) hx hb dX1_behind_64 (by decide) (fun c_5 => ?_) (fun c_5 => ?_)
        · skip
          have c_5 : (!decide (bstU (lgl M V lim j) (M j) 6 = 0)) = false := b2i_0 c_5
          refine lv_iload hx hb dX1_behind_71 (lv_at hl 0 rfl) ?_
          refine lv_if_eq (tgt := 80) hx hb dX1_behind_73 (by decide) (fun c_6 => ?_) (fun c_6 => ?_)
          · skip
            have c_6 : (!decide (bstU (lgl M V lim i) (M i) 6 = 0)) = false := b2i_0 c_6
            refine lv_iconst (v := 0) hx hb dX1_behind_80 (by decide) ?_
            exact q_top (by exact (cmp_b3 hB (by omega) (by omega) (bzz c_4) (bzz c_6)).symm) J
          · skip
            have c_6 : (!decide (bstU (lgl M V lim i) (M i) 6 = 0)) = true := b2i_n c_6
            refine lv_iconst (v := (-1)) hx hb dX1_behind_76 (by decide) ?_
            refine lv_goto (tgt := 81) hx hb dX1_behind_77 (by decide) ?_
            exact q_top (by exact (cmp_b2 hB (by omega) (by omega) (bzz c_4) (bnz c_6)).symm) J
        · skip
          have c_5 : (!decide (bstU (lgl M V lim j) (M j) 6 = 0)) = true := b2i_n c_5
          refine lv_iconst (v := 1) hx hb dX1_behind_67 (by decide) ?_
          refine lv_goto (tgt := 81) hx hb dX1_behind_68 (by decide) ?_
          exact q_top (by exact absurd (c_5.symm.trans c_4) (by decide)) J
      · skip
        have c_4 : (!decide (bstU (lgl M V lim j) (M j) 6 = 0)) = true := b2i_n c_4
        refine lv_iload hx hb dX1_behind_48 (lv_at hl 0 rfl) ?_
        refine lv_if_eq (tgt := 63) hx hb dX1_behind_50 (by decide) (fun c_7 => ?_) (fun c_7 => ?_)
        · skip
          have c_7 : (!decide (bstU (lgl M V lim i) (M i) 6 = 0)) = false := b2i_0 c_7
          refine lv_iload_n hx hb dX1_behind_63 rfl (lv_at hl 4 rfl) ?_
          refine lv_if_eq (tgt := 71) hx hb dX1_behind_64 (by decide) (fun c_8 => ?_) (fun c_8 => ?_)
          · skip
            have c_8 : (!decide (bstU (lgl M V lim j) (M j) 6 = 0)) = false := b2i_0 c_8
            refine lv_iload hx hb dX1_behind_71 (lv_at hl 0 rfl) ?_
            refine lv_if_eq (tgt := 80) hx hb dX1_behind_73 (by decide) (fun c_9 => ?_) (fun c_9 => ?_)
            · skip
              have c_9 : (!decide (bstU (lgl M V lim i) (M i) 6 = 0)) = false := b2i_0 c_9
              refine lv_iconst (v := 0) hx hb dX1_behind_80 (by decide) ?_
              exact q_top (by exact absurd (c_4.symm.trans c_8) (by decide)) J
            · skip
              have c_9 : (!decide (bstU (lgl M V lim i) (M i) 6 = 0)) = true := b2i_n c_9
              refine lv_iconst (v := (-1)) hx hb dX1_behind_76 (by decide) ?_
              refine lv_goto (tgt := 81) hx hb dX1_behind_77 (by decide) ?_
              exact q_top (by exact absurd (c_4.symm.trans c_8) (by decide)) J
          · skip
            have c_8 : (!decide (bstU (lgl M V lim j) (M j) 6 = 0)) = true := b2i_n c_8
            refine lv_iconst (v := 1) hx hb dX1_behind_67 (by decide) ?_
            refine lv_goto (tgt := 81) hx hb dX1_behind_68 (by decide) ?_
            exact q_top (by exact (cmp_b1 hB (by omega) (by omega) (bnz c_4) (bzz c_7)).symm) J
        · skip
          have c_7 : (!decide (bstU (lgl M V lim i) (M i) 6 = 0)) = true := b2i_n c_7
          refine lv_aload_n hx hb dX1_behind_53 rfl (lv_at hl 1 rfl) ?_
          refine lv_iload_n hx hb dX1_behind_54 rfl (lv_at hl 2 rfl) ?_
          refine lv_iload hx hb dX1_behind_55 (lv_at hl 5 rfl) ?_
          refine q_cv [.int (nI j), .int (nI i)] (rest := []) ⟨hx, hb, hml, hown, hts⟩ (mX1_compared l dC dI h qb qj qm qw qt cA n rec lim fb fj fm fw ft M V j i hM hV hT hB (by omega) (by omega)) gX1_behind_X1_compared rfl rfl rfl hdX1_compared ⟨Nat.le_of_ble_eq_true rfl, Nat.le_of_ble_eq_true rfl⟩ rfl hK hP rfl rfl hl.1 rfl (Nat.le_of_ble_eq_true rfl) dX1_behind_57 ⟨Nat.zero_le _, Nat.zero_le _⟩ ?_
          refine lv_goto (tgt := 81) hx hb dX1_behind_60 (by decide) ?_
          exact J
    refine lv_istore (lv' := [(6, .int (cmpR M V lim j i)), (5, .int (b2i (!decide (bstU (lgl M V lim i) (M i) 6 = 0)))), (0, .ref h), (1, .int (nI j)), (2, .int (nI (cntB (fun o => befR (srt M V lim) o j) i))), (3, .int (b2i (!decide (bstU (lgl M V lim j) (M j) 6 = 0)))), (4, .int (nI i))]) hx hb dX1_behind_81 hl (by decide) rfl (fun ls hl => ?_)
    refine lv_iload_n hx hb dX1_behind_83 rfl (lv_at hl 4 rfl) ?_
    refine lv_iload hx hb dX1_behind_84 (lv_at hl 0 rfl) ?_
    refine q_jn (pj := 105) (v := ifz (befR (srt M V lim) i j) 1) (rest := [.int (nI (cntB (fun o => befR (srt M V lim) o j) i))]) ?_ (fun J => ?_)
    rotate_left
    · skip
      refine lv_if_gt (tgt := 100) hx hb dX1_behind_86 (by decide) (fun c_10 => ?_) (fun c_10 => ?_)
      · skip
        refine lv_iconst (v := 1) hx hb dX1_behind_100 (by decide) ?_
        refine lv_goto (tgt := 105) hx hb dX1_behind_101 (by decide) ?_
        exact q_top (by exact beh_1 c_10) J
      · skip
        refine lv_iload hx hb dX1_behind_89 (lv_at hl 0 rfl) ?_
        refine lv_if_ne (tgt := 104) hx hb dX1_behind_91 (by decide) (fun c_11 => ?_) (fun c_11 => ?_)
        · skip
          refine lv_iconst (v := 0) hx hb dX1_behind_104 (by decide) ?_
          exact q_top (by exact beh_2 c_10 c_11) J
        · skip
          refine lv_iload hx hb dX1_behind_94 (lv_at hl 6 rfl) ?_
          refine lv_iload_n hx hb dX1_behind_96 rfl (lv_at hl 3 rfl) ?_
          refine lv_icmp_ge (tgt := 104) hx hb dX1_behind_97 (by decide) (fun c_12 => ?_) (fun c_12 => ?_)
          · skip
            refine lv_iconst (v := 0) hx hb dX1_behind_104 (by decide) ?_
            exact q_top (by exact beh_3 (by omega) (by omega) c_11 c_12) J
          · skip
            refine lv_iconst (v := 1) hx hb dX1_behind_100 (by decide) ?_
            refine lv_goto (tgt := 105) hx hb dX1_behind_101 (by decide) ?_
            exact q_top (by exact beh_4 (by omega) (by omega) c_11 c_12) J
    refine lv_iadd hx hb dX1_behind_105 ?_
    refine lv_istore_n (lv' := [(2, .int ((nI (cntB (fun o => befR (srt M V lim) o j) i)) + (ifz (befR (srt M V lim) i j) 1))), (6, .int (cmpR M V lim j i)), (5, .int (b2i (!decide (bstU (lgl M V lim i) (M i) 6 = 0)))), (0, .ref h), (1, .int (nI j)), (3, .int (b2i (!decide (bstU (lgl M V lim j) (M j) 6 = 0)))), (4, .int (nI i))]) hx hb dX1_behind_106 rfl hl (by decide) rfl (fun ls hl => ?_)
    refine lv_iinc (v := (nI (i + 1))) (lv' := [(4, .int (nI (i + 1))), (2, .int ((nI (cntB (fun o => befR (srt M V lim) o j) i)) + (ifz (befR (srt M V lim) i j) 1))), (6, .int (cmpR M V lim j i)), (5, .int (b2i (!decide (bstU (lgl M V lim i) (M i) 6 = 0)))), (0, .ref h), (1, .int (nI j)), (3, .int (b2i (!decide (bstU (lgl M V lim j) (M j) 6 = 0))))]) hx hb dX1_behind_107 hl (k := 6) rfl (by exact nI_1 _) (by decide) rfl (fun ls hl => ?_)
    refine lv_goto (tgt := 19) hx hb dX1_behind_110 (by decide) ?_
    exact ih_i (by exact trivial) ls (q_hl (lv_sub (l' := [(0, .ref h), (1, .int (nI j)), (2, .int ((nI (cntB (fun o => befR (srt M V lim) o j) i)) + (ifz (befR (srt M V lim) i j) 1))), (3, .int (b2i (!decide (bstU (lgl M V lim j) (M j) 6 = 0)))), (4, .int (nI (i + 1)))]) hl [4, 5, 1, 6, 0] rfl) (q_ck (q_ck (q_ce (by rw [cntB]; unfold ifz; split <;> simp [nI_1]) (q_ck (q_ck (rfl)))))))
  · intro hI_i ls hl
    have hl : lv_has ls 7 [(0, .ref h), (1, .int (nI j)), (2, .int (nI (cntB (fun o => befR (srt M V lim) o j) n))), (3, .int (b2i (!decide (bstU (lgl M V lim j) (M j) 6 = 0)))), (4, .int (nI n))] := hl
    refine lv_iload hx hb dX1_behind_19 (lv_at hl 4 rfl) ?_
    refine lv_aload_n hx hb dX1_behind_21 rfl (lv_at hl 0 rfl) ?_
    refine va_get (D := (dC, dI)) (ci := 1) (v := .int (nI n)) (C := RX1) (T := TX1) (N := 8) hx hb hts hin hown hK hP 0 rfl rfl 5 (by decide) hf_32 (fun _ h9 => h9) rfl dX1_behind_22 ?_
    refine lv_icmp_ge (tgt := 113) hx hb dX1_behind_25 (by decide) (fun c_13 => ?_) (fun c_13 => absurd (nI_le (Nat.le_refl n) (by omega)) c_13)
    refine lv_iload_n hx hb dX1_behind_113 rfl (lv_at hl 2 rfl) ?_
    exact q_ri hx hb hr hlk (by rfl) dX1_behind_114

theorem hdX1_order : yX1_order.cls = RX1 ∧ yX1_order.cls ≠ "java/lang/invoke/MethodHandle" ∧ yX1_order.cls ≠ "java/lang/invoke/VarHandle" ∧ (parseMethodDescriptor yX1_order.desc).map (fun d => d.parameters.length) = some 1 := by decide +kernel
set_option maxHeartbeats 4000000 in
set_option maxRecDepth 100000 in
theorem mX1_order (l : Launch) (dC : Nat → ClassId) (dI : Nat → Nat → Nat) (h qb qj qm qw qt : Nat) (cA : ClassId) (n : Nat) (rec lim : Int32) (fb fj fm fw ft : Nat → Int32) (M : Nat → Nat → Int32) (V : Nat → Nat → Int32) (k : Int32) (hM : ∀ j r, j < 8 → r < 6 → (if nI r < fj j then fm (6 * j + r) else 0) = M j r) (hV : ∀ j r, j < 8 → r < 6 → (if nI r < fj j then fw (6 * j + r) else 100) = V j r) (hT : ft 0 = 1 ∧ ft 1 = 3 ∧ ft 2 = 4 ∧ ft 3 = 6 ∧ ft 4 = 2 ∧ ft 5 = 5) (hn : n ≤ 8) (hB : okM M) : Met l yX1_order wsX1_order ({ frames := 6, cells := 0, slots := 0, locals := 144 }) (va_Pc [.ref h, .int k] (fun U => va_P (dC, dI) vwCl (wY h qb qj qm qw qt cA (nI n) rec lim fb fj fm fw ft) U.heap ∧ va_K (dC, dI) vwCl [(cA, .int)] U)) (QcRead (aOrder (-1000) M V lim n k)) 0 0 (fun _ => False) := by
  refine Met.ofW (cc := cX1_order) (maxL := 4) (ret := (some .int)) (by decide) rfl ?_
  intro p e s m args below meth c s₁ B hml hv
  obtain ⟨rfl, hP, hK⟩ := hv
  have hx := B.exec
  have hb := B.bytes
  have hr := B.returns
  have hts := atoms_spec (ws := wsX1_order) B.pre
  have hown : s.vm.findClass RX1 = some m.cls := findClass_of_methodNamed B.named
  have hlk := B.notSynchronized
  have hin : ∀ w ∈ wsX10, w ∈ wsX1_order := fun w h => List.mem_cons_of_mem _ (List.mem_append_right _ h)
  have hf_32 := hts (.fieldLink RX1 32 "JumpBoardModel" "jumpers" "I") (by decide +kernel)
  have hl := lv_entry ([.ref h, .int k]) (n := 4) (Nat.le_of_ble_eq_true rfl)
  rw [lg_entry_eq]
  generalize (lg_sl ([.ref h, .int k]) ++ List.replicate (4 - (lg_sl ([.ref h, .int k])).length) Slot.unset).toArray = ls at hl ⊢
  have hl : lv_has ls 4 [(0, .ref h), (1, .int k)] := hl
  refine lv_iload_n hx hb dX1_order_0 rfl (lv_at hl 1 rfl) ?_
  refine lv_iconst (v := 0) hx hb dX1_order_1 (by decide) ?_
  refine lv_aload_n hx hb dX1_order_2 rfl (lv_at hl 0 rfl) ?_
  refine va_get (D := (dC, dI)) (ci := 1) (v := .int (nI n)) (C := RX1) (T := TX1) (N := 8) hx hb hts hin hown hK hP 0 rfl rfl 5 (by decide) hf_32 (fun _ h9 => h9) rfl dX1_order_3 ?_
  refine lv_iconst (v := 1) hx hb dX1_order_6 (by decide) ?_
  refine lv_isub hx hb dX1_order_7 ?_
  refine q_cs [.int k, .int 0, .int ((nI n) - 1)] (rest := []) ⟨hx, hb, hml, hown, hts⟩ (mX1_isIn l k 0 ((nI n) - 1)) gX1_order_X1_isIn rfl rfl rfl hdX1_isIn ⟨Nat.le_of_ble_eq_true rfl, Nat.le_of_ble_eq_true rfl⟩ rfl hl.1 rfl (Nat.le_of_ble_eq_true rfl) dX1_order_8 ⟨Nat.zero_le _, Nat.zero_le _⟩ ?_
  refine lv_if_ne (tgt := 18) hx hb dX1_order_11 (by decide) (fun c_1 => ?_) (fun c_1 => ?_)
  · skip
    have c_1 : (inR k 0 ((nI n) - 1)) = true := b2i_n c_1
    refine lv_sipush (v := (-1000)) hx hb dX1_order_18 (by decide) ?_
    refine lv_istore_n (lv' := [(2, .int (-1000)), (0, .ref h), (1, .int k)]) hx hb dX1_order_21 rfl hl (by decide) rfl (fun ls hl => ?_)
    refine lv_iconst (v := 0) hx hb dX1_order_22 (by decide) ?_
    refine lv_istore_n (lv' := [(3, .int 0), (2, .int (-1000)), (0, .ref h), (1, .int k)]) hx hb dX1_order_23 rfl hl (by decide) rfl (fun ls hl => ?_)
    refine q_lp (head := 24) (n) (fun i => [(0, .ref h), (1, .int k), (2, .int (fndI (-1000) (fun j => nI (cntB (fun o => befR (srt M V lim) o j) n)) k i)), (3, .int (nI i))]) (fun i => True) (0) (by omega) (trivial) (q_hl (lv_sub (l' := [(0, .ref h), (1, .int k), (2, .int (-1000)), (3, .int 0)]) hl [2, 3, 1, 0] rfl) (q_ck (q_ck (q_ce (by rfl) (q_ce (by rfl) (rfl)))))) ?_ ?_
    · intro i hi_i hI_i ih_i ls hl
      have hl : lv_has ls 4 [(0, .ref h), (1, .int k), (2, .int (fndI (-1000) (fun j => nI (cntB (fun o => befR (srt M V lim) o j) n)) k i)), (3, .int (nI i))] := hl
      refine lv_iload_n hx hb dX1_order_24 rfl (lv_at hl 3 rfl) ?_
      refine lv_aload_n hx hb dX1_order_25 rfl (lv_at hl 0 rfl) ?_
      refine va_get (D := (dC, dI)) (ci := 1) (v := .int (nI n)) (C := RX1) (T := TX1) (N := 8) hx hb hts hin hown hK hP 0 rfl rfl 5 (by decide) hf_32 (fun _ h9 => h9) rfl dX1_order_26 ?_
      refine lv_icmp_ge (tgt := 53) hx hb dX1_order_29 (by decide) (fun c_2 => absurd c_2 (nI_ge hi_i (by omega))) (fun c_2 => ?_)
      refine lv_aload_n hx hb dX1_order_32 rfl (lv_at hl 0 rfl) ?_
      refine lv_iload_n hx hb dX1_order_33 rfl (lv_at hl 3 rfl) ?_
      refine q_cv [.int (nI i)] (rest := []) ⟨hx, hb, hml, hown, hts⟩ (mX1_behind l dC dI h qb qj qm qw qt cA n rec lim fb fj fm fw ft M V i hM hV hT (by omega) hB (by omega)) gX1_order_X1_behind rfl rfl rfl hdX1_behind ⟨Nat.le_of_ble_eq_true rfl, Nat.le_of_ble_eq_true rfl⟩ rfl hK hP rfl rfl hl.1 rfl (Nat.le_of_ble_eq_true rfl) dX1_order_34 ⟨Nat.zero_le _, Nat.zero_le _⟩ ?_
      refine lv_iload_n hx hb dX1_order_37 rfl (lv_at hl 1 rfl) ?_
      refine lv_icmp_ne (tgt := 45) hx hb dX1_order_38 (by decide) (fun c_3 => ?_) (fun c_3 => ?_)
      · skip
        refine lv_iload_n hx hb dX1_order_45 rfl (lv_at hl 2 rfl) ?_
        refine lv_istore_n (lv' := [(2, .int (fndI (-1000) (fun j => nI (cntB (fun o => befR (srt M V lim) o j) n)) k i)), (0, .ref h), (1, .int k), (3, .int (nI i))]) hx hb dX1_order_46 rfl hl (by decide) rfl (fun ls hl => ?_)
        refine lv_iinc (v := (nI (i + 1))) (lv' := [(3, .int (nI (i + 1))), (2, .int (fndI (-1000) (fun j => nI (cntB (fun o => befR (srt M V lim) o j) n)) k i)), (0, .ref h), (1, .int k)]) hx hb dX1_order_47 hl (k := 3) rfl (by exact nI_1 _) (by decide) rfl (fun ls hl => ?_)
        refine lv_goto (tgt := 24) hx hb dX1_order_50 (by decide) ?_
        exact ih_i (by exact trivial) ls (q_hl (lv_sub (l' := [(0, .ref h), (1, .int k), (2, .int (fndI (-1000) (fun j => nI (cntB (fun o => befR (srt M V lim) o j) n)) k i)), (3, .int (nI (i + 1)))]) hl [2, 3, 1, 0] rfl) (q_ck (q_ck (q_ce (by simp [fndI, c_3]) (q_ck (rfl))))))
      · skip
        refine lv_iload_n hx hb dX1_order_41 rfl (lv_at hl 3 rfl) ?_
        refine lv_goto (tgt := 46) hx hb dX1_order_42 (by decide) ?_
        refine lv_istore_n (lv' := [(2, .int (nI i)), (0, .ref h), (1, .int k), (3, .int (nI i))]) hx hb dX1_order_46 rfl hl (by decide) rfl (fun ls hl => ?_)
        refine lv_iinc (v := (nI (i + 1))) (lv' := [(3, .int (nI (i + 1))), (2, .int (nI i)), (0, .ref h), (1, .int k)]) hx hb dX1_order_47 hl (k := 3) rfl (by exact nI_1 _) (by decide) rfl (fun ls hl => ?_)
        refine lv_goto (tgt := 24) hx hb dX1_order_50 (by decide) ?_
        exact ih_i (by exact trivial) ls (q_hl (lv_sub (l' := [(0, .ref h), (1, .int k), (2, .int (nI i)), (3, .int (nI (i + 1)))]) hl [2, 3, 1, 0] rfl) (q_ck (q_ck (q_ce (by simp [fndI, c_3]) (q_ck (rfl))))))
    · intro hI_i ls hl
      have hl : lv_has ls 4 [(0, .ref h), (1, .int k), (2, .int (fndI (-1000) (fun j => nI (cntB (fun o => befR (srt M V lim) o j) n)) k n)), (3, .int (nI n))] := hl
      refine lv_iload_n hx hb dX1_order_24 rfl (lv_at hl 3 rfl) ?_
      refine lv_aload_n hx hb dX1_order_25 rfl (lv_at hl 0 rfl) ?_
      refine va_get (D := (dC, dI)) (ci := 1) (v := .int (nI n)) (C := RX1) (T := TX1) (N := 8) hx hb hts hin hown hK hP 0 rfl rfl 5 (by decide) hf_32 (fun _ h9 => h9) rfl dX1_order_26 ?_
      refine lv_icmp_ge (tgt := 53) hx hb dX1_order_29 (by decide) (fun c_4 => ?_) (fun c_4 => absurd (nI_le (Nat.le_refl n) (by omega)) c_4)
      refine lv_iload_n hx hb dX1_order_53 rfl (lv_at hl 2 rfl) ?_
      exact q_ri hx hb hr hlk (by rw [inR_jmp hn] at c_1; simp [aOrder, c_1]) dX1_order_54
  · skip
    have c_1 : (inR k 0 ((nI n) - 1)) = false := b2i_0 c_1
    refine lv_sipush (v := (-1000)) hx hb dX1_order_14 (by decide) ?_
    exact q_ri hx hb hr hlk (by rw [inR_jmp hn] at c_1; simp [aOrder, c_1]) dX1_order_17
end
