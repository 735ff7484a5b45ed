section
-- ===== PART A: goes FIRST, ahead of the names: the tables' words, and 'selects' of the private methods out of them =====
/-- a private method of a class that the tables say can be made, by its rows of tables_1 -/
def lw_okq (q : MethodName × Nat) : Prop := (q.1.cls ≠ "java/lang/invoke/MethodHandle" ∧ q.1.cls ≠ "java/lang/invoke/VarHandle") ∧ Cond.instantiable q.1.cls q.2 ∈ tables_1 ∧ Cond.privateMethod q.1 ∈ tables_1 ∧ Cond.instanceMethod q.1 ∈ tables_1
theorem lw_p0 : lw_okq (⟨"LightRows", "work", "()V"⟩, 10) := ⟨⟨by decide +kernel, by decide +kernel⟩, List.mem_of_getElem? (i := 14) (by decide +kernel), List.mem_of_getElem? (i := 139) (by decide +kernel), List.mem_of_getElem? (i := 140) (by decide +kernel)⟩
theorem lw_p1 : lw_okq (⟨"LightRows$Equations", "unusedRowWith", "(I)I"⟩, 7) := ⟨⟨by decide +kernel, by decide +kernel⟩, List.mem_of_getElem? (i := 31) (by decide +kernel), List.mem_of_getElem? (i := 151) (by decide +kernel), List.mem_of_getElem? (i := 152) (by decide +kernel)⟩
theorem lw_p2 : lw_okq (⟨"LightRows$Equations", "swap", "(II)V"⟩, 7) := ⟨⟨by decide +kernel, by decide +kernel⟩, List.mem_of_getElem? (i := 31) (by decide +kernel), List.mem_of_getElem? (i := 155) (by decide +kernel), List.mem_of_getElem? (i := 156) (by decide +kernel)⟩
theorem lw_p3 : lw_okq (⟨"LightRows$Equations", "makeUnit", "([II)V"⟩, 7) := ⟨⟨by decide +kernel, by decide +kernel⟩, List.mem_of_getElem? (i := 31) (by decide +kernel), List.mem_of_getElem? (i := 159) (by decide +kernel), List.mem_of_getElem? (i := 160) (by decide +kernel)⟩
theorem lw_p4 : lw_okq (⟨"LightRows$Equations", "inverse", "(I)I"⟩, 7) := ⟨⟨by decide +kernel, by decide +kernel⟩, List.mem_of_getElem? (i := 31) (by decide +kernel), List.mem_of_getElem? (i := 163) (by decide +kernel), List.mem_of_getElem? (i := 164) (by decide +kernel)⟩
theorem lw_p5 : lw_okq (⟨"LightRows$Equations", "clearElsewhere", "(II)V"⟩, 7) := ⟨⟨by decide +kernel, by decide +kernel⟩, List.mem_of_getElem? (i := 31) (by decide +kernel), List.mem_of_getElem? (i := 167) (by decide +kernel), List.mem_of_getElem? (i := 168) (by decide +kernel)⟩
theorem lw_p6 : lw_okq (⟨"LightRows$Equations", "addMultiple", "([I[II)V"⟩, 7) := ⟨⟨by decide +kernel, by decide +kernel⟩, List.mem_of_getElem? (i := 31) (by decide +kernel), List.mem_of_getElem? (i := 171) (by decide +kernel), List.mem_of_getElem? (i := 172) (by decide +kernel)⟩
theorem lw_p7 : lw_okq (⟨"LightRows$Equations", "readQuietPatterns", "()V"⟩, 7) := ⟨⟨by decide +kernel, by decide +kernel⟩, List.mem_of_getElem? (i := 31) (by decide +kernel), List.mem_of_getElem? (i := 175) (by decide +kernel), List.mem_of_getElem? (i := 176) (by decide +kernel)⟩
theorem lw_p8 : lw_okq (⟨"LightRows$Equations", "readQuietPattern", "([II)V"⟩, 7) := ⟨⟨by decide +kernel, by decide +kernel⟩, List.mem_of_getElem? (i := 31) (by decide +kernel), List.mem_of_getElem? (i := 179) (by decide +kernel), List.mem_of_getElem? (i := 180) (by decide +kernel)⟩
theorem lw_p9 : lw_okq (⟨"LightRows", "seek", "()V"⟩, 10) := ⟨⟨by decide +kernel, by decide +kernel⟩, List.mem_of_getElem? (i := 14) (by decide +kernel), List.mem_of_getElem? (i := 219) (by decide +kernel), List.mem_of_getElem? (i := 220) (by decide +kernel)⟩
theorem lw_p10 : lw_okq (⟨"LightRows$Search", "begin", "(LLightRows$Equations;)V"⟩, 6) := ⟨⟨by decide +kernel, by decide +kernel⟩, List.mem_of_getElem? (i := 62) (by decide +kernel), List.mem_of_getElem? (i := 232) (by decide +kernel), List.mem_of_getElem? (i := 233) (by decide +kernel)⟩
theorem lw_p11 : lw_okq (⟨"LightRows$Search", "totalTried", "()I"⟩, 6) := ⟨⟨by decide +kernel, by decide +kernel⟩, List.mem_of_getElem? (i := 62) (by decide +kernel), List.mem_of_getElem? (i := 240) (by decide +kernel), List.mem_of_getElem? (i := 241) (by decide +kernel)⟩
theorem lw_p12 : lw_okq (⟨"LightRows$Search", "keep", "(I)V"⟩, 6) := ⟨⟨by decide +kernel, by decide +kernel⟩, List.mem_of_getElem? (i := 62) (by decide +kernel), List.mem_of_getElem? (i := 244) (by decide +kernel), List.mem_of_getElem? (i := 245) (by decide +kernel)⟩
theorem lw_p13 : lw_okq (⟨"LightRows$Search", "advance", "(LLightRows$Equations;)V"⟩, 6) := ⟨⟨by decide +kernel, by decide +kernel⟩, List.mem_of_getElem? (i := 62) (by decide +kernel), List.mem_of_getElem? (i := 251) (by decide +kernel), List.mem_of_getElem? (i := 252) (by decide +kernel)⟩
theorem lw_p14 : lw_okq (⟨"LightRows$Search", "addToTried", "([I)V"⟩, 6) := ⟨⟨by decide +kernel, by decide +kernel⟩, List.mem_of_getElem? (i := 62) (by decide +kernel), List.mem_of_getElem? (i := 260) (by decide +kernel), List.mem_of_getElem? (i := 261) (by decide +kernel)⟩
theorem lw_p15 : lw_okq (⟨"LightRows$Search", "keepIfLess", "()V"⟩, 6) := ⟨⟨by decide +kernel, by decide +kernel⟩, List.mem_of_getElem? (i := 62) (by decide +kernel), List.mem_of_getElem? (i := 264) (by decide +kernel), List.mem_of_getElem? (i := 265) (by decide +kernel)⟩
def lw_privs_1 : List (MethodName × Nat) := [(⟨"LightRows", "work", "()V"⟩, 10), (⟨"LightRows$Equations", "unusedRowWith", "(I)I"⟩, 7), (⟨"LightRows$Equations", "swap", "(II)V"⟩, 7), (⟨"LightRows$Equations", "makeUnit", "([II)V"⟩, 7), (⟨"LightRows$Equations", "inverse", "(I)I"⟩, 7), (⟨"LightRows$Equations", "clearElsewhere", "(II)V"⟩, 7), (⟨"LightRows$Equations", "addMultiple", "([I[II)V"⟩, 7), (⟨"LightRows$Equations", "readQuietPatterns", "()V"⟩, 7), (⟨"LightRows$Equations", "readQuietPattern", "([II)V"⟩, 7), (⟨"LightRows", "seek", "()V"⟩, 10), (⟨"LightRows$Search", "begin", "(LLightRows$Equations;)V"⟩, 6), (⟨"LightRows$Search", "totalTried", "()I"⟩, 6), (⟨"LightRows$Search", "keep", "(I)V"⟩, 6), (⟨"LightRows$Search", "advance", "(LLightRows$Equations;)V"⟩, 6), (⟨"LightRows$Search", "addToTried", "([I)V"⟩, 6), (⟨"LightRows$Search", "keepIfLess", "()V"⟩, 6)]
theorem lw_r1 : ∀ q ∈ lw_privs_1, lw_okq q := List.forall_mem_cons.mpr ⟨lw_p0, List.forall_mem_cons.mpr ⟨lw_p1, List.forall_mem_cons.mpr ⟨lw_p2, List.forall_mem_cons.mpr ⟨lw_p3, List.forall_mem_cons.mpr ⟨lw_p4, List.forall_mem_cons.mpr ⟨lw_p5, List.forall_mem_cons.mpr ⟨lw_p6, List.forall_mem_cons.mpr ⟨lw_p7, List.forall_mem_cons.mpr ⟨lw_p8, List.forall_mem_cons.mpr ⟨lw_p9, List.forall_mem_cons.mpr ⟨lw_p10, List.forall_mem_cons.mpr ⟨lw_p11, List.forall_mem_cons.mpr ⟨lw_p12, List.forall_mem_cons.mpr ⟨lw_p13, List.forall_mem_cons.mpr ⟨lw_p14, List.forall_mem_cons.mpr ⟨lw_p15, fun _ h => absurd h List.not_mem_nil⟩⟩⟩⟩⟩⟩⟩⟩⟩⟩⟩⟩⟩⟩⟩⟩
theorem lw_p16 : lw_okq (⟨"LightRows$Search", "triedIsAhead", "()Z"⟩, 6) := ⟨⟨by decide +kernel, by decide +kernel⟩, List.mem_of_getElem? (i := 62) (by decide +kernel), List.mem_of_getElem? (i := 268) (by decide +kernel), List.mem_of_getElem? (i := 269) (by decide +kernel)⟩
theorem lw_p17 : lw_okq (⟨"LightRows", "forget", "()V"⟩, 10) := ⟨⟨by decide +kernel, by decide +kernel⟩, List.mem_of_getElem? (i := 14) (by decide +kernel), List.mem_of_getElem? (i := 280) (by decide +kernel), List.mem_of_getElem? (i := 281) (by decide +kernel)⟩
theorem lw_p18 : lw_okq (⟨"LightRows", "mustExist", "(I)V"⟩, 10) := ⟨⟨by decide +kernel, by decide +kernel⟩, List.mem_of_getElem? (i := 14) (by decide +kernel), List.mem_of_getElem? (i := 295) (by decide +kernel), List.mem_of_getElem? (i := 296) (by decide +kernel)⟩
theorem lw_p19 : lw_okq (⟨"java/lang/Throwable", "fillInStackTrace", "(I)Ljava/lang/Throwable;"⟩, 6) := ⟨⟨by decide +kernel, by decide +kernel⟩, List.mem_of_getElem? (i := 337) (by decide +kernel), List.mem_of_getElem? (i := 335) (by decide +kernel), List.mem_of_getElem? (i := 336) (by decide +kernel)⟩
theorem lw_p20 : lw_okq (⟨"LightRows", "touches", "(II)Z"⟩, 10) := ⟨⟨by decide +kernel, by decide +kernel⟩, List.mem_of_getElem? (i := 14) (by decide +kernel), List.mem_of_getElem? (i := 370) (by decide +kernel), List.mem_of_getElem? (i := 371) (by decide +kernel)⟩
theorem lw_p21 : lw_okq (⟨"LightRows", "isState", "(I)Z"⟩, 10) := ⟨⟨by decide +kernel, by decide +kernel⟩, List.mem_of_getElem? (i := 14) (by decide +kernel), List.mem_of_getElem? (i := 388) (by decide +kernel), List.mem_of_getElem? (i := 389) (by decide +kernel)⟩
theorem lw_p22 : lw_okq (⟨"LightRowsModel", "isLamp", "(I)Z"⟩, 20) := ⟨⟨by decide +kernel, by decide +kernel⟩, List.mem_of_getElem? (i := 447) (by decide +kernel), List.mem_of_getElem? (i := 523) (by decide +kernel), List.mem_of_getElem? (i := 524) (by decide +kernel)⟩
theorem lw_p23 : lw_okq (⟨"LightRowsModel", "fails", "(Z)Z"⟩, 20) := ⟨⟨by decide +kernel, by decide +kernel⟩, List.mem_of_getElem? (i := 447) (by decide +kernel), List.mem_of_getElem? (i := 527) (by decide +kernel), List.mem_of_getElem? (i := 528) (by decide +kernel)⟩
theorem lw_p24 : lw_okq (⟨"LightRowsModel", "isState", "(I)Z"⟩, 20) := ⟨⟨by decide +kernel, by decide +kernel⟩, List.mem_of_getElem? (i := 447) (by decide +kernel), List.mem_of_getElem? (i := 539) (by decide +kernel), List.mem_of_getElem? (i := 540) (by decide +kernel)⟩
theorem lw_p25 : lw_okq (⟨"LightRowsModel", "effect", "(II)I"⟩, 20) := ⟨⟨by decide +kernel, by decide +kernel⟩, List.mem_of_getElem? (i := 447) (by decide +kernel), List.mem_of_getElem? (i := 551) (by decide +kernel), List.mem_of_getElem? (i := 552) (by decide +kernel)⟩
theorem lw_p26 : lw_okq (⟨"LightRowsModel", "know", "()V"⟩, 20) := ⟨⟨by decide +kernel, by decide +kernel⟩, List.mem_of_getElem? (i := 447) (by decide +kernel), List.mem_of_getElem? (i := 571) (by decide +kernel), List.mem_of_getElem? (i := 572) (by decide +kernel)⟩
theorem lw_p27 : lw_okq (⟨"LightRowsModel", "takeApart", "()V"⟩, 20) := ⟨⟨by decide +kernel, by decide +kernel⟩, List.mem_of_getElem? (i := 447) (by decide +kernel), List.mem_of_getElem? (i := 575) (by decide +kernel), List.mem_of_getElem? (i := 576) (by decide +kernel)⟩
theorem lw_p28 : lw_okq (⟨"LightRowsModel", "inverse", "(I)I"⟩, 20) := ⟨⟨by decide +kernel, by decide +kernel⟩, List.mem_of_getElem? (i := 447) (by decide +kernel), List.mem_of_getElem? (i := 579) (by decide +kernel), List.mem_of_getElem? (i := 580) (by decide +kernel)⟩
theorem lw_p29 : lw_okq (⟨"LightRowsModel", "left", "()I"⟩, 20) := ⟨⟨by decide +kernel, by decide +kernel⟩, List.mem_of_getElem? (i := 447) (by decide +kernel), List.mem_of_getElem? (i := 583) (by decide +kernel), List.mem_of_getElem? (i := 584) (by decide +kernel)⟩
theorem lw_p30 : lw_okq (⟨"LightRowsModel", "answers", "()Z"⟩, 20) := ⟨⟨by decide +kernel, by decide +kernel⟩, List.mem_of_getElem? (i := 447) (by decide +kernel), List.mem_of_getElem? (i := 591) (by decide +kernel), List.mem_of_getElem? (i := 592) (by decide +kernel)⟩
theorem lw_p31 : lw_okq (⟨"LightRowsModel", "findBest", "()I"⟩, 20) := ⟨⟨by decide +kernel, by decide +kernel⟩, List.mem_of_getElem? (i := 447) (by decide +kernel), List.mem_of_getElem? (i := 611) (by decide +kernel), List.mem_of_getElem? (i := 612) (by decide +kernel)⟩
def lw_privs_2 : List (MethodName × Nat) := [(⟨"LightRows$Search", "triedIsAhead", "()Z"⟩, 6), (⟨"LightRows", "forget", "()V"⟩, 10), (⟨"LightRows", "mustExist", "(I)V"⟩, 10), (⟨"java/lang/Throwable", "fillInStackTrace", "(I)Ljava/lang/Throwable;"⟩, 6), (⟨"LightRows", "touches", "(II)Z"⟩, 10), (⟨"LightRows", "isState", "(I)Z"⟩, 10), (⟨"LightRowsModel", "isLamp", "(I)Z"⟩, 20), (⟨"LightRowsModel", "fails", "(Z)Z"⟩, 20), (⟨"LightRowsModel", "isState", "(I)Z"⟩, 20), (⟨"LightRowsModel", "effect", "(II)I"⟩, 20), (⟨"LightRowsModel", "know", "()V"⟩, 20), (⟨"LightRowsModel", "takeApart", "()V"⟩, 20), (⟨"LightRowsModel", "inverse", "(I)I"⟩, 20), (⟨"LightRowsModel", "left", "()I"⟩, 20), (⟨"LightRowsModel", "answers", "()Z"⟩, 20), (⟨"LightRowsModel", "findBest", "()I"⟩, 20)]
theorem lw_r2 : ∀ q ∈ lw_privs_2, lw_okq q := List.forall_mem_cons.mpr ⟨lw_p16, List.forall_mem_cons.mpr ⟨lw_p17, List.forall_mem_cons.mpr ⟨lw_p18, List.forall_mem_cons.mpr ⟨lw_p19, List.forall_mem_cons.mpr ⟨lw_p20, List.forall_mem_cons.mpr ⟨lw_p21, List.forall_mem_cons.mpr ⟨lw_p22, List.forall_mem_cons.mpr ⟨lw_p23, List.forall_mem_cons.mpr ⟨lw_p24, List.forall_mem_cons.mpr ⟨lw_p25, List.forall_mem_cons.mpr ⟨lw_p26, List.forall_mem_cons.mpr ⟨lw_p27, List.forall_mem_cons.mpr ⟨lw_p28, List.forall_mem_cons.mpr ⟨lw_p29, List.forall_mem_cons.mpr ⟨lw_p30, List.forall_mem_cons.mpr ⟨lw_p31, fun _ h => absurd h List.not_mem_nil⟩⟩⟩⟩⟩⟩⟩⟩⟩⟩⟩⟩⟩⟩⟩⟩
theorem lw_p32 : lw_okq (⟨"LightRowsModel", "tryWay", "(I)I"⟩, 20) := ⟨⟨by decide +kernel, by decide +kernel⟩, List.mem_of_getElem? (i := 447) (by decide +kernel), List.mem_of_getElem? (i := 615) (by decide +kernel), List.mem_of_getElem? (i := 616) (by decide +kernel)⟩
theorem lw_p33 : lw_okq (⟨"LightRowsModel", "isLess", "()Z"⟩, 20) := ⟨⟨by decide +kernel, by decide +kernel⟩, List.mem_of_getElem? (i := 447) (by decide +kernel), List.mem_of_getElem? (i := 619) (by decide +kernel), List.mem_of_getElem? (i := 620) (by decide +kernel)⟩
def lw_privs_3 : List (MethodName × Nat) := [(⟨"LightRowsModel", "tryWay", "(I)I"⟩, 20), (⟨"LightRowsModel", "isLess", "()Z"⟩, 20)]
theorem lw_r3 : ∀ q ∈ lw_privs_3, lw_okq q := List.forall_mem_cons.mpr ⟨lw_p32, List.forall_mem_cons.mpr ⟨lw_p33, fun _ h => absurd h List.not_mem_nil⟩⟩
def lw_privs : List (MethodName × Nat) := lw_privs_1 ++ (lw_privs_2 ++ (lw_privs_3))
def lw_tbl : List Cond := k2_sels lw_privs ++ tables_1
theorem lw_privs_ok : ∀ q ∈ lw_privs, lw_okq q := by
  show ∀ q ∈ lw_privs_1 ++ (lw_privs_2 ++ (lw_privs_3)), lw_okq q
  exact List.forall_mem_append.mpr ⟨lw_r1, List.forall_mem_append.mpr ⟨lw_r2, lw_r3⟩⟩
end
section
/-! ===== BEGIN words of one list among another's, by their places ===== -/
theorem goodIn_r {big : List Cond} (ws : List Cond) (ps : List Nat) (hp : ws = ps.filterMap (fun i => big[i]?)) (h : ws.all goodWord = true) : GoodIn big ws := by
  intro w hw
  have h1 := List.all_eq_true.mp h w hw
  rw [hp] at hw
  obtain ⟨i, -, hi⟩ := List.mem_filterMap.mp hw
  have hm : w ∈ big := by first | exact List.mem_of_getElem? hi | exact List.getElem?_mem hi
  exact ⟨hm, good_of_word h1⟩
theorem goodIn_app {big a b : List Cond} (ha : GoodIn big a) (hb : GoodIn big b) : GoodIn big (a ++ b) := fun w h => (List.mem_append.mp h).elim (ha w) (hb w)
theorem goodIn_ca {big a b : List Cond} {c : Cond} (ha : GoodIn big (c :: a)) (hb : GoodIn big b) : GoodIn big (c :: (a ++ b)) := fun w h => (List.mem_cons.mp h).elim (fun e => ha w (List.mem_cons.mpr (Or.inl e))) (fun h => (List.mem_append.mp h).elim (fun h => ha w (List.mem_cons.mpr (Or.inr h))) (hb w))
theorem goodIn_sub {big ws : List Cond} (hm : ∀ w ∈ ws, w ∈ big) (h : ws.all goodWord = true) : GoodIn big ws := fun w hw => ⟨hm w hw, good_of_word (List.all_eq_true.mp h w hw)⟩
/-! ===== END ===== -/

/-! ===== END ===== -/

/-! ===== BEGIN printed: names, fields, word lists, decode rows ===== -/
def RX0 : String := "LightRows$Decimal"
def TX0 : u_T := fun k => match k with
  | 0 => ("LightRows$Decimal", "digits", "[I", true)
  | _ => ("LightRows$Decimal", "length", "I", false)
def tyX0 : Nat → FieldType := fun k => match k with
  | 0 => .array .int
  | _ => .int
abbrev wsX00 : List Cond := u_ws RX0 TX0 2
theorem nmX0 : ∀ a, a < 2 → ∀ b, b < 2 → a ≠ b → (TX0 a).2.1 ≠ (TX0 b).2.1 := by decide +kernel
theorem tyX0_ok : ∀ k, k < 2 → parseFieldDescriptor (TX0 k).2.2.1 = some (tyX0 k) := by decide +kernel
abbrev cX0_init : ByteArray := prog_2_method_1_code
def yX0_init : MethodName := ⟨RX0, "<init>", "()V"⟩
abbrev cX0_become : ByteArray := prog_2_method_2_code
def yX0_become : MethodName := ⟨RX0, "become", "(I)V"⟩
abbrev cX0_multiply : ByteArray := prog_2_method_3_code
def yX0_multiply : MethodName := ⟨RX0, "multiply", "(I)V"⟩
abbrev cX0_digit : ByteArray := prog_2_method_4_code
def yX0_digit : MethodName := ⟨RX0, "digit", "(I)I"⟩
def RX1 : String := "LightRows$Equations"
def TX1 : u_T := fun k => match k with
  | 0 => ("LightRows$Equations", "size", "I", true)
  | 1 => ("LightRows$Equations", "modulus", "I", true)
  | 2 => ("LightRows$Equations", "rows", "[[I", true)
  | 3 => ("LightRows$Equations", "rowOf", "[I", true)
  | 4 => ("LightRows$Equations", "quietPatterns", "[[I", true)
  | 5 => ("LightRows$Equations", "bound", "I", false)
  | _ => ("LightRows$Equations", "free", "I", false)
def tyX1 : Nat → FieldType := fun k => match k with
  | 0 => .int
  | 1 => .int
  | 2 => .array (.array .int)
  | 3 => .array .int
  | 4 => .array (.array .int)
  | 5 => .int
  | _ => .int
abbrev wsX10 : List Cond := u_ws RX1 TX1 7
theorem nmX1 : ∀ a, a < 7 → ∀ b, b < 7 → a ≠ b → (TX1 a).2.1 ≠ (TX1 b).2.1 := by decide +kernel
theorem tyX1_ok : ∀ k, k < 7 → parseFieldDescriptor (TX1 k).2.2.1 = some (tyX1 k) := by decide +kernel
abbrev cX1_init : ByteArray := prog_3_method_1_code
def yX1_init : MethodName := ⟨RX1, "<init>", "(II)V"⟩
abbrev cX1_take : ByteArray := prog_3_method_2_code
def yX1_take : MethodName := ⟨RX1, "take", "([I[I[I)V"⟩
abbrev cX1_reduce : ByteArray := prog_3_method_3_code
def yX1_reduce : MethodName := ⟨RX1, "reduce", "()V"⟩
abbrev cX1_boundLamps : ByteArray := prog_3_method_4_code
def yX1_boundLamps : MethodName := ⟨RX1, "boundLamps", "()I"⟩
abbrev cX1_freeLamps : ByteArray := prog_3_method_5_code
def yX1_freeLamps : MethodName := ⟨RX1, "freeLamps", "()I"⟩
abbrev cX1_agree : ByteArray := prog_3_method_6_code
def yX1_agree : MethodName := ⟨RX1, "agree", "()Z"⟩
abbrev cX1_pressesOf : ByteArray := prog_3_method_7_code
def yX1_pressesOf : MethodName := ⟨RX1, "pressesOf", "(I)I"⟩
abbrev cX1_quietPattern : ByteArray := prog_3_method_8_code
def yX1_quietPattern : MethodName := ⟨RX1, "quietPattern", "(I)[I"⟩
abbrev cX1_answersUpTo : ByteArray := prog_3_method_9_code
def yX1_answersUpTo : MethodName := ⟨RX1, "answersUpTo", "(I)I"⟩
abbrev cX1_unusedRowWith : ByteArray := prog_3_method_10_code
def yX1_unusedRowWith : MethodName := ⟨RX1, "unusedRowWith", "(I)I"⟩
abbrev cX1_swap : ByteArray := prog_3_method_11_code
def yX1_swap : MethodName := ⟨RX1, "swap", "(II)V"⟩
abbrev cX1_makeUnit : ByteArray := prog_3_method_12_code
def yX1_makeUnit : MethodName := ⟨RX1, "makeUnit", "([II)V"⟩
abbrev cX1_inverse : ByteArray := prog_3_method_13_code
def yX1_inverse : MethodName := ⟨RX1, "inverse", "(I)I"⟩
abbrev cX1_clearElsewhere : ByteArray := prog_3_method_14_code
def yX1_clearElsewhere : MethodName := ⟨RX1, "clearElsewhere", "(II)V"⟩
abbrev cX1_addMultiple : ByteArray := prog_3_method_15_code
def yX1_addMultiple : MethodName := ⟨RX1, "addMultiple", "([I[II)V"⟩
abbrev cX1_readQuietPatterns : ByteArray := prog_3_method_16_code
def yX1_readQuietPatterns : MethodName := ⟨RX1, "readQuietPatterns", "()V"⟩
abbrev cX1_readQuietPattern : ByteArray := prog_3_method_17_code
def yX1_readQuietPattern : MethodName := ⟨RX1, "readQuietPattern", "([II)V"⟩
def RX2 : String := "LightRows$Search"
def TX2 : u_T := fun k => match k with
  | 0 => ("LightRows$Search", "size", "I", true)
  | 1 => ("LightRows$Search", "modulus", "I", true)
  | 2 => ("LightRows$Search", "tried", "[I", true)
  | 3 => ("LightRows$Search", "least", "[I", true)
  | 4 => ("LightRows$Search", "turns", "[I", true)
  | _ => ("LightRows$Search", "total", "I", false)
def tyX2 : Nat → FieldType := fun k => match k with
  | 0 => .int
  | 1 => .int
  | 2 => .array .int
  | 3 => .array .int
  | 4 => .array .int
  | _ => .int
abbrev wsX20 : List Cond := u_ws RX2 TX2 6
theorem nmX2 : ∀ a, a < 6 → ∀ b, b < 6 → a ≠ b → (TX2 a).2.1 ≠ (TX2 b).2.1 := by decide +kernel
theorem tyX2_ok : ∀ k, k < 6 → parseFieldDescriptor (TX2 k).2.2.1 = some (tyX2 k) := by decide +kernel
abbrev cX2_init : ByteArray := prog_4_method_1_code
def yX2_init : MethodName := ⟨RX2, "<init>", "(II)V"⟩
abbrev cX2_leastTotal : ByteArray := prog_4_method_2_code
def yX2_leastTotal : MethodName := ⟨RX2, "leastTotal", "()I"⟩
abbrev cX2_leastPresses : ByteArray := prog_4_method_3_code
def yX2_leastPresses : MethodName := ⟨RX2, "leastPresses", "(I)I"⟩
abbrev cX2_run : ByteArray := prog_4_method_4_code
def yX2_run : MethodName := ⟨RX2, "run", "(LLightRows$Equations;)V"⟩
abbrev cX2_begin : ByteArray := prog_4_method_5_code
def yX2_begin : MethodName := ⟨RX2, "begin", "(LLightRows$Equations;)V"⟩
abbrev cX2_advance : ByteArray := prog_4_method_6_code
def yX2_advance : MethodName := ⟨RX2, "advance", "(LLightRows$Equations;)V"⟩
abbrev cX2_addToTried : ByteArray := prog_4_method_7_code
def yX2_addToTried : MethodName := ⟨RX2, "addToTried", "([I)V"⟩
abbrev cX2_keepIfLess : ByteArray := prog_4_method_8_code
def yX2_keepIfLess : MethodName := ⟨RX2, "keepIfLess", "()V"⟩
abbrev cX2_totalTried : ByteArray := prog_4_method_9_code
def yX2_totalTried : MethodName := ⟨RX2, "totalTried", "()I"⟩
abbrev cX2_triedIsAhead : ByteArray := prog_4_method_10_code
def yX2_triedIsAhead : MethodName := ⟨RX2, "triedIsAhead", "()Z"⟩
abbrev cX2_keep : ByteArray := prog_4_method_11_code
def yX2_keep : MethodName := ⟨RX2, "keep", "(I)V"⟩
def RX3 : String := "LightRows"
def TX3 : u_T := fun k => match k with
  | 0 => ("LightRows", "lamps", "I", true)
  | 1 => ("LightRows", "states", "I", true)
  | 2 => ("LightRows", "now", "[I", true)
  | 3 => ("LightRows", "wanted", "[I", true)
  | 4 => ("LightRows", "touched", "[I", true)
  | 5 => ("LightRows", "equations", "LLightRows$Equations;", true)
  | 6 => ("LightRows", "search", "LLightRows$Search;", true)
  | 7 => ("LightRows", "decimal", "LLightRows$Decimal;", true)
  | 8 => ("LightRows", "worked", "Z", false)
  | _ => ("LightRows", "searched", "Z", false)
def tyX3 : Nat → FieldType := fun k => match k with
  | 0 => .int
  | 1 => .int
  | 2 => .array .int
  | 3 => .array .int
  | 4 => .array .int
  | 5 => .object "LightRows$Equations"
  | 6 => .object "LightRows$Search"
  | 7 => .object "LightRows$Decimal"
  | 8 => .boolean
  | _ => .boolean
abbrev wsX30 : List Cond := u_ws RX3 TX3 10
theorem nmX3 : ∀ a, a < 10 → ∀ b, b < 10 → a ≠ b → (TX3 a).2.1 ≠ (TX3 b).2.1 := by decide +kernel
theorem tyX3_ok : ∀ k, k < 10 → parseFieldDescriptor (TX3 k).2.2.1 = some (tyX3 k) := by decide +kernel
abbrev cX3_init : ByteArray := prog_1_method_1_code
def yX3_init : MethodName := ⟨RX3, "<init>", "(II)V"⟩
abbrev cX3_join : ByteArray := prog_1_method_2_code
def yX3_join : MethodName := ⟨RX3, "join", "(II)Z"⟩
abbrev cX3_self : ByteArray := prog_1_method_3_code
def yX3_self : MethodName := ⟨RX3, "self", "(IZ)Z"⟩
abbrev cX3_set : ByteArray := prog_1_method_4_code
def yX3_set : MethodName := ⟨RX3, "set", "(II)Z"⟩
abbrev cX3_want : ByteArray := prog_1_method_5_code
def yX3_want : MethodName := ⟨RX3, "want", "(II)Z"⟩
abbrev cX3_press : ByteArray := prog_1_method_6_code
def yX3_press : MethodName := ⟨RX3, "press", "(II)Z"⟩
abbrev cX3_at : ByteArray := prog_1_method_7_code
def yX3_at : MethodName := ⟨RX3, "at", "(I)I"⟩
abbrev cX3_apart : ByteArray := prog_1_method_8_code
def yX3_apart : MethodName := ⟨RX3, "apart", "()I"⟩
abbrev cX3_rank : ByteArray := prog_1_method_9_code
def yX3_rank : MethodName := ⟨RX3, "rank", "()I"⟩
abbrev cX3_solvable : ByteArray := prog_1_method_10_code
def yX3_solvable : MethodName := ⟨RX3, "solvable", "()Z"⟩
abbrev cX3_answer : ByteArray := prog_1_method_11_code
def yX3_answer : MethodName := ⟨RX3, "answer", "(I)I"⟩
abbrev cX3_quiet : ByteArray := prog_1_method_12_code
def yX3_quiet : MethodName := ⟨RX3, "quiet", "(II)I"⟩
abbrev cX3_count : ByteArray := prog_1_method_13_code
def yX3_count : MethodName := ⟨RX3, "count", "(I)I"⟩
abbrev cX3_fewest : ByteArray := prog_1_method_14_code
def yX3_fewest : MethodName := ⟨RX3, "fewest", "()I"⟩
abbrev cX3_best : ByteArray := prog_1_method_15_code
def yX3_best : MethodName := ⟨RX3, "best", "(I)I"⟩
abbrev cX3_alone : ByteArray := prog_1_method_16_code
def yX3_alone : MethodName := ⟨RX3, "alone", "(I)Z"⟩
abbrev cX3_clear : ByteArray := prog_1_method_17_code
def yX3_clear : MethodName := ⟨RX3, "clear", "()V"⟩
abbrev cX3_primeFor : ByteArray := prog_1_method_18_code
def yX3_primeFor : MethodName := ⟨RX3, "primeFor", "(I)I"⟩
abbrev cX3_mustExist : ByteArray := prog_1_method_19_code
def yX3_mustExist : MethodName := ⟨RX3, "mustExist", "(I)V"⟩
abbrev cX3_isState : ByteArray := prog_1_method_20_code
def yX3_isState : MethodName := ⟨RX3, "isState", "(I)Z"⟩
abbrev cX3_touches : ByteArray := prog_1_method_21_code
def yX3_touches : MethodName := ⟨RX3, "touches", "(II)Z"⟩
abbrev cX3_forget : ByteArray := prog_1_method_22_code
def yX3_forget : MethodName := ⟨RX3, "forget", "()V"⟩
abbrev cX3_work : ByteArray := prog_1_method_23_code
def yX3_work : MethodName := ⟨RX3, "work", "()V"⟩
abbrev cX3_seek : ByteArray := prog_1_method_24_code
def yX3_seek : MethodName := ⟨RX3, "seek", "()V"⟩
def RX4 : String := "LightRowsModel"
def TX4 : u_T := fun k => match k with
  | 0 => ("LightRowsModel", "thrown", "I", false)
  | 1 => ("LightRowsModel", "lamps", "I", true)
  | 2 => ("LightRowsModel", "p", "I", true)
  | 3 => ("LightRowsModel", "joined", "[Z", true)
  | 4 => ("LightRowsModel", "isNotSelf", "[Z", true)
  | 5 => ("LightRowsModel", "states", "[I", true)
  | 6 => ("LightRowsModel", "wanted", "[I", true)
  | 7 => ("LightRowsModel", "isKnown", "Z", false)
  | 8 => ("LightRowsModel", "rank", "I", false)
  | 9 => ("LightRowsModel", "rows", "[I", true)
  | 10 => ("LightRowsModel", "presses", "[I", true)
  | 11 => ("LightRowsModel", "heads", "[I", true)
  | 12 => ("LightRowsModel", "isBound", "[Z", true)
  | 13 => ("LightRowsModel", "rest", "[I", true)
  | 14 => ("LightRowsModel", "by", "[I", true)
  | 15 => ("LightRowsModel", "answer", "[I", true)
  | 16 => ("LightRowsModel", "quiet", "[I", true)
  | 17 => ("LightRowsModel", "best", "[I", true)
  | 18 => ("LightRowsModel", "tried", "[I", true)
  | _ => ("LightRowsModel", "digits", "[I", true)
def tyX4 : Nat → FieldType := fun k => match k with
  | 0 => .int
  | 1 => .int
  | 2 => .int
  | 3 => .array .boolean
  | 4 => .array .boolean
  | 5 => .array .int
  | 6 => .array .int
  | 7 => .boolean
  | 8 => .int
  | 9 => .array .int
  | 10 => .array .int
  | 11 => .array .int
  | 12 => .array .boolean
  | 13 => .array .int
  | 14 => .array .int
  | 15 => .array .int
  | 16 => .array .int
  | 17 => .array .int
  | 18 => .array .int
  | _ => .array .int
abbrev wsX40 : List Cond := u_ws RX4 TX4 20
theorem nmX4 : ∀ a, a < 20 → ∀ b, b < 20 → a ≠ b → (TX4 a).2.1 ≠ (TX4 b).2.1 := by decide +kernel
theorem tyX4_ok : ∀ k, k < 20 → parseFieldDescriptor (TX4 k).2.2.1 = some (tyX4 k) := by decide +kernel
abbrev cX4_init : ByteArray := prog_6_method_1_code
def yX4_init : MethodName := ⟨RX4, "<init>", "(II)V"⟩
abbrev cX4_thrown : ByteArray := prog_6_method_2_code
def yX4_thrown : MethodName := ⟨RX4, "thrown", "()I"⟩
abbrev cX4_fails : ByteArray := prog_6_method_3_code
def yX4_fails : MethodName := ⟨RX4, "fails", "(Z)Z"⟩
abbrev cX4_isLamp : ByteArray := prog_6_method_4_code
def yX4_isLamp : MethodName := ⟨RX4, "isLamp", "(I)Z"⟩
abbrev cX4_isState : ByteArray := prog_6_method_5_code
def yX4_isState : MethodName := ⟨RX4, "isState", "(I)Z"⟩
abbrev cX4_join : ByteArray := prog_6_method_6_code
def yX4_join : MethodName := ⟨RX4, "join", "(II)Z"⟩
abbrev cX4_self : ByteArray := prog_6_method_7_code
def yX4_self : MethodName := ⟨RX4, "self", "(IZ)Z"⟩
abbrev cX4_set : ByteArray := prog_6_method_8_code
def yX4_set : MethodName := ⟨RX4, "set", "(II)Z"⟩
abbrev cX4_want : ByteArray := prog_6_method_9_code
def yX4_want : MethodName := ⟨RX4, "want", "(II)Z"⟩
abbrev cX4_effect : ByteArray := prog_6_method_10_code
def yX4_effect : MethodName := ⟨RX4, "effect", "(II)I"⟩
abbrev cX4_press : ByteArray := prog_6_method_11_code
def yX4_press : MethodName := ⟨RX4, "press", "(II)Z"⟩
abbrev cX4_at : ByteArray := prog_6_method_12_code
def yX4_at : MethodName := ⟨RX4, "at", "(I)I"⟩
abbrev cX4_apart : ByteArray := prog_6_method_13_code
def yX4_apart : MethodName := ⟨RX4, "apart", "()I"⟩
abbrev cX4_clear : ByteArray := prog_6_method_14_code
def yX4_clear : MethodName := ⟨RX4, "clear", "()V"⟩
abbrev cX4_inverse : ByteArray := prog_6_method_15_code
def yX4_inverse : MethodName := ⟨RX4, "inverse", "(I)I"⟩
abbrev cX4_takeApart : ByteArray := prog_6_method_16_code
def yX4_takeApart : MethodName := ⟨RX4, "takeApart", "()V"⟩
abbrev cX4_left : ByteArray := prog_6_method_17_code
def yX4_left : MethodName := ⟨RX4, "left", "()I"⟩
abbrev cX4_know : ByteArray := prog_6_method_18_code
def yX4_know : MethodName := ⟨RX4, "know", "()V"⟩
abbrev cX4_rank : ByteArray := prog_6_method_19_code
def yX4_rank : MethodName := ⟨RX4, "rank", "()I"⟩
abbrev cX4_answers : ByteArray := prog_6_method_20_code
def yX4_answers : MethodName := ⟨RX4, "answers", "()Z"⟩
abbrev cX4_solvable : ByteArray := prog_6_method_21_code
def yX4_solvable : MethodName := ⟨RX4, "solvable", "()Z"⟩
abbrev cX4_answer : ByteArray := prog_6_method_22_code
def yX4_answer : MethodName := ⟨RX4, "answer", "(I)I"⟩
abbrev cX4_quiet : ByteArray := prog_6_method_23_code
def yX4_quiet : MethodName := ⟨RX4, "quiet", "(II)I"⟩
abbrev cX4_count : ByteArray := prog_6_method_24_code
def yX4_count : MethodName := ⟨RX4, "count", "(I)I"⟩
abbrev cX4_findBest : ByteArray := prog_6_method_25_code
def yX4_findBest : MethodName := ⟨RX4, "findBest", "()I"⟩
abbrev cX4_tryWay : ByteArray := prog_6_method_26_code
def yX4_tryWay : MethodName := ⟨RX4, "tryWay", "(I)I"⟩
abbrev cX4_isLess : ByteArray := prog_6_method_27_code
def yX4_isLess : MethodName := ⟨RX4, "isLess", "()Z"⟩
abbrev cX4_fewest : ByteArray := prog_6_method_28_code
def yX4_fewest : MethodName := ⟨RX4, "fewest", "()I"⟩
abbrev cX4_best : ByteArray := prog_6_method_29_code
def yX4_best : MethodName := ⟨RX4, "best", "(I)I"⟩
abbrev cX4_alone : ByteArray := prog_6_method_30_code
def yX4_alone : MethodName := ⟨RX4, "alone", "(I)Z"⟩
def RJx00060 : String := "java/lang/ArrayIndexOutOfBoundsException"
def TJx00060 : u_T := fun k => match k with
  | 0 => ("java/lang/Throwable", "cause", "Ljava/lang/Throwable;", false)
  | 1 => ("java/lang/Throwable", "stackTrace", "[Ljava/lang/StackTraceElement;", false)
  | 2 => ("java/lang/Throwable", "suppressedExceptions", "Ljava/util/List;", false)
  | 3 => ("java/lang/Throwable", "detailMessage", "Ljava/lang/String;", false)
  | 4 => ("java/lang/Throwable", "backtrace", "Ljava/lang/Object;", false)
  | _ => ("java/lang/Throwable", "depth", "I", false)
def tyJx00060 : Nat → FieldType := fun k => match k with
  | 0 => .object "java/lang/Throwable"
  | 1 => .array (.object "java/lang/StackTraceElement")
  | 2 => .object "java/util/List"
  | 3 => .object "java/lang/String"
  | 4 => .object "java/lang/Object"
  | _ => .int
abbrev wsJx000600 : List Cond := u_ws RJx00060 TJx00060 6
theorem nmJx00060 : ∀ a, a < 6 → ∀ b, b < 6 → a ≠ b → (TJx00060 a).2.1 ≠ (TJx00060 b).2.1 := by decide +kernel
theorem tyJx00060_ok : ∀ k, k < 6 → parseFieldDescriptor (TJx00060 k).2.2.1 = some (tyJx00060 k) := by decide +kernel
abbrev cJx00060_init_a7421 : ByteArray := prog_7_method_2_code
def yJx00060_init_a7421 : MethodName := ⟨RJx00060, "<init>", "(Ljava/lang/String;)V"⟩
def RJ9 : String := "java/lang/Math"
def TJ9 : u_T := fun k => match k with
  | _ => ("", "", "", false)
def tyJ9 : Nat → FieldType := fun k => match k with
  | _ => .int
abbrev wsJ90 : List Cond := u_ws RJ9 TJ9 0
theorem nmJ9 : ∀ a, a < 0 → ∀ b, b < 0 → a ≠ b → (TJ9 a).2.1 ≠ (TJ9 b).2.1 := by decide +kernel
theorem tyJ9_ok : ∀ k, k < 0 → parseFieldDescriptor (TJ9 k).2.2.1 = some (tyJ9 k) := by decide +kernel
abbrev cJ9_max_7cf53 : ByteArray := prog_10_method_65_code
def yJ9_max_7cf53 : MethodName := ⟨RJ9, "max", "(II)I"⟩
abbrev cJ9_min_7cf53 : ByteArray := prog_10_method_69_code
def yJ9_min_7cf53 : MethodName := ⟨RJ9, "min", "(II)I"⟩
def RJ0 : String := "java/lang/String"
def TJ0 : u_T := fun k => match k with
  | _ => ("", "", "", false)
def tyJ0 : Nat → FieldType := fun k => match k with
  | _ => .int
abbrev wsJ00 : List Cond := u_ws RJ0 TJ0 0
theorem nmJ0 : ∀ a, a < 0 → ∀ b, b < 0 → a ≠ b → (TJ0 a).2.1 ≠ (TJ0 b).2.1 := by decide +kernel
theorem tyJ0_ok : ∀ k, k < 0 → parseFieldDescriptor (TJ0 k).2.2.1 = some (tyJ0 k) := by decide +kernel
def RJ10 : String := "java/lang/System"
def TJ10 : u_T := fun k => match k with
  | _ => ("", "", "", false)
def tyJ10 : Nat → FieldType := fun k => match k with
  | _ => .int
abbrev wsJ100 : List Cond := u_ws RJ10 TJ10 0
theorem nmJ10 : ∀ a, a < 0 → ∀ b, b < 0 → a ≠ b → (TJ10 a).2.1 ≠ (TJ10 b).2.1 := by decide +kernel
theorem tyJ10_ok : ∀ k, k < 0 → parseFieldDescriptor (TJ10 k).2.2.1 = some (tyJ10 k) := by decide +kernel
def RL : String := "LightRowsLaw"
abbrev cL_cell : ByteArray := method_2_code
def yL_cell : MethodName := ⟨RL, "cell", "([II)I"⟩
abbrev cL_join : ByteArray := method_3_code
def yL_join : MethodName := ⟨RL, "join", "(LLightRows;II[J)I"⟩
abbrev cL_self : ByteArray := method_4_code
def yL_self : MethodName := ⟨RL, "self", "(LLightRows;IZ[J)I"⟩
abbrev cL_set : ByteArray := method_5_code
def yL_set : MethodName := ⟨RL, "set", "(LLightRows;II[J)I"⟩
abbrev cL_want : ByteArray := method_6_code
def yL_want : MethodName := ⟨RL, "want", "(LLightRows;II[J)I"⟩
abbrev cL_press : ByteArray := method_7_code
def yL_press : MethodName := ⟨RL, "press", "(LLightRows;II[J)I"⟩
abbrev cL_at : ByteArray := method_8_code
def yL_at : MethodName := ⟨RL, "at", "(LLightRows;I[J)I"⟩
abbrev cL_answer : ByteArray := method_9_code
def yL_answer : MethodName := ⟨RL, "answer", "(LLightRows;I[J)I"⟩
abbrev cL_quiet : ByteArray := method_10_code
def yL_quiet : MethodName := ⟨RL, "quiet", "(LLightRows;II[J)I"⟩
abbrev cL_best : ByteArray := method_11_code
def yL_best : MethodName := ⟨RL, "best", "(LLightRows;I[J)I"⟩
abbrev cL_alone : ByteArray := method_12_code
def yL_alone : MethodName := ⟨RL, "alone", "(LLightRows;I[J)I"⟩
abbrev cL_law : ByteArray := code
def yL_law : MethodName := ⟨RL, "law", "([I)Z"⟩
def wsX0_init : List Cond := .code yX0_init cX0_init 1 none :: ([.methodLink RX0 3 objectInit, .instanceMethod objectInit, .code objectInit ⟨#[0xb1]⟩ 1 none, .arrayClass .int, .fieldLink RX0 11 "LightRows$Decimal" "digits" "[I", .fieldLink RX0 15 "LightRows$Decimal" "length" "I"] ++ wsX00)
def wsX0_become : List Cond := .code yX0_become cX0_become 2 none :: ([.fieldLink RX0 11 "LightRows$Decimal" "digits" "[I", .fieldLink RX0 15 "LightRows$Decimal" "length" "I"] ++ wsX00)
def wsX0_multiply : List Cond := .code yX0_multiply cX0_multiply 5 none :: ([.fieldLink RX0 15 "LightRows$Decimal" "length" "I", .fieldLink RX0 11 "LightRows$Decimal" "digits" "[I"] ++ wsX00)
def wsX0_digit : List Cond := .code yX0_digit cX0_digit 2 (some .int) :: ([.fieldLink RX0 15 "LightRows$Decimal" "length" "I", .fieldLink RX0 11 "LightRows$Decimal" "digits" "[I"] ++ wsX00)
def wsX1_init : List Cond := .code yX1_init cX1_init 3 none :: ([.methodLink RX1 3 objectInit, .instanceMethod objectInit, .code objectInit ⟨#[0xb1]⟩ 1 none, .fieldLink RX1 9 "LightRows$Equations" "size" "I", .fieldLink RX1 15 "LightRows$Equations" "modulus" "I", .classLink RX1 18 "[[I", .arrayClass .int, .fieldLink RX1 20 "LightRows$Equations" "rows" "[[I", .fieldLink RX1 23 "LightRows$Equations" "rowOf" "[I", .fieldLink RX1 27 "LightRows$Equations" "quietPatterns" "[[I", .fieldLink RX1 30 "LightRows$Equations" "bound" "I", .fieldLink RX1 33 "LightRows$Equations" "free" "I"] ++ wsX10)
def wsX1_take : List Cond := .code yX1_take cX1_take 7 none :: ([.fieldLink RX1 9 "LightRows$Equations" "size" "I", .fieldLink RX1 20 "LightRows$Equations" "rows" "[[I", .fieldLink RX1 15 "LightRows$Equations" "modulus" "I"] ++ wsX10)
def wsX1_unusedRowWith : List Cond := .code yX1_unusedRowWith cX1_unusedRowWith 3 (some .int) :: ([.fieldLink RX1 30 "LightRows$Equations" "bound" "I", .fieldLink RX1 9 "LightRows$Equations" "size" "I", .fieldLink RX1 20 "LightRows$Equations" "rows" "[[I"] ++ wsX10)
def wsX1_swap : List Cond := .code yX1_swap cX1_swap 4 none :: ([.fieldLink RX1 20 "LightRows$Equations" "rows" "[[I"] ++ wsX10)
def wsX1_inverse : List Cond := .code yX1_inverse cX1_inverse 3 (some .int) :: ([.fieldLink RX1 15 "LightRows$Equations" "modulus" "I"] ++ wsX10)
def wsX1_makeUnit : List Cond := .code yX1_makeUnit cX1_makeUnit 5 none :: ([.fieldLink RX1 9 "LightRows$Equations" "size" "I", .fieldLink RX1 15 "LightRows$Equations" "modulus" "I", .methodLink RX1 58 yX1_inverse, .instanceMethod yX1_inverse, .selects RX1 yX1_inverse yX1_inverse, .initialized RX1, .code yX1_inverse cX1_inverse 3 (some .int)] ++ wsX10)
def wsX1_addMultiple : List Cond := .code yX1_addMultiple cX1_addMultiple 5 none :: ([.fieldLink RX1 9 "LightRows$Equations" "size" "I", .fieldLink RX1 15 "LightRows$Equations" "modulus" "I"] ++ wsX10)
def wsX1_clearElsewhere : List Cond := .code yX1_clearElsewhere cX1_clearElsewhere 4 none :: ([.fieldLink RX1 9 "LightRows$Equations" "size" "I", .fieldLink RX1 20 "LightRows$Equations" "rows" "[[I", .fieldLink RX1 15 "LightRows$Equations" "modulus" "I", .methodLink RX1 61 yX1_addMultiple, .instanceMethod yX1_addMultiple, .selects RX1 yX1_addMultiple yX1_addMultiple, .initialized RX1, .code yX1_addMultiple cX1_addMultiple 5 none] ++ wsX10)
def wsX1_readQuietPattern : List Cond := .code yX1_readQuietPattern cX1_readQuietPattern 5 none :: ([.fieldLink RX1 9 "LightRows$Equations" "size" "I", .fieldLink RX1 23 "LightRows$Equations" "rowOf" "[I", .fieldLink RX1 15 "LightRows$Equations" "modulus" "I", .fieldLink RX1 20 "LightRows$Equations" "rows" "[[I"] ++ wsX10)
def wsX1_readQuietPatterns : List Cond := .code yX1_readQuietPatterns cX1_readQuietPatterns 2 none :: ([.fieldLink RX1 33 "LightRows$Equations" "free" "I", .fieldLink RX1 9 "LightRows$Equations" "size" "I", .fieldLink RX1 23 "LightRows$Equations" "rowOf" "[I", .fieldLink RX1 27 "LightRows$Equations" "quietPatterns" "[[I", .methodLink RX1 65 yX1_readQuietPattern, .instanceMethod yX1_readQuietPattern, .selects RX1 yX1_readQuietPattern yX1_readQuietPattern, .initialized RX1, .code yX1_readQuietPattern cX1_readQuietPattern 5 none, .fieldLink RX1 15 "LightRows$Equations" "modulus" "I", .fieldLink RX1 20 "LightRows$Equations" "rows" "[[I"] ++ wsX10)
def wsX1_reduce_r1 : List Cond := [Cond.fieldLink RX1 30 "LightRows$Equations" "bound" "I", Cond.fieldLink RX1 9 "LightRows$Equations" "size" "I", Cond.fieldLink RX1 23 "LightRows$Equations" "rowOf" "[I", Cond.fieldLink RX1 20 "LightRows$Equations" "rows" "[[I", Cond.methodLink RX1 36 yX1_unusedRowWith, Cond.instanceMethod yX1_unusedRowWith, Cond.selects RX1 yX1_unusedRowWith yX1_unusedRowWith, Cond.initialized RX1, Cond.code yX1_unusedRowWith cX1_unusedRowWith 3 (some .int), Cond.methodLink RX1 40 yX1_swap, Cond.instanceMethod yX1_swap, Cond.selects RX1 yX1_swap yX1_swap, Cond.code yX1_swap cX1_swap 4 none, Cond.methodLink RX1 44 yX1_makeUnit, Cond.instanceMethod yX1_makeUnit, Cond.selects RX1 yX1_makeUnit yX1_makeUnit, Cond.code yX1_makeUnit cX1_makeUnit 5 none, Cond.fieldLink RX1 15 "LightRows$Equations" "modulus" "I", Cond.methodLink RX1 58 yX1_inverse, Cond.instanceMethod yX1_inverse, Cond.selects RX1 yX1_inverse yX1_inverse, Cond.code yX1_inverse cX1_inverse 3 (some .int), Cond.methodLink RX1 48 yX1_clearElsewhere, Cond.instanceMethod yX1_clearElsewhere]
def wsX1_reduce_r2 : List Cond := [Cond.selects RX1 yX1_clearElsewhere yX1_clearElsewhere, Cond.code yX1_clearElsewhere cX1_clearElsewhere 4 none, Cond.methodLink RX1 61 yX1_addMultiple, Cond.instanceMethod yX1_addMultiple, Cond.selects RX1 yX1_addMultiple yX1_addMultiple, Cond.code yX1_addMultiple cX1_addMultiple 5 none, Cond.methodLink RX1 51 yX1_readQuietPatterns, Cond.instanceMethod yX1_readQuietPatterns, Cond.selects RX1 yX1_readQuietPatterns yX1_readQuietPatterns, Cond.code yX1_readQuietPatterns cX1_readQuietPatterns 2 none, Cond.fieldLink RX1 33 "LightRows$Equations" "free" "I", Cond.fieldLink RX1 27 "LightRows$Equations" "quietPatterns" "[[I", Cond.methodLink RX1 65 yX1_readQuietPattern, Cond.instanceMethod yX1_readQuietPattern, Cond.selects RX1 yX1_readQuietPattern yX1_readQuietPattern, Cond.code yX1_readQuietPattern cX1_readQuietPattern 5 none]
def wsX1_reduce : List Cond := .code yX1_reduce cX1_reduce 3 none :: ((wsX1_reduce_r1 ++ wsX1_reduce_r2) ++ wsX10)
def wsX1_boundLamps : List Cond := .code yX1_boundLamps cX1_boundLamps 1 (some .int) :: ([.fieldLink RX1 30 "LightRows$Equations" "bound" "I"] ++ wsX10)
def wsX1_freeLamps : List Cond := .code yX1_freeLamps cX1_freeLamps 1 (some .int) :: ([.fieldLink RX1 33 "LightRows$Equations" "free" "I"] ++ wsX10)
def wsX1_agree : List Cond := .code yX1_agree cX1_agree 2 (some .boolean) :: ([.fieldLink RX1 30 "LightRows$Equations" "bound" "I", .fieldLink RX1 9 "LightRows$Equations" "size" "I", .fieldLink RX1 20 "LightRows$Equations" "rows" "[[I"] ++ wsX10)
def wsX1_pressesOf : List Cond := .code yX1_pressesOf cX1_pressesOf 3 (some .int) :: ([.fieldLink RX1 23 "LightRows$Equations" "rowOf" "[I", .fieldLink RX1 20 "LightRows$Equations" "rows" "[[I", .fieldLink RX1 9 "LightRows$Equations" "size" "I"] ++ wsX10)
def wsX1_quietPattern : List Cond := .code yX1_quietPattern cX1_quietPattern 2 (some (.array .int)) :: ([.fieldLink RX1 27 "LightRows$Equations" "quietPatterns" "[[I"] ++ wsX10)
def wsX1_answersUpTo : List Cond := .code yX1_answersUpTo cX1_answersUpTo 4 (some .int) :: ([.fieldLink RX1 33 "LightRows$Equations" "free" "I", .fieldLink RX1 15 "LightRows$Equations" "modulus" "I", .methodLink RX1 54 yX1_agree, .instanceMethod yX1_agree, .selects RX1 yX1_agree yX1_agree, .initialized RX1, .code yX1_agree cX1_agree 2 (some .boolean), .fieldLink RX1 30 "LightRows$Equations" "bound" "I", .fieldLink RX1 9 "LightRows$Equations" "size" "I", .fieldLink RX1 20 "LightRows$Equations" "rows" "[[I"] ++ wsX10)
def wsX2_init : List Cond := .code yX2_init cX2_init 3 none :: ([.methodLink RX2 3 objectInit, .instanceMethod objectInit, .code objectInit ⟨#[0xb1]⟩ 1 none, .fieldLink RX2 9 "LightRows$Search" "size" "I", .fieldLink RX2 15 "LightRows$Search" "modulus" "I", .arrayClass .int, .fieldLink RX2 18 "LightRows$Search" "tried" "[I", .fieldLink RX2 22 "LightRows$Search" "least" "[I", .fieldLink RX2 25 "LightRows$Search" "turns" "[I", .fieldLink RX2 28 "LightRows$Search" "total" "I"] ++ wsX20)
def wsX2_leastTotal : List Cond := .code yX2_leastTotal cX2_leastTotal 1 (some .int) :: ([.fieldLink RX2 28 "LightRows$Search" "total" "I"] ++ wsX20)
def wsX2_leastPresses : List Cond := .code yX2_leastPresses cX2_leastPresses 2 (some .int) :: ([.fieldLink RX2 22 "LightRows$Search" "least" "[I"] ++ wsX20)
def wsX2_totalTried : List Cond := .code yX2_totalTried cX2_totalTried 3 (some .int) :: ([.fieldLink RX2 9 "LightRows$Search" "size" "I", .fieldLink RX2 18 "LightRows$Search" "tried" "[I"] ++ wsX20)
def wsX2_keep : List Cond := .code yX2_keep cX2_keep 2 none :: ([.fieldLink RX2 28 "LightRows$Search" "total" "I", .fieldLink RX2 18 "LightRows$Search" "tried" "[I", .fieldLink RX2 22 "LightRows$Search" "least" "[I", .fieldLink RX2 9 "LightRows$Search" "size" "I", .methodLink RX2 73 arraycopyName, .native arraycopyName, .static arraycopyName, .initialized "java/lang/System"] ++ wsX20)
def wsX2_begin_r1 : List Cond := [Cond.fieldLink RX2 9 "LightRows$Search" "size" "I", Cond.fieldLink RX2 18 "LightRows$Search" "tried" "[I", Cond.fieldLink RX2 25 "LightRows$Search" "turns" "[I", Cond.methodLink RX2 47 yX1_pressesOf, Cond.instanceMethod yX1_pressesOf, Cond.selects RX1 yX1_pressesOf yX1_pressesOf, Cond.initialized RX1, Cond.code yX1_pressesOf cX1_pressesOf 3 (some .int), Cond.fieldLink RX1 23 "LightRows$Equations" "rowOf" "[I", Cond.fieldLink RX1 20 "LightRows$Equations" "rows" "[[I", Cond.fieldLink RX1 9 "LightRows$Equations" "size" "I", Cond.methodLink RX2 50 yX2_totalTried, Cond.instanceMethod yX2_totalTried, Cond.selects RX2 yX2_totalTried yX2_totalTried, Cond.initialized RX2, Cond.code yX2_totalTried cX2_totalTried 3 (some .int), Cond.methodLink RX2 54 yX2_keep, Cond.instanceMethod yX2_keep, Cond.selects RX2 yX2_keep yX2_keep, Cond.code yX2_keep cX2_keep 2 none, Cond.fieldLink RX2 28 "LightRows$Search" "total" "I", Cond.fieldLink RX2 22 "LightRows$Search" "least" "[I", Cond.methodLink RX2 73 arraycopyName, Cond.native arraycopyName]
def wsX2_begin_r2 : List Cond := [Cond.static arraycopyName, Cond.initialized "java/lang/System"]
def wsX2_begin : List Cond := .code yX2_begin cX2_begin 3 none :: ((wsX2_begin_r1 ++ wsX2_begin_r2) ++ wsX20 ++ wsX10)
def wsX2_addToTried : List Cond := .code yX2_addToTried cX2_addToTried 4 none :: ([.fieldLink RX2 9 "LightRows$Search" "size" "I", .fieldLink RX2 18 "LightRows$Search" "tried" "[I", .fieldLink RX2 15 "LightRows$Search" "modulus" "I"] ++ wsX20)
def wsX2_advance : List Cond := .code yX2_advance cX2_advance 3 none :: ([.fieldLink RX2 25 "LightRows$Search" "turns" "[I", .fieldLink RX2 15 "LightRows$Search" "modulus" "I", .methodLink RX2 58 yX1_freeLamps, .instanceMethod yX1_freeLamps, .selects RX1 yX1_freeLamps yX1_freeLamps, .initialized RX1, .code yX1_freeLamps cX1_freeLamps 1 (some .int), .fieldLink RX1 33 "LightRows$Equations" "free" "I", .methodLink RX2 61 yX1_quietPattern, .instanceMethod yX1_quietPattern, .selects RX1 yX1_quietPattern yX1_quietPattern, .code yX1_quietPattern cX1_quietPattern 2 (some (.array .int)), .fieldLink RX1 27 "LightRows$Equations" "quietPatterns" "[[I", .methodLink RX2 65 yX2_addToTried, .instanceMethod yX2_addToTried, .selects RX2 yX2_addToTried yX2_addToTried, .initialized RX2, .code yX2_addToTried cX2_addToTried 4 none, .fieldLink RX2 9 "LightRows$Search" "size" "I", .fieldLink RX2 18 "LightRows$Search" "tried" "[I"] ++ wsX20 ++ wsX10)
def wsX2_triedIsAhead : List Cond := .code yX2_triedIsAhead cX2_triedIsAhead 2 (some .boolean) :: ([.fieldLink RX2 9 "LightRows$Search" "size" "I", .fieldLink RX2 18 "LightRows$Search" "tried" "[I", .fieldLink RX2 22 "LightRows$Search" "least" "[I"] ++ wsX20)
def wsX2_keepIfLess : List Cond := .code yX2_keepIfLess cX2_keepIfLess 2 none :: ([.fieldLink RX2 28 "LightRows$Search" "total" "I", .methodLink RX2 50 yX2_totalTried, .instanceMethod yX2_totalTried, .selects RX2 yX2_totalTried yX2_totalTried, .initialized RX2, .code yX2_totalTried cX2_totalTried 3 (some .int), .fieldLink RX2 9 "LightRows$Search" "size" "I", .fieldLink RX2 18 "LightRows$Search" "tried" "[I", .methodLink RX2 69 yX2_triedIsAhead, .instanceMethod yX2_triedIsAhead, .selects RX2 yX2_triedIsAhead yX2_triedIsAhead, .code yX2_triedIsAhead cX2_triedIsAhead 2 (some .boolean), .fieldLink RX2 22 "LightRows$Search" "least" "[I", .methodLink RX2 54 yX2_keep, .instanceMethod yX2_keep, .selects RX2 yX2_keep yX2_keep, .code yX2_keep cX2_keep 2 none, .methodLink RX2 73 arraycopyName, .native arraycopyName, .static arraycopyName, .initialized "java/lang/System"] ++ wsX20)
def wsX2_run_r1 : List Cond := [Cond.fieldLink RX2 28 "LightRows$Search" "total" "I", Cond.methodLink RX2 31 yX1_answersUpTo, Cond.instanceMethod yX1_answersUpTo, Cond.selects RX1 yX1_answersUpTo yX1_answersUpTo, Cond.initialized RX1, Cond.code yX1_answersUpTo cX1_answersUpTo 4 (some .int), Cond.fieldLink RX1 33 "LightRows$Equations" "free" "I", Cond.fieldLink RX1 15 "LightRows$Equations" "modulus" "I", Cond.methodLink RX1 54 yX1_agree, Cond.instanceMethod yX1_agree, Cond.selects RX1 yX1_agree yX1_agree, Cond.code yX1_agree cX1_agree 2 (some .boolean), Cond.fieldLink RX1 30 "LightRows$Equations" "bound" "I", Cond.fieldLink RX1 9 "LightRows$Equations" "size" "I", Cond.fieldLink RX1 20 "LightRows$Equations" "rows" "[[I", Cond.methodLink RX2 37 yX2_begin, Cond.instanceMethod yX2_begin, Cond.selects RX2 yX2_begin yX2_begin, Cond.initialized RX2, Cond.code yX2_begin cX2_begin 3 none, Cond.fieldLink RX2 9 "LightRows$Search" "size" "I", Cond.fieldLink RX2 18 "LightRows$Search" "tried" "[I", Cond.fieldLink RX2 25 "LightRows$Search" "turns" "[I", Cond.methodLink RX2 47 yX1_pressesOf]
def wsX2_run_r2 : List Cond := [Cond.instanceMethod yX1_pressesOf, Cond.selects RX1 yX1_pressesOf yX1_pressesOf, Cond.code yX1_pressesOf cX1_pressesOf 3 (some .int), Cond.fieldLink RX1 23 "LightRows$Equations" "rowOf" "[I", Cond.methodLink RX2 50 yX2_totalTried, Cond.instanceMethod yX2_totalTried, Cond.selects RX2 yX2_totalTried yX2_totalTried, Cond.code yX2_totalTried cX2_totalTried 3 (some .int), Cond.methodLink RX2 54 yX2_keep, Cond.instanceMethod yX2_keep, Cond.selects RX2 yX2_keep yX2_keep, Cond.code yX2_keep cX2_keep 2 none, Cond.fieldLink RX2 22 "LightRows$Search" "least" "[I", Cond.methodLink RX2 73 arraycopyName, Cond.native arraycopyName, Cond.static arraycopyName, Cond.initialized "java/lang/System", Cond.methodLink RX2 41 yX2_advance, Cond.instanceMethod yX2_advance, Cond.selects RX2 yX2_advance yX2_advance, Cond.code yX2_advance cX2_advance 3 none, Cond.fieldLink RX2 15 "LightRows$Search" "modulus" "I", Cond.methodLink RX2 58 yX1_freeLamps, Cond.instanceMethod yX1_freeLamps]
def wsX2_run_r3 : List Cond := [Cond.selects RX1 yX1_freeLamps yX1_freeLamps, Cond.code yX1_freeLamps cX1_freeLamps 1 (some .int), Cond.methodLink RX2 61 yX1_quietPattern, Cond.instanceMethod yX1_quietPattern, Cond.selects RX1 yX1_quietPattern yX1_quietPattern, Cond.code yX1_quietPattern cX1_quietPattern 2 (some (.array .int)), Cond.fieldLink RX1 27 "LightRows$Equations" "quietPatterns" "[[I", Cond.methodLink RX2 65 yX2_addToTried, Cond.instanceMethod yX2_addToTried, Cond.selects RX2 yX2_addToTried yX2_addToTried, Cond.code yX2_addToTried cX2_addToTried 4 none, Cond.methodLink RX2 44 yX2_keepIfLess, Cond.instanceMethod yX2_keepIfLess, Cond.selects RX2 yX2_keepIfLess yX2_keepIfLess, Cond.code yX2_keepIfLess cX2_keepIfLess 2 none, Cond.methodLink RX2 69 yX2_triedIsAhead, Cond.instanceMethod yX2_triedIsAhead, Cond.selects RX2 yX2_triedIsAhead yX2_triedIsAhead, Cond.code yX2_triedIsAhead cX2_triedIsAhead 2 (some .boolean)]
def wsX2_run : List Cond := .code yX2_run cX2_run 4 none :: ((wsX2_run_r1 ++ (wsX2_run_r2 ++ wsX2_run_r3)) ++ wsX20 ++ wsX10)
def wsX3_primeFor : List Cond := .code yX3_primeFor cX3_primeFor 1 (some .int) :: ([])
def wsX3_init_r1 : List Cond := [Cond.methodLink RX3 1 objectInit, Cond.instanceMethod objectInit, Cond.code objectInit ⟨#[0xb1]⟩ 1 none, Cond.methodLink RX3 9 Lib.Math.min.name, Cond.static Lib.Math.min.name, Cond.initialized "java/lang/Math", Cond.code Lib.Math.min.name Lib.Math.min.code 2 (some .int), Cond.methodLink RX3 15 Lib.Math.max.name, Cond.static Lib.Math.max.name, Cond.code Lib.Math.max.name Lib.Math.max.code 2 (some .int), Cond.fieldLink RX3 18 "LightRows" "lamps" "I", Cond.fieldLink RX3 26 "LightRows" "states" "I", Cond.arrayClass .int, Cond.fieldLink RX3 29 "LightRows" "now" "[I", Cond.fieldLink RX3 33 "LightRows" "wanted" "[I", Cond.fieldLink RX3 36 "LightRows" "touched" "[I", Cond.classLink RX3 39 RX1, Cond.instantiable RX1 7, Cond.initialized RX1, Cond.fieldLink RX3 44 "LightRows" "equations" "LLightRows$Equations;", Cond.classLink RX3 48 RX2, Cond.instantiable RX2 6, Cond.initialized RX2, Cond.fieldLink RX3 51 "LightRows" "search" "LLightRows$Search;"]
def wsX3_init_r2 : List Cond := [Cond.classLink RX3 55 RX0, Cond.instantiable RX0 2, Cond.initialized RX0, Cond.fieldLink RX3 58 "LightRows" "decimal" "LLightRows$Decimal;", Cond.fieldLink RX3 62 "LightRows" "worked" "Z", Cond.fieldLink RX3 66 "LightRows" "searched" "Z", Cond.methodLink RX3 22 yX3_primeFor, Cond.static yX3_primeFor, Cond.initialized RX3, Cond.code yX3_primeFor cX3_primeFor 1 (some .int), Cond.methodLink RX3 41 yX1_init, Cond.instanceMethod yX1_init, Cond.code yX1_init cX1_init 3 none, Cond.methodLink RX1 3 objectInit, Cond.fieldLink RX1 9 "LightRows$Equations" "size" "I", Cond.fieldLink RX1 15 "LightRows$Equations" "modulus" "I", Cond.classLink RX1 18 "[[I", Cond.fieldLink RX1 20 "LightRows$Equations" "rows" "[[I", Cond.fieldLink RX1 23 "LightRows$Equations" "rowOf" "[I", Cond.fieldLink RX1 27 "LightRows$Equations" "quietPatterns" "[[I", Cond.fieldLink RX1 30 "LightRows$Equations" "bound" "I", Cond.fieldLink RX1 33 "LightRows$Equations" "free" "I", Cond.methodLink RX3 50 yX2_init, Cond.instanceMethod yX2_init]
def wsX3_init_r3 : List Cond := [Cond.code yX2_init cX2_init 3 none, Cond.methodLink RX2 3 objectInit, Cond.fieldLink RX2 9 "LightRows$Search" "size" "I", Cond.fieldLink RX2 15 "LightRows$Search" "modulus" "I", Cond.fieldLink RX2 18 "LightRows$Search" "tried" "[I", Cond.fieldLink RX2 22 "LightRows$Search" "least" "[I", Cond.fieldLink RX2 25 "LightRows$Search" "turns" "[I", Cond.fieldLink RX2 28 "LightRows$Search" "total" "I", Cond.methodLink RX3 57 yX0_init, Cond.instanceMethod yX0_init, Cond.code yX0_init cX0_init 1 none, Cond.methodLink RX0 3 objectInit, Cond.fieldLink RX0 11 "LightRows$Decimal" "digits" "[I", Cond.fieldLink RX0 15 "LightRows$Decimal" "length" "I"]
def wsX3_init : List Cond := .code yX3_init cX3_init 4 none :: ((wsX3_init_r1 ++ (wsX3_init_r2 ++ wsX3_init_r3)) ++ wsX30 ++ wsX10 ++ wsX20 ++ wsX00)
def wsX3_mustExist : List Cond := .code yX3_mustExist cX3_mustExist 2 none :: ([.fieldLink RX3 18 "LightRows" "lamps" "I", .classLink RX3 123 RJx00060, .instantiable RJx00060 6, .initialized RJx00060] ++ wsX30 ++ wsJx000600)
def wsX3_touches : List Cond := .code yX3_touches cX3_touches 3 (some .boolean) :: ([.fieldLink RX3 36 "LightRows" "touched" "[I"] ++ wsX30)
def wsX3_forget : List Cond := .code yX3_forget cX3_forget 1 none :: ([.fieldLink RX3 62 "LightRows" "worked" "Z", .fieldLink RX3 66 "LightRows" "searched" "Z"] ++ wsX30)
def wsX3_join : List Cond := .code yX3_join cX3_join 3 (some .boolean) :: ([.fieldLink RX3 36 "LightRows" "touched" "[I", .methodLink RX3 69 yX3_mustExist, .instanceMethod yX3_mustExist, .selects RX3 yX3_mustExist yX3_mustExist, .initialized RX3, .code yX3_mustExist cX3_mustExist 2 none, .fieldLink RX3 18 "LightRows" "lamps" "I", .classLink RX3 123 RJx00060, .instantiable RJx00060 6, .initialized RJx00060, .methodLink RX3 73 yX3_touches, .instanceMethod yX3_touches, .selects RX3 yX3_touches yX3_touches, .code yX3_touches cX3_touches 3 (some .boolean), .methodLink RX3 77 yX3_forget, .instanceMethod yX3_forget, .selects RX3 yX3_forget yX3_forget, .code yX3_forget cX3_forget 1 none, .fieldLink RX3 62 "LightRows" "worked" "Z", .fieldLink RX3 66 "LightRows" "searched" "Z"] ++ wsX30 ++ wsJx000600)
def wsX3_self : List Cond := .code yX3_self cX3_self 3 (some .boolean) :: ([.fieldLink RX3 36 "LightRows" "touched" "[I", .methodLink RX3 69 yX3_mustExist, .instanceMethod yX3_mustExist, .selects RX3 yX3_mustExist yX3_mustExist, .initialized RX3, .code yX3_mustExist cX3_mustExist 2 none, .fieldLink RX3 18 "LightRows" "lamps" "I", .classLink RX3 123 RJx00060, .instantiable RJx00060 6, .initialized RJx00060, .methodLink RX3 73 yX3_touches, .instanceMethod yX3_touches, .selects RX3 yX3_touches yX3_touches, .code yX3_touches cX3_touches 3 (some .boolean), .methodLink RX3 77 yX3_forget, .instanceMethod yX3_forget, .selects RX3 yX3_forget yX3_forget, .code yX3_forget cX3_forget 1 none, .fieldLink RX3 62 "LightRows" "worked" "Z", .fieldLink RX3 66 "LightRows" "searched" "Z"] ++ wsX30 ++ wsJx000600)
def wsX3_isState : List Cond := .code yX3_isState cX3_isState 2 (some .boolean) :: ([.fieldLink RX3 26 "LightRows" "states" "I"] ++ wsX30)
def wsX3_set : List Cond := .code yX3_set cX3_set 3 (some .boolean) :: ([.fieldLink RX3 29 "LightRows" "now" "[I", .methodLink RX3 69 yX3_mustExist, .instanceMethod yX3_mustExist, .selects RX3 yX3_mustExist yX3_mustExist, .initialized RX3, .code yX3_mustExist cX3_mustExist 2 none, .fieldLink RX3 18 "LightRows" "lamps" "I", .classLink RX3 123 RJx00060, .instantiable RJx00060 6, .initialized RJx00060, .methodLink RX3 80 yX3_isState, .instanceMethod yX3_isState, .selects RX3 yX3_isState yX3_isState, .code yX3_isState cX3_isState 2 (some .boolean), .fieldLink RX3 26 "LightRows" "states" "I", .methodLink RX3 77 yX3_forget, .instanceMethod yX3_forget, .selects RX3 yX3_forget yX3_forget, .code yX3_forget cX3_forget 1 none, .fieldLink RX3 62 "LightRows" "worked" "Z", .fieldLink RX3 66 "LightRows" "searched" "Z"] ++ wsX30 ++ wsJx000600)
def wsX3_want : List Cond := .code yX3_want cX3_want 3 (some .boolean) :: ([.fieldLink RX3 33 "LightRows" "wanted" "[I", .methodLink RX3 69 yX3_mustExist, .instanceMethod yX3_mustExist, .selects RX3 yX3_mustExist yX3_mustExist, .initialized RX3, .code yX3_mustExist cX3_mustExist 2 none, .fieldLink RX3 18 "LightRows" "lamps" "I", .classLink RX3 123 RJx00060, .instantiable RJx00060 6, .initialized RJx00060, .methodLink RX3 80 yX3_isState, .instanceMethod yX3_isState, .selects RX3 yX3_isState yX3_isState, .code yX3_isState cX3_isState 2 (some .boolean), .fieldLink RX3 26 "LightRows" "states" "I", .methodLink RX3 77 yX3_forget, .instanceMethod yX3_forget, .selects RX3 yX3_forget yX3_forget, .code yX3_forget cX3_forget 1 none, .fieldLink RX3 62 "LightRows" "worked" "Z", .fieldLink RX3 66 "LightRows" "searched" "Z"] ++ wsX30 ++ wsJx000600)
def wsX3_press : List Cond := .code yX3_press cX3_press 4 (some .boolean) :: ([.fieldLink RX3 18 "LightRows" "lamps" "I", .fieldLink RX3 29 "LightRows" "now" "[I", .fieldLink RX3 26 "LightRows" "states" "I", .methodLink RX3 69 yX3_mustExist, .instanceMethod yX3_mustExist, .selects RX3 yX3_mustExist yX3_mustExist, .initialized RX3, .code yX3_mustExist cX3_mustExist 2 none, .classLink RX3 123 RJx00060, .instantiable RJx00060 6, .initialized RJx00060, .methodLink RX3 73 yX3_touches, .instanceMethod yX3_touches, .selects RX3 yX3_touches yX3_touches, .code yX3_touches cX3_touches 3 (some .boolean), .fieldLink RX3 36 "LightRows" "touched" "[I", .methodLink RX3 77 yX3_forget, .instanceMethod yX3_forget, .selects RX3 yX3_forget yX3_forget, .code yX3_forget cX3_forget 1 none, .fieldLink RX3 62 "LightRows" "worked" "Z", .fieldLink RX3 66 "LightRows" "searched" "Z"] ++ wsX30 ++ wsJx000600)
def wsX3_at : List Cond := .code yX3_at cX3_at 2 (some .int) :: ([.fieldLink RX3 29 "LightRows" "now" "[I", .methodLink RX3 69 yX3_mustExist, .instanceMethod yX3_mustExist, .selects RX3 yX3_mustExist yX3_mustExist, .initialized RX3, .code yX3_mustExist cX3_mustExist 2 none, .fieldLink RX3 18 "LightRows" "lamps" "I", .classLink RX3 123 RJx00060, .instantiable RJx00060 6, .initialized RJx00060] ++ wsX30 ++ wsJx000600)
def wsX3_apart : List Cond := .code yX3_apart cX3_apart 3 (some .int) :: ([.fieldLink RX3 18 "LightRows" "lamps" "I", .fieldLink RX3 29 "LightRows" "now" "[I", .fieldLink RX3 33 "LightRows" "wanted" "[I"] ++ wsX30)
def wsX3_work_r1 : List Cond := [Cond.fieldLink RX3 62 "LightRows" "worked" "Z", Cond.fieldLink RX3 44 "LightRows" "equations" "LLightRows$Equations;", Cond.fieldLink RX3 36 "LightRows" "touched" "[I", Cond.fieldLink RX3 29 "LightRows" "now" "[I", Cond.fieldLink RX3 33 "LightRows" "wanted" "[I", Cond.methodLink RX3 130 yX1_take, Cond.instanceMethod yX1_take, Cond.selects RX1 yX1_take yX1_take, Cond.initialized RX1, Cond.code yX1_take cX1_take 7 none, Cond.fieldLink RX1 9 "LightRows$Equations" "size" "I", Cond.fieldLink RX1 20 "LightRows$Equations" "rows" "[[I", Cond.fieldLink RX1 15 "LightRows$Equations" "modulus" "I", Cond.methodLink RX3 134 yX1_reduce, Cond.instanceMethod yX1_reduce, Cond.selects RX1 yX1_reduce yX1_reduce, Cond.code yX1_reduce cX1_reduce 3 none, Cond.fieldLink RX1 30 "LightRows$Equations" "bound" "I", Cond.fieldLink RX1 23 "LightRows$Equations" "rowOf" "[I", Cond.methodLink RX1 36 yX1_unusedRowWith, Cond.instanceMethod yX1_unusedRowWith, Cond.selects RX1 yX1_unusedRowWith yX1_unusedRowWith, Cond.code yX1_unusedRowWith cX1_unusedRowWith 3 (some .int), Cond.methodLink RX1 40 yX1_swap]
def wsX3_work_r2 : List Cond := [Cond.instanceMethod yX1_swap, Cond.selects RX1 yX1_swap yX1_swap, Cond.code yX1_swap cX1_swap 4 none, Cond.methodLink RX1 44 yX1_makeUnit, Cond.instanceMethod yX1_makeUnit, Cond.selects RX1 yX1_makeUnit yX1_makeUnit, Cond.code yX1_makeUnit cX1_makeUnit 5 none, Cond.methodLink RX1 58 yX1_inverse, Cond.instanceMethod yX1_inverse, Cond.selects RX1 yX1_inverse yX1_inverse, Cond.code yX1_inverse cX1_inverse 3 (some .int), Cond.methodLink RX1 48 yX1_clearElsewhere, Cond.instanceMethod yX1_clearElsewhere, Cond.selects RX1 yX1_clearElsewhere yX1_clearElsewhere, Cond.code yX1_clearElsewhere cX1_clearElsewhere 4 none, Cond.methodLink RX1 61 yX1_addMultiple, Cond.instanceMethod yX1_addMultiple, Cond.selects RX1 yX1_addMultiple yX1_addMultiple, Cond.code yX1_addMultiple cX1_addMultiple 5 none, Cond.methodLink RX1 51 yX1_readQuietPatterns, Cond.instanceMethod yX1_readQuietPatterns, Cond.selects RX1 yX1_readQuietPatterns yX1_readQuietPatterns, Cond.code yX1_readQuietPatterns cX1_readQuietPatterns 2 none, Cond.fieldLink RX1 33 "LightRows$Equations" "free" "I"]
def wsX3_work_r3 : List Cond := [Cond.fieldLink RX1 27 "LightRows$Equations" "quietPatterns" "[[I", Cond.methodLink RX1 65 yX1_readQuietPattern, Cond.instanceMethod yX1_readQuietPattern, Cond.selects RX1 yX1_readQuietPattern yX1_readQuietPattern, Cond.code yX1_readQuietPattern cX1_readQuietPattern 5 none]
def wsX3_work : List Cond := .code yX3_work cX3_work 1 none :: ((wsX3_work_r1 ++ (wsX3_work_r2 ++ wsX3_work_r3)) ++ wsX30 ++ wsX10)
def wsX3_rank_r1 : List Cond := [Cond.fieldLink RX3 44 "LightRows" "equations" "LLightRows$Equations;", Cond.methodLink RX3 84 yX3_work, Cond.instanceMethod yX3_work, Cond.selects RX3 yX3_work yX3_work, Cond.initialized RX3, Cond.code yX3_work cX3_work 1 none, Cond.fieldLink RX3 62 "LightRows" "worked" "Z", Cond.fieldLink RX3 36 "LightRows" "touched" "[I", Cond.fieldLink RX3 29 "LightRows" "now" "[I", Cond.fieldLink RX3 33 "LightRows" "wanted" "[I", Cond.methodLink RX3 130 yX1_take, Cond.instanceMethod yX1_take, Cond.selects RX1 yX1_take yX1_take, Cond.initialized RX1, Cond.code yX1_take cX1_take 7 none, Cond.fieldLink RX1 9 "LightRows$Equations" "size" "I", Cond.fieldLink RX1 20 "LightRows$Equations" "rows" "[[I", Cond.fieldLink RX1 15 "LightRows$Equations" "modulus" "I", Cond.methodLink RX3 134 yX1_reduce, Cond.instanceMethod yX1_reduce, Cond.selects RX1 yX1_reduce yX1_reduce, Cond.code yX1_reduce cX1_reduce 3 none, Cond.fieldLink RX1 30 "LightRows$Equations" "bound" "I", Cond.fieldLink RX1 23 "LightRows$Equations" "rowOf" "[I"]
def wsX3_rank_r2 : List Cond := [Cond.methodLink RX1 36 yX1_unusedRowWith, Cond.instanceMethod yX1_unusedRowWith, Cond.selects RX1 yX1_unusedRowWith yX1_unusedRowWith, Cond.code yX1_unusedRowWith cX1_unusedRowWith 3 (some .int), Cond.methodLink RX1 40 yX1_swap, Cond.instanceMethod yX1_swap, Cond.selects RX1 yX1_swap yX1_swap, Cond.code yX1_swap cX1_swap 4 none, Cond.methodLink RX1 44 yX1_makeUnit, Cond.instanceMethod yX1_makeUnit, Cond.selects RX1 yX1_makeUnit yX1_makeUnit, Cond.code yX1_makeUnit cX1_makeUnit 5 none, Cond.methodLink RX1 58 yX1_inverse, Cond.instanceMethod yX1_inverse, Cond.selects RX1 yX1_inverse yX1_inverse, Cond.code yX1_inverse cX1_inverse 3 (some .int), Cond.methodLink RX1 48 yX1_clearElsewhere, Cond.instanceMethod yX1_clearElsewhere, Cond.selects RX1 yX1_clearElsewhere yX1_clearElsewhere, Cond.code yX1_clearElsewhere cX1_clearElsewhere 4 none, Cond.methodLink RX1 61 yX1_addMultiple, Cond.instanceMethod yX1_addMultiple, Cond.selects RX1 yX1_addMultiple yX1_addMultiple, Cond.code yX1_addMultiple cX1_addMultiple 5 none]
def wsX3_rank_r3 : List Cond := [Cond.methodLink RX1 51 yX1_readQuietPatterns, Cond.instanceMethod yX1_readQuietPatterns, Cond.selects RX1 yX1_readQuietPatterns yX1_readQuietPatterns, Cond.code yX1_readQuietPatterns cX1_readQuietPatterns 2 none, Cond.fieldLink RX1 33 "LightRows$Equations" "free" "I", Cond.fieldLink RX1 27 "LightRows$Equations" "quietPatterns" "[[I", Cond.methodLink RX1 65 yX1_readQuietPattern, Cond.instanceMethod yX1_readQuietPattern, Cond.selects RX1 yX1_readQuietPattern yX1_readQuietPattern, Cond.code yX1_readQuietPattern cX1_readQuietPattern 5 none, Cond.methodLink RX3 87 yX1_boundLamps, Cond.instanceMethod yX1_boundLamps, Cond.selects RX1 yX1_boundLamps yX1_boundLamps, Cond.code yX1_boundLamps cX1_boundLamps 1 (some .int)]
def wsX3_rank : List Cond := .code yX3_rank cX3_rank 1 (some .int) :: ((wsX3_rank_r1 ++ (wsX3_rank_r2 ++ wsX3_rank_r3)) ++ wsX30 ++ wsX10)
def wsX3_solvable_r1 : List Cond := [Cond.fieldLink RX3 44 "LightRows" "equations" "LLightRows$Equations;", Cond.methodLink RX3 84 yX3_work, Cond.instanceMethod yX3_work, Cond.selects RX3 yX3_work yX3_work, Cond.initialized RX3, Cond.code yX3_work cX3_work 1 none, Cond.fieldLink RX3 62 "LightRows" "worked" "Z", Cond.fieldLink RX3 36 "LightRows" "touched" "[I", Cond.fieldLink RX3 29 "LightRows" "now" "[I", Cond.fieldLink RX3 33 "LightRows" "wanted" "[I", Cond.methodLink RX3 130 yX1_take, Cond.instanceMethod yX1_take, Cond.selects RX1 yX1_take yX1_take, Cond.initialized RX1, Cond.code yX1_take cX1_take 7 none, Cond.fieldLink RX1 9 "LightRows$Equations" "size" "I", Cond.fieldLink RX1 20 "LightRows$Equations" "rows" "[[I", Cond.fieldLink RX1 15 "LightRows$Equations" "modulus" "I", Cond.methodLink RX3 134 yX1_reduce, Cond.instanceMethod yX1_reduce, Cond.selects RX1 yX1_reduce yX1_reduce, Cond.code yX1_reduce cX1_reduce 3 none, Cond.fieldLink RX1 30 "LightRows$Equations" "bound" "I", Cond.fieldLink RX1 23 "LightRows$Equations" "rowOf" "[I"]
def wsX3_solvable_r2 : List Cond := [Cond.methodLink RX1 36 yX1_unusedRowWith, Cond.instanceMethod yX1_unusedRowWith, Cond.selects RX1 yX1_unusedRowWith yX1_unusedRowWith, Cond.code yX1_unusedRowWith cX1_unusedRowWith 3 (some .int), Cond.methodLink RX1 40 yX1_swap, Cond.instanceMethod yX1_swap, Cond.selects RX1 yX1_swap yX1_swap, Cond.code yX1_swap cX1_swap 4 none, Cond.methodLink RX1 44 yX1_makeUnit, Cond.instanceMethod yX1_makeUnit, Cond.selects RX1 yX1_makeUnit yX1_makeUnit, Cond.code yX1_makeUnit cX1_makeUnit 5 none, Cond.methodLink RX1 58 yX1_inverse, Cond.instanceMethod yX1_inverse, Cond.selects RX1 yX1_inverse yX1_inverse, Cond.code yX1_inverse cX1_inverse 3 (some .int), Cond.methodLink RX1 48 yX1_clearElsewhere, Cond.instanceMethod yX1_clearElsewhere, Cond.selects RX1 yX1_clearElsewhere yX1_clearElsewhere, Cond.code yX1_clearElsewhere cX1_clearElsewhere 4 none, Cond.methodLink RX1 61 yX1_addMultiple, Cond.instanceMethod yX1_addMultiple, Cond.selects RX1 yX1_addMultiple yX1_addMultiple, Cond.code yX1_addMultiple cX1_addMultiple 5 none]
def wsX3_solvable_r3 : List Cond := [Cond.methodLink RX1 51 yX1_readQuietPatterns, Cond.instanceMethod yX1_readQuietPatterns, Cond.selects RX1 yX1_readQuietPatterns yX1_readQuietPatterns, Cond.code yX1_readQuietPatterns cX1_readQuietPatterns 2 none, Cond.fieldLink RX1 33 "LightRows$Equations" "free" "I", Cond.fieldLink RX1 27 "LightRows$Equations" "quietPatterns" "[[I", Cond.methodLink RX1 65 yX1_readQuietPattern, Cond.instanceMethod yX1_readQuietPattern, Cond.selects RX1 yX1_readQuietPattern yX1_readQuietPattern, Cond.code yX1_readQuietPattern cX1_readQuietPattern 5 none, Cond.methodLink RX3 91 yX1_agree, Cond.instanceMethod yX1_agree, Cond.selects RX1 yX1_agree yX1_agree, Cond.code yX1_agree cX1_agree 2 (some .boolean)]
def wsX3_solvable : List Cond := .code yX3_solvable cX3_solvable 1 (some .boolean) :: ((wsX3_solvable_r1 ++ (wsX3_solvable_r2 ++ wsX3_solvable_r3)) ++ wsX30 ++ wsX10)
def wsX3_answer_r1 : List Cond := [Cond.fieldLink RX3 44 "LightRows" "equations" "LLightRows$Equations;", Cond.methodLink RX3 69 yX3_mustExist, Cond.instanceMethod yX3_mustExist, Cond.selects RX3 yX3_mustExist yX3_mustExist, Cond.initialized RX3, Cond.code yX3_mustExist cX3_mustExist 2 none, Cond.fieldLink RX3 18 "LightRows" "lamps" "I", Cond.classLink RX3 123 RJx00060, Cond.instantiable RJx00060 6, Cond.initialized RJx00060, Cond.methodLink RX3 84 yX3_work, Cond.instanceMethod yX3_work, Cond.selects RX3 yX3_work yX3_work, Cond.code yX3_work cX3_work 1 none, Cond.fieldLink RX3 62 "LightRows" "worked" "Z", Cond.fieldLink RX3 36 "LightRows" "touched" "[I", Cond.fieldLink RX3 29 "LightRows" "now" "[I", Cond.fieldLink RX3 33 "LightRows" "wanted" "[I", Cond.methodLink RX3 130 yX1_take, Cond.instanceMethod yX1_take, Cond.selects RX1 yX1_take yX1_take, Cond.initialized RX1, Cond.code yX1_take cX1_take 7 none, Cond.fieldLink RX1 9 "LightRows$Equations" "size" "I"]
def wsX3_answer_r2 : List Cond := [Cond.fieldLink RX1 20 "LightRows$Equations" "rows" "[[I", Cond.fieldLink RX1 15 "LightRows$Equations" "modulus" "I", Cond.methodLink RX3 134 yX1_reduce, Cond.instanceMethod yX1_reduce, Cond.selects RX1 yX1_reduce yX1_reduce, Cond.code yX1_reduce cX1_reduce 3 none, Cond.fieldLink RX1 30 "LightRows$Equations" "bound" "I", Cond.fieldLink RX1 23 "LightRows$Equations" "rowOf" "[I", Cond.methodLink RX1 36 yX1_unusedRowWith, Cond.instanceMethod yX1_unusedRowWith, Cond.selects RX1 yX1_unusedRowWith yX1_unusedRowWith, Cond.code yX1_unusedRowWith cX1_unusedRowWith 3 (some .int), Cond.methodLink RX1 40 yX1_swap, Cond.instanceMethod yX1_swap, Cond.selects RX1 yX1_swap yX1_swap, Cond.code yX1_swap cX1_swap 4 none, Cond.methodLink RX1 44 yX1_makeUnit, Cond.instanceMethod yX1_makeUnit, Cond.selects RX1 yX1_makeUnit yX1_makeUnit, Cond.code yX1_makeUnit cX1_makeUnit 5 none, Cond.methodLink RX1 58 yX1_inverse, Cond.instanceMethod yX1_inverse, Cond.selects RX1 yX1_inverse yX1_inverse, Cond.code yX1_inverse cX1_inverse 3 (some .int)]
def wsX3_answer_r3 : List Cond := [Cond.methodLink RX1 48 yX1_clearElsewhere, Cond.instanceMethod yX1_clearElsewhere, Cond.selects RX1 yX1_clearElsewhere yX1_clearElsewhere, Cond.code yX1_clearElsewhere cX1_clearElsewhere 4 none, Cond.methodLink RX1 61 yX1_addMultiple, Cond.instanceMethod yX1_addMultiple, Cond.selects RX1 yX1_addMultiple yX1_addMultiple, Cond.code yX1_addMultiple cX1_addMultiple 5 none, Cond.methodLink RX1 51 yX1_readQuietPatterns, Cond.instanceMethod yX1_readQuietPatterns, Cond.selects RX1 yX1_readQuietPatterns yX1_readQuietPatterns, Cond.code yX1_readQuietPatterns cX1_readQuietPatterns 2 none, Cond.fieldLink RX1 33 "LightRows$Equations" "free" "I", Cond.fieldLink RX1 27 "LightRows$Equations" "quietPatterns" "[[I", Cond.methodLink RX1 65 yX1_readQuietPattern, Cond.instanceMethod yX1_readQuietPattern, Cond.selects RX1 yX1_readQuietPattern yX1_readQuietPattern, Cond.code yX1_readQuietPattern cX1_readQuietPattern 5 none, Cond.methodLink RX3 91 yX1_agree, Cond.instanceMethod yX1_agree, Cond.selects RX1 yX1_agree yX1_agree, Cond.code yX1_agree cX1_agree 2 (some .boolean), Cond.methodLink RX3 95 yX1_pressesOf, Cond.instanceMethod yX1_pressesOf]
def wsX3_answer_r4 : List Cond := [Cond.selects RX1 yX1_pressesOf yX1_pressesOf, Cond.code yX1_pressesOf cX1_pressesOf 3 (some .int)]
def wsX3_answer : List Cond := .code yX3_answer cX3_answer 2 (some .int) :: ((wsX3_answer_r1 ++ (wsX3_answer_r2 ++ (wsX3_answer_r3 ++ wsX3_answer_r4))) ++ wsX30 ++ wsJx000600 ++ wsX10)
def wsX3_quiet_r1 : List Cond := [Cond.fieldLink RX3 44 "LightRows" "equations" "LLightRows$Equations;", Cond.methodLink RX3 69 yX3_mustExist, Cond.instanceMethod yX3_mustExist, Cond.selects RX3 yX3_mustExist yX3_mustExist, Cond.initialized RX3, Cond.code yX3_mustExist cX3_mustExist 2 none, Cond.fieldLink RX3 18 "LightRows" "lamps" "I", Cond.classLink RX3 123 RJx00060, Cond.instantiable RJx00060 6, Cond.initialized RJx00060, Cond.methodLink RX3 84 yX3_work, Cond.instanceMethod yX3_work, Cond.selects RX3 yX3_work yX3_work, Cond.code yX3_work cX3_work 1 none, Cond.fieldLink RX3 62 "LightRows" "worked" "Z", Cond.fieldLink RX3 36 "LightRows" "touched" "[I", Cond.fieldLink RX3 29 "LightRows" "now" "[I", Cond.fieldLink RX3 33 "LightRows" "wanted" "[I", Cond.methodLink RX3 130 yX1_take, Cond.instanceMethod yX1_take, Cond.selects RX1 yX1_take yX1_take, Cond.initialized RX1, Cond.code yX1_take cX1_take 7 none, Cond.fieldLink RX1 9 "LightRows$Equations" "size" "I"]
def wsX3_quiet_r2 : List Cond := [Cond.fieldLink RX1 20 "LightRows$Equations" "rows" "[[I", Cond.fieldLink RX1 15 "LightRows$Equations" "modulus" "I", Cond.methodLink RX3 134 yX1_reduce, Cond.instanceMethod yX1_reduce, Cond.selects RX1 yX1_reduce yX1_reduce, Cond.code yX1_reduce cX1_reduce 3 none, Cond.fieldLink RX1 30 "LightRows$Equations" "bound" "I", Cond.fieldLink RX1 23 "LightRows$Equations" "rowOf" "[I", Cond.methodLink RX1 36 yX1_unusedRowWith, Cond.instanceMethod yX1_unusedRowWith, Cond.selects RX1 yX1_unusedRowWith yX1_unusedRowWith, Cond.code yX1_unusedRowWith cX1_unusedRowWith 3 (some .int), Cond.methodLink RX1 40 yX1_swap, Cond.instanceMethod yX1_swap, Cond.selects RX1 yX1_swap yX1_swap, Cond.code yX1_swap cX1_swap 4 none, Cond.methodLink RX1 44 yX1_makeUnit, Cond.instanceMethod yX1_makeUnit, Cond.selects RX1 yX1_makeUnit yX1_makeUnit, Cond.code yX1_makeUnit cX1_makeUnit 5 none, Cond.methodLink RX1 58 yX1_inverse, Cond.instanceMethod yX1_inverse, Cond.selects RX1 yX1_inverse yX1_inverse, Cond.code yX1_inverse cX1_inverse 3 (some .int)]
def wsX3_quiet_r3 : List Cond := [Cond.methodLink RX1 48 yX1_clearElsewhere, Cond.instanceMethod yX1_clearElsewhere, Cond.selects RX1 yX1_clearElsewhere yX1_clearElsewhere, Cond.code yX1_clearElsewhere cX1_clearElsewhere 4 none, Cond.methodLink RX1 61 yX1_addMultiple, Cond.instanceMethod yX1_addMultiple, Cond.selects RX1 yX1_addMultiple yX1_addMultiple, Cond.code yX1_addMultiple cX1_addMultiple 5 none, Cond.methodLink RX1 51 yX1_readQuietPatterns, Cond.instanceMethod yX1_readQuietPatterns, Cond.selects RX1 yX1_readQuietPatterns yX1_readQuietPatterns, Cond.code yX1_readQuietPatterns cX1_readQuietPatterns 2 none, Cond.fieldLink RX1 33 "LightRows$Equations" "free" "I", Cond.fieldLink RX1 27 "LightRows$Equations" "quietPatterns" "[[I", Cond.methodLink RX1 65 yX1_readQuietPattern, Cond.instanceMethod yX1_readQuietPattern, Cond.selects RX1 yX1_readQuietPattern yX1_readQuietPattern, Cond.code yX1_readQuietPattern cX1_readQuietPattern 5 none, Cond.methodLink RX3 98 yX1_freeLamps, Cond.instanceMethod yX1_freeLamps, Cond.selects RX1 yX1_freeLamps yX1_freeLamps, Cond.code yX1_freeLamps cX1_freeLamps 1 (some .int), Cond.methodLink RX3 101 yX1_quietPattern, Cond.instanceMethod yX1_quietPattern]
def wsX3_quiet_r4 : List Cond := [Cond.selects RX1 yX1_quietPattern yX1_quietPattern, Cond.code yX1_quietPattern cX1_quietPattern 2 (some (.array .int))]
def wsX3_quiet : List Cond := .code yX3_quiet cX3_quiet 3 (some .int) :: ((wsX3_quiet_r1 ++ (wsX3_quiet_r2 ++ (wsX3_quiet_r3 ++ wsX3_quiet_r4))) ++ wsX30 ++ wsJx000600 ++ wsX10)
def wsX3_count_r1 : List Cond := [Cond.fieldLink RX3 58 "LightRows" "decimal" "LLightRows$Decimal;", Cond.fieldLink RX3 44 "LightRows" "equations" "LLightRows$Equations;", Cond.fieldLink RX3 26 "LightRows" "states" "I", Cond.methodLink RX3 84 yX3_work, Cond.instanceMethod yX3_work, Cond.selects RX3 yX3_work yX3_work, Cond.initialized RX3, Cond.code yX3_work cX3_work 1 none, Cond.fieldLink RX3 62 "LightRows" "worked" "Z", Cond.fieldLink RX3 36 "LightRows" "touched" "[I", Cond.fieldLink RX3 29 "LightRows" "now" "[I", Cond.fieldLink RX3 33 "LightRows" "wanted" "[I", Cond.methodLink RX3 130 yX1_take, Cond.instanceMethod yX1_take, Cond.selects RX1 yX1_take yX1_take, Cond.initialized RX1, Cond.code yX1_take cX1_take 7 none, Cond.fieldLink RX1 9 "LightRows$Equations" "size" "I", Cond.fieldLink RX1 20 "LightRows$Equations" "rows" "[[I", Cond.fieldLink RX1 15 "LightRows$Equations" "modulus" "I", Cond.methodLink RX3 134 yX1_reduce, Cond.instanceMethod yX1_reduce, Cond.selects RX1 yX1_reduce yX1_reduce, Cond.code yX1_reduce cX1_reduce 3 none]
def wsX3_count_r2 : List Cond := [Cond.fieldLink RX1 30 "LightRows$Equations" "bound" "I", Cond.fieldLink RX1 23 "LightRows$Equations" "rowOf" "[I", Cond.methodLink RX1 36 yX1_unusedRowWith, Cond.instanceMethod yX1_unusedRowWith, Cond.selects RX1 yX1_unusedRowWith yX1_unusedRowWith, Cond.code yX1_unusedRowWith cX1_unusedRowWith 3 (some .int), Cond.methodLink RX1 40 yX1_swap, Cond.instanceMethod yX1_swap, Cond.selects RX1 yX1_swap yX1_swap, Cond.code yX1_swap cX1_swap 4 none, Cond.methodLink RX1 44 yX1_makeUnit, Cond.instanceMethod yX1_makeUnit, Cond.selects RX1 yX1_makeUnit yX1_makeUnit, Cond.code yX1_makeUnit cX1_makeUnit 5 none, Cond.methodLink RX1 58 yX1_inverse, Cond.instanceMethod yX1_inverse, Cond.selects RX1 yX1_inverse yX1_inverse, Cond.code yX1_inverse cX1_inverse 3 (some .int), Cond.methodLink RX1 48 yX1_clearElsewhere, Cond.instanceMethod yX1_clearElsewhere, Cond.selects RX1 yX1_clearElsewhere yX1_clearElsewhere, Cond.code yX1_clearElsewhere cX1_clearElsewhere 4 none, Cond.methodLink RX1 61 yX1_addMultiple, Cond.instanceMethod yX1_addMultiple]
def wsX3_count_r3 : List Cond := [Cond.selects RX1 yX1_addMultiple yX1_addMultiple, Cond.code yX1_addMultiple cX1_addMultiple 5 none, Cond.methodLink RX1 51 yX1_readQuietPatterns, Cond.instanceMethod yX1_readQuietPatterns, Cond.selects RX1 yX1_readQuietPatterns yX1_readQuietPatterns, Cond.code yX1_readQuietPatterns cX1_readQuietPatterns 2 none, Cond.fieldLink RX1 33 "LightRows$Equations" "free" "I", Cond.fieldLink RX1 27 "LightRows$Equations" "quietPatterns" "[[I", Cond.methodLink RX1 65 yX1_readQuietPattern, Cond.instanceMethod yX1_readQuietPattern, Cond.selects RX1 yX1_readQuietPattern yX1_readQuietPattern, Cond.code yX1_readQuietPattern cX1_readQuietPattern 5 none, Cond.methodLink RX3 91 yX1_agree, Cond.instanceMethod yX1_agree, Cond.selects RX1 yX1_agree yX1_agree, Cond.code yX1_agree cX1_agree 2 (some .boolean), Cond.methodLink RX3 105 yX0_become, Cond.instanceMethod yX0_become, Cond.selects RX0 yX0_become yX0_become, Cond.initialized RX0, Cond.code yX0_become cX0_become 2 none, Cond.fieldLink RX0 11 "LightRows$Decimal" "digits" "[I", Cond.fieldLink RX0 15 "LightRows$Decimal" "length" "I", Cond.methodLink RX3 98 yX1_freeLamps]
def wsX3_count_r4 : List Cond := [Cond.instanceMethod yX1_freeLamps, Cond.selects RX1 yX1_freeLamps yX1_freeLamps, Cond.code yX1_freeLamps cX1_freeLamps 1 (some .int), Cond.methodLink RX3 108 yX0_multiply, Cond.instanceMethod yX0_multiply, Cond.selects RX0 yX0_multiply yX0_multiply, Cond.code yX0_multiply cX0_multiply 5 none, Cond.methodLink RX3 111 yX0_digit, Cond.instanceMethod yX0_digit, Cond.selects RX0 yX0_digit yX0_digit, Cond.code yX0_digit cX0_digit 2 (some .int)]
def wsX3_count : List Cond := .code yX3_count cX3_count 3 (some .int) :: ((wsX3_count_r1 ++ (wsX3_count_r2 ++ (wsX3_count_r3 ++ wsX3_count_r4))) ++ wsX30 ++ wsX10 ++ wsX00)
def wsX3_seek_r1 : List Cond := [Cond.fieldLink RX3 66 "LightRows" "searched" "Z", Cond.fieldLink RX3 51 "LightRows" "search" "LLightRows$Search;", Cond.fieldLink RX3 44 "LightRows" "equations" "LLightRows$Equations;", Cond.methodLink RX3 84 yX3_work, Cond.instanceMethod yX3_work, Cond.selects RX3 yX3_work yX3_work, Cond.initialized RX3, Cond.code yX3_work cX3_work 1 none, Cond.fieldLink RX3 62 "LightRows" "worked" "Z", Cond.fieldLink RX3 36 "LightRows" "touched" "[I", Cond.fieldLink RX3 29 "LightRows" "now" "[I", Cond.fieldLink RX3 33 "LightRows" "wanted" "[I", Cond.methodLink RX3 130 yX1_take, Cond.instanceMethod yX1_take, Cond.selects RX1 yX1_take yX1_take, Cond.initialized RX1, Cond.code yX1_take cX1_take 7 none, Cond.fieldLink RX1 9 "LightRows$Equations" "size" "I", Cond.fieldLink RX1 20 "LightRows$Equations" "rows" "[[I", Cond.fieldLink RX1 15 "LightRows$Equations" "modulus" "I", Cond.methodLink RX3 134 yX1_reduce, Cond.instanceMethod yX1_reduce, Cond.selects RX1 yX1_reduce yX1_reduce, Cond.code yX1_reduce cX1_reduce 3 none]
def wsX3_seek_r2 : List Cond := [Cond.fieldLink RX1 30 "LightRows$Equations" "bound" "I", Cond.fieldLink RX1 23 "LightRows$Equations" "rowOf" "[I", Cond.methodLink RX1 36 yX1_unusedRowWith, Cond.instanceMethod yX1_unusedRowWith, Cond.selects RX1 yX1_unusedRowWith yX1_unusedRowWith, Cond.code yX1_unusedRowWith cX1_unusedRowWith 3 (some .int), Cond.methodLink RX1 40 yX1_swap, Cond.instanceMethod yX1_swap, Cond.selects RX1 yX1_swap yX1_swap, Cond.code yX1_swap cX1_swap 4 none, Cond.methodLink RX1 44 yX1_makeUnit, Cond.instanceMethod yX1_makeUnit, Cond.selects RX1 yX1_makeUnit yX1_makeUnit, Cond.code yX1_makeUnit cX1_makeUnit 5 none, Cond.methodLink RX1 58 yX1_inverse, Cond.instanceMethod yX1_inverse, Cond.selects RX1 yX1_inverse yX1_inverse, Cond.code yX1_inverse cX1_inverse 3 (some .int), Cond.methodLink RX1 48 yX1_clearElsewhere, Cond.instanceMethod yX1_clearElsewhere, Cond.selects RX1 yX1_clearElsewhere yX1_clearElsewhere, Cond.code yX1_clearElsewhere cX1_clearElsewhere 4 none, Cond.methodLink RX1 61 yX1_addMultiple, Cond.instanceMethod yX1_addMultiple]
def wsX3_seek_r3 : List Cond := [Cond.selects RX1 yX1_addMultiple yX1_addMultiple, Cond.code yX1_addMultiple cX1_addMultiple 5 none, Cond.methodLink RX1 51 yX1_readQuietPatterns, Cond.instanceMethod yX1_readQuietPatterns, Cond.selects RX1 yX1_readQuietPatterns yX1_readQuietPatterns, Cond.code yX1_readQuietPatterns cX1_readQuietPatterns 2 none, Cond.fieldLink RX1 33 "LightRows$Equations" "free" "I", Cond.fieldLink RX1 27 "LightRows$Equations" "quietPatterns" "[[I", Cond.methodLink RX1 65 yX1_readQuietPattern, Cond.instanceMethod yX1_readQuietPattern, Cond.selects RX1 yX1_readQuietPattern yX1_readQuietPattern, Cond.code yX1_readQuietPattern cX1_readQuietPattern 5 none, Cond.methodLink RX3 137 yX2_run, Cond.instanceMethod yX2_run, Cond.selects RX2 yX2_run yX2_run, Cond.initialized RX2, Cond.code yX2_run cX2_run 4 none, Cond.fieldLink RX2 28 "LightRows$Search" "total" "I", Cond.methodLink RX2 31 yX1_answersUpTo, Cond.instanceMethod yX1_answersUpTo, Cond.selects RX1 yX1_answersUpTo yX1_answersUpTo, Cond.code yX1_answersUpTo cX1_answersUpTo 4 (some .int), Cond.methodLink RX1 54 yX1_agree, Cond.instanceMethod yX1_agree]
def wsX3_seek_r4 : List Cond := [Cond.selects RX1 yX1_agree yX1_agree, Cond.code yX1_agree cX1_agree 2 (some .boolean), Cond.methodLink RX2 37 yX2_begin, Cond.instanceMethod yX2_begin, Cond.selects RX2 yX2_begin yX2_begin, Cond.code yX2_begin cX2_begin 3 none, Cond.fieldLink RX2 9 "LightRows$Search" "size" "I", Cond.fieldLink RX2 18 "LightRows$Search" "tried" "[I", Cond.fieldLink RX2 25 "LightRows$Search" "turns" "[I", Cond.methodLink RX2 47 yX1_pressesOf, Cond.instanceMethod yX1_pressesOf, Cond.selects RX1 yX1_pressesOf yX1_pressesOf, Cond.code yX1_pressesOf cX1_pressesOf 3 (some .int), Cond.methodLink RX2 50 yX2_totalTried, Cond.instanceMethod yX2_totalTried, Cond.selects RX2 yX2_totalTried yX2_totalTried, Cond.code yX2_totalTried cX2_totalTried 3 (some .int), Cond.methodLink RX2 54 yX2_keep, Cond.instanceMethod yX2_keep, Cond.selects RX2 yX2_keep yX2_keep, Cond.code yX2_keep cX2_keep 2 none, Cond.fieldLink RX2 22 "LightRows$Search" "least" "[I", Cond.methodLink RX2 73 arraycopyName, Cond.native arraycopyName]
def wsX3_seek_r5 : List Cond := [Cond.static arraycopyName, Cond.initialized "java/lang/System", Cond.methodLink RX2 41 yX2_advance, Cond.instanceMethod yX2_advance, Cond.selects RX2 yX2_advance yX2_advance, Cond.code yX2_advance cX2_advance 3 none, Cond.fieldLink RX2 15 "LightRows$Search" "modulus" "I", Cond.methodLink RX2 58 yX1_freeLamps, Cond.instanceMethod yX1_freeLamps, Cond.selects RX1 yX1_freeLamps yX1_freeLamps, Cond.code yX1_freeLamps cX1_freeLamps 1 (some .int), Cond.methodLink RX2 61 yX1_quietPattern, Cond.instanceMethod yX1_quietPattern, Cond.selects RX1 yX1_quietPattern yX1_quietPattern, Cond.code yX1_quietPattern cX1_quietPattern 2 (some (.array .int)), Cond.methodLink RX2 65 yX2_addToTried, Cond.instanceMethod yX2_addToTried, Cond.selects RX2 yX2_addToTried yX2_addToTried, Cond.code yX2_addToTried cX2_addToTried 4 none, Cond.methodLink RX2 44 yX2_keepIfLess, Cond.instanceMethod yX2_keepIfLess, Cond.selects RX2 yX2_keepIfLess yX2_keepIfLess, Cond.code yX2_keepIfLess cX2_keepIfLess 2 none, Cond.methodLink RX2 69 yX2_triedIsAhead]
def wsX3_seek_r6 : List Cond := [Cond.instanceMethod yX2_triedIsAhead, Cond.selects RX2 yX2_triedIsAhead yX2_triedIsAhead, Cond.code yX2_triedIsAhead cX2_triedIsAhead 2 (some .boolean)]
def wsX3_seek : List Cond := .code yX3_seek cX3_seek 1 none :: ((wsX3_seek_r1 ++ (wsX3_seek_r2 ++ (wsX3_seek_r3 ++ (wsX3_seek_r4 ++ (wsX3_seek_r5 ++ wsX3_seek_r6))))) ++ wsX30 ++ wsX10 ++ wsX20)
def wsX3_fewest_r1 : List Cond := [Cond.fieldLink RX3 51 "LightRows" "search" "LLightRows$Search;", Cond.methodLink RX3 114 yX3_seek, Cond.instanceMethod yX3_seek, Cond.selects RX3 yX3_seek yX3_seek, Cond.initialized RX3, Cond.code yX3_seek cX3_seek 1 none, Cond.fieldLink RX3 66 "LightRows" "searched" "Z", Cond.fieldLink RX3 44 "LightRows" "equations" "LLightRows$Equations;", Cond.methodLink RX3 84 yX3_work, Cond.instanceMethod yX3_work, Cond.selects RX3 yX3_work yX3_work, Cond.code yX3_work cX3_work 1 none, Cond.fieldLink RX3 62 "LightRows" "worked" "Z", Cond.fieldLink RX3 36 "LightRows" "touched" "[I", Cond.fieldLink RX3 29 "LightRows" "now" "[I", Cond.fieldLink RX3 33 "LightRows" "wanted" "[I", Cond.methodLink RX3 130 yX1_take, Cond.instanceMethod yX1_take, Cond.selects RX1 yX1_take yX1_take, Cond.initialized RX1, Cond.code yX1_take cX1_take 7 none, Cond.fieldLink RX1 9 "LightRows$Equations" "size" "I", Cond.fieldLink RX1 20 "LightRows$Equations" "rows" "[[I", Cond.fieldLink RX1 15 "LightRows$Equations" "modulus" "I"]
def wsX3_fewest_r2 : List Cond := [Cond.methodLink RX3 134 yX1_reduce, Cond.instanceMethod yX1_reduce, Cond.selects RX1 yX1_reduce yX1_reduce, Cond.code yX1_reduce cX1_reduce 3 none, Cond.fieldLink RX1 30 "LightRows$Equations" "bound" "I", Cond.fieldLink RX1 23 "LightRows$Equations" "rowOf" "[I", Cond.methodLink RX1 36 yX1_unusedRowWith, Cond.instanceMethod yX1_unusedRowWith, Cond.selects RX1 yX1_unusedRowWith yX1_unusedRowWith, Cond.code yX1_unusedRowWith cX1_unusedRowWith 3 (some .int), Cond.methodLink RX1 40 yX1_swap, Cond.instanceMethod yX1_swap, Cond.selects RX1 yX1_swap yX1_swap, Cond.code yX1_swap cX1_swap 4 none, Cond.methodLink RX1 44 yX1_makeUnit, Cond.instanceMethod yX1_makeUnit, Cond.selects RX1 yX1_makeUnit yX1_makeUnit, Cond.code yX1_makeUnit cX1_makeUnit 5 none, Cond.methodLink RX1 58 yX1_inverse, Cond.instanceMethod yX1_inverse, Cond.selects RX1 yX1_inverse yX1_inverse, Cond.code yX1_inverse cX1_inverse 3 (some .int), Cond.methodLink RX1 48 yX1_clearElsewhere, Cond.instanceMethod yX1_clearElsewhere]
def wsX3_fewest_r3 : List Cond := [Cond.selects RX1 yX1_clearElsewhere yX1_clearElsewhere, Cond.code yX1_clearElsewhere cX1_clearElsewhere 4 none, Cond.methodLink RX1 61 yX1_addMultiple, Cond.instanceMethod yX1_addMultiple, Cond.selects RX1 yX1_addMultiple yX1_addMultiple, Cond.code yX1_addMultiple cX1_addMultiple 5 none, Cond.methodLink RX1 51 yX1_readQuietPatterns, Cond.instanceMethod yX1_readQuietPatterns, Cond.selects RX1 yX1_readQuietPatterns yX1_readQuietPatterns, Cond.code yX1_readQuietPatterns cX1_readQuietPatterns 2 none, Cond.fieldLink RX1 33 "LightRows$Equations" "free" "I", Cond.fieldLink RX1 27 "LightRows$Equations" "quietPatterns" "[[I", Cond.methodLink RX1 65 yX1_readQuietPattern, Cond.instanceMethod yX1_readQuietPattern, Cond.selects RX1 yX1_readQuietPattern yX1_readQuietPattern, Cond.code yX1_readQuietPattern cX1_readQuietPattern 5 none, Cond.methodLink RX3 137 yX2_run, Cond.instanceMethod yX2_run, Cond.selects RX2 yX2_run yX2_run, Cond.initialized RX2, Cond.code yX2_run cX2_run 4 none, Cond.fieldLink RX2 28 "LightRows$Search" "total" "I", Cond.methodLink RX2 31 yX1_answersUpTo, Cond.instanceMethod yX1_answersUpTo]
def wsX3_fewest_r4 : List Cond := [Cond.selects RX1 yX1_answersUpTo yX1_answersUpTo, Cond.code yX1_answersUpTo cX1_answersUpTo 4 (some .int), Cond.methodLink RX1 54 yX1_agree, Cond.instanceMethod yX1_agree, Cond.selects RX1 yX1_agree yX1_agree, Cond.code yX1_agree cX1_agree 2 (some .boolean), Cond.methodLink RX2 37 yX2_begin, Cond.instanceMethod yX2_begin, Cond.selects RX2 yX2_begin yX2_begin, Cond.code yX2_begin cX2_begin 3 none, Cond.fieldLink RX2 9 "LightRows$Search" "size" "I", Cond.fieldLink RX2 18 "LightRows$Search" "tried" "[I", Cond.fieldLink RX2 25 "LightRows$Search" "turns" "[I", Cond.methodLink RX2 47 yX1_pressesOf, Cond.instanceMethod yX1_pressesOf, Cond.selects RX1 yX1_pressesOf yX1_pressesOf, Cond.code yX1_pressesOf cX1_pressesOf 3 (some .int), Cond.methodLink RX2 50 yX2_totalTried, Cond.instanceMethod yX2_totalTried, Cond.selects RX2 yX2_totalTried yX2_totalTried, Cond.code yX2_totalTried cX2_totalTried 3 (some .int), Cond.methodLink RX2 54 yX2_keep, Cond.instanceMethod yX2_keep, Cond.selects RX2 yX2_keep yX2_keep]
def wsX3_fewest_r5 : List Cond := [Cond.code yX2_keep cX2_keep 2 none, Cond.fieldLink RX2 22 "LightRows$Search" "least" "[I", Cond.methodLink RX2 73 arraycopyName, Cond.native arraycopyName, Cond.static arraycopyName, Cond.initialized "java/lang/System", Cond.methodLink RX2 41 yX2_advance, Cond.instanceMethod yX2_advance, Cond.selects RX2 yX2_advance yX2_advance, Cond.code yX2_advance cX2_advance 3 none, Cond.fieldLink RX2 15 "LightRows$Search" "modulus" "I", Cond.methodLink RX2 58 yX1_freeLamps, Cond.instanceMethod yX1_freeLamps, Cond.selects RX1 yX1_freeLamps yX1_freeLamps, Cond.code yX1_freeLamps cX1_freeLamps 1 (some .int), Cond.methodLink RX2 61 yX1_quietPattern, Cond.instanceMethod yX1_quietPattern, Cond.selects RX1 yX1_quietPattern yX1_quietPattern, Cond.code yX1_quietPattern cX1_quietPattern 2 (some (.array .int)), Cond.methodLink RX2 65 yX2_addToTried, Cond.instanceMethod yX2_addToTried, Cond.selects RX2 yX2_addToTried yX2_addToTried, Cond.code yX2_addToTried cX2_addToTried 4 none, Cond.methodLink RX2 44 yX2_keepIfLess]
def wsX3_fewest_r6 : List Cond := [Cond.instanceMethod yX2_keepIfLess, Cond.selects RX2 yX2_keepIfLess yX2_keepIfLess, Cond.code yX2_keepIfLess cX2_keepIfLess 2 none, Cond.methodLink RX2 69 yX2_triedIsAhead, Cond.instanceMethod yX2_triedIsAhead, Cond.selects RX2 yX2_triedIsAhead yX2_triedIsAhead, Cond.code yX2_triedIsAhead cX2_triedIsAhead 2 (some .boolean), Cond.methodLink RX3 117 yX2_leastTotal, Cond.instanceMethod yX2_leastTotal, Cond.selects RX2 yX2_leastTotal yX2_leastTotal, Cond.code yX2_leastTotal cX2_leastTotal 1 (some .int)]
def wsX3_fewest : List Cond := .code yX3_fewest cX3_fewest 1 (some .int) :: ((wsX3_fewest_r1 ++ (wsX3_fewest_r2 ++ (wsX3_fewest_r3 ++ (wsX3_fewest_r4 ++ (wsX3_fewest_r5 ++ wsX3_fewest_r6))))) ++ wsX30 ++ wsX10 ++ wsX20)
def wsX3_best_r1 : List Cond := [Cond.fieldLink RX3 51 "LightRows" "search" "LLightRows$Search;", Cond.methodLink RX3 69 yX3_mustExist, Cond.instanceMethod yX3_mustExist, Cond.selects RX3 yX3_mustExist yX3_mustExist, Cond.initialized RX3, Cond.code yX3_mustExist cX3_mustExist 2 none, Cond.fieldLink RX3 18 "LightRows" "lamps" "I", Cond.classLink RX3 123 RJx00060, Cond.instantiable RJx00060 6, Cond.initialized RJx00060, Cond.methodLink RX3 114 yX3_seek, Cond.instanceMethod yX3_seek, Cond.selects RX3 yX3_seek yX3_seek, Cond.code yX3_seek cX3_seek 1 none, Cond.fieldLink RX3 66 "LightRows" "searched" "Z", Cond.fieldLink RX3 44 "LightRows" "equations" "LLightRows$Equations;", Cond.methodLink RX3 84 yX3_work, Cond.instanceMethod yX3_work, Cond.selects RX3 yX3_work yX3_work, Cond.code yX3_work cX3_work 1 none, Cond.fieldLink RX3 62 "LightRows" "worked" "Z", Cond.fieldLink RX3 36 "LightRows" "touched" "[I", Cond.fieldLink RX3 29 "LightRows" "now" "[I", Cond.fieldLink RX3 33 "LightRows" "wanted" "[I"]
def wsX3_best_r2 : List Cond := [Cond.methodLink RX3 130 yX1_take, Cond.instanceMethod yX1_take, Cond.selects RX1 yX1_take yX1_take, Cond.initialized RX1, Cond.code yX1_take cX1_take 7 none, Cond.fieldLink RX1 9 "LightRows$Equations" "size" "I", Cond.fieldLink RX1 20 "LightRows$Equations" "rows" "[[I", Cond.fieldLink RX1 15 "LightRows$Equations" "modulus" "I", Cond.methodLink RX3 134 yX1_reduce, Cond.instanceMethod yX1_reduce, Cond.selects RX1 yX1_reduce yX1_reduce, Cond.code yX1_reduce cX1_reduce 3 none, Cond.fieldLink RX1 30 "LightRows$Equations" "bound" "I", Cond.fieldLink RX1 23 "LightRows$Equations" "rowOf" "[I", Cond.methodLink RX1 36 yX1_unusedRowWith, Cond.instanceMethod yX1_unusedRowWith, Cond.selects RX1 yX1_unusedRowWith yX1_unusedRowWith, Cond.code yX1_unusedRowWith cX1_unusedRowWith 3 (some .int), Cond.methodLink RX1 40 yX1_swap, Cond.instanceMethod yX1_swap, Cond.selects RX1 yX1_swap yX1_swap, Cond.code yX1_swap cX1_swap 4 none, Cond.methodLink RX1 44 yX1_makeUnit, Cond.instanceMethod yX1_makeUnit]
def wsX3_best_r3 : List Cond := [Cond.selects RX1 yX1_makeUnit yX1_makeUnit, Cond.code yX1_makeUnit cX1_makeUnit 5 none, Cond.methodLink RX1 58 yX1_inverse, Cond.instanceMethod yX1_inverse, Cond.selects RX1 yX1_inverse yX1_inverse, Cond.code yX1_inverse cX1_inverse 3 (some .int), Cond.methodLink RX1 48 yX1_clearElsewhere, Cond.instanceMethod yX1_clearElsewhere, Cond.selects RX1 yX1_clearElsewhere yX1_clearElsewhere, Cond.code yX1_clearElsewhere cX1_clearElsewhere 4 none, Cond.methodLink RX1 61 yX1_addMultiple, Cond.instanceMethod yX1_addMultiple, Cond.selects RX1 yX1_addMultiple yX1_addMultiple, Cond.code yX1_addMultiple cX1_addMultiple 5 none, Cond.methodLink RX1 51 yX1_readQuietPatterns, Cond.instanceMethod yX1_readQuietPatterns, Cond.selects RX1 yX1_readQuietPatterns yX1_readQuietPatterns, Cond.code yX1_readQuietPatterns cX1_readQuietPatterns 2 none, Cond.fieldLink RX1 33 "LightRows$Equations" "free" "I", Cond.fieldLink RX1 27 "LightRows$Equations" "quietPatterns" "[[I", Cond.methodLink RX1 65 yX1_readQuietPattern, Cond.instanceMethod yX1_readQuietPattern, Cond.selects RX1 yX1_readQuietPattern yX1_readQuietPattern, Cond.code yX1_readQuietPattern cX1_readQuietPattern 5 none]
def wsX3_best_r4 : List Cond := [Cond.methodLink RX3 137 yX2_run, Cond.instanceMethod yX2_run, Cond.selects RX2 yX2_run yX2_run, Cond.initialized RX2, Cond.code yX2_run cX2_run 4 none, Cond.fieldLink RX2 28 "LightRows$Search" "total" "I", Cond.methodLink RX2 31 yX1_answersUpTo, Cond.instanceMethod yX1_answersUpTo, Cond.selects RX1 yX1_answersUpTo yX1_answersUpTo, Cond.code yX1_answersUpTo cX1_answersUpTo 4 (some .int), Cond.methodLink RX1 54 yX1_agree, Cond.instanceMethod yX1_agree, Cond.selects RX1 yX1_agree yX1_agree, Cond.code yX1_agree cX1_agree 2 (some .boolean), Cond.methodLink RX2 37 yX2_begin, Cond.instanceMethod yX2_begin, Cond.selects RX2 yX2_begin yX2_begin, Cond.code yX2_begin cX2_begin 3 none, Cond.fieldLink RX2 9 "LightRows$Search" "size" "I", Cond.fieldLink RX2 18 "LightRows$Search" "tried" "[I", Cond.fieldLink RX2 25 "LightRows$Search" "turns" "[I", Cond.methodLink RX2 47 yX1_pressesOf, Cond.instanceMethod yX1_pressesOf, Cond.selects RX1 yX1_pressesOf yX1_pressesOf]
def wsX3_best_r5 : List Cond := [Cond.code yX1_pressesOf cX1_pressesOf 3 (some .int), Cond.methodLink RX2 50 yX2_totalTried, Cond.instanceMethod yX2_totalTried, Cond.selects RX2 yX2_totalTried yX2_totalTried, Cond.code yX2_totalTried cX2_totalTried 3 (some .int), Cond.methodLink RX2 54 yX2_keep, Cond.instanceMethod yX2_keep, Cond.selects RX2 yX2_keep yX2_keep, Cond.code yX2_keep cX2_keep 2 none, Cond.fieldLink RX2 22 "LightRows$Search" "least" "[I", Cond.methodLink RX2 73 arraycopyName, Cond.native arraycopyName, Cond.static arraycopyName, Cond.initialized "java/lang/System", Cond.methodLink RX2 41 yX2_advance, Cond.instanceMethod yX2_advance, Cond.selects RX2 yX2_advance yX2_advance, Cond.code yX2_advance cX2_advance 3 none, Cond.fieldLink RX2 15 "LightRows$Search" "modulus" "I", Cond.methodLink RX2 58 yX1_freeLamps, Cond.instanceMethod yX1_freeLamps, Cond.selects RX1 yX1_freeLamps yX1_freeLamps, Cond.code yX1_freeLamps cX1_freeLamps 1 (some .int), Cond.methodLink RX2 61 yX1_quietPattern]
def wsX3_best_r6 : List Cond := [Cond.instanceMethod yX1_quietPattern, Cond.selects RX1 yX1_quietPattern yX1_quietPattern, Cond.code yX1_quietPattern cX1_quietPattern 2 (some (.array .int)), Cond.methodLink RX2 65 yX2_addToTried, Cond.instanceMethod yX2_addToTried, Cond.selects RX2 yX2_addToTried yX2_addToTried, Cond.code yX2_addToTried cX2_addToTried 4 none, Cond.methodLink RX2 44 yX2_keepIfLess, Cond.instanceMethod yX2_keepIfLess, Cond.selects RX2 yX2_keepIfLess yX2_keepIfLess, Cond.code yX2_keepIfLess cX2_keepIfLess 2 none, Cond.methodLink RX2 69 yX2_triedIsAhead, Cond.instanceMethod yX2_triedIsAhead, Cond.selects RX2 yX2_triedIsAhead yX2_triedIsAhead, Cond.code yX2_triedIsAhead cX2_triedIsAhead 2 (some .boolean), Cond.methodLink RX3 117 yX2_leastTotal, Cond.instanceMethod yX2_leastTotal, Cond.selects RX2 yX2_leastTotal yX2_leastTotal, Cond.code yX2_leastTotal cX2_leastTotal 1 (some .int), Cond.methodLink RX3 120 yX2_leastPresses, Cond.instanceMethod yX2_leastPresses, Cond.selects RX2 yX2_leastPresses yX2_leastPresses, Cond.code yX2_leastPresses cX2_leastPresses 2 (some .int)]
def wsX3_best : List Cond := .code yX3_best cX3_best 2 (some .int) :: ((wsX3_best_r1 ++ (wsX3_best_r2 ++ (wsX3_best_r3 ++ (wsX3_best_r4 ++ (wsX3_best_r5 ++ wsX3_best_r6))))) ++ wsX30 ++ wsJx000600 ++ wsX10 ++ wsX20)
def wsX3_alone_r1 : List Cond := [Cond.fieldLink RX3 44 "LightRows" "equations" "LLightRows$Equations;", Cond.methodLink RX3 69 yX3_mustExist, Cond.instanceMethod yX3_mustExist, Cond.selects RX3 yX3_mustExist yX3_mustExist, Cond.initialized RX3, Cond.code yX3_mustExist cX3_mustExist 2 none, Cond.fieldLink RX3 18 "LightRows" "lamps" "I", Cond.classLink RX3 123 RJx00060, Cond.instantiable RJx00060 6, Cond.initialized RJx00060, Cond.methodLink RX3 84 yX3_work, Cond.instanceMethod yX3_work, Cond.selects RX3 yX3_work yX3_work, Cond.code yX3_work cX3_work 1 none, Cond.fieldLink RX3 62 "LightRows" "worked" "Z", Cond.fieldLink RX3 36 "LightRows" "touched" "[I", Cond.fieldLink RX3 29 "LightRows" "now" "[I", Cond.fieldLink RX3 33 "LightRows" "wanted" "[I", Cond.methodLink RX3 130 yX1_take, Cond.instanceMethod yX1_take, Cond.selects RX1 yX1_take yX1_take, Cond.initialized RX1, Cond.code yX1_take cX1_take 7 none, Cond.fieldLink RX1 9 "LightRows$Equations" "size" "I"]
def wsX3_alone_r2 : List Cond := [Cond.fieldLink RX1 20 "LightRows$Equations" "rows" "[[I", Cond.fieldLink RX1 15 "LightRows$Equations" "modulus" "I", Cond.methodLink RX3 134 yX1_reduce, Cond.instanceMethod yX1_reduce, Cond.selects RX1 yX1_reduce yX1_reduce, Cond.code yX1_reduce cX1_reduce 3 none, Cond.fieldLink RX1 30 "LightRows$Equations" "bound" "I", Cond.fieldLink RX1 23 "LightRows$Equations" "rowOf" "[I", Cond.methodLink RX1 36 yX1_unusedRowWith, Cond.instanceMethod yX1_unusedRowWith, Cond.selects RX1 yX1_unusedRowWith yX1_unusedRowWith, Cond.code yX1_unusedRowWith cX1_unusedRowWith 3 (some .int), Cond.methodLink RX1 40 yX1_swap, Cond.instanceMethod yX1_swap, Cond.selects RX1 yX1_swap yX1_swap, Cond.code yX1_swap cX1_swap 4 none, Cond.methodLink RX1 44 yX1_makeUnit, Cond.instanceMethod yX1_makeUnit, Cond.selects RX1 yX1_makeUnit yX1_makeUnit, Cond.code yX1_makeUnit cX1_makeUnit 5 none, Cond.methodLink RX1 58 yX1_inverse, Cond.instanceMethod yX1_inverse, Cond.selects RX1 yX1_inverse yX1_inverse, Cond.code yX1_inverse cX1_inverse 3 (some .int)]
def wsX3_alone_r3 : List Cond := [Cond.methodLink RX1 48 yX1_clearElsewhere, Cond.instanceMethod yX1_clearElsewhere, Cond.selects RX1 yX1_clearElsewhere yX1_clearElsewhere, Cond.code yX1_clearElsewhere cX1_clearElsewhere 4 none, Cond.methodLink RX1 61 yX1_addMultiple, Cond.instanceMethod yX1_addMultiple, Cond.selects RX1 yX1_addMultiple yX1_addMultiple, Cond.code yX1_addMultiple cX1_addMultiple 5 none, Cond.methodLink RX1 51 yX1_readQuietPatterns, Cond.instanceMethod yX1_readQuietPatterns, Cond.selects RX1 yX1_readQuietPatterns yX1_readQuietPatterns, Cond.code yX1_readQuietPatterns cX1_readQuietPatterns 2 none, Cond.fieldLink RX1 33 "LightRows$Equations" "free" "I", Cond.fieldLink RX1 27 "LightRows$Equations" "quietPatterns" "[[I", Cond.methodLink RX1 65 yX1_readQuietPattern, Cond.instanceMethod yX1_readQuietPattern, Cond.selects RX1 yX1_readQuietPattern yX1_readQuietPattern, Cond.code yX1_readQuietPattern cX1_readQuietPattern 5 none, Cond.methodLink RX3 98 yX1_freeLamps, Cond.instanceMethod yX1_freeLamps, Cond.selects RX1 yX1_freeLamps yX1_freeLamps, Cond.code yX1_freeLamps cX1_freeLamps 1 (some .int), Cond.methodLink RX3 101 yX1_quietPattern, Cond.instanceMethod yX1_quietPattern]
def wsX3_alone_r4 : List Cond := [Cond.selects RX1 yX1_quietPattern yX1_quietPattern, Cond.code yX1_quietPattern cX1_quietPattern 2 (some (.array .int))]
def wsX3_alone : List Cond := .code yX3_alone cX3_alone 3 (some .boolean) :: ((wsX3_alone_r1 ++ (wsX3_alone_r2 ++ (wsX3_alone_r3 ++ wsX3_alone_r4))) ++ wsX30 ++ wsJx000600 ++ wsX10)
def wsX3_clear : List Cond := .code yX3_clear cX3_clear 2 none :: ([.fieldLink RX3 18 "LightRows" "lamps" "I", .fieldLink RX3 29 "LightRows" "now" "[I", .fieldLink RX3 33 "LightRows" "wanted" "[I", .methodLink RX3 77 yX3_forget, .instanceMethod yX3_forget, .selects RX3 yX3_forget yX3_forget, .initialized RX3, .code yX3_forget cX3_forget 1 none, .fieldLink RX3 62 "LightRows" "worked" "Z", .fieldLink RX3 66 "LightRows" "searched" "Z"] ++ wsX30)
def wsX4_init : List Cond := .code yX4_init cX4_init 3 none :: ([.methodLink RX4 1 objectInit, .instanceMethod objectInit, .code objectInit ⟨#[0xb1]⟩ 1 none, .arrayClass .boolean, .fieldLink RX4 7 "LightRowsModel" "joined" "[Z", .fieldLink RX4 13 "LightRowsModel" "isNotSelf" "[Z", .arrayClass .int, .fieldLink RX4 16 "LightRowsModel" "states" "[I", .fieldLink RX4 20 "LightRowsModel" "wanted" "[I", .fieldLink RX4 23 "LightRowsModel" "rows" "[I", .fieldLink RX4 26 "LightRowsModel" "presses" "[I", .fieldLink RX4 29 "LightRowsModel" "heads" "[I", .fieldLink RX4 32 "LightRowsModel" "isBound" "[Z", .fieldLink RX4 35 "LightRowsModel" "rest" "[I", .fieldLink RX4 38 "LightRowsModel" "by" "[I", .fieldLink RX4 41 "LightRowsModel" "answer" "[I", .fieldLink RX4 44 "LightRowsModel" "quiet" "[I", .fieldLink RX4 47 "LightRowsModel" "best" "[I", .fieldLink RX4 50 "LightRowsModel" "tried" "[I", .fieldLink RX4 53 "LightRowsModel" "digits" "[I", .fieldLink RX4 56 "LightRowsModel" "lamps" "I", .fieldLink RX4 60 "LightRowsModel" "p" "I"] ++ wsX40)
def wsX4_thrown : List Cond := .code yX4_thrown cX4_thrown 1 (some .int) :: ([.fieldLink RX4 63 "LightRowsModel" "thrown" "I"] ++ wsX40)
def wsX4_fails : List Cond := .code yX4_fails cX4_fails 2 (some .boolean) :: ([.fieldLink RX4 63 "LightRowsModel" "thrown" "I"] ++ wsX40)
def wsX4_isLamp : List Cond := .code yX4_isLamp cX4_isLamp 2 (some .boolean) :: ([.fieldLink RX4 56 "LightRowsModel" "lamps" "I"] ++ wsX40)
def wsX4_isState : List Cond := .code yX4_isState cX4_isState 2 (some .boolean) :: ([.fieldLink RX4 60 "LightRowsModel" "p" "I"] ++ wsX40)
def wsX4_join : List Cond := .code yX4_join cX4_join 3 (some .boolean) :: ([.fieldLink RX4 7 "LightRowsModel" "joined" "[Z", .fieldLink RX4 74 "LightRowsModel" "isKnown" "Z", .methodLink RX4 66 yX4_isLamp, .instanceMethod yX4_isLamp, .selects RX4 yX4_isLamp yX4_isLamp, .initialized RX4, .code yX4_isLamp cX4_isLamp 2 (some .boolean), .fieldLink RX4 56 "LightRowsModel" "lamps" "I", .methodLink RX4 70 yX4_fails, .instanceMethod yX4_fails, .selects RX4 yX4_fails yX4_fails, .code yX4_fails cX4_fails 2 (some .boolean), .fieldLink RX4 63 "LightRowsModel" "thrown" "I"] ++ wsX40)
def wsX4_self : List Cond := .code yX4_self cX4_self 3 (some .boolean) :: ([.fieldLink RX4 13 "LightRowsModel" "isNotSelf" "[Z", .fieldLink RX4 74 "LightRowsModel" "isKnown" "Z", .methodLink RX4 66 yX4_isLamp, .instanceMethod yX4_isLamp, .selects RX4 yX4_isLamp yX4_isLamp, .initialized RX4, .code yX4_isLamp cX4_isLamp 2 (some .boolean), .fieldLink RX4 56 "LightRowsModel" "lamps" "I", .methodLink RX4 70 yX4_fails, .instanceMethod yX4_fails, .selects RX4 yX4_fails yX4_fails, .code yX4_fails cX4_fails 2 (some .boolean), .fieldLink RX4 63 "LightRowsModel" "thrown" "I"] ++ wsX40)
def wsX4_set : List Cond := .code yX4_set cX4_set 3 (some .boolean) :: ([.fieldLink RX4 16 "LightRowsModel" "states" "[I", .methodLink RX4 66 yX4_isLamp, .instanceMethod yX4_isLamp, .selects RX4 yX4_isLamp yX4_isLamp, .initialized RX4, .code yX4_isLamp cX4_isLamp 2 (some .boolean), .fieldLink RX4 56 "LightRowsModel" "lamps" "I", .methodLink RX4 70 yX4_fails, .instanceMethod yX4_fails, .selects RX4 yX4_fails yX4_fails, .code yX4_fails cX4_fails 2 (some .boolean), .fieldLink RX4 63 "LightRowsModel" "thrown" "I", .methodLink RX4 78 yX4_isState, .instanceMethod yX4_isState, .selects RX4 yX4_isState yX4_isState, .code yX4_isState cX4_isState 2 (some .boolean), .fieldLink RX4 60 "LightRowsModel" "p" "I"] ++ wsX40)
def wsX4_want : List Cond := .code yX4_want cX4_want 3 (some .boolean) :: ([.fieldLink RX4 20 "LightRowsModel" "wanted" "[I", .methodLink RX4 66 yX4_isLamp, .instanceMethod yX4_isLamp, .selects RX4 yX4_isLamp yX4_isLamp, .initialized RX4, .code yX4_isLamp cX4_isLamp 2 (some .boolean), .fieldLink RX4 56 "LightRowsModel" "lamps" "I", .methodLink RX4 70 yX4_fails, .instanceMethod yX4_fails, .selects RX4 yX4_fails yX4_fails, .code yX4_fails cX4_fails 2 (some .boolean), .fieldLink RX4 63 "LightRowsModel" "thrown" "I", .methodLink RX4 78 yX4_isState, .instanceMethod yX4_isState, .selects RX4 yX4_isState yX4_isState, .code yX4_isState cX4_isState 2 (some .boolean), .fieldLink RX4 60 "LightRowsModel" "p" "I"] ++ wsX40)
def wsX4_effect : List Cond := .code yX4_effect cX4_effect 3 (some .int) :: ([.fieldLink RX4 13 "LightRowsModel" "isNotSelf" "[Z", .fieldLink RX4 7 "LightRowsModel" "joined" "[Z"] ++ wsX40)
def wsX4_press : List Cond := .code yX4_press cX4_press 4 (some .boolean) :: ([.fieldLink RX4 56 "LightRowsModel" "lamps" "I", .fieldLink RX4 16 "LightRowsModel" "states" "[I", .fieldLink RX4 60 "LightRowsModel" "p" "I", .methodLink RX4 66 yX4_isLamp, .instanceMethod yX4_isLamp, .selects RX4 yX4_isLamp yX4_isLamp, .initialized RX4, .code yX4_isLamp cX4_isLamp 2 (some .boolean), .methodLink RX4 70 yX4_fails, .instanceMethod yX4_fails, .selects RX4 yX4_fails yX4_fails, .code yX4_fails cX4_fails 2 (some .boolean), .fieldLink RX4 63 "LightRowsModel" "thrown" "I", .methodLink RX4 81 yX4_effect, .instanceMethod yX4_effect, .selects RX4 yX4_effect yX4_effect, .code yX4_effect cX4_effect 3 (some .int), .fieldLink RX4 13 "LightRowsModel" "isNotSelf" "[Z", .fieldLink RX4 7 "LightRowsModel" "joined" "[Z"] ++ wsX40)
def wsX4_at : List Cond := .code yX4_at cX4_at 2 (some .int) :: ([.fieldLink RX4 16 "LightRowsModel" "states" "[I", .methodLink RX4 66 yX4_isLamp, .instanceMethod yX4_isLamp, .selects RX4 yX4_isLamp yX4_isLamp, .initialized RX4, .code yX4_isLamp cX4_isLamp 2 (some .boolean), .fieldLink RX4 56 "LightRowsModel" "lamps" "I", .methodLink RX4 70 yX4_fails, .instanceMethod yX4_fails, .selects RX4 yX4_fails yX4_fails, .code yX4_fails cX4_fails 2 (some .boolean), .fieldLink RX4 63 "LightRowsModel" "thrown" "I"] ++ wsX40)
def wsX4_apart : List Cond := .code yX4_apart cX4_apart 3 (some .int) :: ([.fieldLink RX4 63 "LightRowsModel" "thrown" "I", .fieldLink RX4 56 "LightRowsModel" "lamps" "I", .fieldLink RX4 16 "LightRowsModel" "states" "[I", .fieldLink RX4 20 "LightRowsModel" "wanted" "[I"] ++ wsX40)
def wsX4_clear : List Cond := .code yX4_clear cX4_clear 2 none :: ([.fieldLink RX4 63 "LightRowsModel" "thrown" "I", .fieldLink RX4 56 "LightRowsModel" "lamps" "I", .fieldLink RX4 16 "LightRowsModel" "states" "[I", .fieldLink RX4 20 "LightRowsModel" "wanted" "[I"] ++ wsX40)
def wsX4_inverse : List Cond := .code yX4_inverse cX4_inverse 3 (some .int) :: ([.fieldLink RX4 60 "LightRowsModel" "p" "I"] ++ wsX40)
def wsX4_takeApart : List Cond := .code yX4_takeApart cX4_takeApart 4 none :: ([.fieldLink RX4 56 "LightRowsModel" "lamps" "I", .fieldLink RX4 38 "LightRowsModel" "by" "[I", .fieldLink RX4 85 "LightRowsModel" "rank" "I", .fieldLink RX4 35 "LightRowsModel" "rest" "[I", .fieldLink RX4 29 "LightRowsModel" "heads" "[I", .fieldLink RX4 23 "LightRowsModel" "rows" "[I", .fieldLink RX4 60 "LightRowsModel" "p" "I", .fieldLink RX4 26 "LightRowsModel" "presses" "[I", .methodLink RX4 88 yX4_inverse, .instanceMethod yX4_inverse, .selects RX4 yX4_inverse yX4_inverse, .initialized RX4, .code yX4_inverse cX4_inverse 3 (some .int)] ++ wsX40)
def wsX4_left : List Cond := .code yX4_left cX4_left 2 (some .int) :: ([.fieldLink RX4 56 "LightRowsModel" "lamps" "I", .fieldLink RX4 35 "LightRowsModel" "rest" "[I"] ++ wsX40)
def wsX4_know_r1 : List Cond := [Cond.fieldLink RX4 74 "LightRowsModel" "isKnown" "Z", Cond.fieldLink RX4 85 "LightRowsModel" "rank" "I", Cond.fieldLink RX4 56 "LightRowsModel" "lamps" "I", Cond.fieldLink RX4 35 "LightRowsModel" "rest" "[I", Cond.fieldLink RX4 32 "LightRowsModel" "isBound" "[Z", Cond.fieldLink RX4 23 "LightRowsModel" "rows" "[I", Cond.fieldLink RX4 26 "LightRowsModel" "presses" "[I", Cond.fieldLink RX4 60 "LightRowsModel" "p" "I", Cond.fieldLink RX4 38 "LightRowsModel" "by" "[I", Cond.fieldLink RX4 29 "LightRowsModel" "heads" "[I", Cond.fieldLink RX4 44 "LightRowsModel" "quiet" "[I", Cond.methodLink RX4 81 yX4_effect, Cond.instanceMethod yX4_effect, Cond.selects RX4 yX4_effect yX4_effect, Cond.initialized RX4, Cond.code yX4_effect cX4_effect 3 (some .int), Cond.fieldLink RX4 13 "LightRowsModel" "isNotSelf" "[Z", Cond.fieldLink RX4 7 "LightRowsModel" "joined" "[Z", Cond.methodLink RX4 92 yX4_takeApart, Cond.instanceMethod yX4_takeApart, Cond.selects RX4 yX4_takeApart yX4_takeApart, Cond.code yX4_takeApart cX4_takeApart 4 none, Cond.methodLink RX4 88 yX4_inverse, Cond.instanceMethod yX4_inverse]
def wsX4_know_r2 : List Cond := [Cond.selects RX4 yX4_inverse yX4_inverse, Cond.code yX4_inverse cX4_inverse 3 (some .int), Cond.methodLink RX4 95 yX4_left, Cond.instanceMethod yX4_left, Cond.selects RX4 yX4_left yX4_left, Cond.code yX4_left cX4_left 2 (some .int)]
def wsX4_know : List Cond := .code yX4_know cX4_know 5 none :: ((wsX4_know_r1 ++ wsX4_know_r2) ++ wsX40)
def wsX4_rank_r1 : List Cond := [Cond.fieldLink RX4 63 "LightRowsModel" "thrown" "I", Cond.fieldLink RX4 85 "LightRowsModel" "rank" "I", Cond.methodLink RX4 99 yX4_know, Cond.instanceMethod yX4_know, Cond.selects RX4 yX4_know yX4_know, Cond.initialized RX4, Cond.code yX4_know cX4_know 5 none, Cond.fieldLink RX4 74 "LightRowsModel" "isKnown" "Z", Cond.fieldLink RX4 56 "LightRowsModel" "lamps" "I", Cond.fieldLink RX4 35 "LightRowsModel" "rest" "[I", Cond.fieldLink RX4 32 "LightRowsModel" "isBound" "[Z", Cond.fieldLink RX4 23 "LightRowsModel" "rows" "[I", Cond.fieldLink RX4 26 "LightRowsModel" "presses" "[I", Cond.fieldLink RX4 60 "LightRowsModel" "p" "I", Cond.fieldLink RX4 38 "LightRowsModel" "by" "[I", Cond.fieldLink RX4 29 "LightRowsModel" "heads" "[I", Cond.fieldLink RX4 44 "LightRowsModel" "quiet" "[I", Cond.methodLink RX4 81 yX4_effect, Cond.instanceMethod yX4_effect, Cond.selects RX4 yX4_effect yX4_effect, Cond.code yX4_effect cX4_effect 3 (some .int), Cond.fieldLink RX4 13 "LightRowsModel" "isNotSelf" "[Z", Cond.fieldLink RX4 7 "LightRowsModel" "joined" "[Z", Cond.methodLink RX4 92 yX4_takeApart]
def wsX4_rank_r2 : List Cond := [Cond.instanceMethod yX4_takeApart, Cond.selects RX4 yX4_takeApart yX4_takeApart, Cond.code yX4_takeApart cX4_takeApart 4 none, Cond.methodLink RX4 88 yX4_inverse, Cond.instanceMethod yX4_inverse, Cond.selects RX4 yX4_inverse yX4_inverse, Cond.code yX4_inverse cX4_inverse 3 (some .int), Cond.methodLink RX4 95 yX4_left, Cond.instanceMethod yX4_left, Cond.selects RX4 yX4_left yX4_left, Cond.code yX4_left cX4_left 2 (some .int)]
def wsX4_rank : List Cond := .code yX4_rank cX4_rank 1 (some .int) :: ((wsX4_rank_r1 ++ wsX4_rank_r2) ++ wsX40)
def wsX4_answers_r1 : List Cond := [Cond.fieldLink RX4 56 "LightRowsModel" "lamps" "I", Cond.fieldLink RX4 35 "LightRowsModel" "rest" "[I", Cond.fieldLink RX4 20 "LightRowsModel" "wanted" "[I", Cond.fieldLink RX4 60 "LightRowsModel" "p" "I", Cond.fieldLink RX4 16 "LightRowsModel" "states" "[I", Cond.fieldLink RX4 41 "LightRowsModel" "answer" "[I", Cond.fieldLink RX4 38 "LightRowsModel" "by" "[I", Cond.methodLink RX4 99 yX4_know, Cond.instanceMethod yX4_know, Cond.selects RX4 yX4_know yX4_know, Cond.initialized RX4, Cond.code yX4_know cX4_know 5 none, Cond.fieldLink RX4 74 "LightRowsModel" "isKnown" "Z", Cond.fieldLink RX4 85 "LightRowsModel" "rank" "I", Cond.fieldLink RX4 32 "LightRowsModel" "isBound" "[Z", Cond.fieldLink RX4 23 "LightRowsModel" "rows" "[I", Cond.fieldLink RX4 26 "LightRowsModel" "presses" "[I", Cond.fieldLink RX4 29 "LightRowsModel" "heads" "[I", Cond.fieldLink RX4 44 "LightRowsModel" "quiet" "[I", Cond.methodLink RX4 81 yX4_effect, Cond.instanceMethod yX4_effect, Cond.selects RX4 yX4_effect yX4_effect, Cond.code yX4_effect cX4_effect 3 (some .int), Cond.fieldLink RX4 13 "LightRowsModel" "isNotSelf" "[Z"]
def wsX4_answers_r2 : List Cond := [Cond.fieldLink RX4 7 "LightRowsModel" "joined" "[Z", Cond.methodLink RX4 92 yX4_takeApart, Cond.instanceMethod yX4_takeApart, Cond.selects RX4 yX4_takeApart yX4_takeApart, Cond.code yX4_takeApart cX4_takeApart 4 none, Cond.methodLink RX4 88 yX4_inverse, Cond.instanceMethod yX4_inverse, Cond.selects RX4 yX4_inverse yX4_inverse, Cond.code yX4_inverse cX4_inverse 3 (some .int), Cond.methodLink RX4 95 yX4_left, Cond.instanceMethod yX4_left, Cond.selects RX4 yX4_left yX4_left, Cond.code yX4_left cX4_left 2 (some .int)]
def wsX4_answers : List Cond := .code yX4_answers cX4_answers 2 (some .boolean) :: ((wsX4_answers_r1 ++ wsX4_answers_r2) ++ wsX40)
def wsX4_solvable_r1 : List Cond := [Cond.fieldLink RX4 63 "LightRowsModel" "thrown" "I", Cond.methodLink RX4 102 yX4_answers, Cond.instanceMethod yX4_answers, Cond.selects RX4 yX4_answers yX4_answers, Cond.initialized RX4, Cond.code yX4_answers cX4_answers 2 (some .boolean), Cond.fieldLink RX4 56 "LightRowsModel" "lamps" "I", Cond.fieldLink RX4 35 "LightRowsModel" "rest" "[I", Cond.fieldLink RX4 20 "LightRowsModel" "wanted" "[I", Cond.fieldLink RX4 60 "LightRowsModel" "p" "I", Cond.fieldLink RX4 16 "LightRowsModel" "states" "[I", Cond.fieldLink RX4 41 "LightRowsModel" "answer" "[I", Cond.fieldLink RX4 38 "LightRowsModel" "by" "[I", Cond.methodLink RX4 99 yX4_know, Cond.instanceMethod yX4_know, Cond.selects RX4 yX4_know yX4_know, Cond.code yX4_know cX4_know 5 none, Cond.fieldLink RX4 74 "LightRowsModel" "isKnown" "Z", Cond.fieldLink RX4 85 "LightRowsModel" "rank" "I", Cond.fieldLink RX4 32 "LightRowsModel" "isBound" "[Z", Cond.fieldLink RX4 23 "LightRowsModel" "rows" "[I", Cond.fieldLink RX4 26 "LightRowsModel" "presses" "[I", Cond.fieldLink RX4 29 "LightRowsModel" "heads" "[I", Cond.fieldLink RX4 44 "LightRowsModel" "quiet" "[I"]
def wsX4_solvable_r2 : List Cond := [Cond.methodLink RX4 81 yX4_effect, Cond.instanceMethod yX4_effect, Cond.selects RX4 yX4_effect yX4_effect, Cond.code yX4_effect cX4_effect 3 (some .int), Cond.fieldLink RX4 13 "LightRowsModel" "isNotSelf" "[Z", Cond.fieldLink RX4 7 "LightRowsModel" "joined" "[Z", Cond.methodLink RX4 92 yX4_takeApart, Cond.instanceMethod yX4_takeApart, Cond.selects RX4 yX4_takeApart yX4_takeApart, Cond.code yX4_takeApart cX4_takeApart 4 none, Cond.methodLink RX4 88 yX4_inverse, Cond.instanceMethod yX4_inverse, Cond.selects RX4 yX4_inverse yX4_inverse, Cond.code yX4_inverse cX4_inverse 3 (some .int), Cond.methodLink RX4 95 yX4_left, Cond.instanceMethod yX4_left, Cond.selects RX4 yX4_left yX4_left, Cond.code yX4_left cX4_left 2 (some .int)]
def wsX4_solvable : List Cond := .code yX4_solvable cX4_solvable 1 (some .boolean) :: ((wsX4_solvable_r1 ++ wsX4_solvable_r2) ++ wsX40)
def wsX4_answer_r1 : List Cond := [Cond.fieldLink RX4 41 "LightRowsModel" "answer" "[I", Cond.methodLink RX4 66 yX4_isLamp, Cond.instanceMethod yX4_isLamp, Cond.selects RX4 yX4_isLamp yX4_isLamp, Cond.initialized RX4, Cond.code yX4_isLamp cX4_isLamp 2 (some .boolean), Cond.fieldLink RX4 56 "LightRowsModel" "lamps" "I", Cond.methodLink RX4 70 yX4_fails, Cond.instanceMethod yX4_fails, Cond.selects RX4 yX4_fails yX4_fails, Cond.code yX4_fails cX4_fails 2 (some .boolean), Cond.fieldLink RX4 63 "LightRowsModel" "thrown" "I", Cond.methodLink RX4 102 yX4_answers, Cond.instanceMethod yX4_answers, Cond.selects RX4 yX4_answers yX4_answers, Cond.code yX4_answers cX4_answers 2 (some .boolean), Cond.fieldLink RX4 35 "LightRowsModel" "rest" "[I", Cond.fieldLink RX4 20 "LightRowsModel" "wanted" "[I", Cond.fieldLink RX4 60 "LightRowsModel" "p" "I", Cond.fieldLink RX4 16 "LightRowsModel" "states" "[I", Cond.fieldLink RX4 38 "LightRowsModel" "by" "[I", Cond.methodLink RX4 99 yX4_know, Cond.instanceMethod yX4_know, Cond.selects RX4 yX4_know yX4_know]
def wsX4_answer_r2 : List Cond := [Cond.code yX4_know cX4_know 5 none, Cond.fieldLink RX4 74 "LightRowsModel" "isKnown" "Z", Cond.fieldLink RX4 85 "LightRowsModel" "rank" "I", Cond.fieldLink RX4 32 "LightRowsModel" "isBound" "[Z", Cond.fieldLink RX4 23 "LightRowsModel" "rows" "[I", Cond.fieldLink RX4 26 "LightRowsModel" "presses" "[I", Cond.fieldLink RX4 29 "LightRowsModel" "heads" "[I", Cond.fieldLink RX4 44 "LightRowsModel" "quiet" "[I", Cond.methodLink RX4 81 yX4_effect, Cond.instanceMethod yX4_effect, Cond.selects RX4 yX4_effect yX4_effect, Cond.code yX4_effect cX4_effect 3 (some .int), Cond.fieldLink RX4 13 "LightRowsModel" "isNotSelf" "[Z", Cond.fieldLink RX4 7 "LightRowsModel" "joined" "[Z", Cond.methodLink RX4 92 yX4_takeApart, Cond.instanceMethod yX4_takeApart, Cond.selects RX4 yX4_takeApart yX4_takeApart, Cond.code yX4_takeApart cX4_takeApart 4 none, Cond.methodLink RX4 88 yX4_inverse, Cond.instanceMethod yX4_inverse, Cond.selects RX4 yX4_inverse yX4_inverse, Cond.code yX4_inverse cX4_inverse 3 (some .int), Cond.methodLink RX4 95 yX4_left, Cond.instanceMethod yX4_left]
def wsX4_answer_r3 : List Cond := [Cond.selects RX4 yX4_left yX4_left, Cond.code yX4_left cX4_left 2 (some .int)]
def wsX4_answer : List Cond := .code yX4_answer cX4_answer 2 (some .int) :: ((wsX4_answer_r1 ++ (wsX4_answer_r2 ++ wsX4_answer_r3)) ++ wsX40)
def wsX4_quiet_r1 : List Cond := [Cond.fieldLink RX4 56 "LightRowsModel" "lamps" "I", Cond.fieldLink RX4 85 "LightRowsModel" "rank" "I", Cond.fieldLink RX4 44 "LightRowsModel" "quiet" "[I", Cond.methodLink RX4 66 yX4_isLamp, Cond.instanceMethod yX4_isLamp, Cond.selects RX4 yX4_isLamp yX4_isLamp, Cond.initialized RX4, Cond.code yX4_isLamp cX4_isLamp 2 (some .boolean), Cond.methodLink RX4 70 yX4_fails, Cond.instanceMethod yX4_fails, Cond.selects RX4 yX4_fails yX4_fails, Cond.code yX4_fails cX4_fails 2 (some .boolean), Cond.fieldLink RX4 63 "LightRowsModel" "thrown" "I", Cond.methodLink RX4 99 yX4_know, Cond.instanceMethod yX4_know, Cond.selects RX4 yX4_know yX4_know, Cond.code yX4_know cX4_know 5 none, Cond.fieldLink RX4 74 "LightRowsModel" "isKnown" "Z", Cond.fieldLink RX4 35 "LightRowsModel" "rest" "[I", Cond.fieldLink RX4 32 "LightRowsModel" "isBound" "[Z", Cond.fieldLink RX4 23 "LightRowsModel" "rows" "[I", Cond.fieldLink RX4 26 "LightRowsModel" "presses" "[I", Cond.fieldLink RX4 60 "LightRowsModel" "p" "I", Cond.fieldLink RX4 38 "LightRowsModel" "by" "[I"]
def wsX4_quiet_r2 : List Cond := [Cond.fieldLink RX4 29 "LightRowsModel" "heads" "[I", Cond.methodLink RX4 81 yX4_effect, Cond.instanceMethod yX4_effect, Cond.selects RX4 yX4_effect yX4_effect, Cond.code yX4_effect cX4_effect 3 (some .int), Cond.fieldLink RX4 13 "LightRowsModel" "isNotSelf" "[Z", Cond.fieldLink RX4 7 "LightRowsModel" "joined" "[Z", Cond.methodLink RX4 92 yX4_takeApart, Cond.instanceMethod yX4_takeApart, Cond.selects RX4 yX4_takeApart yX4_takeApart, Cond.code yX4_takeApart cX4_takeApart 4 none, Cond.methodLink RX4 88 yX4_inverse, Cond.instanceMethod yX4_inverse, Cond.selects RX4 yX4_inverse yX4_inverse, Cond.code yX4_inverse cX4_inverse 3 (some .int), Cond.methodLink RX4 95 yX4_left, Cond.instanceMethod yX4_left, Cond.selects RX4 yX4_left yX4_left, Cond.code yX4_left cX4_left 2 (some .int)]
def wsX4_quiet : List Cond := .code yX4_quiet cX4_quiet 3 (some .int) :: ((wsX4_quiet_r1 ++ wsX4_quiet_r2) ++ wsX40)
def wsX4_count_r1 : List Cond := [Cond.fieldLink RX4 63 "LightRowsModel" "thrown" "I", Cond.fieldLink RX4 53 "LightRowsModel" "digits" "[I", Cond.fieldLink RX4 56 "LightRowsModel" "lamps" "I", Cond.fieldLink RX4 85 "LightRowsModel" "rank" "I", Cond.fieldLink RX4 60 "LightRowsModel" "p" "I", Cond.methodLink RX4 102 yX4_answers, Cond.instanceMethod yX4_answers, Cond.selects RX4 yX4_answers yX4_answers, Cond.initialized RX4, Cond.code yX4_answers cX4_answers 2 (some .boolean), Cond.fieldLink RX4 35 "LightRowsModel" "rest" "[I", Cond.fieldLink RX4 20 "LightRowsModel" "wanted" "[I", Cond.fieldLink RX4 16 "LightRowsModel" "states" "[I", Cond.fieldLink RX4 41 "LightRowsModel" "answer" "[I", Cond.fieldLink RX4 38 "LightRowsModel" "by" "[I", Cond.methodLink RX4 99 yX4_know, Cond.instanceMethod yX4_know, Cond.selects RX4 yX4_know yX4_know, Cond.code yX4_know cX4_know 5 none, Cond.fieldLink RX4 74 "LightRowsModel" "isKnown" "Z", Cond.fieldLink RX4 32 "LightRowsModel" "isBound" "[Z", Cond.fieldLink RX4 23 "LightRowsModel" "rows" "[I", Cond.fieldLink RX4 26 "LightRowsModel" "presses" "[I", Cond.fieldLink RX4 29 "LightRowsModel" "heads" "[I"]
def wsX4_count_r2 : List Cond := [Cond.fieldLink RX4 44 "LightRowsModel" "quiet" "[I", Cond.methodLink RX4 81 yX4_effect, Cond.instanceMethod yX4_effect, Cond.selects RX4 yX4_effect yX4_effect, Cond.code yX4_effect cX4_effect 3 (some .int), Cond.fieldLink RX4 13 "LightRowsModel" "isNotSelf" "[Z", Cond.fieldLink RX4 7 "LightRowsModel" "joined" "[Z", Cond.methodLink RX4 92 yX4_takeApart, Cond.instanceMethod yX4_takeApart, Cond.selects RX4 yX4_takeApart yX4_takeApart, Cond.code yX4_takeApart cX4_takeApart 4 none, Cond.methodLink RX4 88 yX4_inverse, Cond.instanceMethod yX4_inverse, Cond.selects RX4 yX4_inverse yX4_inverse, Cond.code yX4_inverse cX4_inverse 3 (some .int), Cond.methodLink RX4 95 yX4_left, Cond.instanceMethod yX4_left, Cond.selects RX4 yX4_left yX4_left, Cond.code yX4_left cX4_left 2 (some .int)]
def wsX4_count : List Cond := .code yX4_count cX4_count 8 (some .int) :: ((wsX4_count_r1 ++ wsX4_count_r2) ++ wsX40)
def wsX4_tryWay : List Cond := .code yX4_tryWay cX4_tryWay 6 (some .int) :: ([.fieldLink RX4 56 "LightRowsModel" "lamps" "I", .fieldLink RX4 50 "LightRowsModel" "tried" "[I", .fieldLink RX4 41 "LightRowsModel" "answer" "[I", .fieldLink RX4 60 "LightRowsModel" "p" "I", .fieldLink RX4 44 "LightRowsModel" "quiet" "[I"] ++ wsX40)
def wsX4_isLess : List Cond := .code yX4_isLess cX4_isLess 2 (some .boolean) :: ([.fieldLink RX4 56 "LightRowsModel" "lamps" "I", .fieldLink RX4 50 "LightRowsModel" "tried" "[I", .fieldLink RX4 47 "LightRowsModel" "best" "[I"] ++ wsX40)
def wsX4_findBest_r1 : List Cond := [Cond.fieldLink RX4 56 "LightRowsModel" "lamps" "I", Cond.fieldLink RX4 85 "LightRowsModel" "rank" "I", Cond.fieldLink RX4 60 "LightRowsModel" "p" "I", Cond.fieldLink RX4 47 "LightRowsModel" "best" "[I", Cond.fieldLink RX4 50 "LightRowsModel" "tried" "[I", Cond.methodLink RX4 102 yX4_answers, Cond.instanceMethod yX4_answers, Cond.selects RX4 yX4_answers yX4_answers, Cond.initialized RX4, Cond.code yX4_answers cX4_answers 2 (some .boolean), Cond.fieldLink RX4 35 "LightRowsModel" "rest" "[I", Cond.fieldLink RX4 20 "LightRowsModel" "wanted" "[I", Cond.fieldLink RX4 16 "LightRowsModel" "states" "[I", Cond.fieldLink RX4 41 "LightRowsModel" "answer" "[I", Cond.fieldLink RX4 38 "LightRowsModel" "by" "[I", Cond.methodLink RX4 99 yX4_know, Cond.instanceMethod yX4_know, Cond.selects RX4 yX4_know yX4_know, Cond.code yX4_know cX4_know 5 none, Cond.fieldLink RX4 74 "LightRowsModel" "isKnown" "Z", Cond.fieldLink RX4 32 "LightRowsModel" "isBound" "[Z", Cond.fieldLink RX4 23 "LightRowsModel" "rows" "[I", Cond.fieldLink RX4 26 "LightRowsModel" "presses" "[I", Cond.fieldLink RX4 29 "LightRowsModel" "heads" "[I"]
def wsX4_findBest_r2 : List Cond := [Cond.fieldLink RX4 44 "LightRowsModel" "quiet" "[I", Cond.methodLink RX4 81 yX4_effect, Cond.instanceMethod yX4_effect, Cond.selects RX4 yX4_effect yX4_effect, Cond.code yX4_effect cX4_effect 3 (some .int), Cond.fieldLink RX4 13 "LightRowsModel" "isNotSelf" "[Z", Cond.fieldLink RX4 7 "LightRowsModel" "joined" "[Z", Cond.methodLink RX4 92 yX4_takeApart, Cond.instanceMethod yX4_takeApart, Cond.selects RX4 yX4_takeApart yX4_takeApart, Cond.code yX4_takeApart cX4_takeApart 4 none, Cond.methodLink RX4 88 yX4_inverse, Cond.instanceMethod yX4_inverse, Cond.selects RX4 yX4_inverse yX4_inverse, Cond.code yX4_inverse cX4_inverse 3 (some .int), Cond.methodLink RX4 95 yX4_left, Cond.instanceMethod yX4_left, Cond.selects RX4 yX4_left yX4_left, Cond.code yX4_left cX4_left 2 (some .int), Cond.methodLink RX4 106 yX4_tryWay, Cond.instanceMethod yX4_tryWay, Cond.selects RX4 yX4_tryWay yX4_tryWay, Cond.code yX4_tryWay cX4_tryWay 6 (some .int), Cond.methodLink RX4 109 yX4_isLess]
def wsX4_findBest_r3 : List Cond := [Cond.instanceMethod yX4_isLess, Cond.selects RX4 yX4_isLess yX4_isLess, Cond.code yX4_isLess cX4_isLess 2 (some .boolean)]
def wsX4_findBest : List Cond := .code yX4_findBest cX4_findBest 6 (some .int) :: ((wsX4_findBest_r1 ++ (wsX4_findBest_r2 ++ wsX4_findBest_r3)) ++ wsX40)
def wsX4_fewest_r1 : List Cond := [Cond.fieldLink RX4 63 "LightRowsModel" "thrown" "I", Cond.methodLink RX4 112 yX4_findBest, Cond.instanceMethod yX4_findBest, Cond.selects RX4 yX4_findBest yX4_findBest, Cond.initialized RX4, Cond.code yX4_findBest cX4_findBest 6 (some .int), Cond.fieldLink RX4 56 "LightRowsModel" "lamps" "I", Cond.fieldLink RX4 85 "LightRowsModel" "rank" "I", Cond.fieldLink RX4 60 "LightRowsModel" "p" "I", Cond.fieldLink RX4 47 "LightRowsModel" "best" "[I", Cond.fieldLink RX4 50 "LightRowsModel" "tried" "[I", Cond.methodLink RX4 102 yX4_answers, Cond.instanceMethod yX4_answers, Cond.selects RX4 yX4_answers yX4_answers, Cond.code yX4_answers cX4_answers 2 (some .boolean), Cond.fieldLink RX4 35 "LightRowsModel" "rest" "[I", Cond.fieldLink RX4 20 "LightRowsModel" "wanted" "[I", Cond.fieldLink RX4 16 "LightRowsModel" "states" "[I", Cond.fieldLink RX4 41 "LightRowsModel" "answer" "[I", Cond.fieldLink RX4 38 "LightRowsModel" "by" "[I", Cond.methodLink RX4 99 yX4_know, Cond.instanceMethod yX4_know, Cond.selects RX4 yX4_know yX4_know, Cond.code yX4_know cX4_know 5 none]
def wsX4_fewest_r2 : List Cond := [Cond.fieldLink RX4 74 "LightRowsModel" "isKnown" "Z", Cond.fieldLink RX4 32 "LightRowsModel" "isBound" "[Z", Cond.fieldLink RX4 23 "LightRowsModel" "rows" "[I", Cond.fieldLink RX4 26 "LightRowsModel" "presses" "[I", Cond.fieldLink RX4 29 "LightRowsModel" "heads" "[I", Cond.fieldLink RX4 44 "LightRowsModel" "quiet" "[I", Cond.methodLink RX4 81 yX4_effect, Cond.instanceMethod yX4_effect, Cond.selects RX4 yX4_effect yX4_effect, Cond.code yX4_effect cX4_effect 3 (some .int), Cond.fieldLink RX4 13 "LightRowsModel" "isNotSelf" "[Z", Cond.fieldLink RX4 7 "LightRowsModel" "joined" "[Z", Cond.methodLink RX4 92 yX4_takeApart, Cond.instanceMethod yX4_takeApart, Cond.selects RX4 yX4_takeApart yX4_takeApart, Cond.code yX4_takeApart cX4_takeApart 4 none, Cond.methodLink RX4 88 yX4_inverse, Cond.instanceMethod yX4_inverse, Cond.selects RX4 yX4_inverse yX4_inverse, Cond.code yX4_inverse cX4_inverse 3 (some .int), Cond.methodLink RX4 95 yX4_left, Cond.instanceMethod yX4_left, Cond.selects RX4 yX4_left yX4_left, Cond.code yX4_left cX4_left 2 (some .int)]
def wsX4_fewest_r3 : List Cond := [Cond.methodLink RX4 106 yX4_tryWay, Cond.instanceMethod yX4_tryWay, Cond.selects RX4 yX4_tryWay yX4_tryWay, Cond.code yX4_tryWay cX4_tryWay 6 (some .int), Cond.methodLink RX4 109 yX4_isLess, Cond.instanceMethod yX4_isLess, Cond.selects RX4 yX4_isLess yX4_isLess, Cond.code yX4_isLess cX4_isLess 2 (some .boolean)]
def wsX4_fewest : List Cond := .code yX4_fewest cX4_fewest 1 (some .int) :: ((wsX4_fewest_r1 ++ (wsX4_fewest_r2 ++ wsX4_fewest_r3)) ++ wsX40)
def wsX4_best_r1 : List Cond := [Cond.fieldLink RX4 47 "LightRowsModel" "best" "[I", Cond.methodLink RX4 66 yX4_isLamp, Cond.instanceMethod yX4_isLamp, Cond.selects RX4 yX4_isLamp yX4_isLamp, Cond.initialized RX4, Cond.code yX4_isLamp cX4_isLamp 2 (some .boolean), Cond.fieldLink RX4 56 "LightRowsModel" "lamps" "I", Cond.methodLink RX4 70 yX4_fails, Cond.instanceMethod yX4_fails, Cond.selects RX4 yX4_fails yX4_fails, Cond.code yX4_fails cX4_fails 2 (some .boolean), Cond.fieldLink RX4 63 "LightRowsModel" "thrown" "I", Cond.methodLink RX4 112 yX4_findBest, Cond.instanceMethod yX4_findBest, Cond.selects RX4 yX4_findBest yX4_findBest, Cond.code yX4_findBest cX4_findBest 6 (some .int), Cond.fieldLink RX4 85 "LightRowsModel" "rank" "I", Cond.fieldLink RX4 60 "LightRowsModel" "p" "I", Cond.fieldLink RX4 50 "LightRowsModel" "tried" "[I", Cond.methodLink RX4 102 yX4_answers, Cond.instanceMethod yX4_answers, Cond.selects RX4 yX4_answers yX4_answers, Cond.code yX4_answers cX4_answers 2 (some .boolean), Cond.fieldLink RX4 35 "LightRowsModel" "rest" "[I"]
def wsX4_best_r2 : List Cond := [Cond.fieldLink RX4 20 "LightRowsModel" "wanted" "[I", Cond.fieldLink RX4 16 "LightRowsModel" "states" "[I", Cond.fieldLink RX4 41 "LightRowsModel" "answer" "[I", Cond.fieldLink RX4 38 "LightRowsModel" "by" "[I", Cond.methodLink RX4 99 yX4_know, Cond.instanceMethod yX4_know, Cond.selects RX4 yX4_know yX4_know, Cond.code yX4_know cX4_know 5 none, Cond.fieldLink RX4 74 "LightRowsModel" "isKnown" "Z", Cond.fieldLink RX4 32 "LightRowsModel" "isBound" "[Z", Cond.fieldLink RX4 23 "LightRowsModel" "rows" "[I", Cond.fieldLink RX4 26 "LightRowsModel" "presses" "[I", Cond.fieldLink RX4 29 "LightRowsModel" "heads" "[I", Cond.fieldLink RX4 44 "LightRowsModel" "quiet" "[I", Cond.methodLink RX4 81 yX4_effect, Cond.instanceMethod yX4_effect, Cond.selects RX4 yX4_effect yX4_effect, Cond.code yX4_effect cX4_effect 3 (some .int), Cond.fieldLink RX4 13 "LightRowsModel" "isNotSelf" "[Z", Cond.fieldLink RX4 7 "LightRowsModel" "joined" "[Z", Cond.methodLink RX4 92 yX4_takeApart, Cond.instanceMethod yX4_takeApart, Cond.selects RX4 yX4_takeApart yX4_takeApart, Cond.code yX4_takeApart cX4_takeApart 4 none]
def wsX4_best_r3 : List Cond := [Cond.methodLink RX4 88 yX4_inverse, Cond.instanceMethod yX4_inverse, Cond.selects RX4 yX4_inverse yX4_inverse, Cond.code yX4_inverse cX4_inverse 3 (some .int), Cond.methodLink RX4 95 yX4_left, Cond.instanceMethod yX4_left, Cond.selects RX4 yX4_left yX4_left, Cond.code yX4_left cX4_left 2 (some .int), Cond.methodLink RX4 106 yX4_tryWay, Cond.instanceMethod yX4_tryWay, Cond.selects RX4 yX4_tryWay yX4_tryWay, Cond.code yX4_tryWay cX4_tryWay 6 (some .int), Cond.methodLink RX4 109 yX4_isLess, Cond.instanceMethod yX4_isLess, Cond.selects RX4 yX4_isLess yX4_isLess, Cond.code yX4_isLess cX4_isLess 2 (some .boolean)]
def wsX4_best : List Cond := .code yX4_best cX4_best 3 (some .int) :: ((wsX4_best_r1 ++ (wsX4_best_r2 ++ wsX4_best_r3)) ++ wsX40)
def wsX4_alone_r1 : List Cond := [Cond.fieldLink RX4 56 "LightRowsModel" "lamps" "I", Cond.fieldLink RX4 35 "LightRowsModel" "rest" "[I", Cond.methodLink RX4 66 yX4_isLamp, Cond.instanceMethod yX4_isLamp, Cond.selects RX4 yX4_isLamp yX4_isLamp, Cond.initialized RX4, Cond.code yX4_isLamp cX4_isLamp 2 (some .boolean), Cond.methodLink RX4 70 yX4_fails, Cond.instanceMethod yX4_fails, Cond.selects RX4 yX4_fails yX4_fails, Cond.code yX4_fails cX4_fails 2 (some .boolean), Cond.fieldLink RX4 63 "LightRowsModel" "thrown" "I", Cond.methodLink RX4 99 yX4_know, Cond.instanceMethod yX4_know, Cond.selects RX4 yX4_know yX4_know, Cond.code yX4_know cX4_know 5 none, Cond.fieldLink RX4 74 "LightRowsModel" "isKnown" "Z", Cond.fieldLink RX4 85 "LightRowsModel" "rank" "I", Cond.fieldLink RX4 32 "LightRowsModel" "isBound" "[Z", Cond.fieldLink RX4 23 "LightRowsModel" "rows" "[I", Cond.fieldLink RX4 26 "LightRowsModel" "presses" "[I", Cond.fieldLink RX4 60 "LightRowsModel" "p" "I", Cond.fieldLink RX4 38 "LightRowsModel" "by" "[I", Cond.fieldLink RX4 29 "LightRowsModel" "heads" "[I"]
def wsX4_alone_r2 : List Cond := [Cond.fieldLink RX4 44 "LightRowsModel" "quiet" "[I", Cond.methodLink RX4 81 yX4_effect, Cond.instanceMethod yX4_effect, Cond.selects RX4 yX4_effect yX4_effect, Cond.code yX4_effect cX4_effect 3 (some .int), Cond.fieldLink RX4 13 "LightRowsModel" "isNotSelf" "[Z", Cond.fieldLink RX4 7 "LightRowsModel" "joined" "[Z", Cond.methodLink RX4 92 yX4_takeApart, Cond.instanceMethod yX4_takeApart, Cond.selects RX4 yX4_takeApart yX4_takeApart, Cond.code yX4_takeApart cX4_takeApart 4 none, Cond.methodLink RX4 88 yX4_inverse, Cond.instanceMethod yX4_inverse, Cond.selects RX4 yX4_inverse yX4_inverse, Cond.code yX4_inverse cX4_inverse 3 (some .int), Cond.methodLink RX4 95 yX4_left, Cond.instanceMethod yX4_left, Cond.selects RX4 yX4_left yX4_left, Cond.code yX4_left cX4_left 2 (some .int)]
def wsX4_alone : List Cond := .code yX4_alone cX4_alone 3 (some .boolean) :: ((wsX4_alone_r1 ++ wsX4_alone_r2) ++ wsX40)
def wsJx00060_init_a7421 : List Cond := .code yJx00060_init_a7421 cJx00060_init_a7421 2 none :: ([])
def wsJ9_max_7cf53 : List Cond := .code yJ9_max_7cf53 cJ9_max_7cf53 2 (some .int) :: ([])
def wsJ9_min_7cf53 : List Cond := .code yJ9_min_7cf53 cJ9_min_7cf53 2 (some .int) :: ([])
def wsL_cell : List Cond := .code yL_cell cL_cell 2 (some .int) :: ([])
def wsL_join : List Cond := .codeWith yL_join cL_join 5 (some .int) [(0, 17, 20, 13)] :: ([.methodLink RL 7 yX3_join, .instanceMethod yX3_join, .selects RX3 yX3_join yX3_join, .initialized RX3, .code yX3_join cX3_join 3 (some .boolean), .fieldLink RX3 36 "LightRows" "touched" "[I", .methodLink RX3 69 yX3_mustExist, .instanceMethod yX3_mustExist, .selects RX3 yX3_mustExist yX3_mustExist, .code yX3_mustExist cX3_mustExist 2 none, .fieldLink RX3 18 "LightRows" "lamps" "I", .classLink RX3 123 RJx00060, .instantiable RJx00060 6, .initialized RJx00060, .methodLink RX3 73 yX3_touches, .instanceMethod yX3_touches, .selects RX3 yX3_touches yX3_touches, .code yX3_touches cX3_touches 3 (some .boolean), .methodLink RX3 77 yX3_forget, .instanceMethod yX3_forget, .selects RX3 yX3_forget yX3_forget, .code yX3_forget cX3_forget 1 none, .fieldLink RX3 62 "LightRows" "worked" "Z", .fieldLink RX3 66 "LightRows" "searched" "Z"] ++ wsX30 ++ wsJx000600)
def wsL_self : List Cond := .codeWith yL_self cL_self 5 (some .int) [(0, 17, 20, 13)] :: ([.methodLink RL 15 yX3_self, .instanceMethod yX3_self, .selects RX3 yX3_self yX3_self, .initialized RX3, .code yX3_self cX3_self 3 (some .boolean), .fieldLink RX3 36 "LightRows" "touched" "[I", .methodLink RX3 69 yX3_mustExist, .instanceMethod yX3_mustExist, .selects RX3 yX3_mustExist yX3_mustExist, .code yX3_mustExist cX3_mustExist 2 none, .fieldLink RX3 18 "LightRows" "lamps" "I", .classLink RX3 123 RJx00060, .instantiable RJx00060 6, .initialized RJx00060, .methodLink RX3 73 yX3_touches, .instanceMethod yX3_touches, .selects RX3 yX3_touches yX3_touches, .code yX3_touches cX3_touches 3 (some .boolean), .methodLink RX3 77 yX3_forget, .instanceMethod yX3_forget, .selects RX3 yX3_forget yX3_forget, .code yX3_forget cX3_forget 1 none, .fieldLink RX3 62 "LightRows" "worked" "Z", .fieldLink RX3 66 "LightRows" "searched" "Z"] ++ wsX30 ++ wsJx000600)
def wsL_set_r1 : List Cond := [Cond.methodLink RL 19 yX3_set, Cond.instanceMethod yX3_set, Cond.selects RX3 yX3_set yX3_set, Cond.initialized RX3, Cond.code yX3_set cX3_set 3 (some .boolean), Cond.fieldLink RX3 29 "LightRows" "now" "[I", Cond.methodLink RX3 69 yX3_mustExist, Cond.instanceMethod yX3_mustExist, Cond.selects RX3 yX3_mustExist yX3_mustExist, Cond.code yX3_mustExist cX3_mustExist 2 none, Cond.fieldLink RX3 18 "LightRows" "lamps" "I", Cond.classLink RX3 123 RJx00060, Cond.instantiable RJx00060 6, Cond.initialized RJx00060, Cond.methodLink RX3 80 yX3_isState, Cond.instanceMethod yX3_isState, Cond.selects RX3 yX3_isState yX3_isState, Cond.code yX3_isState cX3_isState 2 (some .boolean), Cond.fieldLink RX3 26 "LightRows" "states" "I", Cond.methodLink RX3 77 yX3_forget, Cond.instanceMethod yX3_forget, Cond.selects RX3 yX3_forget yX3_forget, Cond.code yX3_forget cX3_forget 1 none, Cond.fieldLink RX3 62 "LightRows" "worked" "Z"]
def wsL_set_r2 : List Cond := [Cond.fieldLink RX3 66 "LightRows" "searched" "Z"]
def wsL_set : List Cond := .codeWith yL_set cL_set 5 (some .int) [(0, 17, 20, 13)] :: ((wsL_set_r1 ++ wsL_set_r2) ++ wsX30 ++ wsJx000600)
def wsL_want_r1 : List Cond := [Cond.methodLink RL 22 yX3_want, Cond.instanceMethod yX3_want, Cond.selects RX3 yX3_want yX3_want, Cond.initialized RX3, Cond.code yX3_want cX3_want 3 (some .boolean), Cond.fieldLink RX3 33 "LightRows" "wanted" "[I", Cond.methodLink RX3 69 yX3_mustExist, Cond.instanceMethod yX3_mustExist, Cond.selects RX3 yX3_mustExist yX3_mustExist, Cond.code yX3_mustExist cX3_mustExist 2 none, Cond.fieldLink RX3 18 "LightRows" "lamps" "I", Cond.classLink RX3 123 RJx00060, Cond.instantiable RJx00060 6, Cond.initialized RJx00060, Cond.methodLink RX3 80 yX3_isState, Cond.instanceMethod yX3_isState, Cond.selects RX3 yX3_isState yX3_isState, Cond.code yX3_isState cX3_isState 2 (some .boolean), Cond.fieldLink RX3 26 "LightRows" "states" "I", Cond.methodLink RX3 77 yX3_forget, Cond.instanceMethod yX3_forget, Cond.selects RX3 yX3_forget yX3_forget, Cond.code yX3_forget cX3_forget 1 none, Cond.fieldLink RX3 62 "LightRows" "worked" "Z"]
def wsL_want_r2 : List Cond := [Cond.fieldLink RX3 66 "LightRows" "searched" "Z"]
def wsL_want : List Cond := .codeWith yL_want cL_want 5 (some .int) [(0, 17, 20, 13)] :: ((wsL_want_r1 ++ wsL_want_r2) ++ wsX30 ++ wsJx000600)
def wsL_press_r1 : List Cond := [Cond.methodLink RL 25 yX3_press, Cond.instanceMethod yX3_press, Cond.selects RX3 yX3_press yX3_press, Cond.initialized RX3, Cond.code yX3_press cX3_press 4 (some .boolean), Cond.fieldLink RX3 18 "LightRows" "lamps" "I", Cond.fieldLink RX3 29 "LightRows" "now" "[I", Cond.fieldLink RX3 26 "LightRows" "states" "I", Cond.methodLink RX3 69 yX3_mustExist, Cond.instanceMethod yX3_mustExist, Cond.selects RX3 yX3_mustExist yX3_mustExist, Cond.code yX3_mustExist cX3_mustExist 2 none, Cond.classLink RX3 123 RJx00060, Cond.instantiable RJx00060 6, Cond.initialized RJx00060, Cond.methodLink RX3 73 yX3_touches, Cond.instanceMethod yX3_touches, Cond.selects RX3 yX3_touches yX3_touches, Cond.code yX3_touches cX3_touches 3 (some .boolean), Cond.fieldLink RX3 36 "LightRows" "touched" "[I", Cond.methodLink RX3 77 yX3_forget, Cond.instanceMethod yX3_forget, Cond.selects RX3 yX3_forget yX3_forget, Cond.code yX3_forget cX3_forget 1 none]
def wsL_press_r2 : List Cond := [Cond.fieldLink RX3 62 "LightRows" "worked" "Z", Cond.fieldLink RX3 66 "LightRows" "searched" "Z"]
def wsL_press : List Cond := .codeWith yL_press cL_press 5 (some .int) [(0, 17, 20, 13)] :: ((wsL_press_r1 ++ wsL_press_r2) ++ wsX30 ++ wsJx000600)
def wsL_at : List Cond := .codeWith yL_at cL_at 4 (some .int) [(0, 9, 12, 13)] :: ([.methodLink RL 28 yX3_at, .instanceMethod yX3_at, .selects RX3 yX3_at yX3_at, .initialized RX3, .code yX3_at cX3_at 2 (some .int), .fieldLink RX3 29 "LightRows" "now" "[I", .methodLink RX3 69 yX3_mustExist, .instanceMethod yX3_mustExist, .selects RX3 yX3_mustExist yX3_mustExist, .code yX3_mustExist cX3_mustExist 2 none, .fieldLink RX3 18 "LightRows" "lamps" "I", .classLink RX3 123 RJx00060, .instantiable RJx00060 6, .initialized RJx00060] ++ wsX30 ++ wsJx000600)
def wsL_answer_r1 : List Cond := [Cond.methodLink RL 32 yX3_answer, Cond.instanceMethod yX3_answer, Cond.selects RX3 yX3_answer yX3_answer, Cond.initialized RX3, Cond.code yX3_answer cX3_answer 2 (some .int), Cond.fieldLink RX3 44 "LightRows" "equations" "LLightRows$Equations;", Cond.methodLink RX3 69 yX3_mustExist, Cond.instanceMethod yX3_mustExist, Cond.selects RX3 yX3_mustExist yX3_mustExist, Cond.code yX3_mustExist cX3_mustExist 2 none, Cond.fieldLink RX3 18 "LightRows" "lamps" "I", Cond.classLink RX3 123 RJx00060, Cond.instantiable RJx00060 6, Cond.initialized RJx00060, Cond.methodLink RX3 84 yX3_work, Cond.instanceMethod yX3_work, Cond.selects RX3 yX3_work yX3_work, Cond.code yX3_work cX3_work 1 none, Cond.fieldLink RX3 62 "LightRows" "worked" "Z", Cond.fieldLink RX3 36 "LightRows" "touched" "[I", Cond.fieldLink RX3 29 "LightRows" "now" "[I", Cond.fieldLink RX3 33 "LightRows" "wanted" "[I", Cond.methodLink RX3 130 yX1_take, Cond.instanceMethod yX1_take]
def wsL_answer_r2 : List Cond := [Cond.selects RX1 yX1_take yX1_take, Cond.initialized RX1, Cond.code yX1_take cX1_take 7 none, Cond.fieldLink RX1 9 "LightRows$Equations" "size" "I", Cond.fieldLink RX1 20 "LightRows$Equations" "rows" "[[I", Cond.fieldLink RX1 15 "LightRows$Equations" "modulus" "I", Cond.methodLink RX3 134 yX1_reduce, Cond.instanceMethod yX1_reduce, Cond.selects RX1 yX1_reduce yX1_reduce, Cond.code yX1_reduce cX1_reduce 3 none, Cond.fieldLink RX1 30 "LightRows$Equations" "bound" "I", Cond.fieldLink RX1 23 "LightRows$Equations" "rowOf" "[I", Cond.methodLink RX1 36 yX1_unusedRowWith, Cond.instanceMethod yX1_unusedRowWith, Cond.selects RX1 yX1_unusedRowWith yX1_unusedRowWith, Cond.code yX1_unusedRowWith cX1_unusedRowWith 3 (some .int), Cond.methodLink RX1 40 yX1_swap, Cond.instanceMethod yX1_swap, Cond.selects RX1 yX1_swap yX1_swap, Cond.code yX1_swap cX1_swap 4 none, Cond.methodLink RX1 44 yX1_makeUnit, Cond.instanceMethod yX1_makeUnit, Cond.selects RX1 yX1_makeUnit yX1_makeUnit, Cond.code yX1_makeUnit cX1_makeUnit 5 none]
def wsL_answer_r3 : List Cond := [Cond.methodLink RX1 58 yX1_inverse, Cond.instanceMethod yX1_inverse, Cond.selects RX1 yX1_inverse yX1_inverse, Cond.code yX1_inverse cX1_inverse 3 (some .int), Cond.methodLink RX1 48 yX1_clearElsewhere, Cond.instanceMethod yX1_clearElsewhere, Cond.selects RX1 yX1_clearElsewhere yX1_clearElsewhere, Cond.code yX1_clearElsewhere cX1_clearElsewhere 4 none, Cond.methodLink RX1 61 yX1_addMultiple, Cond.instanceMethod yX1_addMultiple, Cond.selects RX1 yX1_addMultiple yX1_addMultiple, Cond.code yX1_addMultiple cX1_addMultiple 5 none, Cond.methodLink RX1 51 yX1_readQuietPatterns, Cond.instanceMethod yX1_readQuietPatterns, Cond.selects RX1 yX1_readQuietPatterns yX1_readQuietPatterns, Cond.code yX1_readQuietPatterns cX1_readQuietPatterns 2 none, Cond.fieldLink RX1 33 "LightRows$Equations" "free" "I", Cond.fieldLink RX1 27 "LightRows$Equations" "quietPatterns" "[[I", Cond.methodLink RX1 65 yX1_readQuietPattern, Cond.instanceMethod yX1_readQuietPattern, Cond.selects RX1 yX1_readQuietPattern yX1_readQuietPattern, Cond.code yX1_readQuietPattern cX1_readQuietPattern 5 none, Cond.methodLink RX3 91 yX1_agree, Cond.instanceMethod yX1_agree]
def wsL_answer_r4 : List Cond := [Cond.selects RX1 yX1_agree yX1_agree, Cond.code yX1_agree cX1_agree 2 (some .boolean), Cond.methodLink RX3 95 yX1_pressesOf, Cond.instanceMethod yX1_pressesOf, Cond.selects RX1 yX1_pressesOf yX1_pressesOf, Cond.code yX1_pressesOf cX1_pressesOf 3 (some .int)]
def wsL_answer : List Cond := .codeWith yL_answer cL_answer 4 (some .int) [(0, 9, 12, 13)] :: ((wsL_answer_r1 ++ (wsL_answer_r2 ++ (wsL_answer_r3 ++ wsL_answer_r4))) ++ wsX30 ++ wsJx000600 ++ wsX10)
def wsL_quiet_r1 : List Cond := [Cond.methodLink RL 35 yX3_quiet, Cond.instanceMethod yX3_quiet, Cond.selects RX3 yX3_quiet yX3_quiet, Cond.initialized RX3, Cond.code yX3_quiet cX3_quiet 3 (some .int), Cond.fieldLink RX3 44 "LightRows" "equations" "LLightRows$Equations;", Cond.methodLink RX3 69 yX3_mustExist, Cond.instanceMethod yX3_mustExist, Cond.selects RX3 yX3_mustExist yX3_mustExist, Cond.code yX3_mustExist cX3_mustExist 2 none, Cond.fieldLink RX3 18 "LightRows" "lamps" "I", Cond.classLink RX3 123 RJx00060, Cond.instantiable RJx00060 6, Cond.initialized RJx00060, Cond.methodLink RX3 84 yX3_work, Cond.instanceMethod yX3_work, Cond.selects RX3 yX3_work yX3_work, Cond.code yX3_work cX3_work 1 none, Cond.fieldLink RX3 62 "LightRows" "worked" "Z", Cond.fieldLink RX3 36 "LightRows" "touched" "[I", Cond.fieldLink RX3 29 "LightRows" "now" "[I", Cond.fieldLink RX3 33 "LightRows" "wanted" "[I", Cond.methodLink RX3 130 yX1_take, Cond.instanceMethod yX1_take]
def wsL_quiet_r2 : List Cond := [Cond.selects RX1 yX1_take yX1_take, Cond.initialized RX1, Cond.code yX1_take cX1_take 7 none, Cond.fieldLink RX1 9 "LightRows$Equations" "size" "I", Cond.fieldLink RX1 20 "LightRows$Equations" "rows" "[[I", Cond.fieldLink RX1 15 "LightRows$Equations" "modulus" "I", Cond.methodLink RX3 134 yX1_reduce, Cond.instanceMethod yX1_reduce, Cond.selects RX1 yX1_reduce yX1_reduce, Cond.code yX1_reduce cX1_reduce 3 none, Cond.fieldLink RX1 30 "LightRows$Equations" "bound" "I", Cond.fieldLink RX1 23 "LightRows$Equations" "rowOf" "[I", Cond.methodLink RX1 36 yX1_unusedRowWith, Cond.instanceMethod yX1_unusedRowWith, Cond.selects RX1 yX1_unusedRowWith yX1_unusedRowWith, Cond.code yX1_unusedRowWith cX1_unusedRowWith 3 (some .int), Cond.methodLink RX1 40 yX1_swap, Cond.instanceMethod yX1_swap, Cond.selects RX1 yX1_swap yX1_swap, Cond.code yX1_swap cX1_swap 4 none, Cond.methodLink RX1 44 yX1_makeUnit, Cond.instanceMethod yX1_makeUnit, Cond.selects RX1 yX1_makeUnit yX1_makeUnit, Cond.code yX1_makeUnit cX1_makeUnit 5 none]
def wsL_quiet_r3 : List Cond := [Cond.methodLink RX1 58 yX1_inverse, Cond.instanceMethod yX1_inverse, Cond.selects RX1 yX1_inverse yX1_inverse, Cond.code yX1_inverse cX1_inverse 3 (some .int), Cond.methodLink RX1 48 yX1_clearElsewhere, Cond.instanceMethod yX1_clearElsewhere, Cond.selects RX1 yX1_clearElsewhere yX1_clearElsewhere, Cond.code yX1_clearElsewhere cX1_clearElsewhere 4 none, Cond.methodLink RX1 61 yX1_addMultiple, Cond.instanceMethod yX1_addMultiple, Cond.selects RX1 yX1_addMultiple yX1_addMultiple, Cond.code yX1_addMultiple cX1_addMultiple 5 none, Cond.methodLink RX1 51 yX1_readQuietPatterns, Cond.instanceMethod yX1_readQuietPatterns, Cond.selects RX1 yX1_readQuietPatterns yX1_readQuietPatterns, Cond.code yX1_readQuietPatterns cX1_readQuietPatterns 2 none, Cond.fieldLink RX1 33 "LightRows$Equations" "free" "I", Cond.fieldLink RX1 27 "LightRows$Equations" "quietPatterns" "[[I", Cond.methodLink RX1 65 yX1_readQuietPattern, Cond.instanceMethod yX1_readQuietPattern, Cond.selects RX1 yX1_readQuietPattern yX1_readQuietPattern, Cond.code yX1_readQuietPattern cX1_readQuietPattern 5 none, Cond.methodLink RX3 98 yX1_freeLamps, Cond.instanceMethod yX1_freeLamps]
def wsL_quiet_r4 : List Cond := [Cond.selects RX1 yX1_freeLamps yX1_freeLamps, Cond.code yX1_freeLamps cX1_freeLamps 1 (some .int), Cond.methodLink RX3 101 yX1_quietPattern, Cond.instanceMethod yX1_quietPattern, Cond.selects RX1 yX1_quietPattern yX1_quietPattern, Cond.code yX1_quietPattern cX1_quietPattern 2 (some (.array .int))]
def wsL_quiet : List Cond := .codeWith yL_quiet cL_quiet 5 (some .int) [(0, 10, 13, 13)] :: ((wsL_quiet_r1 ++ (wsL_quiet_r2 ++ (wsL_quiet_r3 ++ wsL_quiet_r4))) ++ wsX30 ++ wsJx000600 ++ wsX10)
def wsL_best_r1 : List Cond := [Cond.methodLink RL 39 yX3_best, Cond.instanceMethod yX3_best, Cond.selects RX3 yX3_best yX3_best, Cond.initialized RX3, Cond.code yX3_best cX3_best 2 (some .int), Cond.fieldLink RX3 51 "LightRows" "search" "LLightRows$Search;", Cond.methodLink RX3 69 yX3_mustExist, Cond.instanceMethod yX3_mustExist, Cond.selects RX3 yX3_mustExist yX3_mustExist, Cond.code yX3_mustExist cX3_mustExist 2 none, Cond.fieldLink RX3 18 "LightRows" "lamps" "I", Cond.classLink RX3 123 RJx00060, Cond.instantiable RJx00060 6, Cond.initialized RJx00060, Cond.methodLink RX3 114 yX3_seek, Cond.instanceMethod yX3_seek, Cond.selects RX3 yX3_seek yX3_seek, Cond.code yX3_seek cX3_seek 1 none, Cond.fieldLink RX3 66 "LightRows" "searched" "Z", Cond.fieldLink RX3 44 "LightRows" "equations" "LLightRows$Equations;", Cond.methodLink RX3 84 yX3_work, Cond.instanceMethod yX3_work, Cond.selects RX3 yX3_work yX3_work, Cond.code yX3_work cX3_work 1 none]
def wsL_best_r2 : List Cond := [Cond.fieldLink RX3 62 "LightRows" "worked" "Z", Cond.fieldLink RX3 36 "LightRows" "touched" "[I", Cond.fieldLink RX3 29 "LightRows" "now" "[I", Cond.fieldLink RX3 33 "LightRows" "wanted" "[I", Cond.methodLink RX3 130 yX1_take, Cond.instanceMethod yX1_take, Cond.selects RX1 yX1_take yX1_take, Cond.initialized RX1, Cond.code yX1_take cX1_take 7 none, Cond.fieldLink RX1 9 "LightRows$Equations" "size" "I", Cond.fieldLink RX1 20 "LightRows$Equations" "rows" "[[I", Cond.fieldLink RX1 15 "LightRows$Equations" "modulus" "I", Cond.methodLink RX3 134 yX1_reduce, Cond.instanceMethod yX1_reduce, Cond.selects RX1 yX1_reduce yX1_reduce, Cond.code yX1_reduce cX1_reduce 3 none, Cond.fieldLink RX1 30 "LightRows$Equations" "bound" "I", Cond.fieldLink RX1 23 "LightRows$Equations" "rowOf" "[I", Cond.methodLink RX1 36 yX1_unusedRowWith, Cond.instanceMethod yX1_unusedRowWith, Cond.selects RX1 yX1_unusedRowWith yX1_unusedRowWith, Cond.code yX1_unusedRowWith cX1_unusedRowWith 3 (some .int), Cond.methodLink RX1 40 yX1_swap, Cond.instanceMethod yX1_swap]
def wsL_best_r3 : List Cond := [Cond.selects RX1 yX1_swap yX1_swap, Cond.code yX1_swap cX1_swap 4 none, Cond.methodLink RX1 44 yX1_makeUnit, Cond.instanceMethod yX1_makeUnit, Cond.selects RX1 yX1_makeUnit yX1_makeUnit, Cond.code yX1_makeUnit cX1_makeUnit 5 none, Cond.methodLink RX1 58 yX1_inverse, Cond.instanceMethod yX1_inverse, Cond.selects RX1 yX1_inverse yX1_inverse, Cond.code yX1_inverse cX1_inverse 3 (some .int), Cond.methodLink RX1 48 yX1_clearElsewhere, Cond.instanceMethod yX1_clearElsewhere, Cond.selects RX1 yX1_clearElsewhere yX1_clearElsewhere, Cond.code yX1_clearElsewhere cX1_clearElsewhere 4 none, Cond.methodLink RX1 61 yX1_addMultiple, Cond.instanceMethod yX1_addMultiple, Cond.selects RX1 yX1_addMultiple yX1_addMultiple, Cond.code yX1_addMultiple cX1_addMultiple 5 none, Cond.methodLink RX1 51 yX1_readQuietPatterns, Cond.instanceMethod yX1_readQuietPatterns, Cond.selects RX1 yX1_readQuietPatterns yX1_readQuietPatterns, Cond.code yX1_readQuietPatterns cX1_readQuietPatterns 2 none, Cond.fieldLink RX1 33 "LightRows$Equations" "free" "I", Cond.fieldLink RX1 27 "LightRows$Equations" "quietPatterns" "[[I"]
def wsL_best_r4 : List Cond := [Cond.methodLink RX1 65 yX1_readQuietPattern, Cond.instanceMethod yX1_readQuietPattern, Cond.selects RX1 yX1_readQuietPattern yX1_readQuietPattern, Cond.code yX1_readQuietPattern cX1_readQuietPattern 5 none, Cond.methodLink RX3 137 yX2_run, Cond.instanceMethod yX2_run, Cond.selects RX2 yX2_run yX2_run, Cond.initialized RX2, Cond.code yX2_run cX2_run 4 none, Cond.fieldLink RX2 28 "LightRows$Search" "total" "I", Cond.methodLink RX2 31 yX1_answersUpTo, Cond.instanceMethod yX1_answersUpTo, Cond.selects RX1 yX1_answersUpTo yX1_answersUpTo, Cond.code yX1_answersUpTo cX1_answersUpTo 4 (some .int), Cond.methodLink RX1 54 yX1_agree, Cond.instanceMethod yX1_agree, Cond.selects RX1 yX1_agree yX1_agree, Cond.code yX1_agree cX1_agree 2 (some .boolean), Cond.methodLink RX2 37 yX2_begin, Cond.instanceMethod yX2_begin, Cond.selects RX2 yX2_begin yX2_begin, Cond.code yX2_begin cX2_begin 3 none, Cond.fieldLink RX2 9 "LightRows$Search" "size" "I", Cond.fieldLink RX2 18 "LightRows$Search" "tried" "[I"]
def wsL_best_r5 : List Cond := [Cond.fieldLink RX2 25 "LightRows$Search" "turns" "[I", Cond.methodLink RX2 47 yX1_pressesOf, Cond.instanceMethod yX1_pressesOf, Cond.selects RX1 yX1_pressesOf yX1_pressesOf, Cond.code yX1_pressesOf cX1_pressesOf 3 (some .int), Cond.methodLink RX2 50 yX2_totalTried, Cond.instanceMethod yX2_totalTried, Cond.selects RX2 yX2_totalTried yX2_totalTried, Cond.code yX2_totalTried cX2_totalTried 3 (some .int), Cond.methodLink RX2 54 yX2_keep, Cond.instanceMethod yX2_keep, Cond.selects RX2 yX2_keep yX2_keep, Cond.code yX2_keep cX2_keep 2 none, Cond.fieldLink RX2 22 "LightRows$Search" "least" "[I", Cond.methodLink RX2 73 arraycopyName, Cond.native arraycopyName, Cond.static arraycopyName, Cond.initialized "java/lang/System", Cond.methodLink RX2 41 yX2_advance, Cond.instanceMethod yX2_advance, Cond.selects RX2 yX2_advance yX2_advance, Cond.code yX2_advance cX2_advance 3 none, Cond.fieldLink RX2 15 "LightRows$Search" "modulus" "I", Cond.methodLink RX2 58 yX1_freeLamps]
def wsL_best_r6 : List Cond := [Cond.instanceMethod yX1_freeLamps, Cond.selects RX1 yX1_freeLamps yX1_freeLamps, Cond.code yX1_freeLamps cX1_freeLamps 1 (some .int), Cond.methodLink RX2 61 yX1_quietPattern, Cond.instanceMethod yX1_quietPattern, Cond.selects RX1 yX1_quietPattern yX1_quietPattern, Cond.code yX1_quietPattern cX1_quietPattern 2 (some (.array .int)), Cond.methodLink RX2 65 yX2_addToTried, Cond.instanceMethod yX2_addToTried, Cond.selects RX2 yX2_addToTried yX2_addToTried, Cond.code yX2_addToTried cX2_addToTried 4 none, Cond.methodLink RX2 44 yX2_keepIfLess, Cond.instanceMethod yX2_keepIfLess, Cond.selects RX2 yX2_keepIfLess yX2_keepIfLess, Cond.code yX2_keepIfLess cX2_keepIfLess 2 none, Cond.methodLink RX2 69 yX2_triedIsAhead, Cond.instanceMethod yX2_triedIsAhead, Cond.selects RX2 yX2_triedIsAhead yX2_triedIsAhead, Cond.code yX2_triedIsAhead cX2_triedIsAhead 2 (some .boolean), Cond.methodLink RX3 117 yX2_leastTotal, Cond.instanceMethod yX2_leastTotal, Cond.selects RX2 yX2_leastTotal yX2_leastTotal, Cond.code yX2_leastTotal cX2_leastTotal 1 (some .int), Cond.methodLink RX3 120 yX2_leastPresses]
def wsL_best_r7 : List Cond := [Cond.instanceMethod yX2_leastPresses, Cond.selects RX2 yX2_leastPresses yX2_leastPresses, Cond.code yX2_leastPresses cX2_leastPresses 2 (some .int)]
def wsL_best : List Cond := .codeWith yL_best cL_best 4 (some .int) [(0, 9, 12, 13)] :: ((wsL_best_r1 ++ (wsL_best_r2 ++ (wsL_best_r3 ++ (wsL_best_r4 ++ (wsL_best_r5 ++ (wsL_best_r6 ++ wsL_best_r7)))))) ++ wsX30 ++ wsJx000600 ++ wsX10 ++ wsX20)
def wsL_alone_r1 : List Cond := [Cond.methodLink RL 42 yX3_alone, Cond.instanceMethod yX3_alone, Cond.selects RX3 yX3_alone yX3_alone, Cond.initialized RX3, Cond.code yX3_alone cX3_alone 3 (some .boolean), Cond.fieldLink RX3 44 "LightRows" "equations" "LLightRows$Equations;", Cond.methodLink RX3 69 yX3_mustExist, Cond.instanceMethod yX3_mustExist, Cond.selects RX3 yX3_mustExist yX3_mustExist, Cond.code yX3_mustExist cX3_mustExist 2 none, Cond.fieldLink RX3 18 "LightRows" "lamps" "I", Cond.classLink RX3 123 RJx00060, Cond.instantiable RJx00060 6, Cond.initialized RJx00060, Cond.methodLink RX3 84 yX3_work, Cond.instanceMethod yX3_work, Cond.selects RX3 yX3_work yX3_work, Cond.code yX3_work cX3_work 1 none, Cond.fieldLink RX3 62 "LightRows" "worked" "Z", Cond.fieldLink RX3 36 "LightRows" "touched" "[I", Cond.fieldLink RX3 29 "LightRows" "now" "[I", Cond.fieldLink RX3 33 "LightRows" "wanted" "[I", Cond.methodLink RX3 130 yX1_take, Cond.instanceMethod yX1_take]
def wsL_alone_r2 : List Cond := [Cond.selects RX1 yX1_take yX1_take, Cond.initialized RX1, Cond.code yX1_take cX1_take 7 none, Cond.fieldLink RX1 9 "LightRows$Equations" "size" "I", Cond.fieldLink RX1 20 "LightRows$Equations" "rows" "[[I", Cond.fieldLink RX1 15 "LightRows$Equations" "modulus" "I", Cond.methodLink RX3 134 yX1_reduce, Cond.instanceMethod yX1_reduce, Cond.selects RX1 yX1_reduce yX1_reduce, Cond.code yX1_reduce cX1_reduce 3 none, Cond.fieldLink RX1 30 "LightRows$Equations" "bound" "I", Cond.fieldLink RX1 23 "LightRows$Equations" "rowOf" "[I", Cond.methodLink RX1 36 yX1_unusedRowWith, Cond.instanceMethod yX1_unusedRowWith, Cond.selects RX1 yX1_unusedRowWith yX1_unusedRowWith, Cond.code yX1_unusedRowWith cX1_unusedRowWith 3 (some .int), Cond.methodLink RX1 40 yX1_swap, Cond.instanceMethod yX1_swap, Cond.selects RX1 yX1_swap yX1_swap, Cond.code yX1_swap cX1_swap 4 none, Cond.methodLink RX1 44 yX1_makeUnit, Cond.instanceMethod yX1_makeUnit, Cond.selects RX1 yX1_makeUnit yX1_makeUnit, Cond.code yX1_makeUnit cX1_makeUnit 5 none]
def wsL_alone_r3 : List Cond := [Cond.methodLink RX1 58 yX1_inverse, Cond.instanceMethod yX1_inverse, Cond.selects RX1 yX1_inverse yX1_inverse, Cond.code yX1_inverse cX1_inverse 3 (some .int), Cond.methodLink RX1 48 yX1_clearElsewhere, Cond.instanceMethod yX1_clearElsewhere, Cond.selects RX1 yX1_clearElsewhere yX1_clearElsewhere, Cond.code yX1_clearElsewhere cX1_clearElsewhere 4 none, Cond.methodLink RX1 61 yX1_addMultiple, Cond.instanceMethod yX1_addMultiple, Cond.selects RX1 yX1_addMultiple yX1_addMultiple, Cond.code yX1_addMultiple cX1_addMultiple 5 none, Cond.methodLink RX1 51 yX1_readQuietPatterns, Cond.instanceMethod yX1_readQuietPatterns, Cond.selects RX1 yX1_readQuietPatterns yX1_readQuietPatterns, Cond.code yX1_readQuietPatterns cX1_readQuietPatterns 2 none, Cond.fieldLink RX1 33 "LightRows$Equations" "free" "I", Cond.fieldLink RX1 27 "LightRows$Equations" "quietPatterns" "[[I", Cond.methodLink RX1 65 yX1_readQuietPattern, Cond.instanceMethod yX1_readQuietPattern, Cond.selects RX1 yX1_readQuietPattern yX1_readQuietPattern, Cond.code yX1_readQuietPattern cX1_readQuietPattern 5 none, Cond.methodLink RX3 98 yX1_freeLamps, Cond.instanceMethod yX1_freeLamps]
def wsL_alone_r4 : List Cond := [Cond.selects RX1 yX1_freeLamps yX1_freeLamps, Cond.code yX1_freeLamps cX1_freeLamps 1 (some .int), Cond.methodLink RX3 101 yX1_quietPattern, Cond.instanceMethod yX1_quietPattern, Cond.selects RX1 yX1_quietPattern yX1_quietPattern, Cond.code yX1_quietPattern cX1_quietPattern 2 (some (.array .int))]
def wsL_alone : List Cond := .codeWith yL_alone cL_alone 4 (some .int) [(0, 16, 19, 13)] :: ((wsL_alone_r1 ++ (wsL_alone_r2 ++ (wsL_alone_r3 ++ wsL_alone_r4))) ++ wsX30 ++ wsJx000600 ++ wsX10)
def wsL_law_r1 : List Cond := [Cond.classLink RL 8 RX3, Cond.instantiable RX3 10, Cond.initialized RX3, Cond.classLink RL 55 RX4, Cond.instantiable RX4 20, Cond.initialized RX4, Cond.arrayClass .long, Cond.methodLink RL 46 yL_cell, Cond.static yL_cell, Cond.initialized RL, Cond.code yL_cell cL_cell 2 (some .int), Cond.methodLink RL 52 yX3_init, Cond.instanceMethod yX3_init, Cond.code yX3_init cX3_init 4 none, Cond.methodLink RX3 1 objectInit, Cond.instanceMethod objectInit, Cond.code objectInit ⟨#[0xb1]⟩ 1 none, Cond.methodLink RX3 9 Lib.Math.min.name, Cond.static Lib.Math.min.name, Cond.initialized "java/lang/Math", Cond.code Lib.Math.min.name Lib.Math.min.code 2 (some .int), Cond.methodLink RX3 15 Lib.Math.max.name, Cond.static Lib.Math.max.name, Cond.code Lib.Math.max.name Lib.Math.max.code 2 (some .int)]
def wsL_law_r2 : List Cond := [Cond.fieldLink RX3 18 "LightRows" "lamps" "I", Cond.fieldLink RX3 26 "LightRows" "states" "I", Cond.arrayClass .int, Cond.fieldLink RX3 29 "LightRows" "now" "[I", Cond.fieldLink RX3 33 "LightRows" "wanted" "[I", Cond.fieldLink RX3 36 "LightRows" "touched" "[I", Cond.classLink RX3 39 RX1, Cond.instantiable RX1 7, Cond.initialized RX1, Cond.fieldLink RX3 44 "LightRows" "equations" "LLightRows$Equations;", Cond.classLink RX3 48 RX2, Cond.instantiable RX2 6, Cond.initialized RX2, Cond.fieldLink RX3 51 "LightRows" "search" "LLightRows$Search;", Cond.classLink RX3 55 RX0, Cond.instantiable RX0 2, Cond.initialized RX0, Cond.fieldLink RX3 58 "LightRows" "decimal" "LLightRows$Decimal;", Cond.fieldLink RX3 62 "LightRows" "worked" "Z", Cond.fieldLink RX3 66 "LightRows" "searched" "Z", Cond.methodLink RX3 22 yX3_primeFor, Cond.static yX3_primeFor, Cond.code yX3_primeFor cX3_primeFor 1 (some .int), Cond.methodLink RX3 41 yX1_init]
def wsL_law_r3 : List Cond := [Cond.instanceMethod yX1_init, Cond.code yX1_init cX1_init 3 none, Cond.methodLink RX1 3 objectInit, Cond.fieldLink RX1 9 "LightRows$Equations" "size" "I", Cond.fieldLink RX1 15 "LightRows$Equations" "modulus" "I", Cond.classLink RX1 18 "[[I", Cond.fieldLink RX1 20 "LightRows$Equations" "rows" "[[I", Cond.fieldLink RX1 23 "LightRows$Equations" "rowOf" "[I", Cond.fieldLink RX1 27 "LightRows$Equations" "quietPatterns" "[[I", Cond.fieldLink RX1 30 "LightRows$Equations" "bound" "I", Cond.fieldLink RX1 33 "LightRows$Equations" "free" "I", Cond.methodLink RX3 50 yX2_init, Cond.instanceMethod yX2_init, Cond.code yX2_init cX2_init 3 none, Cond.methodLink RX2 3 objectInit, Cond.fieldLink RX2 9 "LightRows$Search" "size" "I", Cond.fieldLink RX2 15 "LightRows$Search" "modulus" "I", Cond.fieldLink RX2 18 "LightRows$Search" "tried" "[I", Cond.fieldLink RX2 22 "LightRows$Search" "least" "[I", Cond.fieldLink RX2 25 "LightRows$Search" "turns" "[I", Cond.fieldLink RX2 28 "LightRows$Search" "total" "I", Cond.methodLink RX3 57 yX0_init, Cond.instanceMethod yX0_init, Cond.code yX0_init cX0_init 1 none]
def wsL_law_r4 : List Cond := [Cond.methodLink RX0 3 objectInit, Cond.fieldLink RX0 11 "LightRows$Decimal" "digits" "[I", Cond.fieldLink RX0 15 "LightRows$Decimal" "length" "I", Cond.methodLink RL 57 yX4_init, Cond.instanceMethod yX4_init, Cond.code yX4_init cX4_init 3 none, Cond.methodLink RX4 1 objectInit, Cond.arrayClass .boolean, Cond.fieldLink RX4 7 "LightRowsModel" "joined" "[Z", Cond.fieldLink RX4 13 "LightRowsModel" "isNotSelf" "[Z", Cond.fieldLink RX4 16 "LightRowsModel" "states" "[I", Cond.fieldLink RX4 20 "LightRowsModel" "wanted" "[I", Cond.fieldLink RX4 23 "LightRowsModel" "rows" "[I", Cond.fieldLink RX4 26 "LightRowsModel" "presses" "[I", Cond.fieldLink RX4 29 "LightRowsModel" "heads" "[I", Cond.fieldLink RX4 32 "LightRowsModel" "isBound" "[Z", Cond.fieldLink RX4 35 "LightRowsModel" "rest" "[I", Cond.fieldLink RX4 38 "LightRowsModel" "by" "[I", Cond.fieldLink RX4 41 "LightRowsModel" "answer" "[I", Cond.fieldLink RX4 44 "LightRowsModel" "quiet" "[I", Cond.fieldLink RX4 47 "LightRowsModel" "best" "[I", Cond.fieldLink RX4 50 "LightRowsModel" "tried" "[I", Cond.fieldLink RX4 53 "LightRowsModel" "digits" "[I", Cond.fieldLink RX4 56 "LightRowsModel" "lamps" "I"]
def wsL_law_r5 : List Cond := [Cond.fieldLink RX4 60 "LightRowsModel" "p" "I", Cond.methodLink RL 58 yL_join, Cond.static yL_join, Cond.codeWith yL_join cL_join 5 (some .int) [(0, 17, 20, 13)], Cond.methodLink RL 7 yX3_join, Cond.instanceMethod yX3_join, Cond.selects RX3 yX3_join yX3_join, Cond.code yX3_join cX3_join 3 (some .boolean), Cond.methodLink RX3 69 yX3_mustExist, Cond.instanceMethod yX3_mustExist, Cond.selects RX3 yX3_mustExist yX3_mustExist, Cond.code yX3_mustExist cX3_mustExist 2 none, Cond.classLink RX3 123 RJx00060, Cond.instantiable RJx00060 6, Cond.initialized RJx00060, Cond.methodLink RX3 73 yX3_touches, Cond.instanceMethod yX3_touches, Cond.selects RX3 yX3_touches yX3_touches, Cond.code yX3_touches cX3_touches 3 (some .boolean), Cond.methodLink RX3 77 yX3_forget, Cond.instanceMethod yX3_forget, Cond.selects RX3 yX3_forget yX3_forget, Cond.code yX3_forget cX3_forget 1 none, Cond.methodLink RL 61 yX4_join]
def wsL_law_r6 : List Cond := [Cond.instanceMethod yX4_join, Cond.selects RX4 yX4_join yX4_join, Cond.code yX4_join cX4_join 3 (some .boolean), Cond.fieldLink RX4 74 "LightRowsModel" "isKnown" "Z", Cond.methodLink RX4 66 yX4_isLamp, Cond.instanceMethod yX4_isLamp, Cond.selects RX4 yX4_isLamp yX4_isLamp, Cond.code yX4_isLamp cX4_isLamp 2 (some .boolean), Cond.methodLink RX4 70 yX4_fails, Cond.instanceMethod yX4_fails, Cond.selects RX4 yX4_fails yX4_fails, Cond.code yX4_fails cX4_fails 2 (some .boolean), Cond.fieldLink RX4 63 "LightRowsModel" "thrown" "I", Cond.methodLink RL 62 yX4_thrown, Cond.instanceMethod yX4_thrown, Cond.selects RX4 yX4_thrown yX4_thrown, Cond.code yX4_thrown cX4_thrown 1 (some .int), Cond.methodLink RL 66 yL_self, Cond.static yL_self, Cond.codeWith yL_self cL_self 5 (some .int) [(0, 17, 20, 13)], Cond.methodLink RL 15 yX3_self, Cond.instanceMethod yX3_self, Cond.selects RX3 yX3_self yX3_self, Cond.code yX3_self cX3_self 3 (some .boolean)]
def wsL_law_r7 : List Cond := [Cond.methodLink RL 69 yX4_self, Cond.instanceMethod yX4_self, Cond.selects RX4 yX4_self yX4_self, Cond.code yX4_self cX4_self 3 (some .boolean), Cond.methodLink RL 70 yL_set, Cond.static yL_set, Cond.codeWith yL_set cL_set 5 (some .int) [(0, 17, 20, 13)], Cond.methodLink RL 19 yX3_set, Cond.instanceMethod yX3_set, Cond.selects RX3 yX3_set yX3_set, Cond.code yX3_set cX3_set 3 (some .boolean), Cond.methodLink RX3 80 yX3_isState, Cond.instanceMethod yX3_isState, Cond.selects RX3 yX3_isState yX3_isState, Cond.code yX3_isState cX3_isState 2 (some .boolean), Cond.methodLink RL 72 yX4_set, Cond.instanceMethod yX4_set, Cond.selects RX4 yX4_set yX4_set, Cond.code yX4_set cX4_set 3 (some .boolean), Cond.methodLink RX4 78 yX4_isState, Cond.instanceMethod yX4_isState, Cond.selects RX4 yX4_isState yX4_isState, Cond.code yX4_isState cX4_isState 2 (some .boolean), Cond.methodLink RL 73 yL_want]
def wsL_law_r8 : List Cond := [Cond.static yL_want, Cond.codeWith yL_want cL_want 5 (some .int) [(0, 17, 20, 13)], Cond.methodLink RL 22 yX3_want, Cond.instanceMethod yX3_want, Cond.selects RX3 yX3_want yX3_want, Cond.code yX3_want cX3_want 3 (some .boolean), Cond.methodLink RL 75 yX4_want, Cond.instanceMethod yX4_want, Cond.selects RX4 yX4_want yX4_want, Cond.code yX4_want cX4_want 3 (some .boolean), Cond.methodLink RL 76 yL_press, Cond.static yL_press, Cond.codeWith yL_press cL_press 5 (some .int) [(0, 17, 20, 13)], Cond.methodLink RL 25 yX3_press, Cond.instanceMethod yX3_press, Cond.selects RX3 yX3_press yX3_press, Cond.code yX3_press cX3_press 4 (some .boolean), Cond.methodLink RL 78 yX4_press, Cond.instanceMethod yX4_press, Cond.selects RX4 yX4_press yX4_press, Cond.code yX4_press cX4_press 4 (some .boolean), Cond.methodLink RX4 81 yX4_effect, Cond.instanceMethod yX4_effect, Cond.selects RX4 yX4_effect yX4_effect]
def wsL_law_r9 : List Cond := [Cond.code yX4_effect cX4_effect 3 (some .int), Cond.methodLink RL 79 yL_at, Cond.static yL_at, Cond.codeWith yL_at cL_at 4 (some .int) [(0, 9, 12, 13)], Cond.methodLink RL 28 yX3_at, Cond.instanceMethod yX3_at, Cond.selects RX3 yX3_at yX3_at, Cond.code yX3_at cX3_at 2 (some .int), Cond.methodLink RL 82 yX4_at, Cond.instanceMethod yX4_at, Cond.selects RX4 yX4_at yX4_at, Cond.code yX4_at cX4_at 2 (some .int), Cond.methodLink RL 83 yX3_apart, Cond.instanceMethod yX3_apart, Cond.selects RX3 yX3_apart yX3_apart, Cond.code yX3_apart cX3_apart 3 (some .int), Cond.methodLink RL 86 yX4_apart, Cond.instanceMethod yX4_apart, Cond.selects RX4 yX4_apart yX4_apart, Cond.code yX4_apart cX4_apart 3 (some .int), Cond.methodLink RL 87 yX3_rank, Cond.instanceMethod yX3_rank, Cond.selects RX3 yX3_rank yX3_rank, Cond.code yX3_rank cX3_rank 1 (some .int)]
def wsL_law_r10 : List Cond := [Cond.methodLink RX3 84 yX3_work, Cond.instanceMethod yX3_work, Cond.selects RX3 yX3_work yX3_work, Cond.code yX3_work cX3_work 1 none, Cond.methodLink RX3 130 yX1_take, Cond.instanceMethod yX1_take, Cond.selects RX1 yX1_take yX1_take, Cond.code yX1_take cX1_take 7 none, Cond.methodLink RX3 134 yX1_reduce, Cond.instanceMethod yX1_reduce, Cond.selects RX1 yX1_reduce yX1_reduce, Cond.code yX1_reduce cX1_reduce 3 none, Cond.methodLink RX1 36 yX1_unusedRowWith, Cond.instanceMethod yX1_unusedRowWith, Cond.selects RX1 yX1_unusedRowWith yX1_unusedRowWith, Cond.code yX1_unusedRowWith cX1_unusedRowWith 3 (some .int), Cond.methodLink RX1 40 yX1_swap, Cond.instanceMethod yX1_swap, Cond.selects RX1 yX1_swap yX1_swap, Cond.code yX1_swap cX1_swap 4 none, Cond.methodLink RX1 44 yX1_makeUnit, Cond.instanceMethod yX1_makeUnit, Cond.selects RX1 yX1_makeUnit yX1_makeUnit, Cond.code yX1_makeUnit cX1_makeUnit 5 none]
def wsL_law_r11 : List Cond := [Cond.methodLink RX1 58 yX1_inverse, Cond.instanceMethod yX1_inverse, Cond.selects RX1 yX1_inverse yX1_inverse, Cond.code yX1_inverse cX1_inverse 3 (some .int), Cond.methodLink RX1 48 yX1_clearElsewhere, Cond.instanceMethod yX1_clearElsewhere, Cond.selects RX1 yX1_clearElsewhere yX1_clearElsewhere, Cond.code yX1_clearElsewhere cX1_clearElsewhere 4 none, Cond.methodLink RX1 61 yX1_addMultiple, Cond.instanceMethod yX1_addMultiple, Cond.selects RX1 yX1_addMultiple yX1_addMultiple, Cond.code yX1_addMultiple cX1_addMultiple 5 none, Cond.methodLink RX1 51 yX1_readQuietPatterns, Cond.instanceMethod yX1_readQuietPatterns, Cond.selects RX1 yX1_readQuietPatterns yX1_readQuietPatterns, Cond.code yX1_readQuietPatterns cX1_readQuietPatterns 2 none, Cond.methodLink RX1 65 yX1_readQuietPattern, Cond.instanceMethod yX1_readQuietPattern, Cond.selects RX1 yX1_readQuietPattern yX1_readQuietPattern, Cond.code yX1_readQuietPattern cX1_readQuietPattern 5 none, Cond.methodLink RX3 87 yX1_boundLamps, Cond.instanceMethod yX1_boundLamps, Cond.selects RX1 yX1_boundLamps yX1_boundLamps, Cond.code yX1_boundLamps cX1_boundLamps 1 (some .int)]
def wsL_law_r12 : List Cond := [Cond.methodLink RL 90 yX4_rank, Cond.instanceMethod yX4_rank, Cond.selects RX4 yX4_rank yX4_rank, Cond.code yX4_rank cX4_rank 1 (some .int), Cond.fieldLink RX4 85 "LightRowsModel" "rank" "I", Cond.methodLink RX4 99 yX4_know, Cond.instanceMethod yX4_know, Cond.selects RX4 yX4_know yX4_know, Cond.code yX4_know cX4_know 5 none, Cond.methodLink RX4 92 yX4_takeApart, Cond.instanceMethod yX4_takeApart, Cond.selects RX4 yX4_takeApart yX4_takeApart, Cond.code yX4_takeApart cX4_takeApart 4 none, Cond.methodLink RX4 88 yX4_inverse, Cond.instanceMethod yX4_inverse, Cond.selects RX4 yX4_inverse yX4_inverse, Cond.code yX4_inverse cX4_inverse 3 (some .int), Cond.methodLink RX4 95 yX4_left, Cond.instanceMethod yX4_left, Cond.selects RX4 yX4_left yX4_left, Cond.code yX4_left cX4_left 2 (some .int), Cond.methodLink RL 91 yX3_solvable, Cond.instanceMethod yX3_solvable, Cond.selects RX3 yX3_solvable yX3_solvable]
def wsL_law_r13 : List Cond := [Cond.code yX3_solvable cX3_solvable 1 (some .boolean), Cond.methodLink RX3 91 yX1_agree, Cond.instanceMethod yX1_agree, Cond.selects RX1 yX1_agree yX1_agree, Cond.code yX1_agree cX1_agree 2 (some .boolean), Cond.methodLink RL 95 yX4_solvable, Cond.instanceMethod yX4_solvable, Cond.selects RX4 yX4_solvable yX4_solvable, Cond.code yX4_solvable cX4_solvable 1 (some .boolean), Cond.methodLink RX4 102 yX4_answers, Cond.instanceMethod yX4_answers, Cond.selects RX4 yX4_answers yX4_answers, Cond.code yX4_answers cX4_answers 2 (some .boolean), Cond.methodLink RL 96 yL_answer, Cond.static yL_answer, Cond.codeWith yL_answer cL_answer 4 (some .int) [(0, 9, 12, 13)], Cond.methodLink RL 32 yX3_answer, Cond.instanceMethod yX3_answer, Cond.selects RX3 yX3_answer yX3_answer, Cond.code yX3_answer cX3_answer 2 (some .int), Cond.methodLink RX3 95 yX1_pressesOf, Cond.instanceMethod yX1_pressesOf, Cond.selects RX1 yX1_pressesOf yX1_pressesOf, Cond.code yX1_pressesOf cX1_pressesOf 3 (some .int)]
def wsL_law_r14 : List Cond := [Cond.methodLink RL 98 yX4_answer, Cond.instanceMethod yX4_answer, Cond.selects RX4 yX4_answer yX4_answer, Cond.code yX4_answer cX4_answer 2 (some .int), Cond.methodLink RL 99 yL_quiet, Cond.static yL_quiet, Cond.codeWith yL_quiet cL_quiet 5 (some .int) [(0, 10, 13, 13)], Cond.methodLink RL 35 yX3_quiet, Cond.instanceMethod yX3_quiet, Cond.selects RX3 yX3_quiet yX3_quiet, Cond.code yX3_quiet cX3_quiet 3 (some .int), Cond.methodLink RX3 98 yX1_freeLamps, Cond.instanceMethod yX1_freeLamps, Cond.selects RX1 yX1_freeLamps yX1_freeLamps, Cond.code yX1_freeLamps cX1_freeLamps 1 (some .int), Cond.methodLink RX3 101 yX1_quietPattern, Cond.instanceMethod yX1_quietPattern, Cond.selects RX1 yX1_quietPattern yX1_quietPattern, Cond.code yX1_quietPattern cX1_quietPattern 2 (some (.array .int)), Cond.methodLink RL 101 yX4_quiet, Cond.instanceMethod yX4_quiet, Cond.selects RX4 yX4_quiet yX4_quiet, Cond.code yX4_quiet cX4_quiet 3 (some .int), Cond.methodLink RL 102 yX3_count]
def wsL_law_r15 : List Cond := [Cond.instanceMethod yX3_count, Cond.selects RX3 yX3_count yX3_count, Cond.code yX3_count cX3_count 3 (some .int), Cond.methodLink RX3 105 yX0_become, Cond.instanceMethod yX0_become, Cond.selects RX0 yX0_become yX0_become, Cond.code yX0_become cX0_become 2 none, Cond.methodLink RX3 108 yX0_multiply, Cond.instanceMethod yX0_multiply, Cond.selects RX0 yX0_multiply yX0_multiply, Cond.code yX0_multiply cX0_multiply 5 none, Cond.methodLink RX3 111 yX0_digit, Cond.instanceMethod yX0_digit, Cond.selects RX0 yX0_digit yX0_digit, Cond.code yX0_digit cX0_digit 2 (some .int), Cond.methodLink RL 105 yX4_count, Cond.instanceMethod yX4_count, Cond.selects RX4 yX4_count yX4_count, Cond.code yX4_count cX4_count 8 (some .int), Cond.methodLink RL 106 yX3_fewest, Cond.instanceMethod yX3_fewest, Cond.selects RX3 yX3_fewest yX3_fewest, Cond.code yX3_fewest cX3_fewest 1 (some .int), Cond.methodLink RX3 114 yX3_seek]
def wsL_law_r16 : List Cond := [Cond.instanceMethod yX3_seek, Cond.selects RX3 yX3_seek yX3_seek, Cond.code yX3_seek cX3_seek 1 none, Cond.methodLink RX3 137 yX2_run, Cond.instanceMethod yX2_run, Cond.selects RX2 yX2_run yX2_run, Cond.code yX2_run cX2_run 4 none, Cond.methodLink RX2 31 yX1_answersUpTo, Cond.instanceMethod yX1_answersUpTo, Cond.selects RX1 yX1_answersUpTo yX1_answersUpTo, Cond.code yX1_answersUpTo cX1_answersUpTo 4 (some .int), Cond.methodLink RX1 54 yX1_agree, Cond.methodLink RX2 37 yX2_begin, Cond.instanceMethod yX2_begin, Cond.selects RX2 yX2_begin yX2_begin, Cond.code yX2_begin cX2_begin 3 none, Cond.methodLink RX2 47 yX1_pressesOf, Cond.methodLink RX2 50 yX2_totalTried, Cond.instanceMethod yX2_totalTried, Cond.selects RX2 yX2_totalTried yX2_totalTried, Cond.code yX2_totalTried cX2_totalTried 3 (some .int), Cond.methodLink RX2 54 yX2_keep, Cond.instanceMethod yX2_keep, Cond.selects RX2 yX2_keep yX2_keep]
def wsL_law_r17 : List Cond := [Cond.code yX2_keep cX2_keep 2 none, Cond.methodLink RX2 73 arraycopyName, Cond.native arraycopyName, Cond.static arraycopyName, Cond.initialized "java/lang/System", Cond.methodLink RX2 41 yX2_advance, Cond.instanceMethod yX2_advance, Cond.selects RX2 yX2_advance yX2_advance, Cond.code yX2_advance cX2_advance 3 none, Cond.methodLink RX2 58 yX1_freeLamps, Cond.methodLink RX2 61 yX1_quietPattern, Cond.methodLink RX2 65 yX2_addToTried, Cond.instanceMethod yX2_addToTried, Cond.selects RX2 yX2_addToTried yX2_addToTried, Cond.code yX2_addToTried cX2_addToTried 4 none, Cond.methodLink RX2 44 yX2_keepIfLess, Cond.instanceMethod yX2_keepIfLess, Cond.selects RX2 yX2_keepIfLess yX2_keepIfLess, Cond.code yX2_keepIfLess cX2_keepIfLess 2 none, Cond.methodLink RX2 69 yX2_triedIsAhead, Cond.instanceMethod yX2_triedIsAhead, Cond.selects RX2 yX2_triedIsAhead yX2_triedIsAhead, Cond.code yX2_triedIsAhead cX2_triedIsAhead 2 (some .boolean), Cond.methodLink RX3 117 yX2_leastTotal]
def wsL_law_r18 : List Cond := [Cond.instanceMethod yX2_leastTotal, Cond.selects RX2 yX2_leastTotal yX2_leastTotal, Cond.code yX2_leastTotal cX2_leastTotal 1 (some .int), Cond.methodLink RL 109 yX4_fewest, Cond.instanceMethod yX4_fewest, Cond.selects RX4 yX4_fewest yX4_fewest, Cond.code yX4_fewest cX4_fewest 1 (some .int), Cond.methodLink RX4 112 yX4_findBest, Cond.instanceMethod yX4_findBest, Cond.selects RX4 yX4_findBest yX4_findBest, Cond.code yX4_findBest cX4_findBest 6 (some .int), Cond.methodLink RX4 106 yX4_tryWay, Cond.instanceMethod yX4_tryWay, Cond.selects RX4 yX4_tryWay yX4_tryWay, Cond.code yX4_tryWay cX4_tryWay 6 (some .int), Cond.methodLink RX4 109 yX4_isLess, Cond.instanceMethod yX4_isLess, Cond.selects RX4 yX4_isLess yX4_isLess, Cond.code yX4_isLess cX4_isLess 2 (some .boolean), Cond.methodLink RL 110 yL_best, Cond.static yL_best, Cond.codeWith yL_best cL_best 4 (some .int) [(0, 9, 12, 13)], Cond.methodLink RL 39 yX3_best, Cond.instanceMethod yX3_best]
def wsL_law_r19 : List Cond := [Cond.selects RX3 yX3_best yX3_best, Cond.code yX3_best cX3_best 2 (some .int), Cond.methodLink RX3 120 yX2_leastPresses, Cond.instanceMethod yX2_leastPresses, Cond.selects RX2 yX2_leastPresses yX2_leastPresses, Cond.code yX2_leastPresses cX2_leastPresses 2 (some .int), Cond.methodLink RL 112 yX4_best, Cond.instanceMethod yX4_best, Cond.selects RX4 yX4_best yX4_best, Cond.code yX4_best cX4_best 3 (some .int), Cond.methodLink RL 113 yL_alone, Cond.static yL_alone, Cond.codeWith yL_alone cL_alone 4 (some .int) [(0, 16, 19, 13)], Cond.methodLink RL 42 yX3_alone, Cond.instanceMethod yX3_alone, Cond.selects RX3 yX3_alone yX3_alone, Cond.code yX3_alone cX3_alone 3 (some .boolean), Cond.methodLink RL 115 yX4_alone, Cond.instanceMethod yX4_alone, Cond.selects RX4 yX4_alone yX4_alone, Cond.code yX4_alone cX4_alone 3 (some .boolean), Cond.methodLink RL 116 yX3_clear, Cond.instanceMethod yX3_clear, Cond.selects RX3 yX3_clear yX3_clear]
def wsL_law_r20 : List Cond := [Cond.code yX3_clear cX3_clear 2 none, Cond.methodLink RL 119 yX4_clear, Cond.instanceMethod yX4_clear, Cond.selects RX4 yX4_clear yX4_clear, Cond.code yX4_clear cX4_clear 2 none]
def wsL_law : List Cond := (wsL_law_r1 ++ (wsL_law_r2 ++ (wsL_law_r3 ++ (wsL_law_r4 ++ (wsL_law_r5 ++ (wsL_law_r6 ++ (wsL_law_r7 ++ (wsL_law_r8 ++ (wsL_law_r9 ++ (wsL_law_r10 ++ (wsL_law_r11 ++ (wsL_law_r12 ++ (wsL_law_r13 ++ (wsL_law_r14 ++ (wsL_law_r15 ++ (wsL_law_r16 ++ (wsL_law_r17 ++ (wsL_law_r18 ++ (wsL_law_r19 ++ wsL_law_r20))))))))))))))))))) ++ wsX30 ++ wsX40 ++ wsX10 ++ wsX20 ++ wsX00 ++ wsJx000600 ++ ([] : List Cond)
abbrev vwCl : List vw_C := [(RJx00060, TJx00060, 6), (RX0, TX0, 2), (RX1, TX1, 7), (RX2, TX2, 6), (RX3, TX3, 10), (RX4, TX4, 20)]
end
section
theorem dX0_init_0 : decode cX0_init 0 = .ok (.aload_n 0, 1) := by decide +kernel
theorem dX0_init_1 : decode cX0_init 1 = .ok (.invokespecial 3, 3) := by decide +kernel
theorem dX0_init_4 : decode cX0_init 4 = .ok (.aload_n 0, 1) := by decide +kernel
theorem dX0_init_5 : decode cX0_init 5 = .ok (.bipush 26, 2) := by decide +kernel
theorem dX0_init_7 : decode cX0_init 7 = .ok (.newarray .int, 2) := by decide +kernel
theorem dX0_init_9 : decode cX0_init 9 = .ok (.putfield 11, 3) := by decide +kernel
theorem dX0_init_12 : decode cX0_init 12 = .ok (.aload_n 0, 1) := by decide +kernel
theorem dX0_init_13 : decode cX0_init 13 = .ok (.iconst 1, 1) := by decide +kernel
theorem dX0_init_14 : decode cX0_init 14 = .ok (.putfield 15, 3) := by decide +kernel
theorem dX0_init_17 : decode cX0_init 17 = .ok (.return_, 1) := by decide +kernel
theorem dX0_become_0 : decode cX0_become 0 = .ok (.aload_n 0, 1) := by decide +kernel
theorem dX0_become_1 : decode cX0_become 1 = .ok (.getfield 11, 3) := by decide +kernel
theorem dX0_become_4 : decode cX0_become 4 = .ok (.iconst 0, 1) := by decide +kernel
theorem dX0_become_5 : decode cX0_become 5 = .ok (.iload_n 1, 1) := by decide +kernel
theorem dX0_become_6 : decode cX0_become 6 = .ok (.iastore, 1) := by decide +kernel
theorem dX0_become_7 : decode cX0_become 7 = .ok (.aload_n 0, 1) := by decide +kernel
theorem dX0_become_8 : decode cX0_become 8 = .ok (.iconst 1, 1) := by decide +kernel
theorem dX0_become_9 : decode cX0_become 9 = .ok (.putfield 15, 3) := by decide +kernel
theorem dX0_become_12 : decode cX0_become 12 = .ok (.return_, 1) := by decide +kernel
theorem dX0_multiply_0 : decode cX0_multiply 0 = .ok (.iconst 0, 1) := by decide +kernel
theorem dX0_multiply_1 : decode cX0_multiply 1 = .ok (.istore_n 2, 1) := by decide +kernel
theorem dX0_multiply_2 : decode cX0_multiply 2 = .ok (.iconst 0, 1) := by decide +kernel
theorem dX0_multiply_3 : decode cX0_multiply 3 = .ok (.istore_n 3, 1) := by decide +kernel
theorem dX0_multiply_4 : decode cX0_multiply 4 = .ok (.iload_n 3, 1) := by decide +kernel
theorem dX0_multiply_5 : decode cX0_multiply 5 = .ok (.aload_n 0, 1) := by decide +kernel
theorem dX0_multiply_6 : decode cX0_multiply 6 = .ok (.getfield 15, 3) := by decide +kernel
theorem dX0_multiply_9 : decode cX0_multiply 9 = .ok (.if_icmp .ge 38, 3) := by decide +kernel
theorem dX0_multiply_12 : decode cX0_multiply 12 = .ok (.aload_n 0, 1) := by decide +kernel
theorem dX0_multiply_13 : decode cX0_multiply 13 = .ok (.getfield 11, 3) := by decide +kernel
theorem dX0_multiply_16 : decode cX0_multiply 16 = .ok (.iload_n 3, 1) := by decide +kernel
theorem dX0_multiply_17 : decode cX0_multiply 17 = .ok (.iaload, 1) := by decide +kernel
theorem dX0_multiply_18 : decode cX0_multiply 18 = .ok (.iload_n 1, 1) := by decide +kernel
theorem dX0_multiply_19 : decode cX0_multiply 19 = .ok (.imul, 1) := by decide +kernel
theorem dX0_multiply_20 : decode cX0_multiply 20 = .ok (.iload_n 2, 1) := by decide +kernel
theorem dX0_multiply_21 : decode cX0_multiply 21 = .ok (.iadd, 1) := by decide +kernel
theorem dX0_multiply_22 : decode cX0_multiply 22 = .ok (.istore 4, 2) := by decide +kernel
theorem dX0_multiply_24 : decode cX0_multiply 24 = .ok (.aload_n 0, 1) := by decide +kernel
theorem dX0_multiply_25 : decode cX0_multiply 25 = .ok (.getfield 11, 3) := by decide +kernel
theorem dX0_multiply_28 : decode cX0_multiply 28 = .ok (.iload_n 3, 1) := by decide +kernel
theorem dX0_multiply_29 : decode cX0_multiply 29 = .ok (.iload 4, 2) := by decide +kernel
theorem dX0_multiply_31 : decode cX0_multiply 31 = .ok (.bipush 10, 2) := by decide +kernel
theorem dX0_multiply_33 : decode cX0_multiply 33 = .ok (.irem, 1) := by decide +kernel
theorem dX0_multiply_34 : decode cX0_multiply 34 = .ok (.iastore, 1) := by decide +kernel
theorem dX0_multiply_35 : decode cX0_multiply 35 = .ok (.iload 4, 2) := by decide +kernel
theorem dX0_multiply_37 : decode cX0_multiply 37 = .ok (.bipush 10, 2) := by decide +kernel
theorem dX0_multiply_39 : decode cX0_multiply 39 = .ok (.idiv, 1) := by decide +kernel
theorem dX0_multiply_40 : decode cX0_multiply 40 = .ok (.istore_n 2, 1) := by decide +kernel
theorem dX0_multiply_41 : decode cX0_multiply 41 = .ok (.iinc 3 1, 3) := by decide +kernel
theorem dX0_multiply_44 : decode cX0_multiply 44 = .ok (.goto (-40), 3) := by decide +kernel
theorem dX0_multiply_47 : decode cX0_multiply 47 = .ok (.iload_n 2, 1) := by decide +kernel
theorem dX0_multiply_48 : decode cX0_multiply 48 = .ok (.ifCond .le 32, 3) := by decide +kernel
theorem dX0_multiply_51 : decode cX0_multiply 51 = .ok (.aload_n 0, 1) := by decide +kernel
theorem dX0_multiply_52 : decode cX0_multiply 52 = .ok (.getfield 15, 3) := by decide +kernel
theorem dX0_multiply_55 : decode cX0_multiply 55 = .ok (.bipush 26, 2) := by decide +kernel
theorem dX0_multiply_57 : decode cX0_multiply 57 = .ok (.if_icmp .ge 23, 3) := by decide +kernel
theorem dX0_multiply_60 : decode cX0_multiply 60 = .ok (.aload_n 0, 1) := by decide +kernel
theorem dX0_multiply_61 : decode cX0_multiply 61 = .ok (.getfield 11, 3) := by decide +kernel
theorem dX0_multiply_64 : decode cX0_multiply 64 = .ok (.aload_n 0, 1) := by decide +kernel
theorem dX0_multiply_65 : decode cX0_multiply 65 = .ok (.getfield 15, 3) := by decide +kernel
theorem dX0_multiply_68 : decode cX0_multiply 68 = .ok (.iload_n 2, 1) := by decide +kernel
theorem dX0_multiply_69 : decode cX0_multiply 69 = .ok (.iastore, 1) := by decide +kernel
theorem dX0_multiply_70 : decode cX0_multiply 70 = .ok (.aload_n 0, 1) := by decide +kernel
theorem dX0_multiply_71 : decode cX0_multiply 71 = .ok (.dup, 1) := by decide +kernel
theorem dX0_multiply_72 : decode cX0_multiply 72 = .ok (.getfield 15, 3) := by decide +kernel
theorem dX0_multiply_75 : decode cX0_multiply 75 = .ok (.iconst 1, 1) := by decide +kernel
theorem dX0_multiply_76 : decode cX0_multiply 76 = .ok (.iadd, 1) := by decide +kernel
theorem dX0_multiply_77 : decode cX0_multiply 77 = .ok (.putfield 15, 3) := by decide +kernel
theorem dX0_multiply_80 : decode cX0_multiply 80 = .ok (.return_, 1) := by decide +kernel
theorem dX0_digit_0 : decode cX0_digit 0 = .ok (.iload_n 1, 1) := by decide +kernel
theorem dX0_digit_1 : decode cX0_digit 1 = .ok (.ifCond .lt 11, 3) := by decide +kernel
theorem dX0_digit_4 : decode cX0_digit 4 = .ok (.iload_n 1, 1) := by decide +kernel
theorem dX0_digit_5 : decode cX0_digit 5 = .ok (.aload_n 0, 1) := by decide +kernel
theorem dX0_digit_6 : decode cX0_digit 6 = .ok (.getfield 15, 3) := by decide +kernel
theorem dX0_digit_9 : decode cX0_digit 9 = .ok (.if_icmp .lt 7, 3) := by decide +kernel
theorem dX0_digit_12 : decode cX0_digit 12 = .ok (.iconst (-1), 1) := by decide +kernel
theorem dX0_digit_13 : decode cX0_digit 13 = .ok (.goto 9, 3) := by decide +kernel
theorem dX0_digit_16 : decode cX0_digit 16 = .ok (.aload_n 0, 1) := by decide +kernel
theorem dX0_digit_17 : decode cX0_digit 17 = .ok (.getfield 11, 3) := by decide +kernel
theorem dX0_digit_20 : decode cX0_digit 20 = .ok (.iload_n 1, 1) := by decide +kernel
theorem dX0_digit_21 : decode cX0_digit 21 = .ok (.iaload, 1) := by decide +kernel
theorem dX0_digit_22 : decode cX0_digit 22 = .ok (.ireturn, 1) := by decide +kernel
theorem dX1_init_0 : decode cX1_init 0 = .ok (.aload_n 0, 1) := by decide +kernel
theorem dX1_init_1 : decode cX1_init 1 = .ok (.invokespecial 3, 3) := by decide +kernel
theorem dX1_init_4 : decode cX1_init 4 = .ok (.aload_n 0, 1) := by decide +kernel
theorem dX1_init_5 : decode cX1_init 5 = .ok (.iload_n 1, 1) := by decide +kernel
theorem dX1_init_6 : decode cX1_init 6 = .ok (.putfield 9, 3) := by decide +kernel
theorem dX1_init_9 : decode cX1_init 9 = .ok (.aload_n 0, 1) := by decide +kernel
theorem dX1_init_10 : decode cX1_init 10 = .ok (.iload_n 2, 1) := by decide +kernel
theorem dX1_init_11 : decode cX1_init 11 = .ok (.putfield 15, 3) := by decide +kernel
theorem dX1_init_14 : decode cX1_init 14 = .ok (.aload_n 0, 1) := by decide +kernel
theorem dX1_init_15 : decode cX1_init 15 = .ok (.iload_n 1, 1) := by decide +kernel
theorem dX1_init_16 : decode cX1_init 16 = .ok (.iload_n 1, 1) := by decide +kernel
theorem dX1_init_17 : decode cX1_init 17 = .ok (.iconst 1, 1) := by decide +kernel
theorem dX1_init_18 : decode cX1_init 18 = .ok (.iadd, 1) := by decide +kernel
theorem dX1_init_19 : decode cX1_init 19 = .ok (.multianewarray 18 2, 4) := by decide +kernel
theorem dX1_init_23 : decode cX1_init 23 = .ok (.putfield 20, 3) := by decide +kernel
theorem dX1_init_26 : decode cX1_init 26 = .ok (.aload_n 0, 1) := by decide +kernel
theorem dX1_init_27 : decode cX1_init 27 = .ok (.iload_n 1, 1) := by decide +kernel
theorem dX1_init_28 : decode cX1_init 28 = .ok (.newarray .int, 2) := by decide +kernel
theorem dX1_init_30 : decode cX1_init 30 = .ok (.putfield 23, 3) := by decide +kernel
theorem dX1_init_33 : decode cX1_init 33 = .ok (.aload_n 0, 1) := by decide +kernel
theorem dX1_init_34 : decode cX1_init 34 = .ok (.iload_n 1, 1) := by decide +kernel
theorem dX1_init_35 : decode cX1_init 35 = .ok (.iload_n 1, 1) := by decide +kernel
theorem dX1_init_36 : decode cX1_init 36 = .ok (.multianewarray 18 2, 4) := by decide +kernel
theorem dX1_init_40 : decode cX1_init 40 = .ok (.putfield 27, 3) := by decide +kernel
theorem dX1_init_43 : decode cX1_init 43 = .ok (.aload_n 0, 1) := by decide +kernel
theorem dX1_init_44 : decode cX1_init 44 = .ok (.iconst 0, 1) := by decide +kernel
theorem dX1_init_45 : decode cX1_init 45 = .ok (.putfield 30, 3) := by decide +kernel
theorem dX1_init_48 : decode cX1_init 48 = .ok (.aload_n 0, 1) := by decide +kernel
theorem dX1_init_49 : decode cX1_init 49 = .ok (.iconst 0, 1) := by decide +kernel
theorem dX1_init_50 : decode cX1_init 50 = .ok (.putfield 33, 3) := by decide +kernel
theorem dX1_init_53 : decode cX1_init 53 = .ok (.return_, 1) := by decide +kernel
theorem dX1_take_0 : decode cX1_take 0 = .ok (.iconst 0, 1) := by decide +kernel
theorem dX1_take_1 : decode cX1_take 1 = .ok (.istore 4, 2) := by decide +kernel
theorem dX1_take_3 : decode cX1_take 3 = .ok (.iload 4, 2) := by decide +kernel
theorem dX1_take_5 : decode cX1_take 5 = .ok (.aload_n 0, 1) := by decide +kernel
theorem dX1_take_6 : decode cX1_take 6 = .ok (.getfield 9, 3) := by decide +kernel
theorem dX1_take_9 : decode cX1_take 9 = .ok (.if_icmp .ge 76, 3) := by decide +kernel
theorem dX1_take_12 : decode cX1_take 12 = .ok (.aload_n 0, 1) := by decide +kernel
theorem dX1_take_13 : decode cX1_take 13 = .ok (.getfield 20, 3) := by decide +kernel
theorem dX1_take_16 : decode cX1_take 16 = .ok (.iload 4, 2) := by decide +kernel
theorem dX1_take_18 : decode cX1_take 18 = .ok (.aaload, 1) := by decide +kernel
theorem dX1_take_19 : decode cX1_take 19 = .ok (.astore 5, 2) := by decide +kernel
theorem dX1_take_21 : decode cX1_take 21 = .ok (.iconst 0, 1) := by decide +kernel
theorem dX1_take_22 : decode cX1_take 22 = .ok (.istore 6, 2) := by decide +kernel
theorem dX1_take_24 : decode cX1_take 24 = .ok (.iload 6, 2) := by decide +kernel
theorem dX1_take_26 : decode cX1_take 26 = .ok (.aload_n 0, 1) := by decide +kernel
theorem dX1_take_27 : decode cX1_take 27 = .ok (.getfield 9, 3) := by decide +kernel
theorem dX1_take_30 : decode cX1_take 30 = .ok (.if_icmp .ge 23, 3) := by decide +kernel
theorem dX1_take_33 : decode cX1_take 33 = .ok (.aload 5, 2) := by decide +kernel
theorem dX1_take_35 : decode cX1_take 35 = .ok (.iload 6, 2) := by decide +kernel
theorem dX1_take_37 : decode cX1_take 37 = .ok (.aload_n 1, 1) := by decide +kernel
theorem dX1_take_38 : decode cX1_take 38 = .ok (.iload 6, 2) := by decide +kernel
theorem dX1_take_40 : decode cX1_take 40 = .ok (.iaload, 1) := by decide +kernel
theorem dX1_take_41 : decode cX1_take 41 = .ok (.iload 4, 2) := by decide +kernel
theorem dX1_take_43 : decode cX1_take 43 = .ok (.ishr, 1) := by decide +kernel
theorem dX1_take_44 : decode cX1_take 44 = .ok (.iconst 1, 1) := by decide +kernel
theorem dX1_take_45 : decode cX1_take 45 = .ok (.iand, 1) := by decide +kernel
theorem dX1_take_46 : decode cX1_take 46 = .ok (.iastore, 1) := by decide +kernel
theorem dX1_take_47 : decode cX1_take 47 = .ok (.iinc 6 1, 3) := by decide +kernel
theorem dX1_take_50 : decode cX1_take 50 = .ok (.goto (-26), 3) := by decide +kernel
theorem dX1_take_53 : decode cX1_take 53 = .ok (.aload 5, 2) := by decide +kernel
theorem dX1_take_55 : decode cX1_take 55 = .ok (.aload_n 0, 1) := by decide +kernel
theorem dX1_take_56 : decode cX1_take 56 = .ok (.getfield 9, 3) := by decide +kernel
theorem dX1_take_59 : decode cX1_take 59 = .ok (.aload_n 3, 1) := by decide +kernel
theorem dX1_take_60 : decode cX1_take 60 = .ok (.iload 4, 2) := by decide +kernel
theorem dX1_take_62 : decode cX1_take 62 = .ok (.iaload, 1) := by decide +kernel
theorem dX1_take_63 : decode cX1_take 63 = .ok (.aload_n 2, 1) := by decide +kernel
theorem dX1_take_64 : decode cX1_take 64 = .ok (.iload 4, 2) := by decide +kernel
theorem dX1_take_66 : decode cX1_take 66 = .ok (.iaload, 1) := by decide +kernel
theorem dX1_take_67 : decode cX1_take 67 = .ok (.isub, 1) := by decide +kernel
theorem dX1_take_68 : decode cX1_take 68 = .ok (.aload_n 0, 1) := by decide +kernel
theorem dX1_take_69 : decode cX1_take 69 = .ok (.getfield 15, 3) := by decide +kernel
theorem dX1_take_72 : decode cX1_take 72 = .ok (.iadd, 1) := by decide +kernel
theorem dX1_take_73 : decode cX1_take 73 = .ok (.aload_n 0, 1) := by decide +kernel
theorem dX1_take_74 : decode cX1_take 74 = .ok (.getfield 15, 3) := by decide +kernel
theorem dX1_take_77 : decode cX1_take 77 = .ok (.irem, 1) := by decide +kernel
theorem dX1_take_78 : decode cX1_take 78 = .ok (.iastore, 1) := by decide +kernel
theorem dX1_take_79 : decode cX1_take 79 = .ok (.iinc 4 1, 3) := by decide +kernel
theorem dX1_take_82 : decode cX1_take 82 = .ok (.goto (-79), 3) := by decide +kernel
theorem dX1_take_85 : decode cX1_take 85 = .ok (.return_, 1) := by decide +kernel
theorem dX1_reduce_0 : decode cX1_reduce 0 = .ok (.aload_n 0, 1) := by decide +kernel
theorem dX1_reduce_1 : decode cX1_reduce 1 = .ok (.iconst 0, 1) := by decide +kernel
theorem dX1_reduce_2 : decode cX1_reduce 2 = .ok (.putfield 30, 3) := by decide +kernel
theorem dX1_reduce_5 : decode cX1_reduce 5 = .ok (.iconst 0, 1) := by decide +kernel
theorem dX1_reduce_6 : decode cX1_reduce 6 = .ok (.istore_n 1, 1) := by decide +kernel
theorem dX1_reduce_7 : decode cX1_reduce 7 = .ok (.iload_n 1, 1) := by decide +kernel
theorem dX1_reduce_8 : decode cX1_reduce 8 = .ok (.aload_n 0, 1) := by decide +kernel
theorem dX1_reduce_9 : decode cX1_reduce 9 = .ok (.getfield 9, 3) := by decide +kernel
theorem dX1_reduce_12 : decode cX1_reduce 12 = .ok (.if_icmp .ge 81, 3) := by decide +kernel
theorem dX1_reduce_15 : decode cX1_reduce 15 = .ok (.aload_n 0, 1) := by decide +kernel
theorem dX1_reduce_16 : decode cX1_reduce 16 = .ok (.iload_n 1, 1) := by decide +kernel
theorem dX1_reduce_17 : decode cX1_reduce 17 = .ok (.invokevirtual 36, 3) := by decide +kernel
theorem dX1_reduce_20 : decode cX1_reduce 20 = .ok (.istore_n 2, 1) := by decide +kernel
theorem dX1_reduce_21 : decode cX1_reduce 21 = .ok (.aload_n 0, 1) := by decide +kernel
theorem dX1_reduce_22 : decode cX1_reduce 22 = .ok (.getfield 23, 3) := by decide +kernel
theorem dX1_reduce_25 : decode cX1_reduce 25 = .ok (.iload_n 1, 1) := by decide +kernel
theorem dX1_reduce_26 : decode cX1_reduce 26 = .ok (.iload_n 2, 1) := by decide +kernel
theorem dX1_reduce_27 : decode cX1_reduce 27 = .ok (.iconst (-1), 1) := by decide +kernel
theorem dX1_reduce_28 : decode cX1_reduce 28 = .ok (.if_icmp .ne 7, 3) := by decide +kernel
theorem dX1_reduce_31 : decode cX1_reduce 31 = .ok (.iconst (-1), 1) := by decide +kernel
theorem dX1_reduce_32 : decode cX1_reduce 32 = .ok (.goto 7, 3) := by decide +kernel
theorem dX1_reduce_35 : decode cX1_reduce 35 = .ok (.aload_n 0, 1) := by decide +kernel
theorem dX1_reduce_36 : decode cX1_reduce 36 = .ok (.getfield 30, 3) := by decide +kernel
theorem dX1_reduce_39 : decode cX1_reduce 39 = .ok (.iastore, 1) := by decide +kernel
theorem dX1_reduce_40 : decode cX1_reduce 40 = .ok (.iload_n 2, 1) := by decide +kernel
theorem dX1_reduce_41 : decode cX1_reduce 41 = .ok (.iconst (-1), 1) := by decide +kernel
theorem dX1_reduce_42 : decode cX1_reduce 42 = .ok (.if_icmp .eq 45, 3) := by decide +kernel
theorem dX1_reduce_45 : decode cX1_reduce 45 = .ok (.aload_n 0, 1) := by decide +kernel
theorem dX1_reduce_46 : decode cX1_reduce 46 = .ok (.iload_n 2, 1) := by decide +kernel
theorem dX1_reduce_47 : decode cX1_reduce 47 = .ok (.aload_n 0, 1) := by decide +kernel
theorem dX1_reduce_48 : decode cX1_reduce 48 = .ok (.getfield 30, 3) := by decide +kernel
theorem dX1_reduce_51 : decode cX1_reduce 51 = .ok (.invokevirtual 40, 3) := by decide +kernel
theorem dX1_reduce_54 : decode cX1_reduce 54 = .ok (.aload_n 0, 1) := by decide +kernel
theorem dX1_reduce_55 : decode cX1_reduce 55 = .ok (.aload_n 0, 1) := by decide +kernel
theorem dX1_reduce_56 : decode cX1_reduce 56 = .ok (.getfield 20, 3) := by decide +kernel
theorem dX1_reduce_59 : decode cX1_reduce 59 = .ok (.aload_n 0, 1) := by decide +kernel
theorem dX1_reduce_60 : decode cX1_reduce 60 = .ok (.getfield 30, 3) := by decide +kernel
theorem dX1_reduce_63 : decode cX1_reduce 63 = .ok (.aaload, 1) := by decide +kernel
theorem dX1_reduce_64 : decode cX1_reduce 64 = .ok (.iload_n 1, 1) := by decide +kernel
theorem dX1_reduce_65 : decode cX1_reduce 65 = .ok (.invokevirtual 44, 3) := by decide +kernel
theorem dX1_reduce_68 : decode cX1_reduce 68 = .ok (.aload_n 0, 1) := by decide +kernel
theorem dX1_reduce_69 : decode cX1_reduce 69 = .ok (.aload_n 0, 1) := by decide +kernel
theorem dX1_reduce_70 : decode cX1_reduce 70 = .ok (.getfield 30, 3) := by decide +kernel
theorem dX1_reduce_73 : decode cX1_reduce 73 = .ok (.iload_n 1, 1) := by decide +kernel
theorem dX1_reduce_74 : decode cX1_reduce 74 = .ok (.invokevirtual 48, 3) := by decide +kernel
theorem dX1_reduce_77 : decode cX1_reduce 77 = .ok (.aload_n 0, 1) := by decide +kernel
theorem dX1_reduce_78 : decode cX1_reduce 78 = .ok (.dup, 1) := by decide +kernel
theorem dX1_reduce_79 : decode cX1_reduce 79 = .ok (.getfield 30, 3) := by decide +kernel
theorem dX1_reduce_82 : decode cX1_reduce 82 = .ok (.iconst 1, 1) := by decide +kernel
theorem dX1_reduce_83 : decode cX1_reduce 83 = .ok (.iadd, 1) := by decide +kernel
theorem dX1_reduce_84 : decode cX1_reduce 84 = .ok (.putfield 30, 3) := by decide +kernel
theorem dX1_reduce_87 : decode cX1_reduce 87 = .ok (.iinc 1 1, 3) := by decide +kernel
theorem dX1_reduce_90 : decode cX1_reduce 90 = .ok (.goto (-83), 3) := by decide +kernel
theorem dX1_reduce_93 : decode cX1_reduce 93 = .ok (.aload_n 0, 1) := by decide +kernel
theorem dX1_reduce_94 : decode cX1_reduce 94 = .ok (.invokevirtual 51, 3) := by decide +kernel
theorem dX1_reduce_97 : decode cX1_reduce 97 = .ok (.return_, 1) := by decide +kernel
theorem dX1_boundLamps_0 : decode cX1_boundLamps 0 = .ok (.aload_n 0, 1) := by decide +kernel
theorem dX1_boundLamps_1 : decode cX1_boundLamps 1 = .ok (.getfield 30, 3) := by decide +kernel
theorem dX1_boundLamps_4 : decode cX1_boundLamps 4 = .ok (.ireturn, 1) := by decide +kernel
theorem dX1_freeLamps_0 : decode cX1_freeLamps 0 = .ok (.aload_n 0, 1) := by decide +kernel
theorem dX1_freeLamps_1 : decode cX1_freeLamps 1 = .ok (.getfield 33, 3) := by decide +kernel
theorem dX1_freeLamps_4 : decode cX1_freeLamps 4 = .ok (.ireturn, 1) := by decide +kernel
theorem dX1_agree_0 : decode cX1_agree 0 = .ok (.aload_n 0, 1) := by decide +kernel
theorem dX1_agree_1 : decode cX1_agree 1 = .ok (.getfield 30, 3) := by decide +kernel
theorem dX1_agree_4 : decode cX1_agree 4 = .ok (.istore_n 1, 1) := by decide +kernel
theorem dX1_agree_5 : decode cX1_agree 5 = .ok (.iload_n 1, 1) := by decide +kernel
theorem dX1_agree_6 : decode cX1_agree 6 = .ok (.aload_n 0, 1) := by decide +kernel
theorem dX1_agree_7 : decode cX1_agree 7 = .ok (.getfield 9, 3) := by decide +kernel
theorem dX1_agree_10 : decode cX1_agree 10 = .ok (.if_icmp .ge 25, 3) := by decide +kernel
theorem dX1_agree_13 : decode cX1_agree 13 = .ok (.aload_n 0, 1) := by decide +kernel
theorem dX1_agree_14 : decode cX1_agree 14 = .ok (.getfield 20, 3) := by decide +kernel
theorem dX1_agree_17 : decode cX1_agree 17 = .ok (.iload_n 1, 1) := by decide +kernel
theorem dX1_agree_18 : decode cX1_agree 18 = .ok (.aaload, 1) := by decide +kernel
theorem dX1_agree_19 : decode cX1_agree 19 = .ok (.aload_n 0, 1) := by decide +kernel
theorem dX1_agree_20 : decode cX1_agree 20 = .ok (.getfield 9, 3) := by decide +kernel
theorem dX1_agree_23 : decode cX1_agree 23 = .ok (.iaload, 1) := by decide +kernel
theorem dX1_agree_24 : decode cX1_agree 24 = .ok (.ifCond .eq 5, 3) := by decide +kernel
theorem dX1_agree_27 : decode cX1_agree 27 = .ok (.iconst 0, 1) := by decide +kernel
theorem dX1_agree_28 : decode cX1_agree 28 = .ok (.ireturn, 1) := by decide +kernel
theorem dX1_agree_29 : decode cX1_agree 29 = .ok (.iinc 1 1, 3) := by decide +kernel
theorem dX1_agree_32 : decode cX1_agree 32 = .ok (.goto (-27), 3) := by decide +kernel
theorem dX1_agree_35 : decode cX1_agree 35 = .ok (.iconst 1, 1) := by decide +kernel
theorem dX1_agree_36 : decode cX1_agree 36 = .ok (.ireturn, 1) := by decide +kernel
theorem dX1_pressesOf_0 : decode cX1_pressesOf 0 = .ok (.aload_n 0, 1) := by decide +kernel
theorem dX1_pressesOf_1 : decode cX1_pressesOf 1 = .ok (.getfield 23, 3) := by decide +kernel
theorem dX1_pressesOf_4 : decode cX1_pressesOf 4 = .ok (.iload_n 1, 1) := by decide +kernel
theorem dX1_pressesOf_5 : decode cX1_pressesOf 5 = .ok (.iaload, 1) := by decide +kernel
theorem dX1_pressesOf_6 : decode cX1_pressesOf 6 = .ok (.istore_n 2, 1) := by decide +kernel
theorem dX1_pressesOf_7 : decode cX1_pressesOf 7 = .ok (.iload_n 2, 1) := by decide +kernel
theorem dX1_pressesOf_8 : decode cX1_pressesOf 8 = .ok (.iconst (-1), 1) := by decide +kernel
theorem dX1_pressesOf_9 : decode cX1_pressesOf 9 = .ok (.if_icmp .ne 7, 3) := by decide +kernel
theorem dX1_pressesOf_12 : decode cX1_pressesOf 12 = .ok (.iconst 0, 1) := by decide +kernel
theorem dX1_pressesOf_13 : decode cX1_pressesOf 13 = .ok (.goto 14, 3) := by decide +kernel
theorem dX1_pressesOf_16 : decode cX1_pressesOf 16 = .ok (.aload_n 0, 1) := by decide +kernel
theorem dX1_pressesOf_17 : decode cX1_pressesOf 17 = .ok (.getfield 20, 3) := by decide +kernel
theorem dX1_pressesOf_20 : decode cX1_pressesOf 20 = .ok (.iload_n 2, 1) := by decide +kernel
theorem dX1_pressesOf_21 : decode cX1_pressesOf 21 = .ok (.aaload, 1) := by decide +kernel
theorem dX1_pressesOf_22 : decode cX1_pressesOf 22 = .ok (.aload_n 0, 1) := by decide +kernel
theorem dX1_pressesOf_23 : decode cX1_pressesOf 23 = .ok (.getfield 9, 3) := by decide +kernel
theorem dX1_pressesOf_26 : decode cX1_pressesOf 26 = .ok (.iaload, 1) := by decide +kernel
theorem dX1_pressesOf_27 : decode cX1_pressesOf 27 = .ok (.ireturn, 1) := by decide +kernel
theorem dX1_quietPattern_0 : decode cX1_quietPattern 0 = .ok (.aload_n 0, 1) := by decide +kernel
theorem dX1_quietPattern_1 : decode cX1_quietPattern 1 = .ok (.getfield 27, 3) := by decide +kernel
theorem dX1_quietPattern_4 : decode cX1_quietPattern 4 = .ok (.iload_n 1, 1) := by decide +kernel
theorem dX1_quietPattern_5 : decode cX1_quietPattern 5 = .ok (.aaload, 1) := by decide +kernel
theorem dX1_quietPattern_6 : decode cX1_quietPattern 6 = .ok (.areturn, 1) := by decide +kernel
theorem dX1_answersUpTo_0 : decode cX1_answersUpTo 0 = .ok (.aload_n 0, 1) := by decide +kernel
theorem dX1_answersUpTo_1 : decode cX1_answersUpTo 1 = .ok (.invokevirtual 54, 3) := by decide +kernel
theorem dX1_answersUpTo_4 : decode cX1_answersUpTo 4 = .ok (.ifCond .ne 5, 3) := by decide +kernel
theorem dX1_answersUpTo_7 : decode cX1_answersUpTo 7 = .ok (.iconst 0, 1) := by decide +kernel
theorem dX1_answersUpTo_8 : decode cX1_answersUpTo 8 = .ok (.ireturn, 1) := by decide +kernel
theorem dX1_answersUpTo_9 : decode cX1_answersUpTo 9 = .ok (.iconst 1, 1) := by decide +kernel
theorem dX1_answersUpTo_10 : decode cX1_answersUpTo 10 = .ok (.istore_n 2, 1) := by decide +kernel
theorem dX1_answersUpTo_11 : decode cX1_answersUpTo 11 = .ok (.iconst 0, 1) := by decide +kernel
theorem dX1_answersUpTo_12 : decode cX1_answersUpTo 12 = .ok (.istore_n 3, 1) := by decide +kernel
theorem dX1_answersUpTo_13 : decode cX1_answersUpTo 13 = .ok (.iload_n 3, 1) := by decide +kernel
theorem dX1_answersUpTo_14 : decode cX1_answersUpTo 14 = .ok (.aload_n 0, 1) := by decide +kernel
theorem dX1_answersUpTo_15 : decode cX1_answersUpTo 15 = .ok (.getfield 33, 3) := by decide +kernel
theorem dX1_answersUpTo_18 : decode cX1_answersUpTo 18 = .ok (.if_icmp .ge 21, 3) := by decide +kernel
theorem dX1_answersUpTo_21 : decode cX1_answersUpTo 21 = .ok (.iload_n 2, 1) := by decide +kernel
theorem dX1_answersUpTo_22 : decode cX1_answersUpTo 22 = .ok (.iload_n 1, 1) := by decide +kernel
theorem dX1_answersUpTo_23 : decode cX1_answersUpTo 23 = .ok (.if_icmp .gt 16, 3) := by decide +kernel
theorem dX1_answersUpTo_26 : decode cX1_answersUpTo 26 = .ok (.iload_n 2, 1) := by decide +kernel
theorem dX1_answersUpTo_27 : decode cX1_answersUpTo 27 = .ok (.aload_n 0, 1) := by decide +kernel
theorem dX1_answersUpTo_28 : decode cX1_answersUpTo 28 = .ok (.getfield 15, 3) := by decide +kernel
theorem dX1_answersUpTo_31 : decode cX1_answersUpTo 31 = .ok (.imul, 1) := by decide +kernel
theorem dX1_answersUpTo_32 : decode cX1_answersUpTo 32 = .ok (.istore_n 2, 1) := by decide +kernel
theorem dX1_answersUpTo_33 : decode cX1_answersUpTo 33 = .ok (.iinc 3 1, 3) := by decide +kernel
theorem dX1_answersUpTo_36 : decode cX1_answersUpTo 36 = .ok (.goto (-23), 3) := by decide +kernel
theorem dX1_answersUpTo_39 : decode cX1_answersUpTo 39 = .ok (.iload_n 2, 1) := by decide +kernel
theorem dX1_answersUpTo_40 : decode cX1_answersUpTo 40 = .ok (.ireturn, 1) := by decide +kernel
theorem dX1_unusedRowWith_0 : decode cX1_unusedRowWith 0 = .ok (.aload_n 0, 1) := by decide +kernel
theorem dX1_unusedRowWith_1 : decode cX1_unusedRowWith 1 = .ok (.getfield 30, 3) := by decide +kernel
theorem dX1_unusedRowWith_4 : decode cX1_unusedRowWith 4 = .ok (.istore_n 2, 1) := by decide +kernel
theorem dX1_unusedRowWith_5 : decode cX1_unusedRowWith 5 = .ok (.iload_n 2, 1) := by decide +kernel
theorem dX1_unusedRowWith_6 : decode cX1_unusedRowWith 6 = .ok (.aload_n 0, 1) := by decide +kernel
theorem dX1_unusedRowWith_7 : decode cX1_unusedRowWith 7 = .ok (.getfield 9, 3) := by decide +kernel
theorem dX1_unusedRowWith_10 : decode cX1_unusedRowWith 10 = .ok (.if_icmp .ge 22, 3) := by decide +kernel
theorem dX1_unusedRowWith_13 : decode cX1_unusedRowWith 13 = .ok (.aload_n 0, 1) := by decide +kernel
theorem dX1_unusedRowWith_14 : decode cX1_unusedRowWith 14 = .ok (.getfield 20, 3) := by decide +kernel
theorem dX1_unusedRowWith_17 : decode cX1_unusedRowWith 17 = .ok (.iload_n 2, 1) := by decide +kernel
theorem dX1_unusedRowWith_18 : decode cX1_unusedRowWith 18 = .ok (.aaload, 1) := by decide +kernel
theorem dX1_unusedRowWith_19 : decode cX1_unusedRowWith 19 = .ok (.iload_n 1, 1) := by decide +kernel
theorem dX1_unusedRowWith_20 : decode cX1_unusedRowWith 20 = .ok (.iaload, 1) := by decide +kernel
theorem dX1_unusedRowWith_21 : decode cX1_unusedRowWith 21 = .ok (.ifCond .eq 5, 3) := by decide +kernel
theorem dX1_unusedRowWith_24 : decode cX1_unusedRowWith 24 = .ok (.iload_n 2, 1) := by decide +kernel
theorem dX1_unusedRowWith_25 : decode cX1_unusedRowWith 25 = .ok (.ireturn, 1) := by decide +kernel
theorem dX1_unusedRowWith_26 : decode cX1_unusedRowWith 26 = .ok (.iinc 2 1, 3) := by decide +kernel
theorem dX1_unusedRowWith_29 : decode cX1_unusedRowWith 29 = .ok (.goto (-24), 3) := by decide +kernel
theorem dX1_unusedRowWith_32 : decode cX1_unusedRowWith 32 = .ok (.iconst (-1), 1) := by decide +kernel
theorem dX1_unusedRowWith_33 : decode cX1_unusedRowWith 33 = .ok (.ireturn, 1) := by decide +kernel
theorem dX1_swap_0 : decode cX1_swap 0 = .ok (.aload_n 0, 1) := by decide +kernel
theorem dX1_swap_1 : decode cX1_swap 1 = .ok (.getfield 20, 3) := by decide +kernel
theorem dX1_swap_4 : decode cX1_swap 4 = .ok (.iload_n 1, 1) := by decide +kernel
theorem dX1_swap_5 : decode cX1_swap 5 = .ok (.aaload, 1) := by decide +kernel
theorem dX1_swap_6 : decode cX1_swap 6 = .ok (.astore_n 3, 1) := by decide +kernel
theorem dX1_swap_7 : decode cX1_swap 7 = .ok (.aload_n 0, 1) := by decide +kernel
theorem dX1_swap_8 : decode cX1_swap 8 = .ok (.getfield 20, 3) := by decide +kernel
theorem dX1_swap_11 : decode cX1_swap 11 = .ok (.iload_n 1, 1) := by decide +kernel
theorem dX1_swap_12 : decode cX1_swap 12 = .ok (.aload_n 0, 1) := by decide +kernel
theorem dX1_swap_13 : decode cX1_swap 13 = .ok (.getfield 20, 3) := by decide +kernel
theorem dX1_swap_16 : decode cX1_swap 16 = .ok (.iload_n 2, 1) := by decide +kernel
theorem dX1_swap_17 : decode cX1_swap 17 = .ok (.aaload, 1) := by decide +kernel
theorem dX1_swap_18 : decode cX1_swap 18 = .ok (.aastore, 1) := by decide +kernel
theorem dX1_swap_19 : decode cX1_swap 19 = .ok (.aload_n 0, 1) := by decide +kernel
theorem dX1_swap_20 : decode cX1_swap 20 = .ok (.getfield 20, 3) := by decide +kernel
theorem dX1_swap_23 : decode cX1_swap 23 = .ok (.iload_n 2, 1) := by decide +kernel
theorem dX1_swap_24 : decode cX1_swap 24 = .ok (.aload_n 3, 1) := by decide +kernel
theorem dX1_swap_25 : decode cX1_swap 25 = .ok (.aastore, 1) := by decide +kernel
theorem dX1_swap_26 : decode cX1_swap 26 = .ok (.return_, 1) := by decide +kernel
theorem dX1_makeUnit_0 : decode cX1_makeUnit 0 = .ok (.aload_n 0, 1) := by decide +kernel
theorem dX1_makeUnit_1 : decode cX1_makeUnit 1 = .ok (.aload_n 1, 1) := by decide +kernel
theorem dX1_makeUnit_2 : decode cX1_makeUnit 2 = .ok (.iload_n 2, 1) := by decide +kernel
theorem dX1_makeUnit_3 : decode cX1_makeUnit 3 = .ok (.iaload, 1) := by decide +kernel
theorem dX1_makeUnit_4 : decode cX1_makeUnit 4 = .ok (.invokevirtual 58, 3) := by decide +kernel
theorem dX1_makeUnit_7 : decode cX1_makeUnit 7 = .ok (.istore_n 3, 1) := by decide +kernel
theorem dX1_makeUnit_8 : decode cX1_makeUnit 8 = .ok (.iconst 0, 1) := by decide +kernel
theorem dX1_makeUnit_9 : decode cX1_makeUnit 9 = .ok (.istore 4, 2) := by decide +kernel
theorem dX1_makeUnit_11 : decode cX1_makeUnit 11 = .ok (.iload 4, 2) := by decide +kernel
theorem dX1_makeUnit_13 : decode cX1_makeUnit 13 = .ok (.aload_n 0, 1) := by decide +kernel
theorem dX1_makeUnit_14 : decode cX1_makeUnit 14 = .ok (.getfield 9, 3) := by decide +kernel
theorem dX1_makeUnit_17 : decode cX1_makeUnit 17 = .ok (.if_icmp .gt 24, 3) := by decide +kernel
theorem dX1_makeUnit_20 : decode cX1_makeUnit 20 = .ok (.aload_n 1, 1) := by decide +kernel
theorem dX1_makeUnit_21 : decode cX1_makeUnit 21 = .ok (.iload 4, 2) := by decide +kernel
theorem dX1_makeUnit_23 : decode cX1_makeUnit 23 = .ok (.aload_n 1, 1) := by decide +kernel
theorem dX1_makeUnit_24 : decode cX1_makeUnit 24 = .ok (.iload 4, 2) := by decide +kernel
theorem dX1_makeUnit_26 : decode cX1_makeUnit 26 = .ok (.iaload, 1) := by decide +kernel
theorem dX1_makeUnit_27 : decode cX1_makeUnit 27 = .ok (.iload_n 3, 1) := by decide +kernel
theorem dX1_makeUnit_28 : decode cX1_makeUnit 28 = .ok (.imul, 1) := by decide +kernel
theorem dX1_makeUnit_29 : decode cX1_makeUnit 29 = .ok (.aload_n 0, 1) := by decide +kernel
theorem dX1_makeUnit_30 : decode cX1_makeUnit 30 = .ok (.getfield 15, 3) := by decide +kernel
theorem dX1_makeUnit_33 : decode cX1_makeUnit 33 = .ok (.irem, 1) := by decide +kernel
theorem dX1_makeUnit_34 : decode cX1_makeUnit 34 = .ok (.iastore, 1) := by decide +kernel
theorem dX1_makeUnit_35 : decode cX1_makeUnit 35 = .ok (.iinc 4 1, 3) := by decide +kernel
theorem dX1_makeUnit_38 : decode cX1_makeUnit 38 = .ok (.goto (-27), 3) := by decide +kernel
theorem dX1_makeUnit_41 : decode cX1_makeUnit 41 = .ok (.return_, 1) := by decide +kernel
theorem dX1_inverse_0 : decode cX1_inverse 0 = .ok (.iconst 2, 1) := by decide +kernel
theorem dX1_inverse_1 : decode cX1_inverse 1 = .ok (.istore_n 2, 1) := by decide +kernel
theorem dX1_inverse_2 : decode cX1_inverse 2 = .ok (.iload_n 2, 1) := by decide +kernel
theorem dX1_inverse_3 : decode cX1_inverse 3 = .ok (.aload_n 0, 1) := by decide +kernel
theorem dX1_inverse_4 : decode cX1_inverse 4 = .ok (.getfield 15, 3) := by decide +kernel
theorem dX1_inverse_7 : decode cX1_inverse 7 = .ok (.if_icmp .ge 23, 3) := by decide +kernel
theorem dX1_inverse_10 : decode cX1_inverse 10 = .ok (.iload_n 1, 1) := by decide +kernel
theorem dX1_inverse_11 : decode cX1_inverse 11 = .ok (.iload_n 2, 1) := by decide +kernel
theorem dX1_inverse_12 : decode cX1_inverse 12 = .ok (.imul, 1) := by decide +kernel
theorem dX1_inverse_13 : decode cX1_inverse 13 = .ok (.aload_n 0, 1) := by decide +kernel
theorem dX1_inverse_14 : decode cX1_inverse 14 = .ok (.getfield 15, 3) := by decide +kernel
theorem dX1_inverse_17 : decode cX1_inverse 17 = .ok (.irem, 1) := by decide +kernel
theorem dX1_inverse_18 : decode cX1_inverse 18 = .ok (.iconst 1, 1) := by decide +kernel
theorem dX1_inverse_19 : decode cX1_inverse 19 = .ok (.if_icmp .ne 5, 3) := by decide +kernel
theorem dX1_inverse_22 : decode cX1_inverse 22 = .ok (.iload_n 2, 1) := by decide +kernel
theorem dX1_inverse_23 : decode cX1_inverse 23 = .ok (.ireturn, 1) := by decide +kernel
theorem dX1_inverse_24 : decode cX1_inverse 24 = .ok (.iinc 2 1, 3) := by decide +kernel
theorem dX1_inverse_27 : decode cX1_inverse 27 = .ok (.goto (-25), 3) := by decide +kernel
theorem dX1_inverse_30 : decode cX1_inverse 30 = .ok (.iconst 1, 1) := by decide +kernel
theorem dX1_inverse_31 : decode cX1_inverse 31 = .ok (.ireturn, 1) := by decide +kernel
theorem dX1_clearElsewhere_0 : decode cX1_clearElsewhere 0 = .ok (.iconst 0, 1) := by decide +kernel
theorem dX1_clearElsewhere_1 : decode cX1_clearElsewhere 1 = .ok (.istore_n 3, 1) := by decide +kernel
theorem dX1_clearElsewhere_2 : decode cX1_clearElsewhere 2 = .ok (.iload_n 3, 1) := by decide +kernel
theorem dX1_clearElsewhere_3 : decode cX1_clearElsewhere 3 = .ok (.aload_n 0, 1) := by decide +kernel
theorem dX1_clearElsewhere_4 : decode cX1_clearElsewhere 4 = .ok (.getfield 9, 3) := by decide +kernel
theorem dX1_clearElsewhere_7 : decode cX1_clearElsewhere 7 = .ok (.if_icmp .ge 54, 3) := by decide +kernel
theorem dX1_clearElsewhere_10 : decode cX1_clearElsewhere 10 = .ok (.iload_n 3, 1) := by decide +kernel
theorem dX1_clearElsewhere_11 : decode cX1_clearElsewhere 11 = .ok (.iload_n 1, 1) := by decide +kernel
theorem dX1_clearElsewhere_12 : decode cX1_clearElsewhere 12 = .ok (.if_icmp .eq 43, 3) := by decide +kernel
theorem dX1_clearElsewhere_15 : decode cX1_clearElsewhere 15 = .ok (.aload_n 0, 1) := by decide +kernel
theorem dX1_clearElsewhere_16 : decode cX1_clearElsewhere 16 = .ok (.getfield 20, 3) := by decide +kernel
theorem dX1_clearElsewhere_19 : decode cX1_clearElsewhere 19 = .ok (.iload_n 3, 1) := by decide +kernel
theorem dX1_clearElsewhere_20 : decode cX1_clearElsewhere 20 = .ok (.aaload, 1) := by decide +kernel
theorem dX1_clearElsewhere_21 : decode cX1_clearElsewhere 21 = .ok (.iload_n 2, 1) := by decide +kernel
theorem dX1_clearElsewhere_22 : decode cX1_clearElsewhere 22 = .ok (.iaload, 1) := by decide +kernel
theorem dX1_clearElsewhere_23 : decode cX1_clearElsewhere 23 = .ok (.ifCond .eq 32, 3) := by decide +kernel
theorem dX1_clearElsewhere_26 : decode cX1_clearElsewhere 26 = .ok (.aload_n 0, 1) := by decide +kernel
theorem dX1_clearElsewhere_27 : decode cX1_clearElsewhere 27 = .ok (.aload_n 0, 1) := by decide +kernel
theorem dX1_clearElsewhere_28 : decode cX1_clearElsewhere 28 = .ok (.getfield 20, 3) := by decide +kernel
theorem dX1_clearElsewhere_31 : decode cX1_clearElsewhere 31 = .ok (.iload_n 3, 1) := by decide +kernel
theorem dX1_clearElsewhere_32 : decode cX1_clearElsewhere 32 = .ok (.aaload, 1) := by decide +kernel
theorem dX1_clearElsewhere_33 : decode cX1_clearElsewhere 33 = .ok (.aload_n 0, 1) := by decide +kernel
theorem dX1_clearElsewhere_34 : decode cX1_clearElsewhere 34 = .ok (.getfield 20, 3) := by decide +kernel
theorem dX1_clearElsewhere_37 : decode cX1_clearElsewhere 37 = .ok (.iload_n 1, 1) := by decide +kernel
theorem dX1_clearElsewhere_38 : decode cX1_clearElsewhere 38 = .ok (.aaload, 1) := by decide +kernel
theorem dX1_clearElsewhere_39 : decode cX1_clearElsewhere 39 = .ok (.aload_n 0, 1) := by decide +kernel
theorem dX1_clearElsewhere_40 : decode cX1_clearElsewhere 40 = .ok (.getfield 15, 3) := by decide +kernel
theorem dX1_clearElsewhere_43 : decode cX1_clearElsewhere 43 = .ok (.aload_n 0, 1) := by decide +kernel
theorem dX1_clearElsewhere_44 : decode cX1_clearElsewhere 44 = .ok (.getfield 20, 3) := by decide +kernel
theorem dX1_clearElsewhere_47 : decode cX1_clearElsewhere 47 = .ok (.iload_n 3, 1) := by decide +kernel
theorem dX1_clearElsewhere_48 : decode cX1_clearElsewhere 48 = .ok (.aaload, 1) := by decide +kernel
theorem dX1_clearElsewhere_49 : decode cX1_clearElsewhere 49 = .ok (.iload_n 2, 1) := by decide +kernel
theorem dX1_clearElsewhere_50 : decode cX1_clearElsewhere 50 = .ok (.iaload, 1) := by decide +kernel
theorem dX1_clearElsewhere_51 : decode cX1_clearElsewhere 51 = .ok (.isub, 1) := by decide +kernel
theorem dX1_clearElsewhere_52 : decode cX1_clearElsewhere 52 = .ok (.invokevirtual 61, 3) := by decide +kernel
theorem dX1_clearElsewhere_55 : decode cX1_clearElsewhere 55 = .ok (.iinc 3 1, 3) := by decide +kernel
theorem dX1_clearElsewhere_58 : decode cX1_clearElsewhere 58 = .ok (.goto (-56), 3) := by decide +kernel
theorem dX1_clearElsewhere_61 : decode cX1_clearElsewhere 61 = .ok (.return_, 1) := by decide +kernel
theorem dX1_addMultiple_0 : decode cX1_addMultiple 0 = .ok (.iconst 0, 1) := by decide +kernel
theorem dX1_addMultiple_1 : decode cX1_addMultiple 1 = .ok (.istore 4, 2) := by decide +kernel
theorem dX1_addMultiple_3 : decode cX1_addMultiple 3 = .ok (.iload 4, 2) := by decide +kernel
theorem dX1_addMultiple_5 : decode cX1_addMultiple 5 = .ok (.aload_n 0, 1) := by decide +kernel
theorem dX1_addMultiple_6 : decode cX1_addMultiple 6 = .ok (.getfield 9, 3) := by decide +kernel
theorem dX1_addMultiple_9 : decode cX1_addMultiple 9 = .ok (.if_icmp .gt 29, 3) := by decide +kernel
theorem dX1_addMultiple_12 : decode cX1_addMultiple 12 = .ok (.aload_n 1, 1) := by decide +kernel
theorem dX1_addMultiple_13 : decode cX1_addMultiple 13 = .ok (.iload 4, 2) := by decide +kernel
theorem dX1_addMultiple_15 : decode cX1_addMultiple 15 = .ok (.aload_n 1, 1) := by decide +kernel
theorem dX1_addMultiple_16 : decode cX1_addMultiple 16 = .ok (.iload 4, 2) := by decide +kernel
theorem dX1_addMultiple_18 : decode cX1_addMultiple 18 = .ok (.iaload, 1) := by decide +kernel
theorem dX1_addMultiple_19 : decode cX1_addMultiple 19 = .ok (.aload_n 2, 1) := by decide +kernel
theorem dX1_addMultiple_20 : decode cX1_addMultiple 20 = .ok (.iload 4, 2) := by decide +kernel
theorem dX1_addMultiple_22 : decode cX1_addMultiple 22 = .ok (.iaload, 1) := by decide +kernel
theorem dX1_addMultiple_23 : decode cX1_addMultiple 23 = .ok (.iload_n 3, 1) := by decide +kernel
theorem dX1_addMultiple_24 : decode cX1_addMultiple 24 = .ok (.imul, 1) := by decide +kernel
theorem dX1_addMultiple_25 : decode cX1_addMultiple 25 = .ok (.iadd, 1) := by decide +kernel
theorem dX1_addMultiple_26 : decode cX1_addMultiple 26 = .ok (.aload_n 0, 1) := by decide +kernel
theorem dX1_addMultiple_27 : decode cX1_addMultiple 27 = .ok (.getfield 15, 3) := by decide +kernel
theorem dX1_addMultiple_30 : decode cX1_addMultiple 30 = .ok (.irem, 1) := by decide +kernel
theorem dX1_addMultiple_31 : decode cX1_addMultiple 31 = .ok (.iastore, 1) := by decide +kernel
theorem dX1_addMultiple_32 : decode cX1_addMultiple 32 = .ok (.iinc 4 1, 3) := by decide +kernel
theorem dX1_addMultiple_35 : decode cX1_addMultiple 35 = .ok (.goto (-32), 3) := by decide +kernel
theorem dX1_addMultiple_38 : decode cX1_addMultiple 38 = .ok (.return_, 1) := by decide +kernel
theorem dX1_readQuietPatterns_0 : decode cX1_readQuietPatterns 0 = .ok (.aload_n 0, 1) := by decide +kernel
theorem dX1_readQuietPatterns_1 : decode cX1_readQuietPatterns 1 = .ok (.iconst 0, 1) := by decide +kernel
theorem dX1_readQuietPatterns_2 : decode cX1_readQuietPatterns 2 = .ok (.putfield 33, 3) := by decide +kernel
theorem dX1_readQuietPatterns_5 : decode cX1_readQuietPatterns 5 = .ok (.iconst 0, 1) := by decide +kernel
theorem dX1_readQuietPatterns_6 : decode cX1_readQuietPatterns 6 = .ok (.istore_n 1, 1) := by decide +kernel
theorem dX1_readQuietPatterns_7 : decode cX1_readQuietPatterns 7 = .ok (.iload_n 1, 1) := by decide +kernel
theorem dX1_readQuietPatterns_8 : decode cX1_readQuietPatterns 8 = .ok (.aload_n 0, 1) := by decide +kernel
theorem dX1_readQuietPatterns_9 : decode cX1_readQuietPatterns 9 = .ok (.getfield 9, 3) := by decide +kernel
theorem dX1_readQuietPatterns_12 : decode cX1_readQuietPatterns 12 = .ok (.if_icmp .ge 43, 3) := by decide +kernel
theorem dX1_readQuietPatterns_15 : decode cX1_readQuietPatterns 15 = .ok (.aload_n 0, 1) := by decide +kernel
theorem dX1_readQuietPatterns_16 : decode cX1_readQuietPatterns 16 = .ok (.getfield 23, 3) := by decide +kernel
theorem dX1_readQuietPatterns_19 : decode cX1_readQuietPatterns 19 = .ok (.iload_n 1, 1) := by decide +kernel
theorem dX1_readQuietPatterns_20 : decode cX1_readQuietPatterns 20 = .ok (.iaload, 1) := by decide +kernel
theorem dX1_readQuietPatterns_21 : decode cX1_readQuietPatterns 21 = .ok (.iconst (-1), 1) := by decide +kernel
theorem dX1_readQuietPatterns_22 : decode cX1_readQuietPatterns 22 = .ok (.if_icmp .ne 27, 3) := by decide +kernel
theorem dX1_readQuietPatterns_25 : decode cX1_readQuietPatterns 25 = .ok (.aload_n 0, 1) := by decide +kernel
theorem dX1_readQuietPatterns_26 : decode cX1_readQuietPatterns 26 = .ok (.aload_n 0, 1) := by decide +kernel
theorem dX1_readQuietPatterns_27 : decode cX1_readQuietPatterns 27 = .ok (.getfield 27, 3) := by decide +kernel
theorem dX1_readQuietPatterns_30 : decode cX1_readQuietPatterns 30 = .ok (.aload_n 0, 1) := by decide +kernel
theorem dX1_readQuietPatterns_31 : decode cX1_readQuietPatterns 31 = .ok (.getfield 33, 3) := by decide +kernel
theorem dX1_readQuietPatterns_34 : decode cX1_readQuietPatterns 34 = .ok (.aaload, 1) := by decide +kernel
theorem dX1_readQuietPatterns_35 : decode cX1_readQuietPatterns 35 = .ok (.iload_n 1, 1) := by decide +kernel
theorem dX1_readQuietPatterns_36 : decode cX1_readQuietPatterns 36 = .ok (.invokevirtual 65, 3) := by decide +kernel
theorem dX1_readQuietPatterns_39 : decode cX1_readQuietPatterns 39 = .ok (.aload_n 0, 1) := by decide +kernel
theorem dX1_readQuietPatterns_40 : decode cX1_readQuietPatterns 40 = .ok (.dup, 1) := by decide +kernel
theorem dX1_readQuietPatterns_41 : decode cX1_readQuietPatterns 41 = .ok (.getfield 33, 3) := by decide +kernel
theorem dX1_readQuietPatterns_44 : decode cX1_readQuietPatterns 44 = .ok (.iconst 1, 1) := by decide +kernel
theorem dX1_readQuietPatterns_45 : decode cX1_readQuietPatterns 45 = .ok (.iadd, 1) := by decide +kernel
theorem dX1_readQuietPatterns_46 : decode cX1_readQuietPatterns 46 = .ok (.putfield 33, 3) := by decide +kernel
theorem dX1_readQuietPatterns_49 : decode cX1_readQuietPatterns 49 = .ok (.iinc 1 1, 3) := by decide +kernel
theorem dX1_readQuietPatterns_52 : decode cX1_readQuietPatterns 52 = .ok (.goto (-45), 3) := by decide +kernel
theorem dX1_readQuietPatterns_55 : decode cX1_readQuietPatterns 55 = .ok (.return_, 1) := by decide +kernel
theorem dX1_readQuietPattern_0 : decode cX1_readQuietPattern 0 = .ok (.iconst 0, 1) := by decide +kernel
theorem dX1_readQuietPattern_1 : decode cX1_readQuietPattern 1 = .ok (.istore_n 3, 1) := by decide +kernel
theorem dX1_readQuietPattern_2 : decode cX1_readQuietPattern 2 = .ok (.iload_n 3, 1) := by decide +kernel
theorem dX1_readQuietPattern_3 : decode cX1_readQuietPattern 3 = .ok (.aload_n 0, 1) := by decide +kernel
theorem dX1_readQuietPattern_4 : decode cX1_readQuietPattern 4 = .ok (.getfield 9, 3) := by decide +kernel
theorem dX1_readQuietPattern_7 : decode cX1_readQuietPattern 7 = .ok (.if_icmp .ge 49, 3) := by decide +kernel
theorem dX1_readQuietPattern_10 : decode cX1_readQuietPattern 10 = .ok (.aload_n 0, 1) := by decide +kernel
theorem dX1_readQuietPattern_11 : decode cX1_readQuietPattern 11 = .ok (.getfield 23, 3) := by decide +kernel
theorem dX1_readQuietPattern_14 : decode cX1_readQuietPattern 14 = .ok (.iload_n 3, 1) := by decide +kernel
theorem dX1_readQuietPattern_15 : decode cX1_readQuietPattern 15 = .ok (.iaload, 1) := by decide +kernel
theorem dX1_readQuietPattern_16 : decode cX1_readQuietPattern 16 = .ok (.istore 4, 2) := by decide +kernel
theorem dX1_readQuietPattern_18 : decode cX1_readQuietPattern 18 = .ok (.aload_n 1, 1) := by decide +kernel
theorem dX1_readQuietPattern_19 : decode cX1_readQuietPattern 19 = .ok (.iload_n 3, 1) := by decide +kernel
theorem dX1_readQuietPattern_20 : decode cX1_readQuietPattern 20 = .ok (.iload 4, 2) := by decide +kernel
theorem dX1_readQuietPattern_22 : decode cX1_readQuietPattern 22 = .ok (.iconst (-1), 1) := by decide +kernel
theorem dX1_readQuietPattern_23 : decode cX1_readQuietPattern 23 = .ok (.if_icmp .ne 7, 3) := by decide +kernel
theorem dX1_readQuietPattern_26 : decode cX1_readQuietPattern 26 = .ok (.iconst 0, 1) := by decide +kernel
theorem dX1_readQuietPattern_27 : decode cX1_readQuietPattern 27 = .ok (.goto 22, 3) := by decide +kernel
theorem dX1_readQuietPattern_30 : decode cX1_readQuietPattern 30 = .ok (.aload_n 0, 1) := by decide +kernel
theorem dX1_readQuietPattern_31 : decode cX1_readQuietPattern 31 = .ok (.getfield 15, 3) := by decide +kernel
theorem dX1_readQuietPattern_34 : decode cX1_readQuietPattern 34 = .ok (.aload_n 0, 1) := by decide +kernel
theorem dX1_readQuietPattern_35 : decode cX1_readQuietPattern 35 = .ok (.getfield 20, 3) := by decide +kernel
theorem dX1_readQuietPattern_38 : decode cX1_readQuietPattern 38 = .ok (.iload 4, 2) := by decide +kernel
theorem dX1_readQuietPattern_40 : decode cX1_readQuietPattern 40 = .ok (.aaload, 1) := by decide +kernel
theorem dX1_readQuietPattern_41 : decode cX1_readQuietPattern 41 = .ok (.iload_n 2, 1) := by decide +kernel
theorem dX1_readQuietPattern_42 : decode cX1_readQuietPattern 42 = .ok (.iaload, 1) := by decide +kernel
theorem dX1_readQuietPattern_43 : decode cX1_readQuietPattern 43 = .ok (.isub, 1) := by decide +kernel
theorem dX1_readQuietPattern_44 : decode cX1_readQuietPattern 44 = .ok (.aload_n 0, 1) := by decide +kernel
theorem dX1_readQuietPattern_45 : decode cX1_readQuietPattern 45 = .ok (.getfield 15, 3) := by decide +kernel
theorem dX1_readQuietPattern_48 : decode cX1_readQuietPattern 48 = .ok (.irem, 1) := by decide +kernel
theorem dX1_readQuietPattern_49 : decode cX1_readQuietPattern 49 = .ok (.iastore, 1) := by decide +kernel
theorem dX1_readQuietPattern_50 : decode cX1_readQuietPattern 50 = .ok (.iinc 3 1, 3) := by decide +kernel
theorem dX1_readQuietPattern_53 : decode cX1_readQuietPattern 53 = .ok (.goto (-51), 3) := by decide +kernel
theorem dX1_readQuietPattern_56 : decode cX1_readQuietPattern 56 = .ok (.aload_n 1, 1) := by decide +kernel
theorem dX1_readQuietPattern_57 : decode cX1_readQuietPattern 57 = .ok (.iload_n 2, 1) := by decide +kernel
theorem dX1_readQuietPattern_58 : decode cX1_readQuietPattern 58 = .ok (.iconst 1, 1) := by decide +kernel
theorem dX1_readQuietPattern_59 : decode cX1_readQuietPattern 59 = .ok (.iastore, 1) := by decide +kernel
theorem dX1_readQuietPattern_60 : decode cX1_readQuietPattern 60 = .ok (.return_, 1) := by decide +kernel
theorem dX2_init_0 : decode cX2_init 0 = .ok (.aload_n 0, 1) := by decide +kernel
theorem dX2_init_1 : decode cX2_init 1 = .ok (.invokespecial 3, 3) := by decide +kernel
theorem dX2_init_4 : decode cX2_init 4 = .ok (.aload_n 0, 1) := by decide +kernel
theorem dX2_init_5 : decode cX2_init 5 = .ok (.iload_n 1, 1) := by decide +kernel
theorem dX2_init_6 : decode cX2_init 6 = .ok (.putfield 9, 3) := by decide +kernel
theorem dX2_init_9 : decode cX2_init 9 = .ok (.aload_n 0, 1) := by decide +kernel
theorem dX2_init_10 : decode cX2_init 10 = .ok (.iload_n 2, 1) := by decide +kernel
theorem dX2_init_11 : decode cX2_init 11 = .ok (.putfield 15, 3) := by decide +kernel
theorem dX2_init_14 : decode cX2_init 14 = .ok (.aload_n 0, 1) := by decide +kernel
theorem dX2_init_15 : decode cX2_init 15 = .ok (.iload_n 1, 1) := by decide +kernel
theorem dX2_init_16 : decode cX2_init 16 = .ok (.newarray .int, 2) := by decide +kernel
theorem dX2_init_18 : decode cX2_init 18 = .ok (.putfield 18, 3) := by decide +kernel
theorem dX2_init_21 : decode cX2_init 21 = .ok (.aload_n 0, 1) := by decide +kernel
theorem dX2_init_22 : decode cX2_init 22 = .ok (.iload_n 1, 1) := by decide +kernel
theorem dX2_init_23 : decode cX2_init 23 = .ok (.newarray .int, 2) := by decide +kernel
theorem dX2_init_25 : decode cX2_init 25 = .ok (.putfield 22, 3) := by decide +kernel
theorem dX2_init_28 : decode cX2_init 28 = .ok (.aload_n 0, 1) := by decide +kernel
theorem dX2_init_29 : decode cX2_init 29 = .ok (.iload_n 1, 1) := by decide +kernel
theorem dX2_init_30 : decode cX2_init 30 = .ok (.newarray .int, 2) := by decide +kernel
theorem dX2_init_32 : decode cX2_init 32 = .ok (.putfield 25, 3) := by decide +kernel
theorem dX2_init_35 : decode cX2_init 35 = .ok (.aload_n 0, 1) := by decide +kernel
theorem dX2_init_36 : decode cX2_init 36 = .ok (.iconst (-1), 1) := by decide +kernel
theorem dX2_init_37 : decode cX2_init 37 = .ok (.putfield 28, 3) := by decide +kernel
theorem dX2_init_40 : decode cX2_init 40 = .ok (.return_, 1) := by decide +kernel
theorem dX2_leastTotal_0 : decode cX2_leastTotal 0 = .ok (.aload_n 0, 1) := by decide +kernel
theorem dX2_leastTotal_1 : decode cX2_leastTotal 1 = .ok (.getfield 28, 3) := by decide +kernel
theorem dX2_leastTotal_4 : decode cX2_leastTotal 4 = .ok (.ireturn, 1) := by decide +kernel
theorem dX2_leastPresses_0 : decode cX2_leastPresses 0 = .ok (.aload_n 0, 1) := by decide +kernel
theorem dX2_leastPresses_1 : decode cX2_leastPresses 1 = .ok (.getfield 22, 3) := by decide +kernel
theorem dX2_leastPresses_4 : decode cX2_leastPresses 4 = .ok (.iload_n 1, 1) := by decide +kernel
theorem dX2_leastPresses_5 : decode cX2_leastPresses 5 = .ok (.iaload, 1) := by decide +kernel
theorem dX2_leastPresses_6 : decode cX2_leastPresses 6 = .ok (.ireturn, 1) := by decide +kernel
theorem dX2_run_0 : decode cX2_run 0 = .ok (.aload_n 1, 1) := by decide +kernel
theorem dX2_run_1 : decode cX2_run 1 = .ok (.sipush 20000, 3) := by decide +kernel
theorem dX2_run_4 : decode cX2_run 4 = .ok (.invokevirtual 31, 3) := by decide +kernel
theorem dX2_run_7 : decode cX2_run 7 = .ok (.istore_n 2, 1) := by decide +kernel
theorem dX2_run_8 : decode cX2_run 8 = .ok (.iload_n 2, 1) := by decide +kernel
theorem dX2_run_9 : decode cX2_run 9 = .ok (.ifCond .ne 11, 3) := by decide +kernel
theorem dX2_run_12 : decode cX2_run 12 = .ok (.aload_n 0, 1) := by decide +kernel
theorem dX2_run_13 : decode cX2_run 13 = .ok (.iconst (-1), 1) := by decide +kernel
theorem dX2_run_14 : decode cX2_run 14 = .ok (.putfield 28, 3) := by decide +kernel
theorem dX2_run_17 : decode cX2_run 17 = .ok (.goto 46, 3) := by decide +kernel
theorem dX2_run_20 : decode cX2_run 20 = .ok (.iload_n 2, 1) := by decide +kernel
theorem dX2_run_21 : decode cX2_run 21 = .ok (.sipush 20000, 3) := by decide +kernel
theorem dX2_run_24 : decode cX2_run 24 = .ok (.if_icmp .le 12, 3) := by decide +kernel
theorem dX2_run_27 : decode cX2_run 27 = .ok (.aload_n 0, 1) := by decide +kernel
theorem dX2_run_28 : decode cX2_run 28 = .ok (.bipush (-2), 2) := by decide +kernel
theorem dX2_run_30 : decode cX2_run 30 = .ok (.putfield 28, 3) := by decide +kernel
theorem dX2_run_33 : decode cX2_run 33 = .ok (.goto 30, 3) := by decide +kernel
theorem dX2_run_36 : decode cX2_run 36 = .ok (.aload_n 0, 1) := by decide +kernel
theorem dX2_run_37 : decode cX2_run 37 = .ok (.aload_n 1, 1) := by decide +kernel
theorem dX2_run_38 : decode cX2_run 38 = .ok (.invokevirtual 37, 3) := by decide +kernel
theorem dX2_run_41 : decode cX2_run 41 = .ok (.iconst 1, 1) := by decide +kernel
theorem dX2_run_42 : decode cX2_run 42 = .ok (.istore_n 3, 1) := by decide +kernel
theorem dX2_run_43 : decode cX2_run 43 = .ok (.iload_n 3, 1) := by decide +kernel
theorem dX2_run_44 : decode cX2_run 44 = .ok (.iload_n 2, 1) := by decide +kernel
theorem dX2_run_45 : decode cX2_run 45 = .ok (.if_icmp .ge 18, 3) := by decide +kernel
theorem dX2_run_48 : decode cX2_run 48 = .ok (.aload_n 0, 1) := by decide +kernel
theorem dX2_run_49 : decode cX2_run 49 = .ok (.aload_n 1, 1) := by decide +kernel
theorem dX2_run_50 : decode cX2_run 50 = .ok (.invokevirtual 41, 3) := by decide +kernel
theorem dX2_run_53 : decode cX2_run 53 = .ok (.aload_n 0, 1) := by decide +kernel
theorem dX2_run_54 : decode cX2_run 54 = .ok (.invokevirtual 44, 3) := by decide +kernel
theorem dX2_run_57 : decode cX2_run 57 = .ok (.iinc 3 1, 3) := by decide +kernel
theorem dX2_run_60 : decode cX2_run 60 = .ok (.goto (-17), 3) := by decide +kernel
theorem dX2_run_63 : decode cX2_run 63 = .ok (.return_, 1) := by decide +kernel
theorem dX2_begin_0 : decode cX2_begin 0 = .ok (.iconst 0, 1) := by decide +kernel
theorem dX2_begin_1 : decode cX2_begin 1 = .ok (.istore_n 2, 1) := by decide +kernel
theorem dX2_begin_2 : decode cX2_begin 2 = .ok (.iload_n 2, 1) := by decide +kernel
theorem dX2_begin_3 : decode cX2_begin 3 = .ok (.aload_n 0, 1) := by decide +kernel
theorem dX2_begin_4 : decode cX2_begin 4 = .ok (.getfield 9, 3) := by decide +kernel
theorem dX2_begin_7 : decode cX2_begin 7 = .ok (.if_icmp .ge 27, 3) := by decide +kernel
theorem dX2_begin_10 : decode cX2_begin 10 = .ok (.aload_n 0, 1) := by decide +kernel
theorem dX2_begin_11 : decode cX2_begin 11 = .ok (.getfield 18, 3) := by decide +kernel
theorem dX2_begin_14 : decode cX2_begin 14 = .ok (.iload_n 2, 1) := by decide +kernel
theorem dX2_begin_15 : decode cX2_begin 15 = .ok (.aload_n 1, 1) := by decide +kernel
theorem dX2_begin_16 : decode cX2_begin 16 = .ok (.iload_n 2, 1) := by decide +kernel
theorem dX2_begin_17 : decode cX2_begin 17 = .ok (.invokevirtual 47, 3) := by decide +kernel
theorem dX2_begin_20 : decode cX2_begin 20 = .ok (.iastore, 1) := by decide +kernel
theorem dX2_begin_21 : decode cX2_begin 21 = .ok (.aload_n 0, 1) := by decide +kernel
theorem dX2_begin_22 : decode cX2_begin 22 = .ok (.getfield 25, 3) := by decide +kernel
theorem dX2_begin_25 : decode cX2_begin 25 = .ok (.iload_n 2, 1) := by decide +kernel
theorem dX2_begin_26 : decode cX2_begin 26 = .ok (.iconst 0, 1) := by decide +kernel
theorem dX2_begin_27 : decode cX2_begin 27 = .ok (.iastore, 1) := by decide +kernel
theorem dX2_begin_28 : decode cX2_begin 28 = .ok (.iinc 2 1, 3) := by decide +kernel
theorem dX2_begin_31 : decode cX2_begin 31 = .ok (.goto (-29), 3) := by decide +kernel
theorem dX2_begin_34 : decode cX2_begin 34 = .ok (.aload_n 0, 1) := by decide +kernel
theorem dX2_begin_35 : decode cX2_begin 35 = .ok (.aload_n 0, 1) := by decide +kernel
theorem dX2_begin_36 : decode cX2_begin 36 = .ok (.invokevirtual 50, 3) := by decide +kernel
theorem dX2_begin_39 : decode cX2_begin 39 = .ok (.invokevirtual 54, 3) := by decide +kernel
theorem dX2_begin_42 : decode cX2_begin 42 = .ok (.return_, 1) := by decide +kernel
theorem dX2_advance_0 : decode cX2_advance 0 = .ok (.iconst 0, 1) := by decide +kernel
theorem dX2_advance_1 : decode cX2_advance 1 = .ok (.istore_n 2, 1) := by decide +kernel
theorem dX2_advance_2 : decode cX2_advance 2 = .ok (.iload_n 2, 1) := by decide +kernel
theorem dX2_advance_3 : decode cX2_advance 3 = .ok (.aload_n 1, 1) := by decide +kernel
theorem dX2_advance_4 : decode cX2_advance 4 = .ok (.invokevirtual 58, 3) := by decide +kernel
theorem dX2_advance_7 : decode cX2_advance 7 = .ok (.if_icmp .ge 49, 3) := by decide +kernel
theorem dX2_advance_10 : decode cX2_advance 10 = .ok (.aload_n 0, 1) := by decide +kernel
theorem dX2_advance_11 : decode cX2_advance 11 = .ok (.aload_n 1, 1) := by decide +kernel
theorem dX2_advance_12 : decode cX2_advance 12 = .ok (.iload_n 2, 1) := by decide +kernel
theorem dX2_advance_13 : decode cX2_advance 13 = .ok (.invokevirtual 61, 3) := by decide +kernel
theorem dX2_advance_16 : decode cX2_advance 16 = .ok (.invokevirtual 65, 3) := by decide +kernel
theorem dX2_advance_19 : decode cX2_advance 19 = .ok (.aload_n 0, 1) := by decide +kernel
theorem dX2_advance_20 : decode cX2_advance 20 = .ok (.getfield 25, 3) := by decide +kernel
theorem dX2_advance_23 : decode cX2_advance 23 = .ok (.iload_n 2, 1) := by decide +kernel
theorem dX2_advance_24 : decode cX2_advance 24 = .ok (.dup2, 1) := by decide +kernel
theorem dX2_advance_25 : decode cX2_advance 25 = .ok (.iaload, 1) := by decide +kernel
theorem dX2_advance_26 : decode cX2_advance 26 = .ok (.iconst 1, 1) := by decide +kernel
theorem dX2_advance_27 : decode cX2_advance 27 = .ok (.iadd, 1) := by decide +kernel
theorem dX2_advance_28 : decode cX2_advance 28 = .ok (.iastore, 1) := by decide +kernel
theorem dX2_advance_29 : decode cX2_advance 29 = .ok (.aload_n 0, 1) := by decide +kernel
theorem dX2_advance_30 : decode cX2_advance 30 = .ok (.getfield 25, 3) := by decide +kernel
theorem dX2_advance_33 : decode cX2_advance 33 = .ok (.iload_n 2, 1) := by decide +kernel
theorem dX2_advance_34 : decode cX2_advance 34 = .ok (.iaload, 1) := by decide +kernel
theorem dX2_advance_35 : decode cX2_advance 35 = .ok (.aload_n 0, 1) := by decide +kernel
theorem dX2_advance_36 : decode cX2_advance 36 = .ok (.getfield 15, 3) := by decide +kernel
theorem dX2_advance_39 : decode cX2_advance 39 = .ok (.if_icmp .ge 4, 3) := by decide +kernel
theorem dX2_advance_42 : decode cX2_advance 42 = .ok (.return_, 1) := by decide +kernel
theorem dX2_advance_43 : decode cX2_advance 43 = .ok (.aload_n 0, 1) := by decide +kernel
theorem dX2_advance_44 : decode cX2_advance 44 = .ok (.getfield 25, 3) := by decide +kernel
theorem dX2_advance_47 : decode cX2_advance 47 = .ok (.iload_n 2, 1) := by decide +kernel
theorem dX2_advance_48 : decode cX2_advance 48 = .ok (.iconst 0, 1) := by decide +kernel
theorem dX2_advance_49 : decode cX2_advance 49 = .ok (.iastore, 1) := by decide +kernel
theorem dX2_advance_50 : decode cX2_advance 50 = .ok (.iinc 2 1, 3) := by decide +kernel
theorem dX2_advance_53 : decode cX2_advance 53 = .ok (.goto (-51), 3) := by decide +kernel
theorem dX2_advance_56 : decode cX2_advance 56 = .ok (.return_, 1) := by decide +kernel
theorem dX2_addToTried_0 : decode cX2_addToTried 0 = .ok (.iconst 0, 1) := by decide +kernel
theorem dX2_addToTried_1 : decode cX2_addToTried 1 = .ok (.istore_n 2, 1) := by decide +kernel
theorem dX2_addToTried_2 : decode cX2_addToTried 2 = .ok (.iload_n 2, 1) := by decide +kernel
theorem dX2_addToTried_3 : decode cX2_addToTried 3 = .ok (.aload_n 0, 1) := by decide +kernel
theorem dX2_addToTried_4 : decode cX2_addToTried 4 = .ok (.getfield 9, 3) := by decide +kernel
theorem dX2_addToTried_7 : decode cX2_addToTried 7 = .ok (.if_icmp .ge 44, 3) := by decide +kernel
theorem dX2_addToTried_10 : decode cX2_addToTried 10 = .ok (.aload_n 0, 1) := by decide +kernel
theorem dX2_addToTried_11 : decode cX2_addToTried 11 = .ok (.getfield 18, 3) := by decide +kernel
theorem dX2_addToTried_14 : decode cX2_addToTried 14 = .ok (.iload_n 2, 1) := by decide +kernel
theorem dX2_addToTried_15 : decode cX2_addToTried 15 = .ok (.iaload, 1) := by decide +kernel
theorem dX2_addToTried_16 : decode cX2_addToTried 16 = .ok (.aload_n 1, 1) := by decide +kernel
theorem dX2_addToTried_17 : decode cX2_addToTried 17 = .ok (.iload_n 2, 1) := by decide +kernel
theorem dX2_addToTried_18 : decode cX2_addToTried 18 = .ok (.iaload, 1) := by decide +kernel
theorem dX2_addToTried_19 : decode cX2_addToTried 19 = .ok (.iadd, 1) := by decide +kernel
theorem dX2_addToTried_20 : decode cX2_addToTried 20 = .ok (.istore_n 3, 1) := by decide +kernel
theorem dX2_addToTried_21 : decode cX2_addToTried 21 = .ok (.aload_n 0, 1) := by decide +kernel
theorem dX2_addToTried_22 : decode cX2_addToTried 22 = .ok (.getfield 18, 3) := by decide +kernel
theorem dX2_addToTried_25 : decode cX2_addToTried 25 = .ok (.iload_n 2, 1) := by decide +kernel
theorem dX2_addToTried_26 : decode cX2_addToTried 26 = .ok (.iload_n 3, 1) := by decide +kernel
theorem dX2_addToTried_27 : decode cX2_addToTried 27 = .ok (.aload_n 0, 1) := by decide +kernel
theorem dX2_addToTried_28 : decode cX2_addToTried 28 = .ok (.getfield 15, 3) := by decide +kernel
theorem dX2_addToTried_31 : decode cX2_addToTried 31 = .ok (.if_icmp .ge 7, 3) := by decide +kernel
theorem dX2_addToTried_34 : decode cX2_addToTried 34 = .ok (.iload_n 3, 1) := by decide +kernel
theorem dX2_addToTried_35 : decode cX2_addToTried 35 = .ok (.goto 9, 3) := by decide +kernel
theorem dX2_addToTried_38 : decode cX2_addToTried 38 = .ok (.iload_n 3, 1) := by decide +kernel
theorem dX2_addToTried_39 : decode cX2_addToTried 39 = .ok (.aload_n 0, 1) := by decide +kernel
theorem dX2_addToTried_40 : decode cX2_addToTried 40 = .ok (.getfield 15, 3) := by decide +kernel
theorem dX2_addToTried_43 : decode cX2_addToTried 43 = .ok (.isub, 1) := by decide +kernel
theorem dX2_addToTried_44 : decode cX2_addToTried 44 = .ok (.iastore, 1) := by decide +kernel
theorem dX2_addToTried_45 : decode cX2_addToTried 45 = .ok (.iinc 2 1, 3) := by decide +kernel
theorem dX2_addToTried_48 : decode cX2_addToTried 48 = .ok (.goto (-46), 3) := by decide +kernel
theorem dX2_addToTried_51 : decode cX2_addToTried 51 = .ok (.return_, 1) := by decide +kernel
theorem dX2_keepIfLess_0 : decode cX2_keepIfLess 0 = .ok (.aload_n 0, 1) := by decide +kernel
theorem dX2_keepIfLess_1 : decode cX2_keepIfLess 1 = .ok (.invokevirtual 50, 3) := by decide +kernel
theorem dX2_keepIfLess_4 : decode cX2_keepIfLess 4 = .ok (.istore_n 1, 1) := by decide +kernel
theorem dX2_keepIfLess_5 : decode cX2_keepIfLess 5 = .ok (.iload_n 1, 1) := by decide +kernel
theorem dX2_keepIfLess_6 : decode cX2_keepIfLess 6 = .ok (.aload_n 0, 1) := by decide +kernel
theorem dX2_keepIfLess_7 : decode cX2_keepIfLess 7 = .ok (.getfield 28, 3) := by decide +kernel
theorem dX2_keepIfLess_10 : decode cX2_keepIfLess 10 = .ok (.if_icmp .lt 18, 3) := by decide +kernel
theorem dX2_keepIfLess_13 : decode cX2_keepIfLess 13 = .ok (.iload_n 1, 1) := by decide +kernel
theorem dX2_keepIfLess_14 : decode cX2_keepIfLess 14 = .ok (.aload_n 0, 1) := by decide +kernel
theorem dX2_keepIfLess_15 : decode cX2_keepIfLess 15 = .ok (.getfield 28, 3) := by decide +kernel
theorem dX2_keepIfLess_18 : decode cX2_keepIfLess 18 = .ok (.if_icmp .ne 15, 3) := by decide +kernel
theorem dX2_keepIfLess_21 : decode cX2_keepIfLess 21 = .ok (.aload_n 0, 1) := by decide +kernel
theorem dX2_keepIfLess_22 : decode cX2_keepIfLess 22 = .ok (.invokevirtual 69, 3) := by decide +kernel
theorem dX2_keepIfLess_25 : decode cX2_keepIfLess 25 = .ok (.ifCond .eq 8, 3) := by decide +kernel
theorem dX2_keepIfLess_28 : decode cX2_keepIfLess 28 = .ok (.aload_n 0, 1) := by decide +kernel
theorem dX2_keepIfLess_29 : decode cX2_keepIfLess 29 = .ok (.iload_n 1, 1) := by decide +kernel
theorem dX2_keepIfLess_30 : decode cX2_keepIfLess 30 = .ok (.invokevirtual 54, 3) := by decide +kernel
theorem dX2_keepIfLess_33 : decode cX2_keepIfLess 33 = .ok (.return_, 1) := by decide +kernel
theorem dX2_totalTried_0 : decode cX2_totalTried 0 = .ok (.iconst 0, 1) := by decide +kernel
theorem dX2_totalTried_1 : decode cX2_totalTried 1 = .ok (.istore_n 1, 1) := by decide +kernel
theorem dX2_totalTried_2 : decode cX2_totalTried 2 = .ok (.iconst 0, 1) := by decide +kernel
theorem dX2_totalTried_3 : decode cX2_totalTried 3 = .ok (.istore_n 2, 1) := by decide +kernel
theorem dX2_totalTried_4 : decode cX2_totalTried 4 = .ok (.iload_n 2, 1) := by decide +kernel
theorem dX2_totalTried_5 : decode cX2_totalTried 5 = .ok (.aload_n 0, 1) := by decide +kernel
theorem dX2_totalTried_6 : decode cX2_totalTried 6 = .ok (.getfield 9, 3) := by decide +kernel
theorem dX2_totalTried_9 : decode cX2_totalTried 9 = .ok (.if_icmp .ge 18, 3) := by decide +kernel
theorem dX2_totalTried_12 : decode cX2_totalTried 12 = .ok (.iload_n 1, 1) := by decide +kernel
theorem dX2_totalTried_13 : decode cX2_totalTried 13 = .ok (.aload_n 0, 1) := by decide +kernel
theorem dX2_totalTried_14 : decode cX2_totalTried 14 = .ok (.getfield 18, 3) := by decide +kernel
theorem dX2_totalTried_17 : decode cX2_totalTried 17 = .ok (.iload_n 2, 1) := by decide +kernel
theorem dX2_totalTried_18 : decode cX2_totalTried 18 = .ok (.iaload, 1) := by decide +kernel
theorem dX2_totalTried_19 : decode cX2_totalTried 19 = .ok (.iadd, 1) := by decide +kernel
theorem dX2_totalTried_20 : decode cX2_totalTried 20 = .ok (.istore_n 1, 1) := by decide +kernel
theorem dX2_totalTried_21 : decode cX2_totalTried 21 = .ok (.iinc 2 1, 3) := by decide +kernel
theorem dX2_totalTried_24 : decode cX2_totalTried 24 = .ok (.goto (-20), 3) := by decide +kernel
theorem dX2_totalTried_27 : decode cX2_totalTried 27 = .ok (.iload_n 1, 1) := by decide +kernel
theorem dX2_totalTried_28 : decode cX2_totalTried 28 = .ok (.ireturn, 1) := by decide +kernel
theorem dX2_triedIsAhead_0 : decode cX2_triedIsAhead 0 = .ok (.iconst 0, 1) := by decide +kernel
theorem dX2_triedIsAhead_1 : decode cX2_triedIsAhead 1 = .ok (.istore_n 1, 1) := by decide +kernel
theorem dX2_triedIsAhead_2 : decode cX2_triedIsAhead 2 = .ok (.iload_n 1, 1) := by decide +kernel
theorem dX2_triedIsAhead_3 : decode cX2_triedIsAhead 3 = .ok (.aload_n 0, 1) := by decide +kernel
theorem dX2_triedIsAhead_4 : decode cX2_triedIsAhead 4 = .ok (.getfield 9, 3) := by decide +kernel
theorem dX2_triedIsAhead_7 : decode cX2_triedIsAhead 7 = .ok (.if_icmp .ge 45, 3) := by decide +kernel
theorem dX2_triedIsAhead_10 : decode cX2_triedIsAhead 10 = .ok (.aload_n 0, 1) := by decide +kernel
theorem dX2_triedIsAhead_11 : decode cX2_triedIsAhead 11 = .ok (.getfield 18, 3) := by decide +kernel
theorem dX2_triedIsAhead_14 : decode cX2_triedIsAhead 14 = .ok (.iload_n 1, 1) := by decide +kernel
theorem dX2_triedIsAhead_15 : decode cX2_triedIsAhead 15 = .ok (.iaload, 1) := by decide +kernel
theorem dX2_triedIsAhead_16 : decode cX2_triedIsAhead 16 = .ok (.aload_n 0, 1) := by decide +kernel
theorem dX2_triedIsAhead_17 : decode cX2_triedIsAhead 17 = .ok (.getfield 22, 3) := by decide +kernel
theorem dX2_triedIsAhead_20 : decode cX2_triedIsAhead 20 = .ok (.iload_n 1, 1) := by decide +kernel
theorem dX2_triedIsAhead_21 : decode cX2_triedIsAhead 21 = .ok (.iaload, 1) := by decide +kernel
theorem dX2_triedIsAhead_22 : decode cX2_triedIsAhead 22 = .ok (.if_icmp .eq 24, 3) := by decide +kernel
theorem dX2_triedIsAhead_25 : decode cX2_triedIsAhead 25 = .ok (.aload_n 0, 1) := by decide +kernel
theorem dX2_triedIsAhead_26 : decode cX2_triedIsAhead 26 = .ok (.getfield 18, 3) := by decide +kernel
theorem dX2_triedIsAhead_29 : decode cX2_triedIsAhead 29 = .ok (.iload_n 1, 1) := by decide +kernel
theorem dX2_triedIsAhead_30 : decode cX2_triedIsAhead 30 = .ok (.iaload, 1) := by decide +kernel
theorem dX2_triedIsAhead_31 : decode cX2_triedIsAhead 31 = .ok (.aload_n 0, 1) := by decide +kernel
theorem dX2_triedIsAhead_32 : decode cX2_triedIsAhead 32 = .ok (.getfield 22, 3) := by decide +kernel
theorem dX2_triedIsAhead_35 : decode cX2_triedIsAhead 35 = .ok (.iload_n 1, 1) := by decide +kernel
theorem dX2_triedIsAhead_36 : decode cX2_triedIsAhead 36 = .ok (.iaload, 1) := by decide +kernel
theorem dX2_triedIsAhead_37 : decode cX2_triedIsAhead 37 = .ok (.if_icmp .ge 7, 3) := by decide +kernel
theorem dX2_triedIsAhead_40 : decode cX2_triedIsAhead 40 = .ok (.iconst 1, 1) := by decide +kernel
theorem dX2_triedIsAhead_41 : decode cX2_triedIsAhead 41 = .ok (.goto 4, 3) := by decide +kernel
theorem dX2_triedIsAhead_44 : decode cX2_triedIsAhead 44 = .ok (.iconst 0, 1) := by decide +kernel
theorem dX2_triedIsAhead_45 : decode cX2_triedIsAhead 45 = .ok (.ireturn, 1) := by decide +kernel
theorem dX2_triedIsAhead_46 : decode cX2_triedIsAhead 46 = .ok (.iinc 1 1, 3) := by decide +kernel
theorem dX2_triedIsAhead_49 : decode cX2_triedIsAhead 49 = .ok (.goto (-47), 3) := by decide +kernel
theorem dX2_triedIsAhead_52 : decode cX2_triedIsAhead 52 = .ok (.iconst 0, 1) := by decide +kernel
theorem dX2_triedIsAhead_53 : decode cX2_triedIsAhead 53 = .ok (.ireturn, 1) := by decide +kernel
theorem dX2_keep_0 : decode cX2_keep 0 = .ok (.aload_n 0, 1) := by decide +kernel
theorem dX2_keep_1 : decode cX2_keep 1 = .ok (.iload_n 1, 1) := by decide +kernel
theorem dX2_keep_2 : decode cX2_keep 2 = .ok (.putfield 28, 3) := by decide +kernel
theorem dX2_keep_5 : decode cX2_keep 5 = .ok (.aload_n 0, 1) := by decide +kernel
theorem dX2_keep_6 : decode cX2_keep 6 = .ok (.getfield 18, 3) := by decide +kernel
theorem dX2_keep_9 : decode cX2_keep 9 = .ok (.iconst 0, 1) := by decide +kernel
theorem dX2_keep_10 : decode cX2_keep 10 = .ok (.aload_n 0, 1) := by decide +kernel
theorem dX2_keep_11 : decode cX2_keep 11 = .ok (.getfield 22, 3) := by decide +kernel
theorem dX2_keep_14 : decode cX2_keep 14 = .ok (.iconst 0, 1) := by decide +kernel
theorem dX2_keep_15 : decode cX2_keep 15 = .ok (.aload_n 0, 1) := by decide +kernel
theorem dX2_keep_16 : decode cX2_keep 16 = .ok (.getfield 9, 3) := by decide +kernel
theorem dX2_keep_19 : decode cX2_keep 19 = .ok (.invokestatic 73, 3) := by decide +kernel
theorem dX2_keep_22 : decode cX2_keep 22 = .ok (.return_, 1) := by decide +kernel
theorem dX3_init_0 : decode cX3_init 0 = .ok (.aload_n 0, 1) := by decide +kernel
theorem dX3_init_1 : decode cX3_init 1 = .ok (.invokespecial 1, 3) := by decide +kernel
theorem dX3_init_4 : decode cX3_init 4 = .ok (.aload_n 0, 1) := by decide +kernel
theorem dX3_init_5 : decode cX3_init 5 = .ok (.iconst 1, 1) := by decide +kernel
theorem dX3_init_6 : decode cX3_init 6 = .ok (.bipush 30, 2) := by decide +kernel
theorem dX3_init_8 : decode cX3_init 8 = .ok (.iload_n 1, 1) := by decide +kernel
theorem dX3_init_9 : decode cX3_init 9 = .ok (.invokestatic 9, 3) := by decide +kernel
theorem dX3_init_12 : decode cX3_init 12 = .ok (.invokestatic 15, 3) := by decide +kernel
theorem dX3_init_15 : decode cX3_init 15 = .ok (.putfield 18, 3) := by decide +kernel
theorem dX3_init_18 : decode cX3_init 18 = .ok (.aload_n 0, 1) := by decide +kernel
theorem dX3_init_19 : decode cX3_init 19 = .ok (.iload_n 2, 1) := by decide +kernel
theorem dX3_init_20 : decode cX3_init 20 = .ok (.invokestatic 22, 3) := by decide +kernel
theorem dX3_init_23 : decode cX3_init 23 = .ok (.putfield 26, 3) := by decide +kernel
theorem dX3_init_26 : decode cX3_init 26 = .ok (.aload_n 0, 1) := by decide +kernel
theorem dX3_init_27 : decode cX3_init 27 = .ok (.aload_n 0, 1) := by decide +kernel
theorem dX3_init_28 : decode cX3_init 28 = .ok (.getfield 18, 3) := by decide +kernel
theorem dX3_init_31 : decode cX3_init 31 = .ok (.newarray .int, 2) := by decide +kernel
theorem dX3_init_33 : decode cX3_init 33 = .ok (.putfield 29, 3) := by decide +kernel
theorem dX3_init_36 : decode cX3_init 36 = .ok (.aload_n 0, 1) := by decide +kernel
theorem dX3_init_37 : decode cX3_init 37 = .ok (.aload_n 0, 1) := by decide +kernel
theorem dX3_init_38 : decode cX3_init 38 = .ok (.getfield 18, 3) := by decide +kernel
theorem dX3_init_41 : decode cX3_init 41 = .ok (.newarray .int, 2) := by decide +kernel
theorem dX3_init_43 : decode cX3_init 43 = .ok (.putfield 33, 3) := by decide +kernel
theorem dX3_init_46 : decode cX3_init 46 = .ok (.aload_n 0, 1) := by decide +kernel
theorem dX3_init_47 : decode cX3_init 47 = .ok (.aload_n 0, 1) := by decide +kernel
theorem dX3_init_48 : decode cX3_init 48 = .ok (.getfield 18, 3) := by decide +kernel
theorem dX3_init_51 : decode cX3_init 51 = .ok (.newarray .int, 2) := by decide +kernel
theorem dX3_init_53 : decode cX3_init 53 = .ok (.putfield 36, 3) := by decide +kernel
theorem dX3_init_56 : decode cX3_init 56 = .ok (.iconst 0, 1) := by decide +kernel
theorem dX3_init_57 : decode cX3_init 57 = .ok (.istore_n 3, 1) := by decide +kernel
theorem dX3_init_58 : decode cX3_init 58 = .ok (.iload_n 3, 1) := by decide +kernel
theorem dX3_init_59 : decode cX3_init 59 = .ok (.aload_n 0, 1) := by decide +kernel
theorem dX3_init_60 : decode cX3_init 60 = .ok (.getfield 18, 3) := by decide +kernel
theorem dX3_init_63 : decode cX3_init 63 = .ok (.if_icmp .ge 18, 3) := by decide +kernel
theorem dX3_init_66 : decode cX3_init 66 = .ok (.aload_n 0, 1) := by decide +kernel
theorem dX3_init_67 : decode cX3_init 67 = .ok (.getfield 36, 3) := by decide +kernel
theorem dX3_init_70 : decode cX3_init 70 = .ok (.iload_n 3, 1) := by decide +kernel
theorem dX3_init_71 : decode cX3_init 71 = .ok (.iconst 1, 1) := by decide +kernel
theorem dX3_init_72 : decode cX3_init 72 = .ok (.iload_n 3, 1) := by decide +kernel
theorem dX3_init_73 : decode cX3_init 73 = .ok (.ishl, 1) := by decide +kernel
theorem dX3_init_74 : decode cX3_init 74 = .ok (.iastore, 1) := by decide +kernel
theorem dX3_init_75 : decode cX3_init 75 = .ok (.iinc 3 1, 3) := by decide +kernel
theorem dX3_init_78 : decode cX3_init 78 = .ok (.goto (-20), 3) := by decide +kernel
theorem dX3_init_81 : decode cX3_init 81 = .ok (.aload_n 0, 1) := by decide +kernel
theorem dX3_init_82 : decode cX3_init 82 = .ok (.new 39, 3) := by decide +kernel
theorem dX3_init_85 : decode cX3_init 85 = .ok (.dup, 1) := by decide +kernel
theorem dX3_init_86 : decode cX3_init 86 = .ok (.aload_n 0, 1) := by decide +kernel
theorem dX3_init_87 : decode cX3_init 87 = .ok (.getfield 18, 3) := by decide +kernel
theorem dX3_init_90 : decode cX3_init 90 = .ok (.aload_n 0, 1) := by decide +kernel
theorem dX3_init_91 : decode cX3_init 91 = .ok (.getfield 26, 3) := by decide +kernel
theorem dX3_init_94 : decode cX3_init 94 = .ok (.invokespecial 41, 3) := by decide +kernel
theorem dX3_init_97 : decode cX3_init 97 = .ok (.putfield 44, 3) := by decide +kernel
theorem dX3_init_100 : decode cX3_init 100 = .ok (.aload_n 0, 1) := by decide +kernel
theorem dX3_init_101 : decode cX3_init 101 = .ok (.new 48, 3) := by decide +kernel
theorem dX3_init_104 : decode cX3_init 104 = .ok (.dup, 1) := by decide +kernel
theorem dX3_init_105 : decode cX3_init 105 = .ok (.aload_n 0, 1) := by decide +kernel
theorem dX3_init_106 : decode cX3_init 106 = .ok (.getfield 18, 3) := by decide +kernel
theorem dX3_init_109 : decode cX3_init 109 = .ok (.aload_n 0, 1) := by decide +kernel
theorem dX3_init_110 : decode cX3_init 110 = .ok (.getfield 26, 3) := by decide +kernel
theorem dX3_init_113 : decode cX3_init 113 = .ok (.invokespecial 50, 3) := by decide +kernel
theorem dX3_init_116 : decode cX3_init 116 = .ok (.putfield 51, 3) := by decide +kernel
theorem dX3_init_119 : decode cX3_init 119 = .ok (.aload_n 0, 1) := by decide +kernel
theorem dX3_init_120 : decode cX3_init 120 = .ok (.new 55, 3) := by decide +kernel
theorem dX3_init_123 : decode cX3_init 123 = .ok (.dup, 1) := by decide +kernel
theorem dX3_init_124 : decode cX3_init 124 = .ok (.invokespecial 57, 3) := by decide +kernel
theorem dX3_init_127 : decode cX3_init 127 = .ok (.putfield 58, 3) := by decide +kernel
theorem dX3_init_130 : decode cX3_init 130 = .ok (.aload_n 0, 1) := by decide +kernel
theorem dX3_init_131 : decode cX3_init 131 = .ok (.iconst 0, 1) := by decide +kernel
theorem dX3_init_132 : decode cX3_init 132 = .ok (.putfield 62, 3) := by decide +kernel
theorem dX3_init_135 : decode cX3_init 135 = .ok (.aload_n 0, 1) := by decide +kernel
theorem dX3_init_136 : decode cX3_init 136 = .ok (.iconst 0, 1) := by decide +kernel
theorem dX3_init_137 : decode cX3_init 137 = .ok (.putfield 66, 3) := by decide +kernel
theorem dX3_init_140 : decode cX3_init 140 = .ok (.return_, 1) := by decide +kernel
theorem dX3_join_0 : decode cX3_join 0 = .ok (.aload_n 0, 1) := by decide +kernel
theorem dX3_join_1 : decode cX3_join 1 = .ok (.iload_n 1, 1) := by decide +kernel
theorem dX3_join_2 : decode cX3_join 2 = .ok (.invokevirtual 69, 3) := by decide +kernel
theorem dX3_join_5 : decode cX3_join 5 = .ok (.aload_n 0, 1) := by decide +kernel
theorem dX3_join_6 : decode cX3_join 6 = .ok (.iload_n 2, 1) := by decide +kernel
theorem dX3_join_7 : decode cX3_join 7 = .ok (.invokevirtual 69, 3) := by decide +kernel
theorem dX3_join_10 : decode cX3_join 10 = .ok (.iload_n 1, 1) := by decide +kernel
theorem dX3_join_11 : decode cX3_join 11 = .ok (.iload_n 2, 1) := by decide +kernel
theorem dX3_join_12 : decode cX3_join 12 = .ok (.if_icmp .eq 12, 3) := by decide +kernel
theorem dX3_join_15 : decode cX3_join 15 = .ok (.aload_n 0, 1) := by decide +kernel
theorem dX3_join_16 : decode cX3_join 16 = .ok (.iload_n 1, 1) := by decide +kernel
theorem dX3_join_17 : decode cX3_join 17 = .ok (.iload_n 2, 1) := by decide +kernel
theorem dX3_join_18 : decode cX3_join 18 = .ok (.invokevirtual 73, 3) := by decide +kernel
theorem dX3_join_21 : decode cX3_join 21 = .ok (.ifCond .eq 5, 3) := by decide +kernel
theorem dX3_join_24 : decode cX3_join 24 = .ok (.iconst 0, 1) := by decide +kernel
theorem dX3_join_25 : decode cX3_join 25 = .ok (.ireturn, 1) := by decide +kernel
theorem dX3_join_26 : decode cX3_join 26 = .ok (.aload_n 0, 1) := by decide +kernel
theorem dX3_join_27 : decode cX3_join 27 = .ok (.getfield 36, 3) := by decide +kernel
theorem dX3_join_30 : decode cX3_join 30 = .ok (.iload_n 1, 1) := by decide +kernel
theorem dX3_join_31 : decode cX3_join 31 = .ok (.dup2, 1) := by decide +kernel
theorem dX3_join_32 : decode cX3_join 32 = .ok (.iaload, 1) := by decide +kernel
theorem dX3_join_33 : decode cX3_join 33 = .ok (.iconst 1, 1) := by decide +kernel
theorem dX3_join_34 : decode cX3_join 34 = .ok (.iload_n 2, 1) := by decide +kernel
theorem dX3_join_35 : decode cX3_join 35 = .ok (.ishl, 1) := by decide +kernel
theorem dX3_join_36 : decode cX3_join 36 = .ok (.ior, 1) := by decide +kernel
theorem dX3_join_37 : decode cX3_join 37 = .ok (.iastore, 1) := by decide +kernel
theorem dX3_join_38 : decode cX3_join 38 = .ok (.aload_n 0, 1) := by decide +kernel
theorem dX3_join_39 : decode cX3_join 39 = .ok (.getfield 36, 3) := by decide +kernel
theorem dX3_join_42 : decode cX3_join 42 = .ok (.iload_n 2, 1) := by decide +kernel
theorem dX3_join_43 : decode cX3_join 43 = .ok (.dup2, 1) := by decide +kernel
theorem dX3_join_44 : decode cX3_join 44 = .ok (.iaload, 1) := by decide +kernel
theorem dX3_join_45 : decode cX3_join 45 = .ok (.iconst 1, 1) := by decide +kernel
theorem dX3_join_46 : decode cX3_join 46 = .ok (.iload_n 1, 1) := by decide +kernel
theorem dX3_join_47 : decode cX3_join 47 = .ok (.ishl, 1) := by decide +kernel
theorem dX3_join_48 : decode cX3_join 48 = .ok (.ior, 1) := by decide +kernel
theorem dX3_join_49 : decode cX3_join 49 = .ok (.iastore, 1) := by decide +kernel
theorem dX3_join_50 : decode cX3_join 50 = .ok (.aload_n 0, 1) := by decide +kernel
theorem dX3_join_51 : decode cX3_join 51 = .ok (.invokevirtual 77, 3) := by decide +kernel
theorem dX3_join_54 : decode cX3_join 54 = .ok (.iconst 1, 1) := by decide +kernel
theorem dX3_join_55 : decode cX3_join 55 = .ok (.ireturn, 1) := by decide +kernel
theorem dX3_self_0 : decode cX3_self 0 = .ok (.aload_n 0, 1) := by decide +kernel
theorem dX3_self_1 : decode cX3_self 1 = .ok (.iload_n 1, 1) := by decide +kernel
theorem dX3_self_2 : decode cX3_self 2 = .ok (.invokevirtual 69, 3) := by decide +kernel
theorem dX3_self_5 : decode cX3_self 5 = .ok (.aload_n 0, 1) := by decide +kernel
theorem dX3_self_6 : decode cX3_self 6 = .ok (.iload_n 1, 1) := by decide +kernel
theorem dX3_self_7 : decode cX3_self 7 = .ok (.iload_n 1, 1) := by decide +kernel
theorem dX3_self_8 : decode cX3_self 8 = .ok (.invokevirtual 73, 3) := by decide +kernel
theorem dX3_self_11 : decode cX3_self 11 = .ok (.iload_n 2, 1) := by decide +kernel
theorem dX3_self_12 : decode cX3_self 12 = .ok (.if_icmp .ne 5, 3) := by decide +kernel
theorem dX3_self_15 : decode cX3_self 15 = .ok (.iconst 0, 1) := by decide +kernel
theorem dX3_self_16 : decode cX3_self 16 = .ok (.ireturn, 1) := by decide +kernel
theorem dX3_self_17 : decode cX3_self 17 = .ok (.aload_n 0, 1) := by decide +kernel
theorem dX3_self_18 : decode cX3_self 18 = .ok (.getfield 36, 3) := by decide +kernel
theorem dX3_self_21 : decode cX3_self 21 = .ok (.iload_n 1, 1) := by decide +kernel
theorem dX3_self_22 : decode cX3_self 22 = .ok (.dup2, 1) := by decide +kernel
theorem dX3_self_23 : decode cX3_self 23 = .ok (.iaload, 1) := by decide +kernel
theorem dX3_self_24 : decode cX3_self 24 = .ok (.iconst 1, 1) := by decide +kernel
theorem dX3_self_25 : decode cX3_self 25 = .ok (.iload_n 1, 1) := by decide +kernel
theorem dX3_self_26 : decode cX3_self 26 = .ok (.ishl, 1) := by decide +kernel
theorem dX3_self_27 : decode cX3_self 27 = .ok (.ixor, 1) := by decide +kernel
theorem dX3_self_28 : decode cX3_self 28 = .ok (.iastore, 1) := by decide +kernel
theorem dX3_self_29 : decode cX3_self 29 = .ok (.aload_n 0, 1) := by decide +kernel
theorem dX3_self_30 : decode cX3_self 30 = .ok (.invokevirtual 77, 3) := by decide +kernel
theorem dX3_self_33 : decode cX3_self 33 = .ok (.iconst 1, 1) := by decide +kernel
theorem dX3_self_34 : decode cX3_self 34 = .ok (.ireturn, 1) := by decide +kernel
theorem dX3_set_0 : decode cX3_set 0 = .ok (.aload_n 0, 1) := by decide +kernel
theorem dX3_set_1 : decode cX3_set 1 = .ok (.iload_n 1, 1) := by decide +kernel
theorem dX3_set_2 : decode cX3_set 2 = .ok (.invokevirtual 69, 3) := by decide +kernel
theorem dX3_set_5 : decode cX3_set 5 = .ok (.aload_n 0, 1) := by decide +kernel
theorem dX3_set_6 : decode cX3_set 6 = .ok (.iload_n 2, 1) := by decide +kernel
theorem dX3_set_7 : decode cX3_set 7 = .ok (.invokevirtual 80, 3) := by decide +kernel
theorem dX3_set_10 : decode cX3_set 10 = .ok (.ifCond .ne 5, 3) := by decide +kernel
theorem dX3_set_13 : decode cX3_set 13 = .ok (.iconst 0, 1) := by decide +kernel
theorem dX3_set_14 : decode cX3_set 14 = .ok (.ireturn, 1) := by decide +kernel
theorem dX3_set_15 : decode cX3_set 15 = .ok (.aload_n 0, 1) := by decide +kernel
theorem dX3_set_16 : decode cX3_set 16 = .ok (.getfield 29, 3) := by decide +kernel
theorem dX3_set_19 : decode cX3_set 19 = .ok (.iload_n 1, 1) := by decide +kernel
theorem dX3_set_20 : decode cX3_set 20 = .ok (.iload_n 2, 1) := by decide +kernel
theorem dX3_set_21 : decode cX3_set 21 = .ok (.iastore, 1) := by decide +kernel
theorem dX3_set_22 : decode cX3_set 22 = .ok (.aload_n 0, 1) := by decide +kernel
theorem dX3_set_23 : decode cX3_set 23 = .ok (.invokevirtual 77, 3) := by decide +kernel
theorem dX3_set_26 : decode cX3_set 26 = .ok (.iconst 1, 1) := by decide +kernel
theorem dX3_set_27 : decode cX3_set 27 = .ok (.ireturn, 1) := by decide +kernel
theorem dX3_want_0 : decode cX3_want 0 = .ok (.aload_n 0, 1) := by decide +kernel
theorem dX3_want_1 : decode cX3_want 1 = .ok (.iload_n 1, 1) := by decide +kernel
theorem dX3_want_2 : decode cX3_want 2 = .ok (.invokevirtual 69, 3) := by decide +kernel
theorem dX3_want_5 : decode cX3_want 5 = .ok (.aload_n 0, 1) := by decide +kernel
theorem dX3_want_6 : decode cX3_want 6 = .ok (.iload_n 2, 1) := by decide +kernel
theorem dX3_want_7 : decode cX3_want 7 = .ok (.invokevirtual 80, 3) := by decide +kernel
theorem dX3_want_10 : decode cX3_want 10 = .ok (.ifCond .ne 5, 3) := by decide +kernel
theorem dX3_want_13 : decode cX3_want 13 = .ok (.iconst 0, 1) := by decide +kernel
theorem dX3_want_14 : decode cX3_want 14 = .ok (.ireturn, 1) := by decide +kernel
theorem dX3_want_15 : decode cX3_want 15 = .ok (.aload_n 0, 1) := by decide +kernel
theorem dX3_want_16 : decode cX3_want 16 = .ok (.getfield 33, 3) := by decide +kernel
theorem dX3_want_19 : decode cX3_want 19 = .ok (.iload_n 1, 1) := by decide +kernel
theorem dX3_want_20 : decode cX3_want 20 = .ok (.iload_n 2, 1) := by decide +kernel
theorem dX3_want_21 : decode cX3_want 21 = .ok (.iastore, 1) := by decide +kernel
theorem dX3_want_22 : decode cX3_want 22 = .ok (.aload_n 0, 1) := by decide +kernel
theorem dX3_want_23 : decode cX3_want 23 = .ok (.invokevirtual 77, 3) := by decide +kernel
theorem dX3_want_26 : decode cX3_want 26 = .ok (.iconst 1, 1) := by decide +kernel
theorem dX3_want_27 : decode cX3_want 27 = .ok (.ireturn, 1) := by decide +kernel
theorem dX3_press_0 : decode cX3_press 0 = .ok (.aload_n 0, 1) := by decide +kernel
theorem dX3_press_1 : decode cX3_press 1 = .ok (.iload_n 1, 1) := by decide +kernel
theorem dX3_press_2 : decode cX3_press 2 = .ok (.invokevirtual 69, 3) := by decide +kernel
theorem dX3_press_5 : decode cX3_press 5 = .ok (.iload_n 2, 1) := by decide +kernel
theorem dX3_press_6 : decode cX3_press 6 = .ok (.ifCond .lt 10, 3) := by decide +kernel
theorem dX3_press_9 : decode cX3_press 9 = .ok (.iload_n 2, 1) := by decide +kernel
theorem dX3_press_10 : decode cX3_press 10 = .ok (.sipush 1000, 3) := by decide +kernel
theorem dX3_press_13 : decode cX3_press 13 = .ok (.if_icmp .le 5, 3) := by decide +kernel
theorem dX3_press_16 : decode cX3_press 16 = .ok (.iconst 0, 1) := by decide +kernel
theorem dX3_press_17 : decode cX3_press 17 = .ok (.ireturn, 1) := by decide +kernel
theorem dX3_press_18 : decode cX3_press 18 = .ok (.iconst 0, 1) := by decide +kernel
theorem dX3_press_19 : decode cX3_press 19 = .ok (.istore_n 3, 1) := by decide +kernel
theorem dX3_press_20 : decode cX3_press 20 = .ok (.iload_n 3, 1) := by decide +kernel
theorem dX3_press_21 : decode cX3_press 21 = .ok (.aload_n 0, 1) := by decide +kernel
theorem dX3_press_22 : decode cX3_press 22 = .ok (.getfield 18, 3) := by decide +kernel
theorem dX3_press_25 : decode cX3_press 25 = .ok (.if_icmp .ge 37, 3) := by decide +kernel
theorem dX3_press_28 : decode cX3_press 28 = .ok (.aload_n 0, 1) := by decide +kernel
theorem dX3_press_29 : decode cX3_press 29 = .ok (.iload_n 1, 1) := by decide +kernel
theorem dX3_press_30 : decode cX3_press 30 = .ok (.iload_n 3, 1) := by decide +kernel
theorem dX3_press_31 : decode cX3_press 31 = .ok (.invokevirtual 73, 3) := by decide +kernel
theorem dX3_press_34 : decode cX3_press 34 = .ok (.ifCond .eq 22, 3) := by decide +kernel
theorem dX3_press_37 : decode cX3_press 37 = .ok (.aload_n 0, 1) := by decide +kernel
theorem dX3_press_38 : decode cX3_press 38 = .ok (.getfield 29, 3) := by decide +kernel
theorem dX3_press_41 : decode cX3_press 41 = .ok (.iload_n 3, 1) := by decide +kernel
theorem dX3_press_42 : decode cX3_press 42 = .ok (.aload_n 0, 1) := by decide +kernel
theorem dX3_press_43 : decode cX3_press 43 = .ok (.getfield 29, 3) := by decide +kernel
theorem dX3_press_46 : decode cX3_press 46 = .ok (.iload_n 3, 1) := by decide +kernel
theorem dX3_press_47 : decode cX3_press 47 = .ok (.iaload, 1) := by decide +kernel
theorem dX3_press_48 : decode cX3_press 48 = .ok (.iload_n 2, 1) := by decide +kernel
theorem dX3_press_49 : decode cX3_press 49 = .ok (.iadd, 1) := by decide +kernel
theorem dX3_press_50 : decode cX3_press 50 = .ok (.aload_n 0, 1) := by decide +kernel
theorem dX3_press_51 : decode cX3_press 51 = .ok (.getfield 26, 3) := by decide +kernel
theorem dX3_press_54 : decode cX3_press 54 = .ok (.irem, 1) := by decide +kernel
theorem dX3_press_55 : decode cX3_press 55 = .ok (.iastore, 1) := by decide +kernel
theorem dX3_press_56 : decode cX3_press 56 = .ok (.iinc 3 1, 3) := by decide +kernel
theorem dX3_press_59 : decode cX3_press 59 = .ok (.goto (-39), 3) := by decide +kernel
theorem dX3_press_62 : decode cX3_press 62 = .ok (.aload_n 0, 1) := by decide +kernel
theorem dX3_press_63 : decode cX3_press 63 = .ok (.invokevirtual 77, 3) := by decide +kernel
theorem dX3_press_66 : decode cX3_press 66 = .ok (.iconst 1, 1) := by decide +kernel
theorem dX3_press_67 : decode cX3_press 67 = .ok (.ireturn, 1) := by decide +kernel
theorem dX3_at_0 : decode cX3_at 0 = .ok (.aload_n 0, 1) := by decide +kernel
theorem dX3_at_1 : decode cX3_at 1 = .ok (.iload_n 1, 1) := by decide +kernel
theorem dX3_at_2 : decode cX3_at 2 = .ok (.invokevirtual 69, 3) := by decide +kernel
theorem dX3_at_5 : decode cX3_at 5 = .ok (.aload_n 0, 1) := by decide +kernel
theorem dX3_at_6 : decode cX3_at 6 = .ok (.getfield 29, 3) := by decide +kernel
theorem dX3_at_9 : decode cX3_at 9 = .ok (.iload_n 1, 1) := by decide +kernel
theorem dX3_at_10 : decode cX3_at 10 = .ok (.iaload, 1) := by decide +kernel
theorem dX3_at_11 : decode cX3_at 11 = .ok (.ireturn, 1) := by decide +kernel
theorem dX3_apart_0 : decode cX3_apart 0 = .ok (.iconst 0, 1) := by decide +kernel
theorem dX3_apart_1 : decode cX3_apart 1 = .ok (.istore_n 1, 1) := by decide +kernel
theorem dX3_apart_2 : decode cX3_apart 2 = .ok (.iconst 0, 1) := by decide +kernel
theorem dX3_apart_3 : decode cX3_apart 3 = .ok (.istore_n 2, 1) := by decide +kernel
theorem dX3_apart_4 : decode cX3_apart 4 = .ok (.iload_n 2, 1) := by decide +kernel
theorem dX3_apart_5 : decode cX3_apart 5 = .ok (.aload_n 0, 1) := by decide +kernel
theorem dX3_apart_6 : decode cX3_apart 6 = .ok (.getfield 18, 3) := by decide +kernel
theorem dX3_apart_9 : decode cX3_apart 9 = .ok (.if_icmp .ge 27, 3) := by decide +kernel
theorem dX3_apart_12 : decode cX3_apart 12 = .ok (.aload_n 0, 1) := by decide +kernel
theorem dX3_apart_13 : decode cX3_apart 13 = .ok (.getfield 29, 3) := by decide +kernel
theorem dX3_apart_16 : decode cX3_apart 16 = .ok (.iload_n 2, 1) := by decide +kernel
theorem dX3_apart_17 : decode cX3_apart 17 = .ok (.iaload, 1) := by decide +kernel
theorem dX3_apart_18 : decode cX3_apart 18 = .ok (.aload_n 0, 1) := by decide +kernel
theorem dX3_apart_19 : decode cX3_apart 19 = .ok (.getfield 33, 3) := by decide +kernel
theorem dX3_apart_22 : decode cX3_apart 22 = .ok (.iload_n 2, 1) := by decide +kernel
theorem dX3_apart_23 : decode cX3_apart 23 = .ok (.iaload, 1) := by decide +kernel
theorem dX3_apart_24 : decode cX3_apart 24 = .ok (.if_icmp .eq 6, 3) := by decide +kernel
theorem dX3_apart_27 : decode cX3_apart 27 = .ok (.iinc 1 1, 3) := by decide +kernel
theorem dX3_apart_30 : decode cX3_apart 30 = .ok (.iinc 2 1, 3) := by decide +kernel
theorem dX3_apart_33 : decode cX3_apart 33 = .ok (.goto (-29), 3) := by decide +kernel
theorem dX3_apart_36 : decode cX3_apart 36 = .ok (.iload_n 1, 1) := by decide +kernel
theorem dX3_apart_37 : decode cX3_apart 37 = .ok (.ireturn, 1) := by decide +kernel
theorem dX3_rank_0 : decode cX3_rank 0 = .ok (.aload_n 0, 1) := by decide +kernel
theorem dX3_rank_1 : decode cX3_rank 1 = .ok (.invokevirtual 84, 3) := by decide +kernel
theorem dX3_rank_4 : decode cX3_rank 4 = .ok (.aload_n 0, 1) := by decide +kernel
theorem dX3_rank_5 : decode cX3_rank 5 = .ok (.getfield 44, 3) := by decide +kernel
theorem dX3_rank_8 : decode cX3_rank 8 = .ok (.invokevirtual 87, 3) := by decide +kernel
theorem dX3_rank_11 : decode cX3_rank 11 = .ok (.ireturn, 1) := by decide +kernel
theorem dX3_solvable_0 : decode cX3_solvable 0 = .ok (.aload_n 0, 1) := by decide +kernel
theorem dX3_solvable_1 : decode cX3_solvable 1 = .ok (.invokevirtual 84, 3) := by decide +kernel
theorem dX3_solvable_4 : decode cX3_solvable 4 = .ok (.aload_n 0, 1) := by decide +kernel
theorem dX3_solvable_5 : decode cX3_solvable 5 = .ok (.getfield 44, 3) := by decide +kernel
theorem dX3_solvable_8 : decode cX3_solvable 8 = .ok (.invokevirtual 91, 3) := by decide +kernel
theorem dX3_solvable_11 : decode cX3_solvable 11 = .ok (.ireturn, 1) := by decide +kernel
theorem dX3_answer_0 : decode cX3_answer 0 = .ok (.aload_n 0, 1) := by decide +kernel
theorem dX3_answer_1 : decode cX3_answer 1 = .ok (.iload_n 1, 1) := by decide +kernel
theorem dX3_answer_2 : decode cX3_answer 2 = .ok (.invokevirtual 69, 3) := by decide +kernel
theorem dX3_answer_5 : decode cX3_answer 5 = .ok (.aload_n 0, 1) := by decide +kernel
theorem dX3_answer_6 : decode cX3_answer 6 = .ok (.invokevirtual 84, 3) := by decide +kernel
theorem dX3_answer_9 : decode cX3_answer 9 = .ok (.aload_n 0, 1) := by decide +kernel
theorem dX3_answer_10 : decode cX3_answer 10 = .ok (.getfield 44, 3) := by decide +kernel
theorem dX3_answer_13 : decode cX3_answer 13 = .ok (.invokevirtual 91, 3) := by decide +kernel
theorem dX3_answer_16 : decode cX3_answer 16 = .ok (.ifCond .eq 14, 3) := by decide +kernel
theorem dX3_answer_19 : decode cX3_answer 19 = .ok (.aload_n 0, 1) := by decide +kernel
theorem dX3_answer_20 : decode cX3_answer 20 = .ok (.getfield 44, 3) := by decide +kernel
theorem dX3_answer_23 : decode cX3_answer 23 = .ok (.iload_n 1, 1) := by decide +kernel
theorem dX3_answer_24 : decode cX3_answer 24 = .ok (.invokevirtual 95, 3) := by decide +kernel
theorem dX3_answer_27 : decode cX3_answer 27 = .ok (.goto 4, 3) := by decide +kernel
theorem dX3_answer_30 : decode cX3_answer 30 = .ok (.iconst (-1), 1) := by decide +kernel
theorem dX3_answer_31 : decode cX3_answer 31 = .ok (.ireturn, 1) := by decide +kernel
theorem dX3_quiet_0 : decode cX3_quiet 0 = .ok (.aload_n 0, 1) := by decide +kernel
theorem dX3_quiet_1 : decode cX3_quiet 1 = .ok (.iload_n 2, 1) := by decide +kernel
theorem dX3_quiet_2 : decode cX3_quiet 2 = .ok (.invokevirtual 69, 3) := by decide +kernel
theorem dX3_quiet_5 : decode cX3_quiet 5 = .ok (.aload_n 0, 1) := by decide +kernel
theorem dX3_quiet_6 : decode cX3_quiet 6 = .ok (.invokevirtual 84, 3) := by decide +kernel
theorem dX3_quiet_9 : decode cX3_quiet 9 = .ok (.iload_n 1, 1) := by decide +kernel
theorem dX3_quiet_10 : decode cX3_quiet 10 = .ok (.ifCond .lt 14, 3) := by decide +kernel
theorem dX3_quiet_13 : decode cX3_quiet 13 = .ok (.iload_n 1, 1) := by decide +kernel
theorem dX3_quiet_14 : decode cX3_quiet 14 = .ok (.aload_n 0, 1) := by decide +kernel
theorem dX3_quiet_15 : decode cX3_quiet 15 = .ok (.getfield 44, 3) := by decide +kernel
theorem dX3_quiet_18 : decode cX3_quiet 18 = .ok (.invokevirtual 98, 3) := by decide +kernel
theorem dX3_quiet_21 : decode cX3_quiet 21 = .ok (.if_icmp .lt 5, 3) := by decide +kernel
theorem dX3_quiet_24 : decode cX3_quiet 24 = .ok (.iconst (-1), 1) := by decide +kernel
theorem dX3_quiet_25 : decode cX3_quiet 25 = .ok (.ireturn, 1) := by decide +kernel
theorem dX3_quiet_26 : decode cX3_quiet 26 = .ok (.aload_n 0, 1) := by decide +kernel
theorem dX3_quiet_27 : decode cX3_quiet 27 = .ok (.getfield 44, 3) := by decide +kernel
theorem dX3_quiet_30 : decode cX3_quiet 30 = .ok (.iload_n 1, 1) := by decide +kernel
theorem dX3_quiet_31 : decode cX3_quiet 31 = .ok (.invokevirtual 101, 3) := by decide +kernel
theorem dX3_quiet_34 : decode cX3_quiet 34 = .ok (.iload_n 2, 1) := by decide +kernel
theorem dX3_quiet_35 : decode cX3_quiet 35 = .ok (.iaload, 1) := by decide +kernel
theorem dX3_quiet_36 : decode cX3_quiet 36 = .ok (.ireturn, 1) := by decide +kernel
theorem dX3_count_0 : decode cX3_count 0 = .ok (.aload_n 0, 1) := by decide +kernel
theorem dX3_count_1 : decode cX3_count 1 = .ok (.invokevirtual 84, 3) := by decide +kernel
theorem dX3_count_4 : decode cX3_count 4 = .ok (.aload_n 0, 1) := by decide +kernel
theorem dX3_count_5 : decode cX3_count 5 = .ok (.getfield 58, 3) := by decide +kernel
theorem dX3_count_8 : decode cX3_count 8 = .ok (.aload_n 0, 1) := by decide +kernel
theorem dX3_count_9 : decode cX3_count 9 = .ok (.getfield 44, 3) := by decide +kernel
theorem dX3_count_12 : decode cX3_count 12 = .ok (.invokevirtual 91, 3) := by decide +kernel
theorem dX3_count_15 : decode cX3_count 15 = .ok (.ifCond .eq 7, 3) := by decide +kernel
theorem dX3_count_18 : decode cX3_count 18 = .ok (.iconst 1, 1) := by decide +kernel
theorem dX3_count_19 : decode cX3_count 19 = .ok (.goto 4, 3) := by decide +kernel
theorem dX3_count_22 : decode cX3_count 22 = .ok (.iconst 0, 1) := by decide +kernel
theorem dX3_count_23 : decode cX3_count 23 = .ok (.invokevirtual 105, 3) := by decide +kernel
theorem dX3_count_26 : decode cX3_count 26 = .ok (.iconst 0, 1) := by decide +kernel
theorem dX3_count_27 : decode cX3_count 27 = .ok (.istore_n 2, 1) := by decide +kernel
theorem dX3_count_28 : decode cX3_count 28 = .ok (.iload_n 2, 1) := by decide +kernel
theorem dX3_count_29 : decode cX3_count 29 = .ok (.aload_n 0, 1) := by decide +kernel
theorem dX3_count_30 : decode cX3_count 30 = .ok (.getfield 44, 3) := by decide +kernel
theorem dX3_count_33 : decode cX3_count 33 = .ok (.invokevirtual 98, 3) := by decide +kernel
theorem dX3_count_36 : decode cX3_count 36 = .ok (.if_icmp .ge 20, 3) := by decide +kernel
theorem dX3_count_39 : decode cX3_count 39 = .ok (.aload_n 0, 1) := by decide +kernel
theorem dX3_count_40 : decode cX3_count 40 = .ok (.getfield 58, 3) := by decide +kernel
theorem dX3_count_43 : decode cX3_count 43 = .ok (.aload_n 0, 1) := by decide +kernel
theorem dX3_count_44 : decode cX3_count 44 = .ok (.getfield 26, 3) := by decide +kernel
theorem dX3_count_47 : decode cX3_count 47 = .ok (.invokevirtual 108, 3) := by decide +kernel
theorem dX3_count_50 : decode cX3_count 50 = .ok (.iinc 2 1, 3) := by decide +kernel
theorem dX3_count_53 : decode cX3_count 53 = .ok (.goto (-25), 3) := by decide +kernel
theorem dX3_count_56 : decode cX3_count 56 = .ok (.aload_n 0, 1) := by decide +kernel
theorem dX3_count_57 : decode cX3_count 57 = .ok (.getfield 58, 3) := by decide +kernel
theorem dX3_count_60 : decode cX3_count 60 = .ok (.iload_n 1, 1) := by decide +kernel
theorem dX3_count_61 : decode cX3_count 61 = .ok (.invokevirtual 111, 3) := by decide +kernel
theorem dX3_count_64 : decode cX3_count 64 = .ok (.ireturn, 1) := by decide +kernel
theorem dX3_fewest_0 : decode cX3_fewest 0 = .ok (.aload_n 0, 1) := by decide +kernel
theorem dX3_fewest_1 : decode cX3_fewest 1 = .ok (.invokevirtual 114, 3) := by decide +kernel
theorem dX3_fewest_4 : decode cX3_fewest 4 = .ok (.aload_n 0, 1) := by decide +kernel
theorem dX3_fewest_5 : decode cX3_fewest 5 = .ok (.getfield 51, 3) := by decide +kernel
theorem dX3_fewest_8 : decode cX3_fewest 8 = .ok (.invokevirtual 117, 3) := by decide +kernel
theorem dX3_fewest_11 : decode cX3_fewest 11 = .ok (.ireturn, 1) := by decide +kernel
theorem dX3_best_0 : decode cX3_best 0 = .ok (.aload_n 0, 1) := by decide +kernel
theorem dX3_best_1 : decode cX3_best 1 = .ok (.iload_n 1, 1) := by decide +kernel
theorem dX3_best_2 : decode cX3_best 2 = .ok (.invokevirtual 69, 3) := by decide +kernel
theorem dX3_best_5 : decode cX3_best 5 = .ok (.aload_n 0, 1) := by decide +kernel
theorem dX3_best_6 : decode cX3_best 6 = .ok (.invokevirtual 114, 3) := by decide +kernel
theorem dX3_best_9 : decode cX3_best 9 = .ok (.aload_n 0, 1) := by decide +kernel
theorem dX3_best_10 : decode cX3_best 10 = .ok (.getfield 51, 3) := by decide +kernel
theorem dX3_best_13 : decode cX3_best 13 = .ok (.invokevirtual 117, 3) := by decide +kernel
theorem dX3_best_16 : decode cX3_best 16 = .ok (.ifCond .ge 13, 3) := by decide +kernel
theorem dX3_best_19 : decode cX3_best 19 = .ok (.aload_n 0, 1) := by decide +kernel
theorem dX3_best_20 : decode cX3_best 20 = .ok (.getfield 51, 3) := by decide +kernel
theorem dX3_best_23 : decode cX3_best 23 = .ok (.invokevirtual 117, 3) := by decide +kernel
theorem dX3_best_26 : decode cX3_best 26 = .ok (.goto 11, 3) := by decide +kernel
theorem dX3_best_29 : decode cX3_best 29 = .ok (.aload_n 0, 1) := by decide +kernel
theorem dX3_best_30 : decode cX3_best 30 = .ok (.getfield 51, 3) := by decide +kernel
theorem dX3_best_33 : decode cX3_best 33 = .ok (.iload_n 1, 1) := by decide +kernel
theorem dX3_best_34 : decode cX3_best 34 = .ok (.invokevirtual 120, 3) := by decide +kernel
theorem dX3_best_37 : decode cX3_best 37 = .ok (.ireturn, 1) := by decide +kernel
theorem dX3_alone_0 : decode cX3_alone 0 = .ok (.aload_n 0, 1) := by decide +kernel
theorem dX3_alone_1 : decode cX3_alone 1 = .ok (.iload_n 1, 1) := by decide +kernel
theorem dX3_alone_2 : decode cX3_alone 2 = .ok (.invokevirtual 69, 3) := by decide +kernel
theorem dX3_alone_5 : decode cX3_alone 5 = .ok (.aload_n 0, 1) := by decide +kernel
theorem dX3_alone_6 : decode cX3_alone 6 = .ok (.invokevirtual 84, 3) := by decide +kernel
theorem dX3_alone_9 : decode cX3_alone 9 = .ok (.iconst 0, 1) := by decide +kernel
theorem dX3_alone_10 : decode cX3_alone 10 = .ok (.istore_n 2, 1) := by decide +kernel
theorem dX3_alone_11 : decode cX3_alone 11 = .ok (.iload_n 2, 1) := by decide +kernel
theorem dX3_alone_12 : decode cX3_alone 12 = .ok (.aload_n 0, 1) := by decide +kernel
theorem dX3_alone_13 : decode cX3_alone 13 = .ok (.getfield 44, 3) := by decide +kernel
theorem dX3_alone_16 : decode cX3_alone 16 = .ok (.invokevirtual 98, 3) := by decide +kernel
theorem dX3_alone_19 : decode cX3_alone 19 = .ok (.if_icmp .ge 24, 3) := by decide +kernel
theorem dX3_alone_22 : decode cX3_alone 22 = .ok (.aload_n 0, 1) := by decide +kernel
theorem dX3_alone_23 : decode cX3_alone 23 = .ok (.getfield 44, 3) := by decide +kernel
theorem dX3_alone_26 : decode cX3_alone 26 = .ok (.iload_n 2, 1) := by decide +kernel
theorem dX3_alone_27 : decode cX3_alone 27 = .ok (.invokevirtual 101, 3) := by decide +kernel
theorem dX3_alone_30 : decode cX3_alone 30 = .ok (.iload_n 1, 1) := by decide +kernel
theorem dX3_alone_31 : decode cX3_alone 31 = .ok (.iaload, 1) := by decide +kernel
theorem dX3_alone_32 : decode cX3_alone 32 = .ok (.ifCond .eq 5, 3) := by decide +kernel
theorem dX3_alone_35 : decode cX3_alone 35 = .ok (.iconst 0, 1) := by decide +kernel
theorem dX3_alone_36 : decode cX3_alone 36 = .ok (.ireturn, 1) := by decide +kernel
theorem dX3_alone_37 : decode cX3_alone 37 = .ok (.iinc 2 1, 3) := by decide +kernel
theorem dX3_alone_40 : decode cX3_alone 40 = .ok (.goto (-29), 3) := by decide +kernel
theorem dX3_alone_43 : decode cX3_alone 43 = .ok (.iconst 1, 1) := by decide +kernel
theorem dX3_alone_44 : decode cX3_alone 44 = .ok (.ireturn, 1) := by decide +kernel
theorem dX3_clear_0 : decode cX3_clear 0 = .ok (.iconst 0, 1) := by decide +kernel
theorem dX3_clear_1 : decode cX3_clear 1 = .ok (.istore_n 1, 1) := by decide +kernel
theorem dX3_clear_2 : decode cX3_clear 2 = .ok (.iload_n 1, 1) := by decide +kernel
theorem dX3_clear_3 : decode cX3_clear 3 = .ok (.aload_n 0, 1) := by decide +kernel
theorem dX3_clear_4 : decode cX3_clear 4 = .ok (.getfield 18, 3) := by decide +kernel
theorem dX3_clear_7 : decode cX3_clear 7 = .ok (.if_icmp .ge 23, 3) := by decide +kernel
theorem dX3_clear_10 : decode cX3_clear 10 = .ok (.aload_n 0, 1) := by decide +kernel
theorem dX3_clear_11 : decode cX3_clear 11 = .ok (.getfield 29, 3) := by decide +kernel
theorem dX3_clear_14 : decode cX3_clear 14 = .ok (.iload_n 1, 1) := by decide +kernel
theorem dX3_clear_15 : decode cX3_clear 15 = .ok (.iconst 0, 1) := by decide +kernel
theorem dX3_clear_16 : decode cX3_clear 16 = .ok (.iastore, 1) := by decide +kernel
theorem dX3_clear_17 : decode cX3_clear 17 = .ok (.aload_n 0, 1) := by decide +kernel
theorem dX3_clear_18 : decode cX3_clear 18 = .ok (.getfield 33, 3) := by decide +kernel
theorem dX3_clear_21 : decode cX3_clear 21 = .ok (.iload_n 1, 1) := by decide +kernel
theorem dX3_clear_22 : decode cX3_clear 22 = .ok (.iconst 0, 1) := by decide +kernel
theorem dX3_clear_23 : decode cX3_clear 23 = .ok (.iastore, 1) := by decide +kernel
theorem dX3_clear_24 : decode cX3_clear 24 = .ok (.iinc 1 1, 3) := by decide +kernel
theorem dX3_clear_27 : decode cX3_clear 27 = .ok (.goto (-25), 3) := by decide +kernel
theorem dX3_clear_30 : decode cX3_clear 30 = .ok (.aload_n 0, 1) := by decide +kernel
theorem dX3_clear_31 : decode cX3_clear 31 = .ok (.invokevirtual 77, 3) := by decide +kernel
theorem dX3_clear_34 : decode cX3_clear 34 = .ok (.return_, 1) := by decide +kernel
theorem dX3_primeFor_0 : decode cX3_primeFor 0 = .ok (.iload_n 0, 1) := by decide +kernel
theorem dX3_primeFor_1 : decode cX3_primeFor 1 = .ok (.iconst 3, 1) := by decide +kernel
theorem dX3_primeFor_2 : decode cX3_primeFor 2 = .ok (.if_icmp .ge 5, 3) := by decide +kernel
theorem dX3_primeFor_5 : decode cX3_primeFor 5 = .ok (.iconst 2, 1) := by decide +kernel
theorem dX3_primeFor_6 : decode cX3_primeFor 6 = .ok (.ireturn, 1) := by decide +kernel
theorem dX3_primeFor_7 : decode cX3_primeFor 7 = .ok (.iload_n 0, 1) := by decide +kernel
theorem dX3_primeFor_8 : decode cX3_primeFor 8 = .ok (.iconst 5, 1) := by decide +kernel
theorem dX3_primeFor_9 : decode cX3_primeFor 9 = .ok (.if_icmp .ge 5, 3) := by decide +kernel
theorem dX3_primeFor_12 : decode cX3_primeFor 12 = .ok (.iconst 3, 1) := by decide +kernel
theorem dX3_primeFor_13 : decode cX3_primeFor 13 = .ok (.ireturn, 1) := by decide +kernel
theorem dX3_primeFor_14 : decode cX3_primeFor 14 = .ok (.iload_n 0, 1) := by decide +kernel
theorem dX3_primeFor_15 : decode cX3_primeFor 15 = .ok (.bipush 7, 2) := by decide +kernel
theorem dX3_primeFor_17 : decode cX3_primeFor 17 = .ok (.if_icmp .ge 7, 3) := by decide +kernel
theorem dX3_primeFor_20 : decode cX3_primeFor 20 = .ok (.iconst 5, 1) := by decide +kernel
theorem dX3_primeFor_21 : decode cX3_primeFor 21 = .ok (.goto 5, 3) := by decide +kernel
theorem dX3_primeFor_24 : decode cX3_primeFor 24 = .ok (.bipush 7, 2) := by decide +kernel
theorem dX3_primeFor_26 : decode cX3_primeFor 26 = .ok (.ireturn, 1) := by decide +kernel
theorem dX3_mustExist_0 : decode cX3_mustExist 0 = .ok (.iload_n 1, 1) := by decide +kernel
theorem dX3_mustExist_1 : decode cX3_mustExist 1 = .ok (.ifCond .lt 11, 3) := by decide +kernel
theorem dX3_mustExist_4 : decode cX3_mustExist 4 = .ok (.iload_n 1, 1) := by decide +kernel
theorem dX3_mustExist_5 : decode cX3_mustExist 5 = .ok (.aload_n 0, 1) := by decide +kernel
theorem dX3_mustExist_6 : decode cX3_mustExist 6 = .ok (.getfield 18, 3) := by decide +kernel
theorem dX3_mustExist_9 : decode cX3_mustExist 9 = .ok (.if_icmp .lt 13, 3) := by decide +kernel
theorem dX3_mustExist_12 : decode cX3_mustExist 12 = .ok (.new 123, 3) := by decide +kernel
theorem dX3_mustExist_15 : decode cX3_mustExist 15 = .ok (.dup, 1) := by decide +kernel
theorem dX3_mustExist_16 : decode cX3_mustExist 16 = .ok (.ldc 125, 2) := by decide +kernel
theorem dX3_mustExist_18 : decode cX3_mustExist 18 = .ok (.invokespecial 127, 3) := by decide +kernel
theorem dX3_mustExist_21 : decode cX3_mustExist 21 = .ok (.athrow, 1) := by decide +kernel
theorem dX3_mustExist_22 : decode cX3_mustExist 22 = .ok (.return_, 1) := by decide +kernel
theorem dX3_isState_0 : decode cX3_isState 0 = .ok (.iload_n 1, 1) := by decide +kernel
theorem dX3_isState_1 : decode cX3_isState 1 = .ok (.ifCond .lt 15, 3) := by decide +kernel
theorem dX3_isState_4 : decode cX3_isState 4 = .ok (.iload_n 1, 1) := by decide +kernel
theorem dX3_isState_5 : decode cX3_isState 5 = .ok (.aload_n 0, 1) := by decide +kernel
theorem dX3_isState_6 : decode cX3_isState 6 = .ok (.getfield 26, 3) := by decide +kernel
theorem dX3_isState_9 : decode cX3_isState 9 = .ok (.if_icmp .ge 7, 3) := by decide +kernel
theorem dX3_isState_12 : decode cX3_isState 12 = .ok (.iconst 1, 1) := by decide +kernel
theorem dX3_isState_13 : decode cX3_isState 13 = .ok (.goto 4, 3) := by decide +kernel
theorem dX3_isState_16 : decode cX3_isState 16 = .ok (.iconst 0, 1) := by decide +kernel
theorem dX3_isState_17 : decode cX3_isState 17 = .ok (.ireturn, 1) := by decide +kernel
theorem dX3_touches_0 : decode cX3_touches 0 = .ok (.aload_n 0, 1) := by decide +kernel
theorem dX3_touches_1 : decode cX3_touches 1 = .ok (.getfield 36, 3) := by decide +kernel
theorem dX3_touches_4 : decode cX3_touches 4 = .ok (.iload_n 1, 1) := by decide +kernel
theorem dX3_touches_5 : decode cX3_touches 5 = .ok (.iaload, 1) := by decide +kernel
theorem dX3_touches_6 : decode cX3_touches 6 = .ok (.iload_n 2, 1) := by decide +kernel
theorem dX3_touches_7 : decode cX3_touches 7 = .ok (.ishr, 1) := by decide +kernel
theorem dX3_touches_8 : decode cX3_touches 8 = .ok (.iconst 1, 1) := by decide +kernel
theorem dX3_touches_9 : decode cX3_touches 9 = .ok (.iand, 1) := by decide +kernel
theorem dX3_touches_10 : decode cX3_touches 10 = .ok (.iconst 1, 1) := by decide +kernel
theorem dX3_touches_11 : decode cX3_touches 11 = .ok (.if_icmp .ne 7, 3) := by decide +kernel
theorem dX3_touches_14 : decode cX3_touches 14 = .ok (.iconst 1, 1) := by decide +kernel
theorem dX3_touches_15 : decode cX3_touches 15 = .ok (.goto 4, 3) := by decide +kernel
theorem dX3_touches_18 : decode cX3_touches 18 = .ok (.iconst 0, 1) := by decide +kernel
theorem dX3_touches_19 : decode cX3_touches 19 = .ok (.ireturn, 1) := by decide +kernel
theorem dX3_forget_0 : decode cX3_forget 0 = .ok (.aload_n 0, 1) := by decide +kernel
theorem dX3_forget_1 : decode cX3_forget 1 = .ok (.iconst 0, 1) := by decide +kernel
theorem dX3_forget_2 : decode cX3_forget 2 = .ok (.putfield 62, 3) := by decide +kernel
theorem dX3_forget_5 : decode cX3_forget 5 = .ok (.aload_n 0, 1) := by decide +kernel
theorem dX3_forget_6 : decode cX3_forget 6 = .ok (.iconst 0, 1) := by decide +kernel
theorem dX3_forget_7 : decode cX3_forget 7 = .ok (.putfield 66, 3) := by decide +kernel
theorem dX3_forget_10 : decode cX3_forget 10 = .ok (.return_, 1) := by decide +kernel
theorem dX3_work_0 : decode cX3_work 0 = .ok (.aload_n 0, 1) := by decide +kernel
theorem dX3_work_1 : decode cX3_work 1 = .ok (.getfield 62, 3) := by decide +kernel
theorem dX3_work_4 : decode cX3_work 4 = .ok (.ifCond .ne 34, 3) := by decide +kernel
theorem dX3_work_7 : decode cX3_work 7 = .ok (.aload_n 0, 1) := by decide +kernel
theorem dX3_work_8 : decode cX3_work 8 = .ok (.getfield 44, 3) := by decide +kernel
theorem dX3_work_11 : decode cX3_work 11 = .ok (.aload_n 0, 1) := by decide +kernel
theorem dX3_work_12 : decode cX3_work 12 = .ok (.getfield 36, 3) := by decide +kernel
theorem dX3_work_15 : decode cX3_work 15 = .ok (.aload_n 0, 1) := by decide +kernel
theorem dX3_work_16 : decode cX3_work 16 = .ok (.getfield 29, 3) := by decide +kernel
theorem dX3_work_19 : decode cX3_work 19 = .ok (.aload_n 0, 1) := by decide +kernel
theorem dX3_work_20 : decode cX3_work 20 = .ok (.getfield 33, 3) := by decide +kernel
theorem dX3_work_23 : decode cX3_work 23 = .ok (.invokevirtual 130, 3) := by decide +kernel
theorem dX3_work_26 : decode cX3_work 26 = .ok (.aload_n 0, 1) := by decide +kernel
theorem dX3_work_27 : decode cX3_work 27 = .ok (.getfield 44, 3) := by decide +kernel
theorem dX3_work_30 : decode cX3_work 30 = .ok (.invokevirtual 134, 3) := by decide +kernel
theorem dX3_work_33 : decode cX3_work 33 = .ok (.aload_n 0, 1) := by decide +kernel
theorem dX3_work_34 : decode cX3_work 34 = .ok (.iconst 1, 1) := by decide +kernel
theorem dX3_work_35 : decode cX3_work 35 = .ok (.putfield 62, 3) := by decide +kernel
theorem dX3_work_38 : decode cX3_work 38 = .ok (.return_, 1) := by decide +kernel
theorem dX3_seek_0 : decode cX3_seek 0 = .ok (.aload_n 0, 1) := by decide +kernel
theorem dX3_seek_1 : decode cX3_seek 1 = .ok (.invokevirtual 84, 3) := by decide +kernel
theorem dX3_seek_4 : decode cX3_seek 4 = .ok (.aload_n 0, 1) := by decide +kernel
theorem dX3_seek_5 : decode cX3_seek 5 = .ok (.getfield 66, 3) := by decide +kernel
theorem dX3_seek_8 : decode cX3_seek 8 = .ok (.ifCond .ne 19, 3) := by decide +kernel
theorem dX3_seek_11 : decode cX3_seek 11 = .ok (.aload_n 0, 1) := by decide +kernel
theorem dX3_seek_12 : decode cX3_seek 12 = .ok (.getfield 51, 3) := by decide +kernel
theorem dX3_seek_15 : decode cX3_seek 15 = .ok (.aload_n 0, 1) := by decide +kernel
theorem dX3_seek_16 : decode cX3_seek 16 = .ok (.getfield 44, 3) := by decide +kernel
theorem dX3_seek_19 : decode cX3_seek 19 = .ok (.invokevirtual 137, 3) := by decide +kernel
theorem dX3_seek_22 : decode cX3_seek 22 = .ok (.aload_n 0, 1) := by decide +kernel
theorem dX3_seek_23 : decode cX3_seek 23 = .ok (.iconst 1, 1) := by decide +kernel
theorem dX3_seek_24 : decode cX3_seek 24 = .ok (.putfield 66, 3) := by decide +kernel
theorem dX3_seek_27 : decode cX3_seek 27 = .ok (.return_, 1) := by decide +kernel
theorem dJx00060_init_a7421_0 : decode cJx00060_init_a7421 0 = .ok (.aload_n 0, 1) := by decide +kernel
theorem dJx00060_init_a7421_1 : decode cJx00060_init_a7421 1 = .ok (.aload_n 1, 1) := by decide +kernel
theorem dJx00060_init_a7421_2 : decode cJx00060_init_a7421 2 = .ok (.invokespecial 7, 3) := by decide +kernel
theorem dJx00060_init_a7421_5 : decode cJx00060_init_a7421 5 = .ok (.return_, 1) := by decide +kernel
theorem dJ9_max_7cf53_0 : decode cJ9_max_7cf53 0 = .ok (.iload_n 0, 1) := by decide +kernel
theorem dJ9_max_7cf53_1 : decode cJ9_max_7cf53 1 = .ok (.iload_n 1, 1) := by decide +kernel
theorem dJ9_max_7cf53_2 : decode cJ9_max_7cf53 2 = .ok (.if_icmp .lt 7, 3) := by decide +kernel
theorem dJ9_max_7cf53_5 : decode cJ9_max_7cf53 5 = .ok (.iload_n 0, 1) := by decide +kernel
theorem dJ9_max_7cf53_6 : decode cJ9_max_7cf53 6 = .ok (.goto 4, 3) := by decide +kernel
theorem dJ9_max_7cf53_9 : decode cJ9_max_7cf53 9 = .ok (.iload_n 1, 1) := by decide +kernel
theorem dJ9_max_7cf53_10 : decode cJ9_max_7cf53 10 = .ok (.ireturn, 1) := by decide +kernel
theorem dJ9_min_7cf53_0 : decode cJ9_min_7cf53 0 = .ok (.iload_n 0, 1) := by decide +kernel
theorem dJ9_min_7cf53_1 : decode cJ9_min_7cf53 1 = .ok (.iload_n 1, 1) := by decide +kernel
theorem dJ9_min_7cf53_2 : decode cJ9_min_7cf53 2 = .ok (.if_icmp .gt 7, 3) := by decide +kernel
theorem dJ9_min_7cf53_5 : decode cJ9_min_7cf53 5 = .ok (.iload_n 0, 1) := by decide +kernel
theorem dJ9_min_7cf53_6 : decode cJ9_min_7cf53 6 = .ok (.goto 4, 3) := by decide +kernel
theorem dJ9_min_7cf53_9 : decode cJ9_min_7cf53 9 = .ok (.iload_n 1, 1) := by decide +kernel
theorem dJ9_min_7cf53_10 : decode cJ9_min_7cf53 10 = .ok (.ireturn, 1) := by decide +kernel
end
section
set_option maxRecDepth 20000 in
theorem ggX1_reduce_X1_unusedRowWith : GoodIn wsX1_reduce wsX1_unusedRowWith := goodIn_r _ [9, 1, 2, 4, 41, 42, 43, 44, 45, 46, 47] (by decide +kernel) (by decide +kernel)
set_option maxRecDepth 20000 in
theorem gX1_reduce_X1_unusedRowWith : GoodIn wsX1_reduce (wsV RX1 36 RX1 yX1_unusedRowWith wsX1_unusedRowWith) := goodIn_app (goodIn_of _ (by decide +kernel)) ggX1_reduce_X1_unusedRowWith
set_option maxRecDepth 20000 in
theorem ggX1_reduce_X1_swap : GoodIn wsX1_reduce wsX1_swap := goodIn_r _ [13, 4, 41, 42, 43, 44, 45, 46, 47] (by decide +kernel) (by decide +kernel)
set_option maxRecDepth 20000 in
theorem gX1_reduce_X1_swap : GoodIn wsX1_reduce (wsV RX1 40 RX1 yX1_swap wsX1_swap) := goodIn_app (goodIn_of _ (by decide +kernel)) ggX1_reduce_X1_swap
set_option maxRecDepth 20000 in
theorem ggX1_reduce_X1_makeUnit : GoodIn wsX1_reduce wsX1_makeUnit := goodIn_r _ [17, 2, 18, 19, 20, 21, 8, 22, 41, 42, 43, 44, 45, 46, 47] (by decide +kernel) (by decide +kernel)
set_option maxRecDepth 20000 in
theorem gX1_reduce_X1_makeUnit : GoodIn wsX1_reduce (wsV RX1 44 RX1 yX1_makeUnit wsX1_makeUnit) := goodIn_app (goodIn_of _ (by decide +kernel)) ggX1_reduce_X1_makeUnit
set_option maxRecDepth 20000 in
theorem ggX1_reduce_X1_clearElsewhere : GoodIn wsX1_reduce wsX1_clearElsewhere := goodIn_r _ [26, 2, 4, 18, 27, 28, 29, 8, 30, 41, 42, 43, 44, 45, 46, 47] (by decide +kernel) (by decide +kernel)
set_option maxRecDepth 20000 in
theorem gX1_reduce_X1_clearElsewhere : GoodIn wsX1_reduce (wsV RX1 48 RX1 yX1_clearElsewhere wsX1_clearElsewhere) := goodIn_app (goodIn_of _ (by decide +kernel)) ggX1_reduce_X1_clearElsewhere
set_option maxRecDepth 20000 in
theorem ggX1_reduce_X1_readQuietPatterns : GoodIn wsX1_reduce wsX1_readQuietPatterns := goodIn_r _ [34, 35, 2, 3, 36, 37, 38, 39, 8, 40, 18, 4, 41, 42, 43, 44, 45, 46, 47] (by decide +kernel) (by decide +kernel)
set_option maxRecDepth 20000 in
theorem gX1_reduce_X1_readQuietPatterns : GoodIn wsX1_reduce (wsV RX1 51 RX1 yX1_readQuietPatterns wsX1_readQuietPatterns) := goodIn_app (goodIn_of _ (by decide +kernel)) ggX1_reduce_X1_readQuietPatterns
set_option maxRecDepth 20000 in
theorem ggX1_answersUpTo_X1_agree : GoodIn wsX1_answersUpTo wsX1_agree := goodIn_r _ [7, 8, 9, 10, 11, 12, 13, 14, 15, 16, 17] (by decide +kernel) (by decide +kernel)
set_option maxRecDepth 20000 in
theorem gX1_answersUpTo_X1_agree : GoodIn wsX1_answersUpTo (wsV RX1 54 RX1 yX1_agree wsX1_agree) := goodIn_app (goodIn_of _ (by decide +kernel)) ggX1_answersUpTo_X1_agree
set_option maxRecDepth 20000 in
theorem ggX1_makeUnit_X1_inverse : GoodIn wsX1_makeUnit wsX1_inverse := goodIn_r _ [7, 2, 8, 9, 10, 11, 12, 13, 14] (by decide +kernel) (by decide +kernel)
set_option maxRecDepth 20000 in
theorem gX1_makeUnit_X1_inverse : GoodIn wsX1_makeUnit (wsV RX1 58 RX1 yX1_inverse wsX1_inverse) := goodIn_app (goodIn_of _ (by decide +kernel)) ggX1_makeUnit_X1_inverse
set_option maxRecDepth 20000 in
theorem ggX1_clearElsewhere_X1_addMultiple : GoodIn wsX1_clearElsewhere wsX1_addMultiple := goodIn_r _ [8, 1, 3, 9, 10, 11, 12, 13, 14, 15] (by decide +kernel) (by decide +kernel)
set_option maxRecDepth 20000 in
theorem gX1_clearElsewhere_X1_addMultiple : GoodIn wsX1_clearElsewhere (wsV RX1 61 RX1 yX1_addMultiple wsX1_addMultiple) := goodIn_app (goodIn_of _ (by decide +kernel)) ggX1_clearElsewhere_X1_addMultiple
set_option maxRecDepth 20000 in
theorem ggX1_readQuietPatterns_X1_readQuietPattern : GoodIn wsX1_readQuietPatterns wsX1_readQuietPattern := goodIn_r _ [9, 2, 3, 10, 11, 12, 13, 14, 15, 16, 17, 18] (by decide +kernel) (by decide +kernel)
set_option maxRecDepth 20000 in
theorem gX1_readQuietPatterns_X1_readQuietPattern : GoodIn wsX1_readQuietPatterns (wsV RX1 65 RX1 yX1_readQuietPattern wsX1_readQuietPattern) := goodIn_app (goodIn_of _ (by decide +kernel)) ggX1_readQuietPatterns_X1_readQuietPattern
set_option maxRecDepth 20000 in
theorem ggX2_run_X1_answersUpTo : GoodIn wsX2_run wsX1_answersUpTo := goodIn_r _ [6, 7, 8, 9, 10, 11, 5, 12, 13, 14, 15, 74, 75, 76, 77, 78, 79, 80] (by decide +kernel) (by decide +kernel)
set_option maxRecDepth 20000 in
theorem gX2_run_X1_answersUpTo : GoodIn wsX2_run (wsV RX2 31 RX1 yX1_answersUpTo wsX1_answersUpTo) := goodIn_app (goodIn_of _ (by decide +kernel)) ggX2_run_X1_answersUpTo
set_option maxRecDepth 20000 in
theorem ggX2_run_X2_begin : GoodIn wsX2_run wsX2_begin := goodIn_r _ [20, 21, 22, 23, 24, 25, 26, 5, 27, 28, 15, 14, 29, 30, 31, 19, 32, 33, 34, 35, 36, 1, 37, 38, 39, 40, 41, 68, 69, 70, 71, 72, 73, 74, 75, 76, 77, 78, 79, 80] (by decide +kernel) (by decide +kernel)
set_option maxRecDepth 20000 in
theorem gX2_run_X2_begin : GoodIn wsX2_run (wsV RX2 37 RX2 yX2_begin wsX2_begin) := goodIn_app (goodIn_of _ (by decide +kernel)) ggX2_run_X2_begin
set_option maxRecDepth 20000 in
theorem ggX2_run_X2_advance : GoodIn wsX2_run wsX2_advance := goodIn_r _ [45, 23, 46, 47, 48, 49, 5, 50, 7, 51, 52, 53, 54, 55, 56, 57, 58, 19, 59, 21, 22, 68, 69, 70, 71, 72, 73, 74, 75, 76, 77, 78, 79, 80] (by decide +kernel) (by decide +kernel)
set_option maxRecDepth 20000 in
theorem gX2_run_X2_advance : GoodIn wsX2_run (wsV RX2 41 RX2 yX2_advance wsX2_advance) := goodIn_app (goodIn_of _ (by decide +kernel)) ggX2_run_X2_advance
set_option maxRecDepth 20000 in
theorem ggX2_run_X2_keepIfLess : GoodIn wsX2_run wsX2_keepIfLess := goodIn_r _ [63, 1, 29, 30, 31, 19, 32, 21, 22, 64, 65, 66, 67, 37, 33, 34, 35, 36, 38, 39, 40, 41, 68, 69, 70, 71, 72, 73] (by decide +kernel) (by decide +kernel)
set_option maxRecDepth 20000 in
theorem gX2_run_X2_keepIfLess : GoodIn wsX2_run (wsV RX2 44 RX2 yX2_keepIfLess wsX2_keepIfLess) := goodIn_app (goodIn_of _ (by decide +kernel)) ggX2_run_X2_keepIfLess
set_option maxRecDepth 20000 in
theorem ggX2_begin_X1_pressesOf : GoodIn wsX2_begin wsX1_pressesOf := goodIn_r _ [8, 9, 10, 11, 33, 34, 35, 36, 37, 38, 39] (by decide +kernel) (by decide +kernel)
set_option maxRecDepth 20000 in
theorem gX2_begin_X1_pressesOf : GoodIn wsX2_begin (wsV RX2 47 RX1 yX1_pressesOf wsX1_pressesOf) := goodIn_app (goodIn_of _ (by decide +kernel)) ggX2_begin_X1_pressesOf
set_option maxRecDepth 20000 in
theorem ggX2_begin_X2_totalTried : GoodIn wsX2_begin wsX2_totalTried := goodIn_r _ [16, 1, 2, 27, 28, 29, 30, 31, 32] (by decide +kernel) (by decide +kernel)
set_option maxRecDepth 20000 in
theorem gX2_begin_X2_totalTried : GoodIn wsX2_begin (wsV RX2 50 RX2 yX2_totalTried wsX2_totalTried) := goodIn_app (goodIn_of _ (by decide +kernel)) ggX2_begin_X2_totalTried
set_option maxRecDepth 20000 in
theorem ggX2_begin_X2_keep : GoodIn wsX2_begin wsX2_keep := goodIn_r _ [20, 21, 2, 22, 1, 23, 24, 25, 26, 27, 28, 29, 30, 31, 32] (by decide +kernel) (by decide +kernel)
set_option maxRecDepth 20000 in
theorem gX2_begin_X2_keep : GoodIn wsX2_begin (wsV RX2 54 RX2 yX2_keep wsX2_keep) := goodIn_app (goodIn_of _ (by decide +kernel)) ggX2_begin_X2_keep
set_option maxRecDepth 20000 in
theorem ggX2_advance_X1_freeLamps : GoodIn wsX2_advance wsX1_freeLamps := goodIn_r _ [7, 8, 27, 28, 29, 30, 31, 32, 33] (by decide +kernel) (by decide +kernel)
set_option maxRecDepth 20000 in
theorem gX2_advance_X1_freeLamps : GoodIn wsX2_advance (wsV RX2 58 RX1 yX1_freeLamps wsX1_freeLamps) := goodIn_app (goodIn_of _ (by decide +kernel)) ggX2_advance_X1_freeLamps
set_option maxRecDepth 20000 in
theorem ggX2_advance_X1_quietPattern : GoodIn wsX2_advance wsX1_quietPattern := goodIn_r _ [12, 13, 27, 28, 29, 30, 31, 32, 33] (by decide +kernel) (by decide +kernel)
set_option maxRecDepth 20000 in
theorem gX2_advance_X1_quietPattern : GoodIn wsX2_advance (wsV RX2 61 RX1 yX1_quietPattern wsX1_quietPattern) := goodIn_app (goodIn_of _ (by decide +kernel)) ggX2_advance_X1_quietPattern
set_option maxRecDepth 20000 in
theorem ggX2_advance_X2_addToTried : GoodIn wsX2_advance wsX2_addToTried := goodIn_r _ [18, 19, 20, 2, 21, 22, 23, 24, 25, 26] (by decide +kernel) (by decide +kernel)
set_option maxRecDepth 20000 in
theorem gX2_advance_X2_addToTried : GoodIn wsX2_advance (wsV RX2 65 RX2 yX2_addToTried wsX2_addToTried) := goodIn_app (goodIn_of _ (by decide +kernel)) ggX2_advance_X2_addToTried
set_option maxRecDepth 20000 in
theorem ggX2_keepIfLess_X2_totalTried : GoodIn wsX2_keepIfLess wsX2_totalTried := goodIn_r _ [6, 7, 8, 22, 23, 24, 25, 26, 27] (by decide +kernel) (by decide +kernel)
set_option maxRecDepth 20000 in
theorem gX2_keepIfLess_X2_totalTried : GoodIn wsX2_keepIfLess (wsV RX2 50 RX2 yX2_totalTried wsX2_totalTried) := goodIn_app (goodIn_of _ (by decide +kernel)) ggX2_keepIfLess_X2_totalTried
set_option maxRecDepth 20000 in
theorem ggX2_keepIfLess_X2_triedIsAhead : GoodIn wsX2_keepIfLess wsX2_triedIsAhead := goodIn_r _ [12, 7, 8, 13, 22, 23, 24, 25, 26, 27] (by decide +kernel) (by decide +kernel)
set_option maxRecDepth 20000 in
theorem gX2_keepIfLess_X2_triedIsAhead : GoodIn wsX2_keepIfLess (wsV RX2 69 RX2 yX2_triedIsAhead wsX2_triedIsAhead) := goodIn_app (goodIn_of _ (by decide +kernel)) ggX2_keepIfLess_X2_triedIsAhead
set_option maxRecDepth 20000 in
theorem ggX2_keepIfLess_X2_keep : GoodIn wsX2_keepIfLess wsX2_keep := goodIn_r _ [17, 1, 8, 13, 7, 18, 19, 20, 21, 22, 23, 24, 25, 26, 27] (by decide +kernel) (by decide +kernel)
set_option maxRecDepth 20000 in
theorem gX2_keepIfLess_X2_keep : GoodIn wsX2_keepIfLess (wsV RX2 54 RX2 yX2_keep wsX2_keep) := goodIn_app (goodIn_of _ (by decide +kernel)) ggX2_keepIfLess_X2_keep
end
section
/-! My own rows over the kit's: arrays by a view of natural numbers, pooled rows, grids, loops over a row -/
section RG
variable {p : Program} {l : Launch} {e : Env} {R : Room} {s : State} {m : MethodId} {args : Array Value} {below : List Frame} {meth : Method} {c : Code} {H : Heap} {locs : List Loc} {cells slots : Nat} {Q : State → Prop}
variable {cc : ByteArray} {pc : Nat} {ls : Array Slot} {rest : List Value} {D : va_G} {cl : List vw_C} {A : Nat → Prop} {a : Nat} {tys : List (ClassId × FieldType)} {ws : va_W} {H0 : Heap}
theorem tp_i {x y : Int32} (h : x = y) (k : W p l e R s m args below meth c H locs cells slots Q (F0 m pc ls (.int y :: rest))) : W p l e R s m args below meth c H locs cells slots Q (F0 m pc ls (.int x :: rest)) := by
  subst h; exact k
theorem tp_v {x y : Value} (h : x = y) (k : W p l e R s m args below meth c H locs cells slots Q (F0 m pc ls (y :: rest))) : W p l e R s m args below meth c H locs cells slots Q (F0 m pc ls (x :: rest)) := by
  subst h; exact k
theorem up_view {α : Type} (g : α → Int32) (F : Nat → α) (i : Nat) (v : α) : upd (fun j => g (F j)) i (g v) = fun j => g (va_up F i v j) := by
  funext j
  unfold upd va_up
  split <;> rfl
theorem ra_ld {α : Type} {g : α → Int32} {F : Nat → α} (hexec : p.tables.exec = Jvm.exec) (hb : c.code = cc) (hK : va_K D cl tys s) (hP : va_P D cl ws H) (q0 t0 : Nat) {cA : ClassId} {n : Nat} (ha : ws[q0]? = some (a, .inl (cA, n, .inl (fun j => g (F j))))) (ht : tys[t0]? = some (cA, .int)) {i : Nat} (hi : i < n) (hn : n < 2 ^ 31) (hdg : decode cc pc = .ok (.iaload, 1))
    (kk : W p l e R s m args below meth c H locs cells slots Q (F0 m (pc + 1) ls (.int (g (F i)) :: rest))) : W p l e R s m args below meth c H locs cells slots Q (F0 m pc ls (.int (nI i) :: .ref a :: rest)) := by
  refine va_iald hexec hb hK hP q0 t0 ha ht (vp_in_nI hi hn) hdg ?_
  refine tp_i (y := g (F i)) ?_ kk
  rw [nI_clamp (by omega)]
theorem rz_ld {α : Type} {g : α → Int32} {F : Nat → α} (hexec : p.tables.exec = Jvm.exec) (hb : c.code = cc) (hK : va_K D cl tys s) (hP : va_P D cl ws H) (q0 t0 : Nat) {cA : ClassId} {n : Nat} (ha : ws[q0]? = some (a, .inl (cA, n, .inl (fun j => g (F j))))) (ht : tys[t0]? = some (cA, .boolean)) {i : Nat} (hi : i < n) (hn : n < 2 ^ 31) (hdg : decode cc pc = .ok (.baload, 1))
    (kk : W p l e R s m args below meth c H locs cells slots Q (F0 m (pc + 1) ls (.int (g (F i)) :: rest))) : W p l e R s m args below meth c H locs cells slots Q (F0 m pc ls (.int (nI i) :: .ref a :: rest)) := by
  refine va_zald hexec hb hK hP q0 t0 ha ht (vp_in_nI hi hn) hdg ?_
  refine tp_i (y := g (F i)) ?_ kk
  rw [nI_clamp (by omega)]
theorem ra_st {α : Type} {g : α → Int32} {F : Nat → α} {v : α} (hexec : p.tables.exec = Jvm.exec) (hb : c.code = cc) (hK : va_K D cl tys s) (hP : va_P D cl ws H) (hD : va_D A ws) (hS : va_S A H0 H locs) (q0 t0 : Nat) {cA : ClassId} {n : Nat} (ha : ws[q0]? = some (a, .inl (cA, n, .inl (fun j => g (F j))))) (ht : tys[t0]? = some (cA, .int)) {i : Nat} (hi : i < n) (hn : n < 2 ^ 31) (hdg : decode cc pc = .ok (.iastore, 1))
    (kk : ∀ (H1 : Heap) (locs1 : List Loc), va_P D cl (ws.set q0 (a, .inl (cA, n, .inl (fun j => g (va_up F i v j))))) H1 → va_D A (ws.set q0 (a, .inl (cA, n, .inl (fun j => g (va_up F i v j))))) → va_S A H0 H1 locs1 → W p l e R s m args below meth c H1 locs1 cells slots Q (F0 m (pc + 1) ls rest)) : W p l e R s m args below meth c H locs cells slots Q (F0 m pc ls (.int (g v) :: .int (nI i) :: .ref a :: rest)) := by
  refine va_iast hexec hb hK hP hD hS q0 t0 ha ht (vp_in_nI hi hn) hdg (fun H1 locs1 h1 h2 h3 => ?_)
  rw [nI_clamp (by omega), up_view] at h1 h2
  exact kk H1 locs1 h1 h2 h3
theorem rz_st {α : Type} {g : α → Int32} {F : Nat → α} {v : α} (hexec : p.tables.exec = Jvm.exec) (hb : c.code = cc) (hK : va_K D cl tys s) (hP : va_P D cl ws H) (hD : va_D A ws) (hS : va_S A H0 H locs) (q0 t0 : Nat) {cA : ClassId} {n : Nat} (ha : ws[q0]? = some (a, .inl (cA, n, .inl (fun j => g (F j))))) (ht : tys[t0]? = some (cA, .boolean)) {i : Nat} (hi : i < n) (hn : n < 2 ^ 31) (hdg : decode cc pc = .ok (.bastore, 1)) (hg : vp_nar .boolean (g v) = g v)
    (kk : ∀ (H1 : Heap) (locs1 : List Loc), va_P D cl (ws.set q0 (a, .inl (cA, n, .inl (fun j => g (va_up F i v j))))) H1 → va_D A (ws.set q0 (a, .inl (cA, n, .inl (fun j => g (va_up F i v j))))) → va_S A H0 H1 locs1 → W p l e R s m args below meth c H1 locs1 cells slots Q (F0 m (pc + 1) ls rest)) : W p l e R s m args below meth c H locs cells slots Q (F0 m pc ls (.int (g v) :: .int (nI i) :: .ref a :: rest)) := by
  refine va_zast hexec hb hK hP hD hS q0 t0 ha ht (vp_in_nI hi hn) hdg (fun H1 locs1 h1 h2 h3 => ?_)
  rw [nI_clamp (by omega), hg, up_view] at h1 h2
  exact kk H1 locs1 h1 h2 h3
/-- the pool of rows: each address a row of numbers -/
def pI (cI : ClassId) (pl : Nat → Nat) (pr : Nat → Nat → Nat) : Nat → va_E := fun y => .inl (cI, pl y, .inl (fun j => nI (pr y j)))
theorem pI_up (cI : ClassId) (pl : Nat → Nat) (pr : Nat → Nat → Nat) (y : Nat) (f : Nat → Nat) (b : Nat) : va_up (pI cI pl pr) y (.inl (cI, pl y, .inl (fun j => nI (f j)))) b = pI cI pl (va_up pr y f) b := by
  by_cases h : b = y
  · subst h; simp [pI, va_up]
  · simp [pI, va_up, h]
theorem rp_ld {X : va_W} {L : List Nat} {cI : ClassId} {pl : Nat → Nat} {pr : Nat → Nat → Nat} (hexec : p.tables.exec = Jvm.exec) (hb : c.code = cc) (hK : va_K D cl tys s) (hP : va_P D cl (X ++ va_pl L (pI cI pl pr)) H) (t0 : Nat) (ht : tys[t0]? = some (cI, .int)) {y i : Nat} (hy : y ∈ L) (hi : i < pl y) (hn : pl y < 2 ^ 31) (hdg : decode cc pc = .ok (.iaload, 1))
    (kk : W p l e R s m args below meth c H locs cells slots Q (F0 m (pc + 1) ls (.int (nI (pr y i)) :: rest))) : W p l e R s m args below meth c H locs cells slots Q (F0 m pc ls (.int (nI i) :: .ref y :: rest)) := by
  obtain ⟨k, hk⟩ := va_pl_get (X := X) (f := pI cI pl pr) hy
  exact ra_ld (g := nI) (F := pr y) hexec hb hK hP k t0 hk ht hi hn hdg kk
theorem rp_st {X : va_W} {L : List Nat} {cI : ClassId} {pl : Nat → Nat} {pr : Nat → Nat → Nat} {v : Nat} (hexec : p.tables.exec = Jvm.exec) (hb : c.code = cc) (hK : va_K D cl tys s) (hP : va_P D cl (X ++ va_pl L (pI cI pl pr)) H) (hD : va_D A (X ++ va_pl L (pI cI pl pr))) (hS : va_S A H0 H locs) (t0 : Nat) (ht : tys[t0]? = some (cI, .int)) {y i : Nat} (hy : y ∈ L) (hi : i < pl y) (hn : pl y < 2 ^ 31) (hdg : decode cc pc = .ok (.iastore, 1))
    (kk : ∀ (H1 : Heap) (locs1 : List Loc), va_P D cl (X ++ va_pl L (pI cI pl (va_up pr y (va_up (pr y) i v)))) H1 → va_D A (X ++ va_pl L (pI cI pl (va_up pr y (va_up (pr y) i v)))) → va_S A H0 H1 locs1 → W p l e R s m args below meth c H1 locs1 cells slots Q (F0 m (pc + 1) ls rest)) : W p l e R s m args below meth c H locs cells slots Q (F0 m pc ls (.int (nI v) :: .int (nI i) :: .ref y :: rest)) := by
  obtain ⟨k, hk⟩ := va_pl_get (X := X) (f := pI cI pl pr) hy
  refine ra_st (g := nI) (F := pr y) (v := v) hexec hb hK hP hD hS k t0 hk ht hi hn hdg (fun H1 locs1 h1 h2 h3 => ?_)
  have e : (X ++ va_pl L (pI cI pl pr)).set k (y, .inl (cI, pl y, .inl (fun j => nI (va_up (pr y) i v j)))) = X ++ va_pl L (pI cI pl (va_up pr y (va_up (pr y) i v))) := by
    rw [va_pl_set hD hy hk]
    exact congrArg (fun l => X ++ l) (va_pl_congr (pI_up cI pl pr y (va_up (pr y) i v)))
  rw [e] at h1 h2
  exact kk H1 locs1 h1 h2 h3
theorem rg_ld {G : Nat → Nat} (hexec : p.tables.exec = Jvm.exec) (hb : c.code = cc) (hK : va_K D cl tys s) (hP : va_P D cl ws H) (q0 t0 : Nat) {cA : ClassId} {n : Nat} (ha : ws[q0]? = some (a, .inl (cA, n, .inr (.inr (.inr (.inr (fun j => some (G j)))))))) (ht : tys[t0]? = some (cA, .array .int)) {i : Nat} (hi : i < n) (hn : n < 2 ^ 31) (hdg : decode cc pc = .ok (.aaload, 1))
    (kk : W p l e R s m args below meth c H locs cells slots Q (F0 m (pc + 1) ls (.ref (G i) :: rest))) : W p l e R s m args below meth c H locs cells slots Q (F0 m pc ls (.int (nI i) :: .ref a :: rest)) := by
  have hc : (nI i).toNatClampNeg = i := nI_clamp (by omega)
  exact W.aald (v := .ref (G i)) (ty := .array .int) hexec hb (hP q0 _ ha) ((hK.2 t0 _ ht).1 n (fun j => va_rf (some (G j)))) rfl (fun q => by cases q) (by show ¬ (nI i < 0 ∨ (arrV _ _ _).slots.size ≤ _); rw [arrV_size]; exact vp_in_nI hi hn) (by show (arrV _ _ _).slots[_]? = _; rw [hc, arrV_read _ _ hi]; rfl) rfl rfl hdg kk
theorem lp_zero {α : Type} (new old : Nat → α) : ∀ j, old j = if j < 0 then new j else old j := fun j => by simp
theorem lp_step {α : Type} {F new old : Nat → α} {i : Nat} {v : α} (hF : ∀ j, F j = if j < i then new j else old j) (hv : v = new i) : ∀ j, va_up F i v j = if j < i + 1 then new j else old j := by
  intro j
  unfold va_up
  by_cases h : j = i
  · subst h; simp [hv]
  · rw [if_neg h, hF j]
    by_cases h2 : j < i
    · rw [if_pos h2, if_pos (by omega)]
    · rw [if_neg h2, if_neg (by omega)]
theorem up_up {α : Type} (f : Nat → α) (k : Nat) (v w : α) : va_up (va_up f k v) k w = va_up f k w := by
  funext j
  unfold va_up
  split <;> rfl
theorem up_at {α : Type} (f : Nat → α) (k : Nat) (v : α) : va_up f k v k = v := by simp [va_up]
theorem up_of {α : Type} (f : Nat → α) {k j : Nat} (v : α) (h : j ≠ k) : va_up f k v j = f j := by simp [va_up, h]
theorem up_id {α : Type} (f : Nat → α) (k : Nat) : va_up f k (f k) = f := by
  funext j
  unfold va_up
  split
  · rename_i h; rw [h]
  · rfl
end RG
end
section
/-! The words for the class's state: pure functions that mirror its methods -/
def oI (o : Option Nat) : Int32 := match o with
  | none => -1
  | some r => nI r
def bI (b : Bool) : Int32 := if b = true then nI 1 else nI 0
theorem bI_nar (b : Bool) : narrow .boolean (.int (bI b)) = .int (bI b) := by cases b <;> rfl
theorem bI_fit (b : Bool) : fits .boolean (.int (bI b)) = true := by cases b <;> rfl
theorem bI_vnar (b : Bool) : vp_nar .boolean (bI b) = bI b := by cases b <;> rfl
theorem nI_nm1 {n : Nat} (h : n < 2 ^ 31) : nI n ≠ -1 := by
  intro h2
  have h3 := congrArg Int32.toInt h2
  rw [nI_toInt h] at h3
  have h4 : (-1 : Int32).toInt = -1 := by decide
  omega
/-- the first row from b on (k rows are looked at) that isn't 0 in column j -/
def fR (M : Nat → Nat → Nat) (j : Nat) : Nat → Nat → Option Nat
  | 0, _ => none
  | k + 1, b => if M b j = 0 then fR M j k (b + 1) else some b
/-- the inverse, sought from f on -/
def ivq (q r : Nat) : Nat → Nat → Nat
  | 0, _ => 1
  | k + 1, f => if r * f % q = 1 then f else ivq q r k (f + 1)
abbrev scR (n q f : Nat) (r : Nat → Nat) : Nat → Nat := fun j => if j < n + 1 then r j * f % q else r j
abbrev adR (n q f : Nat) (r s : Nat → Nat) : Nat → Nat := fun j => if j < n + 1 then (r j + s j * f) % q else r j
/-- clearElsewhere -/
def clr (n q u j : Nat) (M : Nat → Nat → Nat) : Nat → Nat → Nat := fun i => if i = u ∨ M i j = 0 then M i else adR n q (q - M i j) (M i) (M u)
def swp (a b : Nat) (M : Nat → Nat → Nat) : Nat → Nat → Nat := fun i => if i = b then M a else if i = a then M b else M i
/-- whether the rows from r on (k of them) have 0 in column n -/
def agr (M : Nat → Nat → Nat) (n : Nat) : Nat → Nat → Bool
  | 0, _ => true
  | k + 1, r => if M r n = 0 then agr M n k (r + 1) else false
def prs (M : Nat → Nat → Nat) (ro : Nat → Option Nat) (n j : Nat) : Nat := match ro j with
  | none => 0
  | some r => M r n
def aut (q lim : Nat) : Nat → Nat → Nat
  | 0, a => a
  | k + 1, a => if lim < a then a else aut q lim k (a * q)
/-- a QUIET pattern as readQuietPattern lays it -/
def qpt (n q : Nat) (M : Nat → Nat → Nat) (ro : Nat → Option Nat) (f : Nat) (old : Nat → Nat) : Nat → Nat :=
  va_up (fun j => if j < n then (match ro j with | none => 0 | some r => (q - M r f) % q) else old j) f 1
/-- the grids of Equations in the pool -/
def eqOK (n : Nat) (gR gQ : Nat → Nat) (L : List Nat) (pl : Nat → Nat) : Prop :=
  (∀ i, i < n → gR i ∈ L ∧ pl (gR i) = n + 1) ∧ (∀ i, i < n → gQ i ∈ L ∧ pl (gQ i) = n) ∧ (∀ i j, i < n → j < n → gR i = gR j → i = j) ∧ (∀ i j, i < n → j < n → gQ i = gQ j → i = j)
theorem eqOK.apart {n : Nat} {gR gQ : Nat → Nat} {L : List Nat} {pl : Nat → Nat} (h : eqOK n gR gQ L pl) {i j : Nat} (hi : i < n) (hj : j < n) : gR i ≠ gQ j := by
  intro e
  have h1 := (h.1 i hi).2
  have h2 := (h.2.1 j hj).2
  rw [e] at h1
  omega
end
section
/-- what the tables say of int[][]: its component class is int[]'s -/
def grK (cG cI : ClassId) (U : State) : Prop := (∃ kG : Class, U.vm.classes[cG]? = some kG ∧ kG.kind = .array cI (.array .int)) ∧ (∃ kI : Class, U.vm.classes[cI]? = some kI) ∧ U.vm.assignable cI cI = true
theorem grK.moved {cG cI : ClassId} {u U : State} (hvm : u.vm.Alike U.vm) (h : grK cG cI u) : grK cG cI U := by
  obtain ⟨⟨kG, h1, h2⟩, ⟨kI, h3⟩, h4⟩ := h
  obtain ⟨k', hk', he⟩ := hvm.2.2 _ _ h1
  obtain ⟨k2, hk2, -⟩ := hvm.2.2 _ _ h3
  exact ⟨⟨k', hk', by rw [he]; exact h2⟩, ⟨k2, hk2⟩, by rw [hvm.assignable]; exact h4⟩
section RG2
variable {p : Program} {l : Launch} {e : Env} {R : Room} {s : State} {m : MethodId} {args : Array Value} {below : List Frame} {meth : Method} {c : Code} {H : Heap} {locs : List Loc} {cells slots : Nat} {Q : State → Prop}
variable {cc : ByteArray} {pc : Nat} {ls : Array Slot} {rest : List Value} {D : va_G} {cl : List vw_C} {A : Nat → Prop} {a : Nat} {tys : List (ClassId × FieldType)} {H0 : Heap}
theorem rg_st {X : va_W} {L : List Nat} {cI cG : ClassId} {pl : Nat → Nat} {pr : Nat → Nat → Nat} {G : Nat → Nat} (hexec : p.tables.exec = Jvm.exec) (hb : c.code = cc) (hG : grK cG cI s) (hP : va_P D cl (X ++ va_pl L (pI cI pl pr)) H) (hD : va_D A (X ++ va_pl L (pI cI pl pr))) (hS : va_S A H0 H locs) (q0 : Nat) {n v i : Nat} (ha : (X ++ va_pl L (pI cI pl pr))[q0]? = some (a, .inl (cG, n, .inr (.inr (.inr (.inr (fun j => some (G j)))))))) (hv : v ∈ L) (hi : i < n) (hn : n < 2 ^ 31) (hdg : decode cc pc = .ok (.aastore, 1))
    (kk : ∀ (H1 : Heap) (locs1 : List Loc), va_P D cl ((X ++ va_pl L (pI cI pl pr)).set q0 (a, .inl (cG, n, .inr (.inr (.inr (.inr (fun j => some (va_up G i v j)))))))) H1 → va_D A ((X ++ va_pl L (pI cI pl pr)).set q0 (a, .inl (cG, n, .inr (.inr (.inr (.inr (fun j => some (va_up G i v j)))))))) → va_S A H0 H1 locs1 → W p l e R s m args below meth c H1 locs1 cells slots Q (F0 m (pc + 1) ls rest)) : W p l e R s m args below meth c H locs cells slots Q (F0 m pc ls (.ref v :: .int (nI i) :: .ref a :: rest)) := by
  have hc : (nI i).toNatClampNeg = i := nI_clamp (by omega)
  obtain ⟨⟨kG, k1, k2⟩, ⟨kI, k3⟩, k4⟩ := hG
  obtain ⟨k, hk⟩ := va_pl_get (X := X) (f := pI cI pl pr) hv
  have hcv : H[v]? = some (vp_cell cI (pl v, .inl (fun j => nI (pr v j)))) := hP k _ hk
  have hca : H[a]? = some (vp_cell cG (n, .inr (.inr (.inr (.inr (fun j => some (G j))))))) := hP q0 _ ha
  refine W.aast hexec hb hca (fun q h => by cases h) (fun h => by cases h) k1 k2 rfl k3 ⟨nI_pos (by omega), by show _ < (arrV _ _ _).slots.size; rw [arrV_size, hc]; exact hi⟩ hcv (fun q h => by cases h) k3 k4 rfl rfl hdg fun H1 e z oq => ?_
  refine kk H1 _ (hP.set hD ha ?_ oq) (hD.set ha) (hS.put z oq (hD.2 q0 _ ha))
  show H1[a]? = some (vp_cell _ _)
  rw [e, hc]
  rw [vp_cell_q, vp_cell_q, arrV_store]
  congr 2
  funext q
  by_cases hq : q = i
  · subst hq
    simp [updV, va_up, va_rf]
  · simp [updV, va_up, hq]
end RG2
end
section
set_option maxHeartbeats 4000000 in
set_option maxRecDepth 100000 in
theorem c_X1_addMultiple (l : Launch) (dC : Nat → ClassId) (dI : Nat → Nat → Nat) (sz : Nat) (h0 n q x y cf : Nat) (v2 v3 v4 v5 v6 : Value) (cI : ClassId) (L : List Nat) (pl : Nat → Nat) (pr : Nat → Nat → Nat) (hn : n < 1000) (hq : 0 < q) (hq2 : q < 100) (hc : cf < 100) (hx1 : x ∈ L) (hy : y ∈ L) (hxy : y ≠ x) (lx : pl x = n + 1) (ly : pl y = n + 1) (bx : ∀ j, j < n + 1 → pr x j < 100) (bb : ∀ j, j < n + 1 → pr y j < 100) : Met l yX1_addMultiple wsX1_addMultiple ({ frames := 0, cells := 0, slots := 0, locals := 0 }) (va_Pc [.ref h0, .ref x, .ref y, .int (nI (cf))] (fun U => U.heap.size = sz ∧ va_P (dC, dI) vwCl ([(h0, .inr (2, [.int (nI (n)), .int (nI (q)), v2, v3, v4, v5, v6]))] ++ va_pl L (pI cI pl pr)) U.heap ∧ va_K (dC, dI) vwCl [(cI, .int)] U ∧ va_D (fun _ => True) ([(h0, .inr (2, [.int (nI (n)), .int (nI (q)), v2, v3, v4, v5, v6]))] ++ va_pl L (pI cI pl pr)))) (va_Qv (fun _ : Unit => True) (fun _ t => va_P (dC, dI) vwCl ([(h0, .inr (2, [.int (nI (n)), .int (nI (q)), v2, v3, v4, v5, v6]))] ++ va_pl L (pI cI pl (va_up pr x (fun j => if j < n + 1 then (pr x j + pr y j * cf) % q else pr x j)))) t.heap ∧ va_K (dC, dI) vwCl [(cI, .int)] t ∧ va_D (va_A ([(h0, .inr (2, [.int (nI (n)), .int (nI (q)), v2, v3, v4, v5, v6]))] ++ va_pl L (pI cI pl pr)) sz) ([(h0, .inr (2, [.int (nI (n)), .int (nI (q)), v2, v3, v4, v5, v6]))] ++ va_pl L (pI cI pl (va_up pr x (fun j => if j < n + 1 then (pr x j + pr y j * cf) % q else pr x j))))) (va_A ([(h0, .inr (2, [.int (nI (n)), .int (nI (q)), v2, v3, v4, v5, v6]))] ++ va_pl L (pI cI pl pr)) sz)) 0 0 (va_A ([(h0, .inr (2, [.int (nI (n)), .int (nI (q)), v2, v3, v4, v5, v6]))] ++ va_pl L (pI cI pl pr)) sz) := by
  refine Met.ofW (cc := cX1_addMultiple) (maxL := 5) (ret := none) (by decide) rfl ?_
  intro zp ze s m args below meth zc s₁ B hml hv
  obtain ⟨hargs, hsz, hP, hK, hD0⟩ := hv
  have hx := B.exec
  have hb := B.bytes
  have hr := B.returns
  have hts := atoms_spec (ws := wsX1_addMultiple) B.pre
  have hown : s.vm.findClass RX1 = some m.cls := findClass_of_methodNamed B.named
  have hlocks := B.notSynchronized
  subst hsz
  obtain ⟨Q, hQ⟩ : ∃ Q, Q = MQ below (va_Qv (fun _ : Unit => True) (fun _ t => va_P (dC, dI) vwCl ([(h0, .inr (2, [.int (nI (n)), .int (nI (q)), v2, v3, v4, v5, v6]))] ++ va_pl L (pI cI pl (va_up pr x (fun j => if j < n + 1 then (pr x j + pr y j * cf) % q else pr x j)))) t.heap ∧ va_K (dC, dI) vwCl [(cI, .int)] t ∧ va_D (va_A ([(h0, .inr (2, [.int (nI (n)), .int (nI (q)), v2, v3, v4, v5, v6]))] ++ va_pl L (pI cI pl pr)) s.heap.size) ([(h0, .inr (2, [.int (nI (n)), .int (nI (q)), v2, v3, v4, v5, v6]))] ++ va_pl L (pI cI pl (va_up pr x (fun j => if j < n + 1 then (pr x j + pr y j * cf) % q else pr x j))))) (va_A ([(h0, .inr (2, [.int (nI (n)), .int (nI (q)), v2, v3, v4, v5, v6]))] ++ va_pl L (pI cI pl pr)) s.heap.size)) args s 0 0 (va_A ([(h0, .inr (2, [.int (nI (n)), .int (nI (q)), v2, v3, v4, v5, v6]))] ++ va_pl L (pI cI pl pr)) s.heap.size) := ⟨_, rfl⟩
  rw [← hQ]
  have hD := hD0.self (sz := s.heap.size)
  generalize hAe : (va_A ([(h0, .inr (2, [.int (nI (n)), .int (nI (q)), v2, v3, v4, v5, v6]))] ++ va_pl L (pI cI pl pr)) s.heap.size) = A at hD hQ
  have hA : ∀ q : Nat, s.heap.size ≤ q → A q := fun q h => by rw [← hAe]; exact Or.inr h
  have hS : va_S A s.heap s.heap [] := va_S.rf
  have hl := lv_entry ([.ref h0, .ref x, .ref y, .int (nI (cf))]) (n := 5) (Nat.le_of_ble_eq_true rfl)
  generalize hen : entryFrame m args 5 = fr
  rw [hargs, lg_entry_eq] at hen
  subst hen
  generalize (lg_sl ([.ref h0, .ref x, .ref y, .int (nI (cf))]) ++ List.replicate (5 - (lg_sl ([.ref h0, .ref x, .ref y, .int (nI (cf))])).length) Slot.unset).toArray = ls at hl ⊢
  have hl : lv_has ls 5 [(0, .ref h0), (1, .ref x), (2, .ref y), (3, .int (nI (cf)))] := hl
  have hinX1 : ∀ w ∈ wsX10, w ∈ wsX1_addMultiple := by decide +kernel
  have hf9 := hts (.fieldLink RX1 9 "LightRows$Equations" "size" "I") (by decide +kernel)
  have hf15 := hts (.fieldLink RX1 15 "LightRows$Equations" "modulus" "I") (by decide +kernel)
  refine lv_iconst (v := nI 0) hx hb dX1_addMultiple_0 (by decide) ?_
  refine lv_istore (lv' := [(4, .int (nI (0))), (0, .ref h0), (1, .ref x), (2, .ref y), (3, .int (nI (cf)))]) hx hb dX1_addMultiple_1 hl (by decide) rfl (fun ls hl => ?_)
  have lp : ∀ (k : Nat) (i : Nat) (F : Nat → Nat), (i + k = n + 1) → (∀ j, F j = if j < i then (fun j => (pr x j + pr y j * cf) % q) j else pr x j) → ∀ (H : Heap) (locs : List Loc), va_P (dC, dI) vwCl ([(h0, .inr (2, [.int (nI (n)), .int (nI (q)), v2, v3, v4, v5, v6]))] ++ va_pl L (pI cI pl (va_up pr x F))) H → va_D A ([(h0, .inr (2, [.int (nI (n)), .int (nI (q)), v2, v3, v4, v5, v6]))] ++ va_pl L (pI cI pl (va_up pr x F))) → va_S A s.heap H locs → ∀ (ls : Array Slot), lv_has ls 5 [(0, .ref h0), (1, .ref x), (2, .ref y), (3, .int (nI (cf))), (4, .int (nI (i)))] → W zp l ze (headSpec wsX1_addMultiple ({ frames := 0, cells := 0, slots := 0, locals := 0 })).room s m args below meth zc H locs 0 0 Q (F0 m 3 ls []) := by
    intro k
    induction k with
    | zero =>
      intro i F hi hF H locs hP hD hS ls hl
      refine lv_iload hx hb dX1_addMultiple_3 (lv_at hl 4 rfl) ?_
      refine lv_aload_n hx hb dX1_addMultiple_5 rfl (lv_at hl 0 rfl) ?_
      refine va_get (D := (dC, dI)) (ci := 2) (v := .int (nI (n))) (C := RX1) (T := TX1) (N := 7) hx hb hts hinX1 hown hK hP 0 rfl rfl 0 (by decide) hf9 (fun _ h9 => h9) rfl dX1_addMultiple_6 ?_
      refine lv_icmp_gt (tgt := 38) hx hb dX1_addMultiple_9 (by decide) (fun c => ?_) (fun c => ?_)
      · skip
        have c : n < i := (nI_ltI (a := n) (b := i) (by omega) (by omega)).mp c
        obtain rfl : i = n + 1 := by omega
        have eF : F = fun j => if j < n + 1 then (pr x j + pr y j * cf) % q else pr x j := funext hF
        subst eF
        rw [hQ]
        exact W.vret hx hb hr (fun t ht hW => ⟨⟨(), rfl, trivial, by rw [ht]; exact hP, va_K.moved hW.alike hK, hD⟩, hS.F ht⟩) hS.2.2 dX1_addMultiple_38
      · skip
        have c : i ≤ n := Nat.not_lt.mp (fun h => c ((nI_ltI (a := n) (b := i) (by omega) (by omega)).mpr h))
        exact absurd c (by omega)
    | succ k ih =>
      intro i F hi hF H locs hP hD hS ls hl
      refine lv_iload hx hb dX1_addMultiple_3 (lv_at hl 4 rfl) ?_
      refine lv_aload_n hx hb dX1_addMultiple_5 rfl (lv_at hl 0 rfl) ?_
      refine va_get (D := (dC, dI)) (ci := 2) (v := .int (nI (n))) (C := RX1) (T := TX1) (N := 7) hx hb hts hinX1 hown hK hP 0 rfl rfl 0 (by decide) hf9 (fun _ h9 => h9) rfl dX1_addMultiple_6 ?_
      refine lv_icmp_gt (tgt := 38) hx hb dX1_addMultiple_9 (by decide) (fun c => ?_) (fun c => ?_)
      · skip
        have c : n < i := (nI_ltI (a := n) (b := i) (by omega) (by omega)).mp c
        exact absurd c (by omega)
      · skip
        have c : i ≤ n := Nat.not_lt.mp (fun h => c ((nI_ltI (a := n) (b := i) (by omega) (by omega)).mpr h))
        have eFi : F i = pr x i := by rw [hF i, if_neg (by omega)]
        have bX := bx i (by omega)
        have bY := bb i (by omega)
        have bM : pr y i * cf ≤ 100 * 100 := Nat.mul_le_mul (by omega) (by omega)
        refine lv_aload_n hx hb dX1_addMultiple_12 rfl (lv_at hl 1 rfl) ?_
        refine lv_iload hx hb dX1_addMultiple_13 (lv_at hl 4 rfl) ?_
        refine lv_aload_n hx hb dX1_addMultiple_15 rfl (lv_at hl 1 rfl) ?_
        refine lv_iload hx hb dX1_addMultiple_16 (lv_at hl 4 rfl) ?_
        refine rp_ld hx hb hK hP 0 rfl (hx1) (by omega) (by omega) dX1_addMultiple_18 ?_
        refine tp_i (y := nI (pr x i)) (by rw [up_at, eFi]) ?_
        refine lv_aload_n hx hb dX1_addMultiple_19 rfl (lv_at hl 2 rfl) ?_
        refine lv_iload hx hb dX1_addMultiple_20 (lv_at hl 4 rfl) ?_
        refine rp_ld hx hb hK hP 0 rfl (hy) (by omega) (by omega) dX1_addMultiple_22 ?_
        refine tp_i (y := nI (pr y i)) (by rw [up_of _ _ hxy]) ?_
        refine lv_iload_n hx hb dX1_addMultiple_23 rfl (lv_at hl 3 rfl) ?_
        refine lv_imul hx hb dX1_addMultiple_24 ?_
        refine tp_i (y := nI ((pr y i) * cf)) (pk_mul _ _) ?_
        refine lv_iadd hx hb dX1_addMultiple_25 ?_
        refine tp_i (y := nI ((pr x i) + ((pr y i) * cf))) (nI_add _ _) ?_
        refine lv_aload_n hx hb dX1_addMultiple_26 rfl (lv_at hl 0 rfl) ?_
        refine va_get (D := (dC, dI)) (ci := 2) (v := .int (nI (q))) (C := RX1) (T := TX1) (N := 7) hx hb hts hinX1 hown hK hP 0 rfl rfl 1 (by decide) hf15 (fun _ h9 => h9) rfl dX1_addMultiple_27 ?_
        refine lv_irem hx hb dX1_addMultiple_30 (nI_ne0 (by omega) (by omega)) ?_
        refine tp_i (y := nI (((pr x i) + ((pr y i) * cf)) % q)) (pk_rem (by omega) (by omega) (by omega)) ?_
        refine rp_st (v := ((pr x i) + ((pr y i) * cf)) % q) hx hb hK hP hD hS 0 rfl (hx1) (by omega) (by omega) dX1_addMultiple_31 (fun H locs hP hD hS => ?_)
        have hP : va_P (dC, dI) vwCl ([(h0, .inr (2, [.int (nI (n)), .int (nI (q)), v2, v3, v4, v5, v6]))] ++ va_pl L (pI cI pl (va_up (va_up pr x F) x (va_up ((va_up pr x F) x) i (((pr x i) + ((pr y i) * cf)) % q))))) H := hP
        have hD : va_D A ([(h0, .inr (2, [.int (nI (n)), .int (nI (q)), v2, v3, v4, v5, v6]))] ++ va_pl L (pI cI pl (va_up (va_up pr x F) x (va_up ((va_up pr x F) x) i (((pr x i) + ((pr y i) * cf)) % q))))) := hD
        have e9 : va_up (va_up pr x F) x (va_up ((va_up pr x F) x) i (((pr x i) + ((pr y i) * cf)) % q)) = va_up pr x (va_up F i ((pr x i + pr y i * cf) % q)) := by rw [up_at, up_up]
        rw [e9] at hP hD
        have hP : va_P (dC, dI) vwCl ([(h0, .inr (2, [.int (nI (n)), .int (nI (q)), v2, v3, v4, v5, v6]))] ++ va_pl L (pI cI pl (va_up pr x (va_up F i ((pr x i + pr y i * cf) % q))))) H := hP
        have hD : va_D A ([(h0, .inr (2, [.int (nI (n)), .int (nI (q)), v2, v3, v4, v5, v6]))] ++ va_pl L (pI cI pl (va_up pr x (va_up F i ((pr x i + pr y i * cf) % q))))) := hD
        refine lv_iinc (v := nI (i + 1)) (lv' := [(4, .int (nI (i + 1))), (0, .ref h0), (1, .ref x), (2, .ref y), (3, .int (nI (cf)))]) hx hb dX1_addMultiple_32 hl (k := 4) rfl (nI_1 _) (by decide) rfl (fun ls hl => ?_)
        refine lv_goto (tgt := 3) hx hb dX1_addMultiple_35 (by decide) ?_
        exact ih (i + 1) (va_up F i ((pr x i + pr y i * cf) % q)) (by omega) (lp_step hF rfl) _ _ hP hD hS ls (lv_sub hl [1, 2, 3, 4, 0] rfl)
  have hP : va_P (dC, dI) vwCl ([(h0, .inr (2, [.int (nI (n)), .int (nI (q)), v2, v3, v4, v5, v6]))] ++ va_pl L (pI cI pl (va_up pr x (pr x)))) s.heap := by rw [up_id]; exact hP
  have hD : va_D A ([(h0, .inr (2, [.int (nI (n)), .int (nI (q)), v2, v3, v4, v5, v6]))] ++ va_pl L (pI cI pl (va_up pr x (pr x)))) := by rw [up_id]; exact hD
  exact lp (n + 1) 0 (pr x) (by omega) (lp_zero _ _) _ _ hP hD hS ls (lv_sub hl [1, 2, 3, 4, 0] rfl)

set_option maxHeartbeats 4000000 in
set_option maxRecDepth 100000 in
theorem c_X1_boundLamps (l : Launch) (dC : Nat → ClassId) (dI : Nat → Nat → Nat) (sz : Nat) (h0 : Nat) (r : Int32) (v0 v1 v2 v3 v4 v6 : Value)  : Met l yX1_boundLamps wsX1_boundLamps ({ frames := 0, cells := 0, slots := 0, locals := 0 }) (va_Pc [.ref h0] (fun U => U.heap.size = sz ∧ va_P (dC, dI) vwCl [(h0, .inr (2, [v0, v1, v2, v3, v4, .int (r), v6]))] U.heap ∧ va_K (dC, dI) vwCl [] U ∧ va_D (fun _ => True) [(h0, .inr (2, [v0, v1, v2, v3, v4, .int (r), v6]))])) (va_Qi (fun (z : Int32) (_ : Unit) => z = r) (fun _ t => va_P (dC, dI) vwCl [(h0, .inr (2, [v0, v1, v2, v3, v4, .int (r), v6]))] t.heap ∧ va_K (dC, dI) vwCl [] t ∧ va_D (va_A [(h0, .inr (2, [v0, v1, v2, v3, v4, .int (r), v6]))] sz) [(h0, .inr (2, [v0, v1, v2, v3, v4, .int (r), v6]))]) (va_A [(h0, .inr (2, [v0, v1, v2, v3, v4, .int (r), v6]))] sz)) 0 0 (va_A [(h0, .inr (2, [v0, v1, v2, v3, v4, .int (r), v6]))] sz) := by
  refine Met.ofW (cc := cX1_boundLamps) (maxL := 1) (ret := (some .int)) (by decide) rfl ?_
  intro zp ze s m args below meth zc s₁ B hml hv
  obtain ⟨hargs, hsz, hP, hK, hD0⟩ := hv
  have hx := B.exec
  have hb := B.bytes
  have hr := B.returns
  have hts := atoms_spec (ws := wsX1_boundLamps) B.pre
  have hown : s.vm.findClass RX1 = some m.cls := findClass_of_methodNamed B.named
  have hlocks := B.notSynchronized
  subst hsz
  obtain ⟨Q, hQ⟩ : ∃ Q, Q = MQ below (va_Qi (fun (z : Int32) (_ : Unit) => z = r) (fun _ t => va_P (dC, dI) vwCl [(h0, .inr (2, [v0, v1, v2, v3, v4, .int (r), v6]))] t.heap ∧ va_K (dC, dI) vwCl [] t ∧ va_D (va_A [(h0, .inr (2, [v0, v1, v2, v3, v4, .int (r), v6]))] s.heap.size) [(h0, .inr (2, [v0, v1, v2, v3, v4, .int (r), v6]))]) (va_A [(h0, .inr (2, [v0, v1, v2, v3, v4, .int (r), v6]))] s.heap.size)) args s 0 0 (va_A [(h0, .inr (2, [v0, v1, v2, v3, v4, .int (r), v6]))] s.heap.size) := ⟨_, rfl⟩
  rw [← hQ]
  have hD := hD0.self (sz := s.heap.size)
  generalize hAe : (va_A [(h0, .inr (2, [v0, v1, v2, v3, v4, .int (r), v6]))] s.heap.size) = A at hD hQ
  have hA : ∀ q : Nat, s.heap.size ≤ q → A q := fun q h => by rw [← hAe]; exact Or.inr h
  have hS : va_S A s.heap s.heap [] := va_S.rf
  have hl := lv_entry ([.ref h0]) (n := 1) (Nat.le_of_ble_eq_true rfl)
  generalize hen : entryFrame m args 1 = fr
  rw [hargs, lg_entry_eq] at hen
  subst hen
  generalize (lg_sl ([.ref h0]) ++ List.replicate (1 - (lg_sl ([.ref h0])).length) Slot.unset).toArray = ls at hl ⊢
  have hl : lv_has ls 1 [(0, .ref h0)] := hl
  have hinX1 : ∀ w ∈ wsX10, w ∈ wsX1_boundLamps := by decide +kernel
  have hf30 := hts (.fieldLink RX1 30 "LightRows$Equations" "bound" "I") (by decide +kernel)
  refine lv_aload_n hx hb dX1_boundLamps_0 rfl (lv_at hl 0 rfl) ?_
  refine va_get (D := (dC, dI)) (ci := 2) (v := .int (r)) (C := RX1) (T := TX1) (N := 7) hx hb hts hinX1 hown hK hP 0 rfl rfl 5 (by decide) hf30 (fun _ h9 => h9) rfl dX1_boundLamps_1 ?_
  rw [hQ]
  exact W.iret (v := r) hx hb hr (fun t ht hW => ⟨⟨_, (), rfl, rfl, by rw [ht]; exact hP, va_K.moved hW.alike hK, hD⟩, hS.F ht⟩) hS.2.2 dX1_boundLamps_4

set_option maxHeartbeats 4000000 in
set_option maxRecDepth 100000 in
theorem c_X1_freeLamps (l : Launch) (dC : Nat → ClassId) (dI : Nat → Nat → Nat) (sz : Nat) (h0 : Nat) (r : Int32) (v0 v1 v2 v3 v4 v5 : Value)  : Met l yX1_freeLamps wsX1_freeLamps ({ frames := 0, cells := 0, slots := 0, locals := 0 }) (va_Pc [.ref h0] (fun U => U.heap.size = sz ∧ va_P (dC, dI) vwCl [(h0, .inr (2, [v0, v1, v2, v3, v4, v5, .int (r)]))] U.heap ∧ va_K (dC, dI) vwCl [] U ∧ va_D (fun _ => True) [(h0, .inr (2, [v0, v1, v2, v3, v4, v5, .int (r)]))])) (va_Qi (fun (z : Int32) (_ : Unit) => z = r) (fun _ t => va_P (dC, dI) vwCl [(h0, .inr (2, [v0, v1, v2, v3, v4, v5, .int (r)]))] t.heap ∧ va_K (dC, dI) vwCl [] t ∧ va_D (va_A [(h0, .inr (2, [v0, v1, v2, v3, v4, v5, .int (r)]))] sz) [(h0, .inr (2, [v0, v1, v2, v3, v4, v5, .int (r)]))]) (va_A [(h0, .inr (2, [v0, v1, v2, v3, v4, v5, .int (r)]))] sz)) 0 0 (va_A [(h0, .inr (2, [v0, v1, v2, v3, v4, v5, .int (r)]))] sz) := by
  refine Met.ofW (cc := cX1_freeLamps) (maxL := 1) (ret := (some .int)) (by decide) rfl ?_
  intro zp ze s m args below meth zc s₁ B hml hv
  obtain ⟨hargs, hsz, hP, hK, hD0⟩ := hv
  have hx := B.exec
  have hb := B.bytes
  have hr := B.returns
  have hts := atoms_spec (ws := wsX1_freeLamps) B.pre
  have hown : s.vm.findClass RX1 = some m.cls := findClass_of_methodNamed B.named
  have hlocks := B.notSynchronized
  subst hsz
  obtain ⟨Q, hQ⟩ : ∃ Q, Q = MQ below (va_Qi (fun (z : Int32) (_ : Unit) => z = r) (fun _ t => va_P (dC, dI) vwCl [(h0, .inr (2, [v0, v1, v2, v3, v4, v5, .int (r)]))] t.heap ∧ va_K (dC, dI) vwCl [] t ∧ va_D (va_A [(h0, .inr (2, [v0, v1, v2, v3, v4, v5, .int (r)]))] s.heap.size) [(h0, .inr (2, [v0, v1, v2, v3, v4, v5, .int (r)]))]) (va_A [(h0, .inr (2, [v0, v1, v2, v3, v4, v5, .int (r)]))] s.heap.size)) args s 0 0 (va_A [(h0, .inr (2, [v0, v1, v2, v3, v4, v5, .int (r)]))] s.heap.size) := ⟨_, rfl⟩
  rw [← hQ]
  have hD := hD0.self (sz := s.heap.size)
  generalize hAe : (va_A [(h0, .inr (2, [v0, v1, v2, v3, v4, v5, .int (r)]))] s.heap.size) = A at hD hQ
  have hA : ∀ q : Nat, s.heap.size ≤ q → A q := fun q h => by rw [← hAe]; exact Or.inr h
  have hS : va_S A s.heap s.heap [] := va_S.rf
  have hl := lv_entry ([.ref h0]) (n := 1) (Nat.le_of_ble_eq_true rfl)
  generalize hen : entryFrame m args 1 = fr
  rw [hargs, lg_entry_eq] at hen
  subst hen
  generalize (lg_sl ([.ref h0]) ++ List.replicate (1 - (lg_sl ([.ref h0])).length) Slot.unset).toArray = ls at hl ⊢
  have hl : lv_has ls 1 [(0, .ref h0)] := hl
  have hinX1 : ∀ w ∈ wsX10, w ∈ wsX1_freeLamps := by decide +kernel
  have hf33 := hts (.fieldLink RX1 33 "LightRows$Equations" "free" "I") (by decide +kernel)
  refine lv_aload_n hx hb dX1_freeLamps_0 rfl (lv_at hl 0 rfl) ?_
  refine va_get (D := (dC, dI)) (ci := 2) (v := .int (r)) (C := RX1) (T := TX1) (N := 7) hx hb hts hinX1 hown hK hP 0 rfl rfl 6 (by decide) hf33 (fun _ h9 => h9) rfl dX1_freeLamps_1 ?_
  rw [hQ]
  exact W.iret (v := r) hx hb hr (fun t ht hW => ⟨⟨_, (), rfl, rfl, by rw [ht]; exact hP, va_K.moved hW.alike hK, hD⟩, hS.F ht⟩) hS.2.2 dX1_freeLamps_4
end
section
set_option maxHeartbeats 4000000 in
set_option maxRecDepth 100000 in
theorem c_X1_inverse (l : Launch) (dC : Nat → ClassId) (dI : Nat → Nat → Nat) (sz : Nat) (h0 n q r : Nat) (v2 v3 v4 v5 v6 : Value) (hq : 2 ≤ q) (hq2 : q < 100) (hr2 : r < 100) : Met l yX1_inverse wsX1_inverse ({ frames := 0, cells := 0, slots := 0, locals := 0 }) (va_Pc [.ref h0, .int (nI (r))] (fun U => U.heap.size = sz ∧ va_P (dC, dI) vwCl [(h0, .inr (2, [.int (nI (n)), .int (nI (q)), v2, v3, v4, v5, v6]))] U.heap ∧ va_K (dC, dI) vwCl [] U ∧ va_D (fun _ => True) [(h0, .inr (2, [.int (nI (n)), .int (nI (q)), v2, v3, v4, v5, v6]))])) (va_Qi (fun (z : Int32) (_ : Unit) => z = nI (ivq q r (q - 2) 2)) (fun _ t => va_P (dC, dI) vwCl [(h0, .inr (2, [.int (nI (n)), .int (nI (q)), v2, v3, v4, v5, v6]))] t.heap ∧ va_K (dC, dI) vwCl [] t ∧ va_D (va_A [(h0, .inr (2, [.int (nI (n)), .int (nI (q)), v2, v3, v4, v5, v6]))] sz) [(h0, .inr (2, [.int (nI (n)), .int (nI (q)), v2, v3, v4, v5, v6]))]) (va_A [(h0, .inr (2, [.int (nI (n)), .int (nI (q)), v2, v3, v4, v5, v6]))] sz)) 0 0 (va_A [(h0, .inr (2, [.int (nI (n)), .int (nI (q)), v2, v3, v4, v5, v6]))] sz) := by
  refine Met.ofW (cc := cX1_inverse) (maxL := 3) (ret := (some .int)) (by decide) rfl ?_
  intro zp ze s m args below meth zc s₁ B hml hv
  obtain ⟨hargs, hsz, hP, hK, hD0⟩ := hv
  have hx := B.exec
  have hb := B.bytes
  have hr := B.returns
  have hts := atoms_spec (ws := wsX1_inverse) B.pre
  have hown : s.vm.findClass RX1 = some m.cls := findClass_of_methodNamed B.named
  have hlocks := B.notSynchronized
  subst hsz
  obtain ⟨Q, hQ⟩ : ∃ Q, Q = MQ below (va_Qi (fun (z : Int32) (_ : Unit) => z = nI (ivq q r (q - 2) 2)) (fun _ t => va_P (dC, dI) vwCl [(h0, .inr (2, [.int (nI (n)), .int (nI (q)), v2, v3, v4, v5, v6]))] t.heap ∧ va_K (dC, dI) vwCl [] t ∧ va_D (va_A [(h0, .inr (2, [.int (nI (n)), .int (nI (q)), v2, v3, v4, v5, v6]))] s.heap.size) [(h0, .inr (2, [.int (nI (n)), .int (nI (q)), v2, v3, v4, v5, v6]))]) (va_A [(h0, .inr (2, [.int (nI (n)), .int (nI (q)), v2, v3, v4, v5, v6]))] s.heap.size)) args s 0 0 (va_A [(h0, .inr (2, [.int (nI (n)), .int (nI (q)), v2, v3, v4, v5, v6]))] s.heap.size) := ⟨_, rfl⟩
  rw [← hQ]
  have hD := hD0.self (sz := s.heap.size)
  generalize hAe : (va_A [(h0, .inr (2, [.int (nI (n)), .int (nI (q)), v2, v3, v4, v5, v6]))] s.heap.size) = A at hD hQ
  have hA : ∀ q : Nat, s.heap.size ≤ q → A q := fun q h => by rw [← hAe]; exact Or.inr h
  have hS : va_S A s.heap s.heap [] := va_S.rf
  have hl := lv_entry ([.ref h0, .int (nI (r))]) (n := 3) (Nat.le_of_ble_eq_true rfl)
  generalize hen : entryFrame m args 3 = fr
  rw [hargs, lg_entry_eq] at hen
  subst hen
  generalize (lg_sl ([.ref h0, .int (nI (r))]) ++ List.replicate (3 - (lg_sl ([.ref h0, .int (nI (r))])).length) Slot.unset).toArray = ls at hl ⊢
  have hl : lv_has ls 3 [(0, .ref h0), (1, .int (nI (r)))] := hl
  have hinX1 : ∀ w ∈ wsX10, w ∈ wsX1_inverse := by decide +kernel
  have hf15 := hts (.fieldLink RX1 15 "LightRows$Equations" "modulus" "I") (by decide +kernel)
  refine lv_iconst (v := nI 2) hx hb dX1_inverse_0 (by decide) ?_
  refine lv_istore_n (lv' := [(2, .int (nI (2))), (0, .ref h0), (1, .int (nI (r)))]) hx hb dX1_inverse_1 rfl hl (by decide) rfl (fun ls hl => ?_)
  have lp : ∀ (k : Nat) (i : Nat), (i + k = q) → (ivq q r (q - 2) 2 = ivq q r k i) → ∀ (H : Heap) (locs : List Loc), va_P (dC, dI) vwCl [(h0, .inr (2, [.int (nI (n)), .int (nI (q)), v2, v3, v4, v5, v6]))] H → va_D A [(h0, .inr (2, [.int (nI (n)), .int (nI (q)), v2, v3, v4, v5, v6]))] → va_S A s.heap H locs → ∀ (ls : Array Slot), lv_has ls 3 [(0, .ref h0), (1, .int (nI (r))), (2, .int (nI (i)))] → W zp l ze (headSpec wsX1_inverse ({ frames := 0, cells := 0, slots := 0, locals := 0 })).room s m args below meth zc H locs 0 0 Q (F0 m 2 ls []) := by
    intro k
    induction k with
    | zero =>
      intro i hi hI H locs hP hD hS ls hl
      refine lv_iload_n hx hb dX1_inverse_2 rfl (lv_at hl 2 rfl) ?_
      refine lv_aload_n hx hb dX1_inverse_3 rfl (lv_at hl 0 rfl) ?_
      refine va_get (D := (dC, dI)) (ci := 2) (v := .int (nI (q))) (C := RX1) (T := TX1) (N := 7) hx hb hts hinX1 hown hK hP 0 rfl rfl 1 (by decide) hf15 (fun _ h9 => h9) rfl dX1_inverse_4 ?_
      refine lv_icmp_ge (tgt := 30) hx hb dX1_inverse_7 (by decide) (fun c => ?_) (fun c => ?_)
      · skip
        have c : q ≤ i := (nI_leI (a := q) (b := i) (by omega) (by omega)).mp c
        refine lv_iconst (v := nI 1) hx hb dX1_inverse_30 (by decide) ?_
        rw [hQ]
        exact W.iret (v := nI (1)) hx hb hr (fun t ht hW => ⟨⟨_, (), rfl, by rw [hI]; rfl, by rw [ht]; exact hP, va_K.moved hW.alike hK, hD⟩, hS.F ht⟩) hS.2.2 dX1_inverse_31
      · skip
        have c : i < q := Nat.not_le.mp (fun h => c ((nI_leI (a := q) (b := i) (by omega) (by omega)).mpr h))
        exact absurd c (by omega)
    | succ k ih =>
      intro i hi hI H locs hP hD hS ls hl
      refine lv_iload_n hx hb dX1_inverse_2 rfl (lv_at hl 2 rfl) ?_
      refine lv_aload_n hx hb dX1_inverse_3 rfl (lv_at hl 0 rfl) ?_
      refine va_get (D := (dC, dI)) (ci := 2) (v := .int (nI (q))) (C := RX1) (T := TX1) (N := 7) hx hb hts hinX1 hown hK hP 0 rfl rfl 1 (by decide) hf15 (fun _ h9 => h9) rfl dX1_inverse_4 ?_
      refine lv_icmp_ge (tgt := 30) hx hb dX1_inverse_7 (by decide) (fun c => ?_) (fun c => ?_)
      · skip
        have c : q ≤ i := (nI_leI (a := q) (b := i) (by omega) (by omega)).mp c
        exact absurd c (by omega)
      · skip
        have c : i < q := Nat.not_le.mp (fun h => c ((nI_leI (a := q) (b := i) (by omega) (by omega)).mpr h))
        have bM : r * i ≤ 100 * 100 := Nat.mul_le_mul (by omega) (by omega)
        have bR : r * i % q < q := Nat.mod_lt _ (by omega)
        refine lv_iload_n hx hb dX1_inverse_10 rfl (lv_at hl 1 rfl) ?_
        refine lv_iload_n hx hb dX1_inverse_11 rfl (lv_at hl 2 rfl) ?_
        refine lv_imul hx hb dX1_inverse_12 ?_
        refine tp_i (y := nI (r * i)) (pk_mul _ _) ?_
        refine lv_aload_n hx hb dX1_inverse_13 rfl (lv_at hl 0 rfl) ?_
        refine va_get (D := (dC, dI)) (ci := 2) (v := .int (nI (q))) (C := RX1) (T := TX1) (N := 7) hx hb hts hinX1 hown hK hP 0 rfl rfl 1 (by decide) hf15 (fun _ h9 => h9) rfl dX1_inverse_14 ?_
        refine lv_irem hx hb dX1_inverse_17 (nI_ne0 (by omega) (by omega)) ?_
        refine tp_i (y := nI ((r * i) % q)) (pk_rem (by omega) (by omega) (by omega)) ?_
        refine lv_iconst (v := nI 1) hx hb dX1_inverse_18 (by decide) ?_
        refine lv_icmp_ne (tgt := 24) hx hb dX1_inverse_19 (by decide) (fun c2 => ?_) (fun c2 => ?_)
        · skip
          have c2 : (r * i) % q ≠ 1 := fun h => c2 ((nI_eq (a := (r * i) % q) (b := 1) (by omega) (by omega)).mpr h)
          refine lv_iinc (v := nI (i + 1)) (lv' := [(2, .int (nI (i + 1))), (0, .ref h0), (1, .int (nI (r)))]) hx hb dX1_inverse_24 hl (k := 2) rfl (nI_1 _) (by decide) rfl (fun ls hl => ?_)
          refine lv_goto (tgt := 2) hx hb dX1_inverse_27 (by decide) ?_
          exact ih (i + 1) (by omega) (by rw [hI]; simp only [ivq]; rw [if_neg c2]) _ _ hP hD hS ls (lv_sub hl [1, 2, 0] rfl)
        · skip
          have c2 : (r * i) % q = 1 := (nI_eq (a := (r * i) % q) (b := 1) (by omega) (by omega)).mp c2
          refine lv_iload_n hx hb dX1_inverse_22 rfl (lv_at hl 2 rfl) ?_
          rw [hQ]
          exact W.iret (v := nI (i)) hx hb hr (fun t ht hW => ⟨⟨_, (), rfl, by rw [hI]; simp only [ivq]; rw [if_pos c2], by rw [ht]; exact hP, va_K.moved hW.alike hK, hD⟩, hS.F ht⟩) hS.2.2 dX1_inverse_23
  exact lp (q - 2) 2 (by omega) rfl _ _ hP hD hS ls (lv_sub hl [1, 2, 0] rfl)

set_option maxHeartbeats 4000000 in
set_option maxRecDepth 100000 in
theorem c_X1_makeUnit (l : Launch) (dC : Nat → ClassId) (dI : Nat → Nat → Nat) (sz : Nat) (h0 n q x j0 : Nat) (v2 v3 v4 v5 v6 : Value) (cI : ClassId) (L : List Nat) (pl : Nat → Nat) (pr : Nat → Nat → Nat) (hn : n < 1000) (hq : 2 ≤ q) (hq2 : q < 100) (hj0 : j0 < n + 1) (hx1 : x ∈ L) (lx : pl x = n + 1) (bx : ∀ j, j < n + 1 → pr x j < q) (hiv : ivq q (pr x j0) (q - 2) 2 < 100) : Met l yX1_makeUnit wsX1_makeUnit ({ frames := 1, cells := 0, slots := 0, locals := 22 }) (va_Pc [.ref h0, .ref x, .int (nI (j0))] (fun U => U.heap.size = sz ∧ va_P (dC, dI) vwCl ([(h0, .inr (2, [.int (nI (n)), .int (nI (q)), v2, v3, v4, v5, v6]))] ++ va_pl L (pI cI pl pr)) U.heap ∧ va_K (dC, dI) vwCl [(cI, .int)] U ∧ va_D (fun _ => True) ([(h0, .inr (2, [.int (nI (n)), .int (nI (q)), v2, v3, v4, v5, v6]))] ++ va_pl L (pI cI pl pr)))) (va_Qv (fun _ : Unit => True) (fun _ t => va_P (dC, dI) vwCl ([(h0, .inr (2, [.int (nI (n)), .int (nI (q)), v2, v3, v4, v5, v6]))] ++ va_pl L (pI cI pl (va_up pr x (scR n q (ivq q (pr x j0) (q - 2) 2) (pr x))))) t.heap ∧ va_K (dC, dI) vwCl [(cI, .int)] t ∧ va_D (va_A ([(h0, .inr (2, [.int (nI (n)), .int (nI (q)), v2, v3, v4, v5, v6]))] ++ va_pl L (pI cI pl pr)) sz) ([(h0, .inr (2, [.int (nI (n)), .int (nI (q)), v2, v3, v4, v5, v6]))] ++ va_pl L (pI cI pl (va_up pr x (scR n q (ivq q (pr x j0) (q - 2) 2) (pr x)))))) (va_A ([(h0, .inr (2, [.int (nI (n)), .int (nI (q)), v2, v3, v4, v5, v6]))] ++ va_pl L (pI cI pl pr)) sz)) 0 0 (va_A ([(h0, .inr (2, [.int (nI (n)), .int (nI (q)), v2, v3, v4, v5, v6]))] ++ va_pl L (pI cI pl pr)) sz) := by
  refine Met.ofW (cc := cX1_makeUnit) (maxL := 5) (ret := none) (by decide) rfl ?_
  intro zp ze s m args below meth zc s₁ B hml hv
  obtain ⟨hargs, hsz, hP, hK, hD0⟩ := hv
  have hx := B.exec
  have hb := B.bytes
  have hr := B.returns
  have hts := atoms_spec (ws := wsX1_makeUnit) B.pre
  have hown : s.vm.findClass RX1 = some m.cls := findClass_of_methodNamed B.named
  have hlocks := B.notSynchronized
  subst hsz
  obtain ⟨Q, hQ⟩ : ∃ Q, Q = MQ below (va_Qv (fun _ : Unit => True) (fun _ t => va_P (dC, dI) vwCl ([(h0, .inr (2, [.int (nI (n)), .int (nI (q)), v2, v3, v4, v5, v6]))] ++ va_pl L (pI cI pl (va_up pr x (scR n q (ivq q (pr x j0) (q - 2) 2) (pr x))))) t.heap ∧ va_K (dC, dI) vwCl [(cI, .int)] t ∧ va_D (va_A ([(h0, .inr (2, [.int (nI (n)), .int (nI (q)), v2, v3, v4, v5, v6]))] ++ va_pl L (pI cI pl pr)) s.heap.size) ([(h0, .inr (2, [.int (nI (n)), .int (nI (q)), v2, v3, v4, v5, v6]))] ++ va_pl L (pI cI pl (va_up pr x (scR n q (ivq q (pr x j0) (q - 2) 2) (pr x)))))) (va_A ([(h0, .inr (2, [.int (nI (n)), .int (nI (q)), v2, v3, v4, v5, v6]))] ++ va_pl L (pI cI pl pr)) s.heap.size)) args s 0 0 (va_A ([(h0, .inr (2, [.int (nI (n)), .int (nI (q)), v2, v3, v4, v5, v6]))] ++ va_pl L (pI cI pl pr)) s.heap.size) := ⟨_, rfl⟩
  rw [← hQ]
  have hD := hD0.self (sz := s.heap.size)
  generalize hAe : (va_A ([(h0, .inr (2, [.int (nI (n)), .int (nI (q)), v2, v3, v4, v5, v6]))] ++ va_pl L (pI cI pl pr)) s.heap.size) = A at hD hQ
  have hA : ∀ q : Nat, s.heap.size ≤ q → A q := fun q h => by rw [← hAe]; exact Or.inr h
  have hS : va_S A s.heap s.heap [] := va_S.rf
  have hl := lv_entry ([.ref h0, .ref x, .int (nI (j0))]) (n := 5) (Nat.le_of_ble_eq_true rfl)
  generalize hen : entryFrame m args 5 = fr
  rw [hargs, lg_entry_eq] at hen
  subst hen
  generalize (lg_sl ([.ref h0, .ref x, .int (nI (j0))]) ++ List.replicate (5 - (lg_sl ([.ref h0, .ref x, .int (nI (j0))])).length) Slot.unset).toArray = ls at hl ⊢
  have hl : lv_has ls 5 [(0, .ref h0), (1, .ref x), (2, .int (nI (j0)))] := hl
  have hinX1 : ∀ w ∈ wsX10, w ∈ wsX1_makeUnit := by decide +kernel
  have hf9 := hts (.fieldLink RX1 9 "LightRows$Equations" "size" "I") (by decide +kernel)
  have hf15 := hts (.fieldLink RX1 15 "LightRows$Equations" "modulus" "I") (by decide +kernel)
  have b0 := bx j0 hj0
  refine lv_aload_n hx hb dX1_makeUnit_0 rfl (lv_at hl 0 rfl) ?_
  refine lv_aload_n hx hb dX1_makeUnit_1 rfl (lv_at hl 1 rfl) ?_
  refine lv_iload_n hx hb dX1_makeUnit_2 rfl (lv_at hl 2 rfl) ?_
  refine rp_ld hx hb hK hP 0 rfl (hx1) (by omega) (by omega) dX1_makeUnit_3 ?_
  have hPc := hP.sub (ws' := [(h0, .inr (2, [.int (nI (n)), .int (nI (q)), v2, v3, v4, v5, v6]))]) [0] rfl
  have hDc := hD.sub (ws' := [(h0, .inr (2, [.int (nI (n)), .int (nI (q)), v2, v3, v4, v5, v6]))]) [0] (by decide) rfl
  have hFc := va_free (wc := [(h0, .inr (2, [.int (nI (n)), .int (nI (q)), v2, v3, v4, v5, v6]))]) hD hS hA [0] rfl
  have hKc := hK.sub (tys' := []) [] rfl
  refine va_calli (va_runV (As := [.int (nI (pr x j0))]) (rest := []) ⟨hx, hb, hml, hown, hts⟩ (c_X1_inverse l dC dI s.heap.size h0 n q (pr x j0) v2 v3 v4 v5 v6 hq hq2 (by omega)) (cwV 1 hts gX1_makeUnit_X1_inverse rfl rfl rfl (by decide +kernel) ⟨Nat.le_of_ble_eq_true rfl, Nat.le_of_ble_eq_true rfl⟩) ⟨fun a U g mk q => by obtain ⟨q0, q1, qP, qK, qD⟩ := q; exact ⟨q0, q1, qP, va_K.moved (u := U) (U := U.calling g mk a) (Vm.Alike.refl U.vm) qK, qD⟩, va_recv hKc hPc (ci := 2) (q0 := 0) rfl rfl, fun U hU hW => ⟨rfl, by rw [hU], by rw [hU]; exact hPc, va_K.moved hW.alike hKc, hDc.weaken (fun _ _ _ _ => trivial)⟩⟩ rfl rfl hl.1 rfl (lv_room (Nat.le_of_ble_eq_true rfl)) dX1_makeUnit_4 ⟨Nat.zero_le _, Nat.zero_le _⟩) hS (fun q _ h => hFc q h) hFc (fun r1 u t H1 locs ht hvm hw hB hz1 hk1 hS => ?_)
  obtain ⟨hP1, hK1, hD1⟩ := hB
  rw [ht] at hP1
  try dsimp only at hw
  obtain ⟨hP, hD⟩ := va_joinQ (wr := []) (w1 := [(h0, .inr (2, [.int (nI (n)), .int (nI (q)), v2, v3, v4, v5, v6]))]) hP hD [0] [] rfl rfl (by decide) (by decide) hk1 hFc hP1 hD1
  generalize H1 = H at hP hS ⊢
  have hP := hP.part (cx := [(h0, .inr (2, [.int (nI (n)), .int (nI (q)), v2, v3, v4, v5, v6]))]) [0] rfl
  have hD := hD.part (cx := [(h0, .inr (2, [.int (nI (n)), .int (nI (q)), v2, v3, v4, v5, v6]))]) [0] (by decide) rfl
  have hP : va_P (dC, dI) vwCl ([(h0, .inr (2, [.int (nI (n)), .int (nI (q)), v2, v3, v4, v5, v6]))] ++ va_pl L (pI cI pl pr)) H := hP
  have hD : va_D A ([(h0, .inr (2, [.int (nI (n)), .int (nI (q)), v2, v3, v4, v5, v6]))] ++ va_pl L (pI cI pl pr)) := hD
  subst hw
  generalize hf : ivq q (pr x j0) (q - 2) 2 = f at hiv hQ ⊢
  refine lv_istore_n (lv' := [(3, .int (nI (f))), (0, .ref h0), (1, .ref x), (2, .int (nI (j0)))]) hx hb dX1_makeUnit_7 rfl hl (by decide) rfl (fun ls hl => ?_)
  refine lv_iconst (v := nI 0) hx hb dX1_makeUnit_8 (by decide) ?_
  refine lv_istore (lv' := [(4, .int (nI (0))), (3, .int (nI (f))), (0, .ref h0), (1, .ref x), (2, .int (nI (j0)))]) hx hb dX1_makeUnit_9 hl (by decide) rfl (fun ls hl => ?_)
  have lp : ∀ (k : Nat) (i : Nat) (F : Nat → Nat), (i + k = n + 1) → (∀ j, F j = if j < i then (fun j => pr x j * f % q) j else pr x j) → ∀ (H : Heap) (locs : List Loc), va_P (dC, dI) vwCl ([(h0, .inr (2, [.int (nI (n)), .int (nI (q)), v2, v3, v4, v5, v6]))] ++ va_pl L (pI cI pl (va_up pr x F))) H → va_D A ([(h0, .inr (2, [.int (nI (n)), .int (nI (q)), v2, v3, v4, v5, v6]))] ++ va_pl L (pI cI pl (va_up pr x F))) → va_S A s.heap H locs → ∀ (ls : Array Slot), lv_has ls 5 [(0, .ref h0), (1, .ref x), (2, .int (nI (j0))), (3, .int (nI (f))), (4, .int (nI (i)))] → W zp l ze (headSpec wsX1_makeUnit ({ frames := 1, cells := 0, slots := 0, locals := 22 })).room s m args below meth zc H locs 0 0 Q (F0 m 11 ls []) := by
    intro k
    induction k with
    | zero =>
      intro i F hi hF H locs hP hD hS ls hl
      refine lv_iload hx hb dX1_makeUnit_11 (lv_at hl 4 rfl) ?_
      refine lv_aload_n hx hb dX1_makeUnit_13 rfl (lv_at hl 0 rfl) ?_
      refine va_get (D := (dC, dI)) (ci := 2) (v := .int (nI (n))) (C := RX1) (T := TX1) (N := 7) hx hb hts hinX1 hown hK hP 0 rfl rfl 0 (by decide) hf9 (fun _ h9 => h9) rfl dX1_makeUnit_14 ?_
      refine lv_icmp_gt (tgt := 41) hx hb dX1_makeUnit_17 (by decide) (fun c => ?_) (fun c => ?_)
      · skip
        have c : n < i := (nI_ltI (a := n) (b := i) (by omega) (by omega)).mp c
        obtain rfl : i = n + 1 := by omega
        have eF : F = scR n q f (pr x) := funext hF
        subst eF
        rw [hQ]
        exact W.vret hx hb hr (fun t ht hW => ⟨⟨(), rfl, trivial, by rw [ht]; exact hP, va_K.moved hW.alike hK, hD⟩, hS.F ht⟩) hS.2.2 dX1_makeUnit_41
      · skip
        have c : i ≤ n := Nat.not_lt.mp (fun h => c ((nI_ltI (a := n) (b := i) (by omega) (by omega)).mpr h))
        exact absurd c (by omega)
    | succ k ih =>
      intro i F hi hF H locs hP hD hS ls hl
      refine lv_iload hx hb dX1_makeUnit_11 (lv_at hl 4 rfl) ?_
      refine lv_aload_n hx hb dX1_makeUnit_13 rfl (lv_at hl 0 rfl) ?_
      refine va_get (D := (dC, dI)) (ci := 2) (v := .int (nI (n))) (C := RX1) (T := TX1) (N := 7) hx hb hts hinX1 hown hK hP 0 rfl rfl 0 (by decide) hf9 (fun _ h9 => h9) rfl dX1_makeUnit_14 ?_
      refine lv_icmp_gt (tgt := 41) hx hb dX1_makeUnit_17 (by decide) (fun c => ?_) (fun c => ?_)
      · skip
        have c : n < i := (nI_ltI (a := n) (b := i) (by omega) (by omega)).mp c
        exact absurd c (by omega)
      · skip
        have c : i ≤ n := Nat.not_lt.mp (fun h => c ((nI_ltI (a := n) (b := i) (by omega) (by omega)).mpr h))
        have eFi : F i = pr x i := by rw [hF i, if_neg (by omega)]
        have bX := bx i (by omega)
        have bM : pr x i * f ≤ 100 * 100 := Nat.mul_le_mul (by omega) (by omega)
        refine lv_aload_n hx hb dX1_makeUnit_20 rfl (lv_at hl 1 rfl) ?_
        refine lv_iload hx hb dX1_makeUnit_21 (lv_at hl 4 rfl) ?_
        refine lv_aload_n hx hb dX1_makeUnit_23 rfl (lv_at hl 1 rfl) ?_
        refine lv_iload hx hb dX1_makeUnit_24 (lv_at hl 4 rfl) ?_
        refine rp_ld hx hb hK hP 0 rfl (hx1) (by omega) (by omega) dX1_makeUnit_26 ?_
        refine tp_i (y := nI (pr x i)) (by rw [up_at, eFi]) ?_
        refine lv_iload_n hx hb dX1_makeUnit_27 rfl (lv_at hl 3 rfl) ?_
        refine lv_imul hx hb dX1_makeUnit_28 ?_
        refine tp_i (y := nI ((pr x i) * f)) (pk_mul _ _) ?_
        refine lv_aload_n hx hb dX1_makeUnit_29 rfl (lv_at hl 0 rfl) ?_
        refine va_get (D := (dC, dI)) (ci := 2) (v := .int (nI (q))) (C := RX1) (T := TX1) (N := 7) hx hb hts hinX1 hown hK hP 0 rfl rfl 1 (by decide) hf15 (fun _ h9 => h9) rfl dX1_makeUnit_30 ?_
        refine lv_irem hx hb dX1_makeUnit_33 (nI_ne0 (by omega) (by omega)) ?_
        refine tp_i (y := nI (((pr x i) * f) % q)) (pk_rem (by omega) (by omega) (by omega)) ?_
        refine rp_st (v := ((pr x i) * f) % q) hx hb hK hP hD hS 0 rfl (hx1) (by omega) (by omega) dX1_makeUnit_34 (fun H locs hP hD hS => ?_)
        have hP : va_P (dC, dI) vwCl ([(h0, .inr (2, [.int (nI (n)), .int (nI (q)), v2, v3, v4, v5, v6]))] ++ va_pl L (pI cI pl (va_up (va_up pr x F) x (va_up ((va_up pr x F) x) i (((pr x i) * f) % q))))) H := hP
        have hD : va_D A ([(h0, .inr (2, [.int (nI (n)), .int (nI (q)), v2, v3, v4, v5, v6]))] ++ va_pl L (pI cI pl (va_up (va_up pr x F) x (va_up ((va_up pr x F) x) i (((pr x i) * f) % q))))) := hD
        have e9 : va_up (va_up pr x F) x (va_up ((va_up pr x F) x) i (((pr x i) * f) % q)) = va_up pr x (va_up F i (pr x i * f % q)) := by rw [up_at, up_up]
        rw [e9] at hP hD
        have hP : va_P (dC, dI) vwCl ([(h0, .inr (2, [.int (nI (n)), .int (nI (q)), v2, v3, v4, v5, v6]))] ++ va_pl L (pI cI pl (va_up pr x (va_up F i (pr x i * f % q))))) H := hP
        have hD : va_D A ([(h0, .inr (2, [.int (nI (n)), .int (nI (q)), v2, v3, v4, v5, v6]))] ++ va_pl L (pI cI pl (va_up pr x (va_up F i (pr x i * f % q))))) := hD
        refine lv_iinc (v := nI (i + 1)) (lv' := [(4, .int (nI (i + 1))), (0, .ref h0), (1, .ref x), (2, .int (nI (j0))), (3, .int (nI (f)))]) hx hb dX1_makeUnit_35 hl (k := 4) rfl (nI_1 _) (by decide) rfl (fun ls hl => ?_)
        refine lv_goto (tgt := 11) hx hb dX1_makeUnit_38 (by decide) ?_
        exact ih (i + 1) (va_up F i (pr x i * f % q)) (by omega) (lp_step hF rfl) _ _ hP hD hS ls (lv_sub hl [1, 2, 3, 4, 0] rfl)
  have hP : va_P (dC, dI) vwCl ([(h0, .inr (2, [.int (nI (n)), .int (nI (q)), v2, v3, v4, v5, v6]))] ++ va_pl L (pI cI pl (va_up pr x (pr x)))) H := by rw [up_id]; exact hP
  have hD : va_D A ([(h0, .inr (2, [.int (nI (n)), .int (nI (q)), v2, v3, v4, v5, v6]))] ++ va_pl L (pI cI pl (va_up pr x (pr x)))) := by rw [up_id]; exact hD
  exact lp (n + 1) 0 (pr x) (by omega) (lp_zero _ _) _ _ hP hD hS ls (lv_sub hl [2, 3, 4, 1, 0] rfl)

set_option maxHeartbeats 4000000 in
set_option maxRecDepth 100000 in
theorem c_X1_unusedRowWith (l : Launch) (dC : Nat → ClassId) (dI : Nat → Nat → Nat) (sz : Nat) (h0 a1 a2 a3 n q bd fr : Nat) (gR gQ : Nat → Nat) (ro : Nat → Option Nat) (cG : ClassId) (cI : ClassId) (L : List Nat) (pl : Nat → Nat) (pr : Nat → Nat → Nat) (j0 : Nat) (hn : n < 1000) (hok : eqOK n gR gQ L pl) (hj0 : j0 < n + 1) (hbd : bd ≤ n) (bx : ∀ i, i < n → pr (gR i) j0 < 100) : Met l yX1_unusedRowWith wsX1_unusedRowWith ({ frames := 0, cells := 0, slots := 0, locals := 0 }) (va_Pc [.ref h0, .int (nI (j0))] (fun U => U.heap.size = sz ∧ va_P (dC, dI) vwCl ([(h0, .inr (2, [.int (nI (n)), .int (nI (q)), .ref a1, .ref a2, .ref a3, .int (nI (bd)), .int (nI (fr))])), (a1, .inl (cG, n, .inr (.inr (.inr (.inr (fun j => some (gR j))))))), (a2, .inl (cI, n, .inl (fun j => oI (ro j)))), (a3, .inl (cG, n, .inr (.inr (.inr (.inr (fun j => some (gQ j)))))))] ++ va_pl L (pI cI pl pr)) U.heap ∧ va_K (dC, dI) vwCl [(cI, .int), (cG, .array .int)] U ∧ va_D (fun _ => True) ([(h0, .inr (2, [.int (nI (n)), .int (nI (q)), .ref a1, .ref a2, .ref a3, .int (nI (bd)), .int (nI (fr))])), (a1, .inl (cG, n, .inr (.inr (.inr (.inr (fun j => some (gR j))))))), (a2, .inl (cI, n, .inl (fun j => oI (ro j)))), (a3, .inl (cG, n, .inr (.inr (.inr (.inr (fun j => some (gQ j)))))))] ++ va_pl L (pI cI pl pr)))) (va_Qi (fun (z : Int32) (_ : Unit) => z = oI (fR (fun i => pr (gR i)) j0 (n - bd) bd)) (fun _ t => va_P (dC, dI) vwCl ([(h0, .inr (2, [.int (nI (n)), .int (nI (q)), .ref a1, .ref a2, .ref a3, .int (nI (bd)), .int (nI (fr))])), (a1, .inl (cG, n, .inr (.inr (.inr (.inr (fun j => some (gR j))))))), (a2, .inl (cI, n, .inl (fun j => oI (ro j)))), (a3, .inl (cG, n, .inr (.inr (.inr (.inr (fun j => some (gQ j)))))))] ++ va_pl L (pI cI pl pr)) t.heap ∧ va_K (dC, dI) vwCl [(cI, .int), (cG, .array .int)] t ∧ va_D (va_A ([(h0, .inr (2, [.int (nI (n)), .int (nI (q)), .ref a1, .ref a2, .ref a3, .int (nI (bd)), .int (nI (fr))])), (a1, .inl (cG, n, .inr (.inr (.inr (.inr (fun j => some (gR j))))))), (a2, .inl (cI, n, .inl (fun j => oI (ro j)))), (a3, .inl (cG, n, .inr (.inr (.inr (.inr (fun j => some (gQ j)))))))] ++ va_pl L (pI cI pl pr)) sz) ([(h0, .inr (2, [.int (nI (n)), .int (nI (q)), .ref a1, .ref a2, .ref a3, .int (nI (bd)), .int (nI (fr))])), (a1, .inl (cG, n, .inr (.inr (.inr (.inr (fun j => some (gR j))))))), (a2, .inl (cI, n, .inl (fun j => oI (ro j)))), (a3, .inl (cG, n, .inr (.inr (.inr (.inr (fun j => some (gQ j)))))))] ++ va_pl L (pI cI pl pr))) (va_A ([(h0, .inr (2, [.int (nI (n)), .int (nI (q)), .ref a1, .ref a2, .ref a3, .int (nI (bd)), .int (nI (fr))])), (a1, .inl (cG, n, .inr (.inr (.inr (.inr (fun j => some (gR j))))))), (a2, .inl (cI, n, .inl (fun j => oI (ro j)))), (a3, .inl (cG, n, .inr (.inr (.inr (.inr (fun j => some (gQ j)))))))] ++ va_pl L (pI cI pl pr)) sz)) 0 0 (va_A ([(h0, .inr (2, [.int (nI (n)), .int (nI (q)), .ref a1, .ref a2, .ref a3, .int (nI (bd)), .int (nI (fr))])), (a1, .inl (cG, n, .inr (.inr (.inr (.inr (fun j => some (gR j))))))), (a2, .inl (cI, n, .inl (fun j => oI (ro j)))), (a3, .inl (cG, n, .inr (.inr (.inr (.inr (fun j => some (gQ j)))))))] ++ va_pl L (pI cI pl pr)) sz) := by
  refine Met.ofW (cc := cX1_unusedRowWith) (maxL := 3) (ret := (some .int)) (by decide) rfl ?_
  intro zp ze s m args below meth zc s₁ B hml hv
  obtain ⟨hargs, hsz, hP, hK, hD0⟩ := hv
  have hx := B.exec
  have hb := B.bytes
  have hr := B.returns
  have hts := atoms_spec (ws := wsX1_unusedRowWith) B.pre
  have hown : s.vm.findClass RX1 = some m.cls := findClass_of_methodNamed B.named
  have hlocks := B.notSynchronized
  subst hsz
  obtain ⟨Q, hQ⟩ : ∃ Q, Q = MQ below (va_Qi (fun (z : Int32) (_ : Unit) => z = oI (fR (fun i => pr (gR i)) j0 (n - bd) bd)) (fun _ t => va_P (dC, dI) vwCl ([(h0, .inr (2, [.int (nI (n)), .int (nI (q)), .ref a1, .ref a2, .ref a3, .int (nI (bd)), .int (nI (fr))])), (a1, .inl (cG, n, .inr (.inr (.inr (.inr (fun j => some (gR j))))))), (a2, .inl (cI, n, .inl (fun j => oI (ro j)))), (a3, .inl (cG, n, .inr (.inr (.inr (.inr (fun j => some (gQ j)))))))] ++ va_pl L (pI cI pl pr)) t.heap ∧ va_K (dC, dI) vwCl [(cI, .int), (cG, .array .int)] t ∧ va_D (va_A ([(h0, .inr (2, [.int (nI (n)), .int (nI (q)), .ref a1, .ref a2, .ref a3, .int (nI (bd)), .int (nI (fr))])), (a1, .inl (cG, n, .inr (.inr (.inr (.inr (fun j => some (gR j))))))), (a2, .inl (cI, n, .inl (fun j => oI (ro j)))), (a3, .inl (cG, n, .inr (.inr (.inr (.inr (fun j => some (gQ j)))))))] ++ va_pl L (pI cI pl pr)) s.heap.size) ([(h0, .inr (2, [.int (nI (n)), .int (nI (q)), .ref a1, .ref a2, .ref a3, .int (nI (bd)), .int (nI (fr))])), (a1, .inl (cG, n, .inr (.inr (.inr (.inr (fun j => some (gR j))))))), (a2, .inl (cI, n, .inl (fun j => oI (ro j)))), (a3, .inl (cG, n, .inr (.inr (.inr (.inr (fun j => some (gQ j)))))))] ++ va_pl L (pI cI pl pr))) (va_A ([(h0, .inr (2, [.int (nI (n)), .int (nI (q)), .ref a1, .ref a2, .ref a3, .int (nI (bd)), .int (nI (fr))])), (a1, .inl (cG, n, .inr (.inr (.inr (.inr (fun j => some (gR j))))))), (a2, .inl (cI, n, .inl (fun j => oI (ro j)))), (a3, .inl (cG, n, .inr (.inr (.inr (.inr (fun j => some (gQ j)))))))] ++ va_pl L (pI cI pl pr)) s.heap.size)) args s 0 0 (va_A ([(h0, .inr (2, [.int (nI (n)), .int (nI (q)), .ref a1, .ref a2, .ref a3, .int (nI (bd)), .int (nI (fr))])), (a1, .inl (cG, n, .inr (.inr (.inr (.inr (fun j => some (gR j))))))), (a2, .inl (cI, n, .inl (fun j => oI (ro j)))), (a3, .inl (cG, n, .inr (.inr (.inr (.inr (fun j => some (gQ j)))))))] ++ va_pl L (pI cI pl pr)) s.heap.size) := ⟨_, rfl⟩
  rw [← hQ]
  have hD := hD0.self (sz := s.heap.size)
  generalize hAe : (va_A ([(h0, .inr (2, [.int (nI (n)), .int (nI (q)), .ref a1, .ref a2, .ref a3, .int (nI (bd)), .int (nI (fr))])), (a1, .inl (cG, n, .inr (.inr (.inr (.inr (fun j => some (gR j))))))), (a2, .inl (cI, n, .inl (fun j => oI (ro j)))), (a3, .inl (cG, n, .inr (.inr (.inr (.inr (fun j => some (gQ j)))))))] ++ va_pl L (pI cI pl pr)) s.heap.size) = A at hD hQ
  have hA : ∀ q : Nat, s.heap.size ≤ q → A q := fun q h => by rw [← hAe]; exact Or.inr h
  have hS : va_S A s.heap s.heap [] := va_S.rf
  have hl := lv_entry ([.ref h0, .int (nI (j0))]) (n := 3) (Nat.le_of_ble_eq_true rfl)
  generalize hen : entryFrame m args 3 = fr
  rw [hargs, lg_entry_eq] at hen
  subst hen
  generalize (lg_sl ([.ref h0, .int (nI (j0))]) ++ List.replicate (3 - (lg_sl ([.ref h0, .int (nI (j0))])).length) Slot.unset).toArray = ls at hl ⊢
  have hl : lv_has ls 3 [(0, .ref h0), (1, .int (nI (j0)))] := hl
  have hinX1 : ∀ w ∈ wsX10, w ∈ wsX1_unusedRowWith := by decide +kernel
  have hf9 := hts (.fieldLink RX1 9 "LightRows$Equations" "size" "I") (by decide +kernel)
  have hf20 := hts (.fieldLink RX1 20 "LightRows$Equations" "rows" "[[I") (by decide +kernel)
  have hf30 := hts (.fieldLink RX1 30 "LightRows$Equations" "bound" "I") (by decide +kernel)
  refine lv_aload_n hx hb dX1_unusedRowWith_0 rfl (lv_at hl 0 rfl) ?_
  refine va_get (D := (dC, dI)) (ci := 2) (v := .int (nI (bd))) (C := RX1) (T := TX1) (N := 7) hx hb hts hinX1 hown hK hP 0 rfl rfl 5 (by decide) hf30 (fun _ h9 => h9) rfl dX1_unusedRowWith_1 ?_
  refine lv_istore_n (lv' := [(2, .int (nI (bd))), (0, .ref h0), (1, .int (nI (j0)))]) hx hb dX1_unusedRowWith_4 rfl hl (by decide) rfl (fun ls hl => ?_)
  have lp : ∀ (k : Nat) (i : Nat), (i + k = n) → (fR (fun i => pr (gR i)) j0 (n - bd) bd = fR (fun i => pr (gR i)) j0 k i) → ∀ (H : Heap) (locs : List Loc), va_P (dC, dI) vwCl ([(h0, .inr (2, [.int (nI (n)), .int (nI (q)), .ref a1, .ref a2, .ref a3, .int (nI (bd)), .int (nI (fr))])), (a1, .inl (cG, n, .inr (.inr (.inr (.inr (fun j => some (gR j))))))), (a2, .inl (cI, n, .inl (fun j => oI (ro j)))), (a3, .inl (cG, n, .inr (.inr (.inr (.inr (fun j => some (gQ j)))))))] ++ va_pl L (pI cI pl pr)) H → va_D A ([(h0, .inr (2, [.int (nI (n)), .int (nI (q)), .ref a1, .ref a2, .ref a3, .int (nI (bd)), .int (nI (fr))])), (a1, .inl (cG, n, .inr (.inr (.inr (.inr (fun j => some (gR j))))))), (a2, .inl (cI, n, .inl (fun j => oI (ro j)))), (a3, .inl (cG, n, .inr (.inr (.inr (.inr (fun j => some (gQ j)))))))] ++ va_pl L (pI cI pl pr)) → va_S A s.heap H locs → ∀ (ls : Array Slot), lv_has ls 3 [(0, .ref h0), (1, .int (nI (j0))), (2, .int (nI (i)))] → W zp l ze (headSpec wsX1_unusedRowWith ({ frames := 0, cells := 0, slots := 0, locals := 0 })).room s m args below meth zc H locs 0 0 Q (F0 m 5 ls []) := by
    intro k
    induction k with
    | zero =>
      intro i hi hI H locs hP hD hS ls hl
      refine lv_iload_n hx hb dX1_unusedRowWith_5 rfl (lv_at hl 2 rfl) ?_
      refine lv_aload_n hx hb dX1_unusedRowWith_6 rfl (lv_at hl 0 rfl) ?_
      refine va_get (D := (dC, dI)) (ci := 2) (v := .int (nI (n))) (C := RX1) (T := TX1) (N := 7) hx hb hts hinX1 hown hK hP 0 rfl rfl 0 (by decide) hf9 (fun _ h9 => h9) rfl dX1_unusedRowWith_7 ?_
      refine lv_icmp_ge (tgt := 32) hx hb dX1_unusedRowWith_10 (by decide) (fun c => ?_) (fun c => ?_)
      · skip
        have c : n ≤ i := (nI_leI (a := n) (b := i) (by omega) (by omega)).mp c
        refine lv_iconst (v := (-1)) hx hb dX1_unusedRowWith_32 (by decide) ?_
        rw [hQ]
        exact W.iret (v := (-1)) hx hb hr (fun t ht hW => ⟨⟨_, (), rfl, by rw [hI]; rfl, by rw [ht]; exact hP, va_K.moved hW.alike hK, hD⟩, hS.F ht⟩) hS.2.2 dX1_unusedRowWith_33
      · skip
        have c : i < n := Nat.not_le.mp (fun h => c ((nI_leI (a := n) (b := i) (by omega) (by omega)).mpr h))
        exact absurd c (by omega)
    | succ k ih =>
      intro i hi hI H locs hP hD hS ls hl
      refine lv_iload_n hx hb dX1_unusedRowWith_5 rfl (lv_at hl 2 rfl) ?_
      refine lv_aload_n hx hb dX1_unusedRowWith_6 rfl (lv_at hl 0 rfl) ?_
      refine va_get (D := (dC, dI)) (ci := 2) (v := .int (nI (n))) (C := RX1) (T := TX1) (N := 7) hx hb hts hinX1 hown hK hP 0 rfl rfl 0 (by decide) hf9 (fun _ h9 => h9) rfl dX1_unusedRowWith_7 ?_
      refine lv_icmp_ge (tgt := 32) hx hb dX1_unusedRowWith_10 (by decide) (fun c => ?_) (fun c => ?_)
      · skip
        have c : n ≤ i := (nI_leI (a := n) (b := i) (by omega) (by omega)).mp c
        exact absurd c (by omega)
      · skip
        have c : i < n := Nat.not_le.mp (fun h => c ((nI_leI (a := n) (b := i) (by omega) (by omega)).mpr h))
        have h1 := hok.1 i (by omega)
        have h2 := bx i (by omega)
        refine lv_aload_n hx hb dX1_unusedRowWith_13 rfl (lv_at hl 0 rfl) ?_
        refine va_get (D := (dC, dI)) (ci := 2) (v := .ref a1) (C := RX1) (T := TX1) (N := 7) hx hb hts hinX1 hown hK hP 0 rfl rfl 2 (by decide) hf20 (fun _ h9 => h9) rfl dX1_unusedRowWith_14 ?_
        refine lv_iload_n hx hb dX1_unusedRowWith_17 rfl (lv_at hl 2 rfl) ?_
        refine rg_ld (G := gR) hx hb hK hP 1 1 rfl rfl (by omega) (by omega) dX1_unusedRowWith_18 ?_
        refine lv_iload_n hx hb dX1_unusedRowWith_19 rfl (lv_at hl 1 rfl) ?_
        refine rp_ld hx hb hK hP 0 rfl (h1.1) (by omega) (by omega) dX1_unusedRowWith_20 ?_
        refine lv_if_eq (tgt := 26) hx hb dX1_unusedRowWith_21 (by decide) (fun c2 => ?_) (fun c2 => ?_)
        · skip
          have c2 : pr (gR i) j0 = 0 := (nI_eq (a := pr (gR i) j0) (b := 0) (by omega) (by omega)).mp c2
          refine lv_iinc (v := nI (i + 1)) (lv' := [(2, .int (nI (i + 1))), (0, .ref h0), (1, .int (nI (j0)))]) hx hb dX1_unusedRowWith_26 hl (k := 2) rfl (nI_1 _) (by decide) rfl (fun ls hl => ?_)
          refine lv_goto (tgt := 5) hx hb dX1_unusedRowWith_29 (by decide) ?_
          exact ih (i + 1) (by omega) (by rw [hI]; simp only [fR]; rw [if_pos c2]) _ _ hP hD hS ls (lv_sub hl [1, 2, 0] rfl)
        · skip
          have c2 : pr (gR i) j0 ≠ 0 := fun h => c2 ((nI_eq (a := pr (gR i) j0) (b := 0) (by omega) (by omega)).mpr h)
          refine lv_iload_n hx hb dX1_unusedRowWith_24 rfl (lv_at hl 2 rfl) ?_
          rw [hQ]
          exact W.iret (v := nI (i)) hx hb hr (fun t ht hW => ⟨⟨_, (), rfl, by rw [hI]; simp only [fR]; rw [if_neg c2]; rfl, by rw [ht]; exact hP, va_K.moved hW.alike hK, hD⟩, hS.F ht⟩) hS.2.2 dX1_unusedRowWith_25
  exact lp (n - bd) bd (by omega) rfl _ _ hP hD hS ls (lv_sub hl [1, 2, 0] rfl)

set_option maxHeartbeats 4000000 in
set_option maxRecDepth 100000 in
theorem c_X1_agree (l : Launch) (dC : Nat → ClassId) (dI : Nat → Nat → Nat) (sz : Nat) (h0 a1 a2 a3 n q bd fr : Nat) (gR gQ : Nat → Nat) (ro : Nat → Option Nat) (cG : ClassId) (cI : ClassId) (L : List Nat) (pl : Nat → Nat) (pr : Nat → Nat → Nat) (hn : n < 1000) (hok : eqOK n gR gQ L pl) (hbd : bd ≤ n) (bx : ∀ i, i < n → pr (gR i) n < 100) : Met l yX1_agree wsX1_agree ({ frames := 0, cells := 0, slots := 0, locals := 0 }) (va_Pc [.ref h0] (fun U => U.heap.size = sz ∧ va_P (dC, dI) vwCl ([(h0, .inr (2, [.int (nI (n)), .int (nI (q)), .ref a1, .ref a2, .ref a3, .int (nI (bd)), .int (nI (fr))])), (a1, .inl (cG, n, .inr (.inr (.inr (.inr (fun j => some (gR j))))))), (a2, .inl (cI, n, .inl (fun j => oI (ro j)))), (a3, .inl (cG, n, .inr (.inr (.inr (.inr (fun j => some (gQ j)))))))] ++ va_pl L (pI cI pl pr)) U.heap ∧ va_K (dC, dI) vwCl [(cI, .int), (cG, .array .int)] U ∧ va_D (fun _ => True) ([(h0, .inr (2, [.int (nI (n)), .int (nI (q)), .ref a1, .ref a2, .ref a3, .int (nI (bd)), .int (nI (fr))])), (a1, .inl (cG, n, .inr (.inr (.inr (.inr (fun j => some (gR j))))))), (a2, .inl (cI, n, .inl (fun j => oI (ro j)))), (a3, .inl (cG, n, .inr (.inr (.inr (.inr (fun j => some (gQ j)))))))] ++ va_pl L (pI cI pl pr)))) (va_Qi (fun (z : Int32) (_ : Unit) => z = bI (agr (fun i => pr (gR i)) n (n - bd) bd)) (fun _ t => va_P (dC, dI) vwCl ([(h0, .inr (2, [.int (nI (n)), .int (nI (q)), .ref a1, .ref a2, .ref a3, .int (nI (bd)), .int (nI (fr))])), (a1, .inl (cG, n, .inr (.inr (.inr (.inr (fun j => some (gR j))))))), (a2, .inl (cI, n, .inl (fun j => oI (ro j)))), (a3, .inl (cG, n, .inr (.inr (.inr (.inr (fun j => some (gQ j)))))))] ++ va_pl L (pI cI pl pr)) t.heap ∧ va_K (dC, dI) vwCl [(cI, .int), (cG, .array .int)] t ∧ va_D (va_A ([(h0, .inr (2, [.int (nI (n)), .int (nI (q)), .ref a1, .ref a2, .ref a3, .int (nI (bd)), .int (nI (fr))])), (a1, .inl (cG, n, .inr (.inr (.inr (.inr (fun j => some (gR j))))))), (a2, .inl (cI, n, .inl (fun j => oI (ro j)))), (a3, .inl (cG, n, .inr (.inr (.inr (.inr (fun j => some (gQ j)))))))] ++ va_pl L (pI cI pl pr)) sz) ([(h0, .inr (2, [.int (nI (n)), .int (nI (q)), .ref a1, .ref a2, .ref a3, .int (nI (bd)), .int (nI (fr))])), (a1, .inl (cG, n, .inr (.inr (.inr (.inr (fun j => some (gR j))))))), (a2, .inl (cI, n, .inl (fun j => oI (ro j)))), (a3, .inl (cG, n, .inr (.inr (.inr (.inr (fun j => some (gQ j)))))))] ++ va_pl L (pI cI pl pr))) (va_A ([(h0, .inr (2, [.int (nI (n)), .int (nI (q)), .ref a1, .ref a2, .ref a3, .int (nI (bd)), .int (nI (fr))])), (a1, .inl (cG, n, .inr (.inr (.inr (.inr (fun j => some (gR j))))))), (a2, .inl (cI, n, .inl (fun j => oI (ro j)))), (a3, .inl (cG, n, .inr (.inr (.inr (.inr (fun j => some (gQ j)))))))] ++ va_pl L (pI cI pl pr)) sz)) 0 0 (va_A ([(h0, .inr (2, [.int (nI (n)), .int (nI (q)), .ref a1, .ref a2, .ref a3, .int (nI (bd)), .int (nI (fr))])), (a1, .inl (cG, n, .inr (.inr (.inr (.inr (fun j => some (gR j))))))), (a2, .inl (cI, n, .inl (fun j => oI (ro j)))), (a3, .inl (cG, n, .inr (.inr (.inr (.inr (fun j => some (gQ j)))))))] ++ va_pl L (pI cI pl pr)) sz) := by
  refine Met.ofW (cc := cX1_agree) (maxL := 2) (ret := (some .boolean)) (by decide) rfl ?_
  intro zp ze s m args below meth zc s₁ B hml hv
  obtain ⟨hargs, hsz, hP, hK, hD0⟩ := hv
  have hx := B.exec
  have hb := B.bytes
  have hr := B.returns
  have hts := atoms_spec (ws := wsX1_agree) B.pre
  have hown : s.vm.findClass RX1 = some m.cls := findClass_of_methodNamed B.named
  have hlocks := B.notSynchronized
  subst hsz
  obtain ⟨Q, hQ⟩ : ∃ Q, Q = MQ below (va_Qi (fun (z : Int32) (_ : Unit) => z = bI (agr (fun i => pr (gR i)) n (n - bd) bd)) (fun _ t => va_P (dC, dI) vwCl ([(h0, .inr (2, [.int (nI (n)), .int (nI (q)), .ref a1, .ref a2, .ref a3, .int (nI (bd)), .int (nI (fr))])), (a1, .inl (cG, n, .inr (.inr (.inr (.inr (fun j => some (gR j))))))), (a2, .inl (cI, n, .inl (fun j => oI (ro j)))), (a3, .inl (cG, n, .inr (.inr (.inr (.inr (fun j => some (gQ j)))))))] ++ va_pl L (pI cI pl pr)) t.heap ∧ va_K (dC, dI) vwCl [(cI, .int), (cG, .array .int)] t ∧ va_D (va_A ([(h0, .inr (2, [.int (nI (n)), .int (nI (q)), .ref a1, .ref a2, .ref a3, .int (nI (bd)), .int (nI (fr))])), (a1, .inl (cG, n, .inr (.inr (.inr (.inr (fun j => some (gR j))))))), (a2, .inl (cI, n, .inl (fun j => oI (ro j)))), (a3, .inl (cG, n, .inr (.inr (.inr (.inr (fun j => some (gQ j)))))))] ++ va_pl L (pI cI pl pr)) s.heap.size) ([(h0, .inr (2, [.int (nI (n)), .int (nI (q)), .ref a1, .ref a2, .ref a3, .int (nI (bd)), .int (nI (fr))])), (a1, .inl (cG, n, .inr (.inr (.inr (.inr (fun j => some (gR j))))))), (a2, .inl (cI, n, .inl (fun j => oI (ro j)))), (a3, .inl (cG, n, .inr (.inr (.inr (.inr (fun j => some (gQ j)))))))] ++ va_pl L (pI cI pl pr))) (va_A ([(h0, .inr (2, [.int (nI (n)), .int (nI (q)), .ref a1, .ref a2, .ref a3, .int (nI (bd)), .int (nI (fr))])), (a1, .inl (cG, n, .inr (.inr (.inr (.inr (fun j => some (gR j))))))), (a2, .inl (cI, n, .inl (fun j => oI (ro j)))), (a3, .inl (cG, n, .inr (.inr (.inr (.inr (fun j => some (gQ j)))))))] ++ va_pl L (pI cI pl pr)) s.heap.size)) args s 0 0 (va_A ([(h0, .inr (2, [.int (nI (n)), .int (nI (q)), .ref a1, .ref a2, .ref a3, .int (nI (bd)), .int (nI (fr))])), (a1, .inl (cG, n, .inr (.inr (.inr (.inr (fun j => some (gR j))))))), (a2, .inl (cI, n, .inl (fun j => oI (ro j)))), (a3, .inl (cG, n, .inr (.inr (.inr (.inr (fun j => some (gQ j)))))))] ++ va_pl L (pI cI pl pr)) s.heap.size) := ⟨_, rfl⟩
  rw [← hQ]
  have hD := hD0.self (sz := s.heap.size)
  generalize hAe : (va_A ([(h0, .inr (2, [.int (nI (n)), .int (nI (q)), .ref a1, .ref a2, .ref a3, .int (nI (bd)), .int (nI (fr))])), (a1, .inl (cG, n, .inr (.inr (.inr (.inr (fun j => some (gR j))))))), (a2, .inl (cI, n, .inl (fun j => oI (ro j)))), (a3, .inl (cG, n, .inr (.inr (.inr (.inr (fun j => some (gQ j)))))))] ++ va_pl L (pI cI pl pr)) s.heap.size) = A at hD hQ
  have hA : ∀ q : Nat, s.heap.size ≤ q → A q := fun q h => by rw [← hAe]; exact Or.inr h
  have hS : va_S A s.heap s.heap [] := va_S.rf
  have hl := lv_entry ([.ref h0]) (n := 2) (Nat.le_of_ble_eq_true rfl)
  generalize hen : entryFrame m args 2 = fr
  rw [hargs, lg_entry_eq] at hen
  subst hen
  generalize (lg_sl ([.ref h0]) ++ List.replicate (2 - (lg_sl ([.ref h0])).length) Slot.unset).toArray = ls at hl ⊢
  have hl : lv_has ls 2 [(0, .ref h0)] := hl
  have hinX1 : ∀ w ∈ wsX10, w ∈ wsX1_agree := by decide +kernel
  have hf9 := hts (.fieldLink RX1 9 "LightRows$Equations" "size" "I") (by decide +kernel)
  have hf20 := hts (.fieldLink RX1 20 "LightRows$Equations" "rows" "[[I") (by decide +kernel)
  have hf30 := hts (.fieldLink RX1 30 "LightRows$Equations" "bound" "I") (by decide +kernel)
  refine lv_aload_n hx hb dX1_agree_0 rfl (lv_at hl 0 rfl) ?_
  refine va_get (D := (dC, dI)) (ci := 2) (v := .int (nI (bd))) (C := RX1) (T := TX1) (N := 7) hx hb hts hinX1 hown hK hP 0 rfl rfl 5 (by decide) hf30 (fun _ h9 => h9) rfl dX1_agree_1 ?_
  refine lv_istore_n (lv' := [(1, .int (nI (bd))), (0, .ref h0)]) hx hb dX1_agree_4 rfl hl (by decide) rfl (fun ls hl => ?_)
  have lp : ∀ (k : Nat) (i : Nat), (i + k = n) → (agr (fun i => pr (gR i)) n (n - bd) bd = agr (fun i => pr (gR i)) n k i) → ∀ (H : Heap) (locs : List Loc), va_P (dC, dI) vwCl ([(h0, .inr (2, [.int (nI (n)), .int (nI (q)), .ref a1, .ref a2, .ref a3, .int (nI (bd)), .int (nI (fr))])), (a1, .inl (cG, n, .inr (.inr (.inr (.inr (fun j => some (gR j))))))), (a2, .inl (cI, n, .inl (fun j => oI (ro j)))), (a3, .inl (cG, n, .inr (.inr (.inr (.inr (fun j => some (gQ j)))))))] ++ va_pl L (pI cI pl pr)) H → va_D A ([(h0, .inr (2, [.int (nI (n)), .int (nI (q)), .ref a1, .ref a2, .ref a3, .int (nI (bd)), .int (nI (fr))])), (a1, .inl (cG, n, .inr (.inr (.inr (.inr (fun j => some (gR j))))))), (a2, .inl (cI, n, .inl (fun j => oI (ro j)))), (a3, .inl (cG, n, .inr (.inr (.inr (.inr (fun j => some (gQ j)))))))] ++ va_pl L (pI cI pl pr)) → va_S A s.heap H locs → ∀ (ls : Array Slot), lv_has ls 2 [(0, .ref h0), (1, .int (nI (i)))] → W zp l ze (headSpec wsX1_agree ({ frames := 0, cells := 0, slots := 0, locals := 0 })).room s m args below meth zc H locs 0 0 Q (F0 m 5 ls []) := by
    intro k
    induction k with
    | zero =>
      intro i hi hI H locs hP hD hS ls hl
      refine lv_iload_n hx hb dX1_agree_5 rfl (lv_at hl 1 rfl) ?_
      refine lv_aload_n hx hb dX1_agree_6 rfl (lv_at hl 0 rfl) ?_
      refine va_get (D := (dC, dI)) (ci := 2) (v := .int (nI (n))) (C := RX1) (T := TX1) (N := 7) hx hb hts hinX1 hown hK hP 0 rfl rfl 0 (by decide) hf9 (fun _ h9 => h9) rfl dX1_agree_7 ?_
      refine lv_icmp_ge (tgt := 35) hx hb dX1_agree_10 (by decide) (fun c => ?_) (fun c => ?_)
      · skip
        have c : n ≤ i := (nI_leI (a := n) (b := i) (by omega) (by omega)).mp c
        refine lv_iconst (v := nI 1) hx hb dX1_agree_35 (by decide) ?_
        rw [hQ]
        exact W.zret (v := nI (1)) (ty := .boolean) hx hb hr rfl (fun t ht hW => ⟨⟨_, (), rfl, by rw [hI]; rfl, by rw [ht]; exact hP, va_K.moved hW.alike hK, hD⟩, hS.F ht⟩) hS.2.2 dX1_agree_36
      · skip
        have c : i < n := Nat.not_le.mp (fun h => c ((nI_leI (a := n) (b := i) (by omega) (by omega)).mpr h))
        exact absurd c (by omega)
    | succ k ih =>
      intro i hi hI H locs hP hD hS ls hl
      refine lv_iload_n hx hb dX1_agree_5 rfl (lv_at hl 1 rfl) ?_
      refine lv_aload_n hx hb dX1_agree_6 rfl (lv_at hl 0 rfl) ?_
      refine va_get (D := (dC, dI)) (ci := 2) (v := .int (nI (n))) (C := RX1) (T := TX1) (N := 7) hx hb hts hinX1 hown hK hP 0 rfl rfl 0 (by decide) hf9 (fun _ h9 => h9) rfl dX1_agree_7 ?_
      refine lv_icmp_ge (tgt := 35) hx hb dX1_agree_10 (by decide) (fun c => ?_) (fun c => ?_)
      · skip
        have c : n ≤ i := (nI_leI (a := n) (b := i) (by omega) (by omega)).mp c
        exact absurd c (by omega)
      · skip
        have c : i < n := Nat.not_le.mp (fun h => c ((nI_leI (a := n) (b := i) (by omega) (by omega)).mpr h))
        have h1 := hok.1 i (by omega)
        have h2 := bx i (by omega)
        refine lv_aload_n hx hb dX1_agree_13 rfl (lv_at hl 0 rfl) ?_
        refine va_get (D := (dC, dI)) (ci := 2) (v := .ref a1) (C := RX1) (T := TX1) (N := 7) hx hb hts hinX1 hown hK hP 0 rfl rfl 2 (by decide) hf20 (fun _ h9 => h9) rfl dX1_agree_14 ?_
        refine lv_iload_n hx hb dX1_agree_17 rfl (lv_at hl 1 rfl) ?_
        refine rg_ld (G := gR) hx hb hK hP 1 1 rfl rfl (by omega) (by omega) dX1_agree_18 ?_
        refine lv_aload_n hx hb dX1_agree_19 rfl (lv_at hl 0 rfl) ?_
        refine va_get (D := (dC, dI)) (ci := 2) (v := .int (nI (n))) (C := RX1) (T := TX1) (N := 7) hx hb hts hinX1 hown hK hP 0 rfl rfl 0 (by decide) hf9 (fun _ h9 => h9) rfl dX1_agree_20 ?_
        refine rp_ld hx hb hK hP 0 rfl (h1.1) (by omega) (by omega) dX1_agree_23 ?_
        refine lv_if_eq (tgt := 29) hx hb dX1_agree_24 (by decide) (fun c2 => ?_) (fun c2 => ?_)
        · skip
          have c2 : pr (gR i) n = 0 := (nI_eq (a := pr (gR i) n) (b := 0) (by omega) (by omega)).mp c2
          refine lv_iinc (v := nI (i + 1)) (lv' := [(1, .int (nI (i + 1))), (0, .ref h0)]) hx hb dX1_agree_29 hl (k := 1) rfl (nI_1 _) (by decide) rfl (fun ls hl => ?_)
          refine lv_goto (tgt := 5) hx hb dX1_agree_32 (by decide) ?_
          exact ih (i + 1) (by omega) (by rw [hI]; simp only [agr]; rw [if_pos c2]) _ _ hP hD hS ls (lv_sub hl [1, 0] rfl)
        · skip
          have c2 : pr (gR i) n ≠ 0 := fun h => c2 ((nI_eq (a := pr (gR i) n) (b := 0) (by omega) (by omega)).mpr h)
          refine lv_iconst (v := nI 0) hx hb dX1_agree_27 (by decide) ?_
          rw [hQ]
          exact W.zret (v := nI (0)) (ty := .boolean) hx hb hr rfl (fun t ht hW => ⟨⟨_, (), rfl, by rw [hI]; simp only [agr]; rw [if_neg c2]; rfl, by rw [ht]; exact hP, va_K.moved hW.alike hK, hD⟩, hS.F ht⟩) hS.2.2 dX1_agree_28
  exact lp (n - bd) bd (by omega) rfl _ _ hP hD hS ls (lv_sub hl [1, 0] rfl)

set_option maxHeartbeats 4000000 in
set_option maxRecDepth 100000 in
theorem c_X1_pressesOf (l : Launch) (dC : Nat → ClassId) (dI : Nat → Nat → Nat) (sz : Nat) (h0 a1 a2 a3 n q bd fr : Nat) (gR gQ : Nat → Nat) (ro : Nat → Option Nat) (cG : ClassId) (cI : ClassId) (L : List Nat) (pl : Nat → Nat) (pr : Nat → Nat → Nat) (j0 : Nat) (hn : n < 1000) (hok : eqOK n gR gQ L pl) (hj0 : j0 < n) (hro : ∀ j, j < n → ∀ r, ro j = some r → r < n) : Met l yX1_pressesOf wsX1_pressesOf ({ frames := 0, cells := 0, slots := 0, locals := 0 }) (va_Pc [.ref h0, .int (nI (j0))] (fun U => U.heap.size = sz ∧ va_P (dC, dI) vwCl ([(h0, .inr (2, [.int (nI (n)), .int (nI (q)), .ref a1, .ref a2, .ref a3, .int (nI (bd)), .int (nI (fr))])), (a1, .inl (cG, n, .inr (.inr (.inr (.inr (fun j => some (gR j))))))), (a2, .inl (cI, n, .inl (fun j => oI (ro j)))), (a3, .inl (cG, n, .inr (.inr (.inr (.inr (fun j => some (gQ j)))))))] ++ va_pl L (pI cI pl pr)) U.heap ∧ va_K (dC, dI) vwCl [(cI, .int), (cG, .array .int)] U ∧ va_D (fun _ => True) ([(h0, .inr (2, [.int (nI (n)), .int (nI (q)), .ref a1, .ref a2, .ref a3, .int (nI (bd)), .int (nI (fr))])), (a1, .inl (cG, n, .inr (.inr (.inr (.inr (fun j => some (gR j))))))), (a2, .inl (cI, n, .inl (fun j => oI (ro j)))), (a3, .inl (cG, n, .inr (.inr (.inr (.inr (fun j => some (gQ j)))))))] ++ va_pl L (pI cI pl pr)))) (va_Qi (fun (z : Int32) (_ : Unit) => z = nI (prs (fun i => pr (gR i)) ro n j0)) (fun _ t => va_P (dC, dI) vwCl ([(h0, .inr (2, [.int (nI (n)), .int (nI (q)), .ref a1, .ref a2, .ref a3, .int (nI (bd)), .int (nI (fr))])), (a1, .inl (cG, n, .inr (.inr (.inr (.inr (fun j => some (gR j))))))), (a2, .inl (cI, n, .inl (fun j => oI (ro j)))), (a3, .inl (cG, n, .inr (.inr (.inr (.inr (fun j => some (gQ j)))))))] ++ va_pl L (pI cI pl pr)) t.heap ∧ va_K (dC, dI) vwCl [(cI, .int), (cG, .array .int)] t ∧ va_D (va_A ([(h0, .inr (2, [.int (nI (n)), .int (nI (q)), .ref a1, .ref a2, .ref a3, .int (nI (bd)), .int (nI (fr))])), (a1, .inl (cG, n, .inr (.inr (.inr (.inr (fun j => some (gR j))))))), (a2, .inl (cI, n, .inl (fun j => oI (ro j)))), (a3, .inl (cG, n, .inr (.inr (.inr (.inr (fun j => some (gQ j)))))))] ++ va_pl L (pI cI pl pr)) sz) ([(h0, .inr (2, [.int (nI (n)), .int (nI (q)), .ref a1, .ref a2, .ref a3, .int (nI (bd)), .int (nI (fr))])), (a1, .inl (cG, n, .inr (.inr (.inr (.inr (fun j => some (gR j))))))), (a2, .inl (cI, n, .inl (fun j => oI (ro j)))), (a3, .inl (cG, n, .inr (.inr (.inr (.inr (fun j => some (gQ j)))))))] ++ va_pl L (pI cI pl pr))) (va_A ([(h0, .inr (2, [.int (nI (n)), .int (nI (q)), .ref a1, .ref a2, .ref a3, .int (nI (bd)), .int (nI (fr))])), (a1, .inl (cG, n, .inr (.inr (.inr (.inr (fun j => some (gR j))))))), (a2, .inl (cI, n, .inl (fun j => oI (ro j)))), (a3, .inl (cG, n, .inr (.inr (.inr (.inr (fun j => some (gQ j)))))))] ++ va_pl L (pI cI pl pr)) sz)) 0 0 (va_A ([(h0, .inr (2, [.int (nI (n)), .int (nI (q)), .ref a1, .ref a2, .ref a3, .int (nI (bd)), .int (nI (fr))])), (a1, .inl (cG, n, .inr (.inr (.inr (.inr (fun j => some (gR j))))))), (a2, .inl (cI, n, .inl (fun j => oI (ro j)))), (a3, .inl (cG, n, .inr (.inr (.inr (.inr (fun j => some (gQ j)))))))] ++ va_pl L (pI cI pl pr)) sz) := by
  refine Met.ofW (cc := cX1_pressesOf) (maxL := 3) (ret := (some .int)) (by decide) rfl ?_
  intro zp ze s m args below meth zc s₁ B hml hv
  obtain ⟨hargs, hsz, hP, hK, hD0⟩ := hv
  have hx := B.exec
  have hb := B.bytes
  have hr := B.returns
  have hts := atoms_spec (ws := wsX1_pressesOf) B.pre
  have hown : s.vm.findClass RX1 = some m.cls := findClass_of_methodNamed B.named
  have hlocks := B.notSynchronized
  subst hsz
  obtain ⟨Q, hQ⟩ : ∃ Q, Q = MQ below (va_Qi (fun (z : Int32) (_ : Unit) => z = nI (prs (fun i => pr (gR i)) ro n j0)) (fun _ t => va_P (dC, dI) vwCl ([(h0, .inr (2, [.int (nI (n)), .int (nI (q)), .ref a1, .ref a2, .ref a3, .int (nI (bd)), .int (nI (fr))])), (a1, .inl (cG, n, .inr (.inr (.inr (.inr (fun j => some (gR j))))))), (a2, .inl (cI, n, .inl (fun j => oI (ro j)))), (a3, .inl (cG, n, .inr (.inr (.inr (.inr (fun j => some (gQ j)))))))] ++ va_pl L (pI cI pl pr)) t.heap ∧ va_K (dC, dI) vwCl [(cI, .int), (cG, .array .int)] t ∧ va_D (va_A ([(h0, .inr (2, [.int (nI (n)), .int (nI (q)), .ref a1, .ref a2, .ref a3, .int (nI (bd)), .int (nI (fr))])), (a1, .inl (cG, n, .inr (.inr (.inr (.inr (fun j => some (gR j))))))), (a2, .inl (cI, n, .inl (fun j => oI (ro j)))), (a3, .inl (cG, n, .inr (.inr (.inr (.inr (fun j => some (gQ j)))))))] ++ va_pl L (pI cI pl pr)) s.heap.size) ([(h0, .inr (2, [.int (nI (n)), .int (nI (q)), .ref a1, .ref a2, .ref a3, .int (nI (bd)), .int (nI (fr))])), (a1, .inl (cG, n, .inr (.inr (.inr (.inr (fun j => some (gR j))))))), (a2, .inl (cI, n, .inl (fun j => oI (ro j)))), (a3, .inl (cG, n, .inr (.inr (.inr (.inr (fun j => some (gQ j)))))))] ++ va_pl L (pI cI pl pr))) (va_A ([(h0, .inr (2, [.int (nI (n)), .int (nI (q)), .ref a1, .ref a2, .ref a3, .int (nI (bd)), .int (nI (fr))])), (a1, .inl (cG, n, .inr (.inr (.inr (.inr (fun j => some (gR j))))))), (a2, .inl (cI, n, .inl (fun j => oI (ro j)))), (a3, .inl (cG, n, .inr (.inr (.inr (.inr (fun j => some (gQ j)))))))] ++ va_pl L (pI cI pl pr)) s.heap.size)) args s 0 0 (va_A ([(h0, .inr (2, [.int (nI (n)), .int (nI (q)), .ref a1, .ref a2, .ref a3, .int (nI (bd)), .int (nI (fr))])), (a1, .inl (cG, n, .inr (.inr (.inr (.inr (fun j => some (gR j))))))), (a2, .inl (cI, n, .inl (fun j => oI (ro j)))), (a3, .inl (cG, n, .inr (.inr (.inr (.inr (fun j => some (gQ j)))))))] ++ va_pl L (pI cI pl pr)) s.heap.size) := ⟨_, rfl⟩
  rw [← hQ]
  have hD := hD0.self (sz := s.heap.size)
  generalize hAe : (va_A ([(h0, .inr (2, [.int (nI (n)), .int (nI (q)), .ref a1, .ref a2, .ref a3, .int (nI (bd)), .int (nI (fr))])), (a1, .inl (cG, n, .inr (.inr (.inr (.inr (fun j => some (gR j))))))), (a2, .inl (cI, n, .inl (fun j => oI (ro j)))), (a3, .inl (cG, n, .inr (.inr (.inr (.inr (fun j => some (gQ j)))))))] ++ va_pl L (pI cI pl pr)) s.heap.size) = A at hD hQ
  have hA : ∀ q : Nat, s.heap.size ≤ q → A q := fun q h => by rw [← hAe]; exact Or.inr h
  have hS : va_S A s.heap s.heap [] := va_S.rf
  have hl := lv_entry ([.ref h0, .int (nI (j0))]) (n := 3) (Nat.le_of_ble_eq_true rfl)
  generalize hen : entryFrame m args 3 = fr
  rw [hargs, lg_entry_eq] at hen
  subst hen
  generalize (lg_sl ([.ref h0, .int (nI (j0))]) ++ List.replicate (3 - (lg_sl ([.ref h0, .int (nI (j0))])).length) Slot.unset).toArray = ls at hl ⊢
  have hl : lv_has ls 3 [(0, .ref h0), (1, .int (nI (j0)))] := hl
  have hinX1 : ∀ w ∈ wsX10, w ∈ wsX1_pressesOf := by decide +kernel
  have hf9 := hts (.fieldLink RX1 9 "LightRows$Equations" "size" "I") (by decide +kernel)
  have hf20 := hts (.fieldLink RX1 20 "LightRows$Equations" "rows" "[[I") (by decide +kernel)
  have hf23 := hts (.fieldLink RX1 23 "LightRows$Equations" "rowOf" "[I") (by decide +kernel)
  refine lv_aload_n hx hb dX1_pressesOf_0 rfl (lv_at hl 0 rfl) ?_
  refine va_get (D := (dC, dI)) (ci := 2) (v := .ref a2) (C := RX1) (T := TX1) (N := 7) hx hb hts hinX1 hown hK hP 0 rfl rfl 3 (by decide) hf23 (fun _ h9 => h9) rfl dX1_pressesOf_1 ?_
  refine lv_iload_n hx hb dX1_pressesOf_4 rfl (lv_at hl 1 rfl) ?_
  refine ra_ld (g := oI) (F := ro) hx hb hK hP 2 0 rfl rfl (by omega) (by omega) dX1_pressesOf_5 ?_
  rcases ho : ro j0 with _ | r
  · skip
    refine tp_i (y := (-1)) rfl ?_
    refine lv_istore_n (lv' := [(2, .int ((-1))), (0, .ref h0), (1, .int (nI (j0)))]) hx hb dX1_pressesOf_6 rfl hl (by decide) rfl (fun ls hl => ?_)
    refine lv_iload_n hx hb dX1_pressesOf_7 rfl (lv_at hl 0 rfl) ?_
    refine lv_iconst (v := (-1)) hx hb dX1_pressesOf_8 (by decide) ?_
    refine lv_icmp_ne (tgt := 16) hx hb dX1_pressesOf_9 (by decide) (fun c => ?_) (fun c => ?_)
    · skip
      exact absurd rfl c
    · skip
      refine lv_iconst (v := nI 0) hx hb dX1_pressesOf_12 (by decide) ?_
      refine lv_goto (tgt := 27) hx hb dX1_pressesOf_13 (by decide) ?_
      rw [hQ]
      exact W.iret (v := nI (0)) hx hb hr (fun t ht hW => ⟨⟨_, (), rfl, by unfold prs; rw [ho], by rw [ht]; exact hP, va_K.moved hW.alike hK, hD⟩, hS.F ht⟩) hS.2.2 dX1_pressesOf_27
  · skip
    refine tp_i (y := nI r) rfl ?_
    have hr1 := hro j0 hj0 r ho
    have h1 := hok.1 r hr1
    refine lv_istore_n (lv' := [(2, .int (nI (r))), (0, .ref h0), (1, .int (nI (j0)))]) hx hb dX1_pressesOf_6 rfl hl (by decide) rfl (fun ls hl => ?_)
    refine lv_iload_n hx hb dX1_pressesOf_7 rfl (lv_at hl 0 rfl) ?_
    refine lv_iconst (v := (-1)) hx hb dX1_pressesOf_8 (by decide) ?_
    refine lv_icmp_ne (tgt := 16) hx hb dX1_pressesOf_9 (by decide) (fun c => ?_) (fun c => ?_)
    · skip
      refine lv_aload_n hx hb dX1_pressesOf_16 rfl (lv_at hl 1 rfl) ?_
      refine va_get (D := (dC, dI)) (ci := 2) (v := .ref a1) (C := RX1) (T := TX1) (N := 7) hx hb hts hinX1 hown hK hP 0 rfl rfl 2 (by decide) hf20 (fun _ h9 => h9) rfl dX1_pressesOf_17 ?_
      refine lv_iload_n hx hb dX1_pressesOf_20 rfl (lv_at hl 0 rfl) ?_
      refine rg_ld (G := gR) hx hb hK hP 1 1 rfl rfl (by omega) (by omega) dX1_pressesOf_21 ?_
      refine lv_aload_n hx hb dX1_pressesOf_22 rfl (lv_at hl 1 rfl) ?_
      refine va_get (D := (dC, dI)) (ci := 2) (v := .int (nI (n))) (C := RX1) (T := TX1) (N := 7) hx hb hts hinX1 hown hK hP 0 rfl rfl 0 (by decide) hf9 (fun _ h9 => h9) rfl dX1_pressesOf_23 ?_
      refine rp_ld hx hb hK hP 0 rfl (h1.1) (by omega) (by omega) dX1_pressesOf_26 ?_
      rw [hQ]
      exact W.iret (v := nI (pr (gR r) n)) hx hb hr (fun t ht hW => ⟨⟨_, (), rfl, by unfold prs; rw [ho], by rw [ht]; exact hP, va_K.moved hW.alike hK, hD⟩, hS.F ht⟩) hS.2.2 dX1_pressesOf_27
    · skip
      exact absurd c (nI_nm1 (by omega))

set_option maxHeartbeats 4000000 in
set_option maxRecDepth 100000 in
theorem c_X1_quietPattern (l : Launch) (dC : Nat → ClassId) (dI : Nat → Nat → Nat) (sz : Nat) (h0 a1 a2 a3 n q bd fr : Nat) (gR gQ : Nat → Nat) (ro : Nat → Option Nat) (cG : ClassId) (cI : ClassId) (L : List Nat) (pl : Nat → Nat) (pr : Nat → Nat → Nat) (k0 : Nat) (hn : n < 1000) (hk0 : k0 < n) : Met l yX1_quietPattern wsX1_quietPattern ({ frames := 0, cells := 0, slots := 0, locals := 0 }) (va_Pc [.ref h0, .int (nI (k0))] (fun U => U.heap.size = sz ∧ va_P (dC, dI) vwCl ([(h0, .inr (2, [.int (nI (n)), .int (nI (q)), .ref a1, .ref a2, .ref a3, .int (nI (bd)), .int (nI (fr))])), (a1, .inl (cG, n, .inr (.inr (.inr (.inr (fun j => some (gR j))))))), (a2, .inl (cI, n, .inl (fun j => oI (ro j)))), (a3, .inl (cG, n, .inr (.inr (.inr (.inr (fun j => some (gQ j)))))))] ++ va_pl L (pI cI pl pr)) U.heap ∧ va_K (dC, dI) vwCl [(cI, .int), (cG, .array .int)] U ∧ va_D (fun _ => True) ([(h0, .inr (2, [.int (nI (n)), .int (nI (q)), .ref a1, .ref a2, .ref a3, .int (nI (bd)), .int (nI (fr))])), (a1, .inl (cG, n, .inr (.inr (.inr (.inr (fun j => some (gR j))))))), (a2, .inl (cI, n, .inl (fun j => oI (ro j)))), (a3, .inl (cG, n, .inr (.inr (.inr (.inr (fun j => some (gQ j)))))))] ++ va_pl L (pI cI pl pr)))) (va_Qr (fun _ : Unit => True) (fun _ a t => a = gQ k0 ∧ va_P (dC, dI) vwCl ([(h0, .inr (2, [.int (nI (n)), .int (nI (q)), .ref a1, .ref a2, .ref a3, .int (nI (bd)), .int (nI (fr))])), (a1, .inl (cG, n, .inr (.inr (.inr (.inr (fun j => some (gR j))))))), (a2, .inl (cI, n, .inl (fun j => oI (ro j)))), (a3, .inl (cG, n, .inr (.inr (.inr (.inr (fun j => some (gQ j)))))))] ++ va_pl L (pI cI pl pr)) t.heap ∧ va_K (dC, dI) vwCl [(cI, .int), (cG, .array .int)] t ∧ va_D (va_A ([(h0, .inr (2, [.int (nI (n)), .int (nI (q)), .ref a1, .ref a2, .ref a3, .int (nI (bd)), .int (nI (fr))])), (a1, .inl (cG, n, .inr (.inr (.inr (.inr (fun j => some (gR j))))))), (a2, .inl (cI, n, .inl (fun j => oI (ro j)))), (a3, .inl (cG, n, .inr (.inr (.inr (.inr (fun j => some (gQ j)))))))] ++ va_pl L (pI cI pl pr)) sz) ([(h0, .inr (2, [.int (nI (n)), .int (nI (q)), .ref a1, .ref a2, .ref a3, .int (nI (bd)), .int (nI (fr))])), (a1, .inl (cG, n, .inr (.inr (.inr (.inr (fun j => some (gR j))))))), (a2, .inl (cI, n, .inl (fun j => oI (ro j)))), (a3, .inl (cG, n, .inr (.inr (.inr (.inr (fun j => some (gQ j)))))))] ++ va_pl L (pI cI pl pr))) (va_A ([(h0, .inr (2, [.int (nI (n)), .int (nI (q)), .ref a1, .ref a2, .ref a3, .int (nI (bd)), .int (nI (fr))])), (a1, .inl (cG, n, .inr (.inr (.inr (.inr (fun j => some (gR j))))))), (a2, .inl (cI, n, .inl (fun j => oI (ro j)))), (a3, .inl (cG, n, .inr (.inr (.inr (.inr (fun j => some (gQ j)))))))] ++ va_pl L (pI cI pl pr)) sz)) 0 0 (va_A ([(h0, .inr (2, [.int (nI (n)), .int (nI (q)), .ref a1, .ref a2, .ref a3, .int (nI (bd)), .int (nI (fr))])), (a1, .inl (cG, n, .inr (.inr (.inr (.inr (fun j => some (gR j))))))), (a2, .inl (cI, n, .inl (fun j => oI (ro j)))), (a3, .inl (cG, n, .inr (.inr (.inr (.inr (fun j => some (gQ j)))))))] ++ va_pl L (pI cI pl pr)) sz) := by
  refine Met.ofW (cc := cX1_quietPattern) (maxL := 2) (ret := (some (.array .int))) (by decide) rfl ?_
  intro zp ze s m args below meth zc s₁ B hml hv
  obtain ⟨hargs, hsz, hP, hK, hD0⟩ := hv
  have hx := B.exec
  have hb := B.bytes
  have hr := B.returns
  have hts := atoms_spec (ws := wsX1_quietPattern) B.pre
  have hown : s.vm.findClass RX1 = some m.cls := findClass_of_methodNamed B.named
  have hlocks := B.notSynchronized
  subst hsz
  obtain ⟨Q, hQ⟩ : ∃ Q, Q = MQ below (va_Qr (fun _ : Unit => True) (fun _ a t => a = gQ k0 ∧ va_P (dC, dI) vwCl ([(h0, .inr (2, [.int (nI (n)), .int (nI (q)), .ref a1, .ref a2, .ref a3, .int (nI (bd)), .int (nI (fr))])), (a1, .inl (cG, n, .inr (.inr (.inr (.inr (fun j => some (gR j))))))), (a2, .inl (cI, n, .inl (fun j => oI (ro j)))), (a3, .inl (cG, n, .inr (.inr (.inr (.inr (fun j => some (gQ j)))))))] ++ va_pl L (pI cI pl pr)) t.heap ∧ va_K (dC, dI) vwCl [(cI, .int), (cG, .array .int)] t ∧ va_D (va_A ([(h0, .inr (2, [.int (nI (n)), .int (nI (q)), .ref a1, .ref a2, .ref a3, .int (nI (bd)), .int (nI (fr))])), (a1, .inl (cG, n, .inr (.inr (.inr (.inr (fun j => some (gR j))))))), (a2, .inl (cI, n, .inl (fun j => oI (ro j)))), (a3, .inl (cG, n, .inr (.inr (.inr (.inr (fun j => some (gQ j)))))))] ++ va_pl L (pI cI pl pr)) s.heap.size) ([(h0, .inr (2, [.int (nI (n)), .int (nI (q)), .ref a1, .ref a2, .ref a3, .int (nI (bd)), .int (nI (fr))])), (a1, .inl (cG, n, .inr (.inr (.inr (.inr (fun j => some (gR j))))))), (a2, .inl (cI, n, .inl (fun j => oI (ro j)))), (a3, .inl (cG, n, .inr (.inr (.inr (.inr (fun j => some (gQ j)))))))] ++ va_pl L (pI cI pl pr))) (va_A ([(h0, .inr (2, [.int (nI (n)), .int (nI (q)), .ref a1, .ref a2, .ref a3, .int (nI (bd)), .int (nI (fr))])), (a1, .inl (cG, n, .inr (.inr (.inr (.inr (fun j => some (gR j))))))), (a2, .inl (cI, n, .inl (fun j => oI (ro j)))), (a3, .inl (cG, n, .inr (.inr (.inr (.inr (fun j => some (gQ j)))))))] ++ va_pl L (pI cI pl pr)) s.heap.size)) args s 0 0 (va_A ([(h0, .inr (2, [.int (nI (n)), .int (nI (q)), .ref a1, .ref a2, .ref a3, .int (nI (bd)), .int (nI (fr))])), (a1, .inl (cG, n, .inr (.inr (.inr (.inr (fun j => some (gR j))))))), (a2, .inl (cI, n, .inl (fun j => oI (ro j)))), (a3, .inl (cG, n, .inr (.inr (.inr (.inr (fun j => some (gQ j)))))))] ++ va_pl L (pI cI pl pr)) s.heap.size) := ⟨_, rfl⟩
  rw [← hQ]
  have hD := hD0.self (sz := s.heap.size)
  generalize hAe : (va_A ([(h0, .inr (2, [.int (nI (n)), .int (nI (q)), .ref a1, .ref a2, .ref a3, .int (nI (bd)), .int (nI (fr))])), (a1, .inl (cG, n, .inr (.inr (.inr (.inr (fun j => some (gR j))))))), (a2, .inl (cI, n, .inl (fun j => oI (ro j)))), (a3, .inl (cG, n, .inr (.inr (.inr (.inr (fun j => some (gQ j)))))))] ++ va_pl L (pI cI pl pr)) s.heap.size) = A at hD hQ
  have hA : ∀ q : Nat, s.heap.size ≤ q → A q := fun q h => by rw [← hAe]; exact Or.inr h
  have hS : va_S A s.heap s.heap [] := va_S.rf
  have hl := lv_entry ([.ref h0, .int (nI (k0))]) (n := 2) (Nat.le_of_ble_eq_true rfl)
  generalize hen : entryFrame m args 2 = fr
  rw [hargs, lg_entry_eq] at hen
  subst hen
  generalize (lg_sl ([.ref h0, .int (nI (k0))]) ++ List.replicate (2 - (lg_sl ([.ref h0, .int (nI (k0))])).length) Slot.unset).toArray = ls at hl ⊢
  have hl : lv_has ls 2 [(0, .ref h0), (1, .int (nI (k0)))] := hl
  have hinX1 : ∀ w ∈ wsX10, w ∈ wsX1_quietPattern := by decide +kernel
  have hf27 := hts (.fieldLink RX1 27 "LightRows$Equations" "quietPatterns" "[[I") (by decide +kernel)
  refine lv_aload_n hx hb dX1_quietPattern_0 rfl (lv_at hl 0 rfl) ?_
  refine va_get (D := (dC, dI)) (ci := 2) (v := .ref a3) (C := RX1) (T := TX1) (N := 7) hx hb hts hinX1 hown hK hP 0 rfl rfl 4 (by decide) hf27 (fun _ h9 => h9) rfl dX1_quietPattern_1 ?_
  refine lv_iload_n hx hb dX1_quietPattern_4 rfl (lv_at hl 1 rfl) ?_
  refine rg_ld (G := gQ) hx hb hK hP 3 1 rfl rfl (by omega) (by omega) dX1_quietPattern_5 ?_
  rw [hQ]
  exact W.aret (v := .ref (gQ k0)) (rt := .array .int) hx hb hr (Or.inr ⟨_, rfl⟩) (Or.inr ⟨_, rfl⟩) (fun t ht hW => ⟨⟨(), _, rfl, trivial, rfl, by rw [ht]; exact hP, va_K.moved hW.alike hK, hD⟩, hS.F ht⟩) hS.2.2 dX1_quietPattern_6

set_option maxHeartbeats 4000000 in
set_option maxRecDepth 100000 in
theorem c_X1_answersUpTo (l : Launch) (dC : Nat → ClassId) (dI : Nat → Nat → Nat) (sz : Nat) (h0 a1 a2 a3 n q bd fr : Nat) (gR gQ : Nat → Nat) (ro : Nat → Option Nat) (cG : ClassId) (cI : ClassId) (L : List Nat) (pl : Nat → Nat) (pr : Nat → Nat → Nat) (lim : Nat) (hn : n < 1000) (hok : eqOK n gR gQ L pl) (hbd : bd ≤ n) (hfr : fr ≤ n) (bx : ∀ i, i < n → pr (gR i) n < 100) (hq : 0 < q) (hq2 : q < 100) (hlim : lim < 100000) : Met l yX1_answersUpTo wsX1_answersUpTo ({ frames := 1, cells := 0, slots := 0, locals := 21 }) (va_Pc [.ref h0, .int (nI (lim))] (fun U => U.heap.size = sz ∧ va_P (dC, dI) vwCl ([(h0, .inr (2, [.int (nI (n)), .int (nI (q)), .ref a1, .ref a2, .ref a3, .int (nI (bd)), .int (nI (fr))])), (a1, .inl (cG, n, .inr (.inr (.inr (.inr (fun j => some (gR j))))))), (a2, .inl (cI, n, .inl (fun j => oI (ro j)))), (a3, .inl (cG, n, .inr (.inr (.inr (.inr (fun j => some (gQ j)))))))] ++ va_pl L (pI cI pl pr)) U.heap ∧ va_K (dC, dI) vwCl [(cI, .int), (cG, .array .int)] U ∧ va_D (fun _ => True) ([(h0, .inr (2, [.int (nI (n)), .int (nI (q)), .ref a1, .ref a2, .ref a3, .int (nI (bd)), .int (nI (fr))])), (a1, .inl (cG, n, .inr (.inr (.inr (.inr (fun j => some (gR j))))))), (a2, .inl (cI, n, .inl (fun j => oI (ro j)))), (a3, .inl (cG, n, .inr (.inr (.inr (.inr (fun j => some (gQ j)))))))] ++ va_pl L (pI cI pl pr)))) (va_Qi (fun (z : Int32) (_ : Unit) => z = nI (if agr (fun i => pr (gR i)) n (n - bd) bd = true then aut q lim fr 1 else 0)) (fun _ t => va_P (dC, dI) vwCl ([(h0, .inr (2, [.int (nI (n)), .int (nI (q)), .ref a1, .ref a2, .ref a3, .int (nI (bd)), .int (nI (fr))])), (a1, .inl (cG, n, .inr (.inr (.inr (.inr (fun j => some (gR j))))))), (a2, .inl (cI, n, .inl (fun j => oI (ro j)))), (a3, .inl (cG, n, .inr (.inr (.inr (.inr (fun j => some (gQ j)))))))] ++ va_pl L (pI cI pl pr)) t.heap ∧ va_K (dC, dI) vwCl [(cI, .int), (cG, .array .int)] t ∧ va_D (va_A ([(h0, .inr (2, [.int (nI (n)), .int (nI (q)), .ref a1, .ref a2, .ref a3, .int (nI (bd)), .int (nI (fr))])), (a1, .inl (cG, n, .inr (.inr (.inr (.inr (fun j => some (gR j))))))), (a2, .inl (cI, n, .inl (fun j => oI (ro j)))), (a3, .inl (cG, n, .inr (.inr (.inr (.inr (fun j => some (gQ j)))))))] ++ va_pl L (pI cI pl pr)) sz) ([(h0, .inr (2, [.int (nI (n)), .int (nI (q)), .ref a1, .ref a2, .ref a3, .int (nI (bd)), .int (nI (fr))])), (a1, .inl (cG, n, .inr (.inr (.inr (.inr (fun j => some (gR j))))))), (a2, .inl (cI, n, .inl (fun j => oI (ro j)))), (a3, .inl (cG, n, .inr (.inr (.inr (.inr (fun j => some (gQ j)))))))] ++ va_pl L (pI cI pl pr))) (va_A ([(h0, .inr (2, [.int (nI (n)), .int (nI (q)), .ref a1, .ref a2, .ref a3, .int (nI (bd)), .int (nI (fr))])), (a1, .inl (cG, n, .inr (.inr (.inr (.inr (fun j => some (gR j))))))), (a2, .inl (cI, n, .inl (fun j => oI (ro j)))), (a3, .inl (cG, n, .inr (.inr (.inr (.inr (fun j => some (gQ j)))))))] ++ va_pl L (pI cI pl pr)) sz)) 0 0 (va_A ([(h0, .inr (2, [.int (nI (n)), .int (nI (q)), .ref a1, .ref a2, .ref a3, .int (nI (bd)), .int (nI (fr))])), (a1, .inl (cG, n, .inr (.inr (.inr (.inr (fun j => some (gR j))))))), (a2, .inl (cI, n, .inl (fun j => oI (ro j)))), (a3, .inl (cG, n, .inr (.inr (.inr (.inr (fun j => some (gQ j)))))))] ++ va_pl L (pI cI pl pr)) sz) := by
  refine Met.ofW (cc := cX1_answersUpTo) (maxL := 4) (ret := (some .int)) (by decide) rfl ?_
  intro zp ze s m args below meth zc s₁ B hml hv
  obtain ⟨hargs, hsz, hP, hK, hD0⟩ := hv
  have hx := B.exec
  have hb := B.bytes
  have hr := B.returns
  have hts := atoms_spec (ws := wsX1_answersUpTo) B.pre
  have hown : s.vm.findClass RX1 = some m.cls := findClass_of_methodNamed B.named
  have hlocks := B.notSynchronized
  subst hsz
  obtain ⟨Q, hQ⟩ : ∃ Q, Q = MQ below (va_Qi (fun (z : Int32) (_ : Unit) => z = nI (if agr (fun i => pr (gR i)) n (n - bd) bd = true then aut q lim fr 1 else 0)) (fun _ t => va_P (dC, dI) vwCl ([(h0, .inr (2, [.int (nI (n)), .int (nI (q)), .ref a1, .ref a2, .ref a3, .int (nI (bd)), .int (nI (fr))])), (a1, .inl (cG, n, .inr (.inr (.inr (.inr (fun j => some (gR j))))))), (a2, .inl (cI, n, .inl (fun j => oI (ro j)))), (a3, .inl (cG, n, .inr (.inr (.inr (.inr (fun j => some (gQ j)))))))] ++ va_pl L (pI cI pl pr)) t.heap ∧ va_K (dC, dI) vwCl [(cI, .int), (cG, .array .int)] t ∧ va_D (va_A ([(h0, .inr (2, [.int (nI (n)), .int (nI (q)), .ref a1, .ref a2, .ref a3, .int (nI (bd)), .int (nI (fr))])), (a1, .inl (cG, n, .inr (.inr (.inr (.inr (fun j => some (gR j))))))), (a2, .inl (cI, n, .inl (fun j => oI (ro j)))), (a3, .inl (cG, n, .inr (.inr (.inr (.inr (fun j => some (gQ j)))))))] ++ va_pl L (pI cI pl pr)) s.heap.size) ([(h0, .inr (2, [.int (nI (n)), .int (nI (q)), .ref a1, .ref a2, .ref a3, .int (nI (bd)), .int (nI (fr))])), (a1, .inl (cG, n, .inr (.inr (.inr (.inr (fun j => some (gR j))))))), (a2, .inl (cI, n, .inl (fun j => oI (ro j)))), (a3, .inl (cG, n, .inr (.inr (.inr (.inr (fun j => some (gQ j)))))))] ++ va_pl L (pI cI pl pr))) (va_A ([(h0, .inr (2, [.int (nI (n)), .int (nI (q)), .ref a1, .ref a2, .ref a3, .int (nI (bd)), .int (nI (fr))])), (a1, .inl (cG, n, .inr (.inr (.inr (.inr (fun j => some (gR j))))))), (a2, .inl (cI, n, .inl (fun j => oI (ro j)))), (a3, .inl (cG, n, .inr (.inr (.inr (.inr (fun j => some (gQ j)))))))] ++ va_pl L (pI cI pl pr)) s.heap.size)) args s 0 0 (va_A ([(h0, .inr (2, [.int (nI (n)), .int (nI (q)), .ref a1, .ref a2, .ref a3, .int (nI (bd)), .int (nI (fr))])), (a1, .inl (cG, n, .inr (.inr (.inr (.inr (fun j => some (gR j))))))), (a2, .inl (cI, n, .inl (fun j => oI (ro j)))), (a3, .inl (cG, n, .inr (.inr (.inr (.inr (fun j => some (gQ j)))))))] ++ va_pl L (pI cI pl pr)) s.heap.size) := ⟨_, rfl⟩
  rw [← hQ]
  have hD := hD0.self (sz := s.heap.size)
  generalize hAe : (va_A ([(h0, .inr (2, [.int (nI (n)), .int (nI (q)), .ref a1, .ref a2, .ref a3, .int (nI (bd)), .int (nI (fr))])), (a1, .inl (cG, n, .inr (.inr (.inr (.inr (fun j => some (gR j))))))), (a2, .inl (cI, n, .inl (fun j => oI (ro j)))), (a3, .inl (cG, n, .inr (.inr (.inr (.inr (fun j => some (gQ j)))))))] ++ va_pl L (pI cI pl pr)) s.heap.size) = A at hD hQ
  have hA : ∀ q : Nat, s.heap.size ≤ q → A q := fun q h => by rw [← hAe]; exact Or.inr h
  have hS : va_S A s.heap s.heap [] := va_S.rf
  have hl := lv_entry ([.ref h0, .int (nI (lim))]) (n := 4) (Nat.le_of_ble_eq_true rfl)
  generalize hen : entryFrame m args 4 = fr
  rw [hargs, lg_entry_eq] at hen
  subst hen
  generalize (lg_sl ([.ref h0, .int (nI (lim))]) ++ List.replicate (4 - (lg_sl ([.ref h0, .int (nI (lim))])).length) Slot.unset).toArray = ls at hl ⊢
  have hl : lv_has ls 4 [(0, .ref h0), (1, .int (nI (lim)))] := hl
  have hinX1 : ∀ w ∈ wsX10, w ∈ wsX1_answersUpTo := by decide +kernel
  have hf9 := hts (.fieldLink RX1 9 "LightRows$Equations" "size" "I") (by decide +kernel)
  have hf15 := hts (.fieldLink RX1 15 "LightRows$Equations" "modulus" "I") (by decide +kernel)
  have hf20 := hts (.fieldLink RX1 20 "LightRows$Equations" "rows" "[[I") (by decide +kernel)
  have hf30 := hts (.fieldLink RX1 30 "LightRows$Equations" "bound" "I") (by decide +kernel)
  have hf33 := hts (.fieldLink RX1 33 "LightRows$Equations" "free" "I") (by decide +kernel)
  refine lv_aload_n hx hb dX1_answersUpTo_0 rfl (lv_at hl 0 rfl) ?_
  have hPc := hP.part (cx := [(h0, .inr (2, [.int (nI (n)), .int (nI (q)), .ref a1, .ref a2, .ref a3, .int (nI (bd)), .int (nI (fr))])), (a1, .inl (cG, n, .inr (.inr (.inr (.inr (fun j => some (gR j))))))), (a2, .inl (cI, n, .inl (fun j => oI (ro j)))), (a3, .inl (cG, n, .inr (.inr (.inr (.inr (fun j => some (gQ j)))))))]) [0, 1, 2, 3] rfl
  have hDc := hD.part (cx := [(h0, .inr (2, [.int (nI (n)), .int (nI (q)), .ref a1, .ref a2, .ref a3, .int (nI (bd)), .int (nI (fr))])), (a1, .inl (cG, n, .inr (.inr (.inr (.inr (fun j => some (gR j))))))), (a2, .inl (cI, n, .inl (fun j => oI (ro j)))), (a3, .inl (cG, n, .inr (.inr (.inr (.inr (fun j => some (gQ j)))))))]) [0, 1, 2, 3] (by decide) rfl
  have hFc := va_freeP (cx := [(h0, .inr (2, [.int (nI (n)), .int (nI (q)), .ref a1, .ref a2, .ref a3, .int (nI (bd)), .int (nI (fr))])), (a1, .inl (cG, n, .inr (.inr (.inr (.inr (fun j => some (gR j))))))), (a2, .inl (cI, n, .inl (fun j => oI (ro j)))), (a3, .inl (cG, n, .inr (.inr (.inr (.inr (fun j => some (gQ j)))))))]) hD hS hA [0, 1, 2, 3] rfl
  have hKc := hK.sub (tys' := [(cI, .int), (cG, .array .int)]) [0, 1] rfl
  refine va_calli (va_runV (As := []) (rest := []) ⟨hx, hb, hml, hown, hts⟩ (c_X1_agree l dC dI s.heap.size h0 a1 a2 a3 n q bd fr gR gQ ro cG cI L pl pr hn hok hbd bx) (cwV 0 hts gX1_answersUpTo_X1_agree rfl rfl rfl (by decide +kernel) ⟨Nat.le_of_ble_eq_true rfl, Nat.le_of_ble_eq_true rfl⟩) ⟨fun a U g mk q => by obtain ⟨q0, q1, qP, qK, qD⟩ := q; exact ⟨q0, q1, qP, va_K.moved (u := U) (U := U.calling g mk a) (Vm.Alike.refl U.vm) qK, qD⟩, va_recv hKc hPc (ci := 2) (q0 := 0) rfl rfl, fun U hU hW => ⟨rfl, by rw [hU], by rw [hU]; exact hPc, va_K.moved hW.alike hKc, hDc.weaken (fun _ _ _ _ => trivial)⟩⟩ rfl rfl hl.1 rfl (lv_room (Nat.le_of_ble_eq_true rfl)) dX1_answersUpTo_1 ⟨Nat.zero_le _, Nat.zero_le _⟩) hS (fun q _ h => hFc q h) hFc (fun r1 u t H1 locs ht hvm hw hB hz1 hk1 hS => ?_)
  obtain ⟨hP1, hK1, hD1⟩ := hB
  rw [ht] at hP1
  try dsimp only at hw
  obtain ⟨hP, hD⟩ := va_joinP (wr := []) (rx := [(h0, .inr (2, [.int (nI (n)), .int (nI (q)), .ref a1, .ref a2, .ref a3, .int (nI (bd)), .int (nI (fr))])), (a1, .inl (cG, n, .inr (.inr (.inr (.inr (fun j => some (gR j))))))), (a2, .inl (cI, n, .inl (fun j => oI (ro j)))), (a3, .inl (cG, n, .inr (.inr (.inr (.inr (fun j => some (gQ j)))))))]) (pl1 := va_pl L (pI cI pl pr)) hP hD [0, 1, 2, 3] [] rfl rfl (by decide) (by decide) hk1 hFc hP1 hD1
  generalize H1 = H at hP hS ⊢
  have hP := hP.part (cx := [(h0, .inr (2, [.int (nI (n)), .int (nI (q)), .ref a1, .ref a2, .ref a3, .int (nI (bd)), .int (nI (fr))])), (a1, .inl (cG, n, .inr (.inr (.inr (.inr (fun j => some (gR j))))))), (a2, .inl (cI, n, .inl (fun j => oI (ro j)))), (a3, .inl (cG, n, .inr (.inr (.inr (.inr (fun j => some (gQ j)))))))]) [0, 1, 2, 3] rfl
  have hD := hD.part (cx := [(h0, .inr (2, [.int (nI (n)), .int (nI (q)), .ref a1, .ref a2, .ref a3, .int (nI (bd)), .int (nI (fr))])), (a1, .inl (cG, n, .inr (.inr (.inr (.inr (fun j => some (gR j))))))), (a2, .inl (cI, n, .inl (fun j => oI (ro j)))), (a3, .inl (cG, n, .inr (.inr (.inr (.inr (fun j => some (gQ j)))))))]) [0, 1, 2, 3] (by decide) rfl
  have hP : va_P (dC, dI) vwCl ([(h0, .inr (2, [.int (nI (n)), .int (nI (q)), .ref a1, .ref a2, .ref a3, .int (nI (bd)), .int (nI (fr))])), (a1, .inl (cG, n, .inr (.inr (.inr (.inr (fun j => some (gR j))))))), (a2, .inl (cI, n, .inl (fun j => oI (ro j)))), (a3, .inl (cG, n, .inr (.inr (.inr (.inr (fun j => some (gQ j)))))))] ++ va_pl L (pI cI pl pr)) H := hP
  have hD : va_D A ([(h0, .inr (2, [.int (nI (n)), .int (nI (q)), .ref a1, .ref a2, .ref a3, .int (nI (bd)), .int (nI (fr))])), (a1, .inl (cG, n, .inr (.inr (.inr (.inr (fun j => some (gR j))))))), (a2, .inl (cI, n, .inl (fun j => oI (ro j)))), (a3, .inl (cG, n, .inr (.inr (.inr (.inr (fun j => some (gQ j)))))))] ++ va_pl L (pI cI pl pr)) := hD
  subst hw
  rcases hag : agr (fun i => pr (gR i)) n (n - bd) bd with _ | _
  · skip
    refine tp_i (y := nI 0) rfl ?_
    refine lv_if_ne (tgt := 9) hx hb dX1_answersUpTo_4 (by decide) (fun c => ?_) (fun c => ?_)
    · skip
      have c : 0 ≠ 0 := fun h => c ((nI_eq (a := 0) (b := 0) (by omega) (by omega)).mpr h)
      exact absurd rfl c
    · skip
      have c : 0 = 0 := (nI_eq (a := 0) (b := 0) (by omega) (by omega)).mp c
      refine lv_iconst (v := nI 0) hx hb dX1_answersUpTo_7 (by decide) ?_
      rw [hQ]
      exact W.iret (v := nI (0)) hx hb hr (fun t ht hW => ⟨⟨_, (), rfl, by rw [if_neg (by rw [hag]; decide)], by rw [ht]; exact hP, va_K.moved hW.alike hK, hD⟩, hS.F ht⟩) hS.2.2 dX1_answersUpTo_8
  · skip
    refine tp_i (y := nI 1) rfl ?_
    refine lv_if_ne (tgt := 9) hx hb dX1_answersUpTo_4 (by decide) (fun c => ?_) (fun c => ?_)
    · skip
      have c : 1 ≠ 0 := fun h => c ((nI_eq (a := 1) (b := 0) (by omega) (by omega)).mpr h)
      refine lv_iconst (v := nI 1) hx hb dX1_answersUpTo_9 (by decide) ?_
      refine lv_istore_n (lv' := [(2, .int (nI (1))), (0, .ref h0), (1, .int (nI (lim)))]) hx hb dX1_answersUpTo_10 rfl hl (by decide) rfl (fun ls hl => ?_)
      refine lv_iconst (v := nI 0) hx hb dX1_answersUpTo_11 (by decide) ?_
      refine lv_istore_n (lv' := [(3, .int (nI (0))), (2, .int (nI (1))), (0, .ref h0), (1, .int (nI (lim)))]) hx hb dX1_answersUpTo_12 rfl hl (by decide) rfl (fun ls hl => ?_)
      have lp : ∀ (k : Nat) (i : Nat) (z : Nat), (i + k = fr) → (z ≤ 100 * (lim + 1)) → (aut q lim fr 1 = aut q lim k z) → ∀ (H : Heap) (locs : List Loc), va_P (dC, dI) vwCl ([(h0, .inr (2, [.int (nI (n)), .int (nI (q)), .ref a1, .ref a2, .ref a3, .int (nI (bd)), .int (nI (fr))])), (a1, .inl (cG, n, .inr (.inr (.inr (.inr (fun j => some (gR j))))))), (a2, .inl (cI, n, .inl (fun j => oI (ro j)))), (a3, .inl (cG, n, .inr (.inr (.inr (.inr (fun j => some (gQ j)))))))] ++ va_pl L (pI cI pl pr)) H → va_D A ([(h0, .inr (2, [.int (nI (n)), .int (nI (q)), .ref a1, .ref a2, .ref a3, .int (nI (bd)), .int (nI (fr))])), (a1, .inl (cG, n, .inr (.inr (.inr (.inr (fun j => some (gR j))))))), (a2, .inl (cI, n, .inl (fun j => oI (ro j)))), (a3, .inl (cG, n, .inr (.inr (.inr (.inr (fun j => some (gQ j)))))))] ++ va_pl L (pI cI pl pr)) → va_S A s.heap H locs → ∀ (ls : Array Slot), lv_has ls 4 [(0, .ref h0), (1, .int (nI (lim))), (2, .int (nI (z))), (3, .int (nI (i)))] → W zp l ze (headSpec wsX1_answersUpTo ({ frames := 1, cells := 0, slots := 0, locals := 21 })).room s m args below meth zc H locs 0 0 Q (F0 m 13 ls []) := by
        intro k
        induction k with
        | zero =>
          intro i z hi hz hI H locs hP hD hS ls hl
          refine lv_iload_n hx hb dX1_answersUpTo_13 rfl (lv_at hl 3 rfl) ?_
          refine lv_aload_n hx hb dX1_answersUpTo_14 rfl (lv_at hl 0 rfl) ?_
          refine va_get (D := (dC, dI)) (ci := 2) (v := .int (nI (fr))) (C := RX1) (T := TX1) (N := 7) hx hb hts hinX1 hown hK hP 0 rfl rfl 6 (by decide) hf33 (fun _ h9 => h9) rfl dX1_answersUpTo_15 ?_
          refine lv_icmp_ge (tgt := 39) hx hb dX1_answersUpTo_18 (by decide) (fun c => ?_) (fun c => ?_)
          · skip
            have c : fr ≤ i := (nI_leI (a := fr) (b := i) (by omega) (by omega)).mp c
            refine lv_iload_n hx hb dX1_answersUpTo_39 rfl (lv_at hl 2 rfl) ?_
            rw [hQ]
            exact W.iret (v := nI (z)) hx hb hr (fun t ht hW => ⟨⟨_, (), rfl, by rw [if_pos hag, hI]; rfl, by rw [ht]; exact hP, va_K.moved hW.alike hK, hD⟩, hS.F ht⟩) hS.2.2 dX1_answersUpTo_40
          · skip
            have c : i < fr := Nat.not_le.mp (fun h => c ((nI_leI (a := fr) (b := i) (by omega) (by omega)).mpr h))
            exact absurd c (by omega)
        | succ k ih =>
          intro i z hi hz hI H locs hP hD hS ls hl
          refine lv_iload_n hx hb dX1_answersUpTo_13 rfl (lv_at hl 3 rfl) ?_
          refine lv_aload_n hx hb dX1_answersUpTo_14 rfl (lv_at hl 0 rfl) ?_
          refine va_get (D := (dC, dI)) (ci := 2) (v := .int (nI (fr))) (C := RX1) (T := TX1) (N := 7) hx hb hts hinX1 hown hK hP 0 rfl rfl 6 (by decide) hf33 (fun _ h9 => h9) rfl dX1_answersUpTo_15 ?_
          refine lv_icmp_ge (tgt := 39) hx hb dX1_answersUpTo_18 (by decide) (fun c => ?_) (fun c => ?_)
          · skip
            have c : fr ≤ i := (nI_leI (a := fr) (b := i) (by omega) (by omega)).mp c
            exact absurd c (by omega)
          · skip
            have c : i < fr := Nat.not_le.mp (fun h => c ((nI_leI (a := fr) (b := i) (by omega) (by omega)).mpr h))
            refine lv_iload_n hx hb dX1_answersUpTo_21 rfl (lv_at hl 2 rfl) ?_
            refine lv_iload_n hx hb dX1_answersUpTo_22 rfl (lv_at hl 1 rfl) ?_
            refine lv_icmp_gt (tgt := 39) hx hb dX1_answersUpTo_23 (by decide) (fun c2 => ?_) (fun c2 => ?_)
            · skip
              have c2 : lim < z := (nI_ltI (a := lim) (b := z) (by omega) (by omega)).mp c2
              refine lv_iload_n hx hb dX1_answersUpTo_39 rfl (lv_at hl 2 rfl) ?_
              rw [hQ]
              exact W.iret (v := nI (z)) hx hb hr (fun t ht hW => ⟨⟨_, (), rfl, by rw [if_pos hag, hI]; simp only [aut]; rw [if_pos c2], by rw [ht]; exact hP, va_K.moved hW.alike hK, hD⟩, hS.F ht⟩) hS.2.2 dX1_answersUpTo_40
            · skip
              have c2 : z ≤ lim := Nat.not_lt.mp (fun h => c2 ((nI_ltI (a := lim) (b := z) (by omega) (by omega)).mpr h))
              have bz : z * q ≤ 100 * (lim + 1) := by
                have := Nat.mul_le_mul c2 (show q ≤ 100 by omega)
                omega
              refine lv_iload_n hx hb dX1_answersUpTo_26 rfl (lv_at hl 2 rfl) ?_
              refine lv_aload_n hx hb dX1_answersUpTo_27 rfl (lv_at hl 0 rfl) ?_
              refine va_get (D := (dC, dI)) (ci := 2) (v := .int (nI (q))) (C := RX1) (T := TX1) (N := 7) hx hb hts hinX1 hown hK hP 0 rfl rfl 1 (by decide) hf15 (fun _ h9 => h9) rfl dX1_answersUpTo_28 ?_
              refine lv_imul hx hb dX1_answersUpTo_31 ?_
              refine tp_i (y := nI (z * q)) (pk_mul _ _) ?_
              refine lv_istore_n (lv' := [(2, .int (nI (z * q))), (0, .ref h0), (1, .int (nI (lim))), (3, .int (nI (i)))]) hx hb dX1_answersUpTo_32 rfl hl (by decide) rfl (fun ls hl => ?_)
              refine lv_iinc (v := nI (i + 1)) (lv' := [(3, .int (nI (i + 1))), (2, .int (nI (z * q))), (0, .ref h0), (1, .int (nI (lim)))]) hx hb dX1_answersUpTo_33 hl (k := 3) rfl (nI_1 _) (by decide) rfl (fun ls hl => ?_)
              refine lv_goto (tgt := 13) hx hb dX1_answersUpTo_36 (by decide) ?_
              exact ih (i + 1) (z * q) (by omega) bz (by rw [hI]; simp only [aut]; rw [if_neg (by omega)]) _ _ hP hD hS ls (lv_sub hl [2, 3, 1, 0] rfl)
      exact lp fr 0 1 (by omega) (by omega) rfl _ _ hP hD hS ls (lv_sub hl [2, 3, 1, 0] rfl)
    · skip
      have c : 1 = 0 := (nI_eq (a := 1) (b := 0) (by omega) (by omega)).mp c
      exact absurd c (by decide)
end
section
set_option maxHeartbeats 4000000 in
set_option maxRecDepth 100000 in
theorem c_X1_swap (l : Launch) (dC : Nat → ClassId) (dI : Nat → Nat → Nat) (sz : Nat) (h0 a1 a2 a3 n q bd fr : Nat) (gR gQ : Nat → Nat) (ro : Nat → Option Nat) (cG : ClassId) (cI : ClassId) (L : List Nat) (pl : Nat → Nat) (pr : Nat → Nat → Nat) (x y : Nat) (hn : n < 1000) (hok : eqOK n gR gQ L pl) (hx0 : x < n) (hy0 : y < n) : Met l yX1_swap wsX1_swap ({ frames := 0, cells := 0, slots := 0, locals := 0 }) (va_Pc [.ref h0, .int (nI (x)), .int (nI (y))] (fun U => U.heap.size = sz ∧ va_P (dC, dI) vwCl ([(h0, .inr (2, [.int (nI (n)), .int (nI (q)), .ref a1, .ref a2, .ref a3, .int (nI (bd)), .int (nI (fr))])), (a1, .inl (cG, n, .inr (.inr (.inr (.inr (fun j => some (gR j))))))), (a2, .inl (cI, n, .inl (fun j => oI (ro j)))), (a3, .inl (cG, n, .inr (.inr (.inr (.inr (fun j => some (gQ j)))))))] ++ va_pl L (pI cI pl pr)) U.heap ∧ (va_K (dC, dI) vwCl [(cI, .int), (cG, .array .int)] U ∧ grK cG cI U) ∧ va_D (fun _ => True) ([(h0, .inr (2, [.int (nI (n)), .int (nI (q)), .ref a1, .ref a2, .ref a3, .int (nI (bd)), .int (nI (fr))])), (a1, .inl (cG, n, .inr (.inr (.inr (.inr (fun j => some (gR j))))))), (a2, .inl (cI, n, .inl (fun j => oI (ro j)))), (a3, .inl (cG, n, .inr (.inr (.inr (.inr (fun j => some (gQ j)))))))] ++ va_pl L (pI cI pl pr)))) (va_Qv (fun _ : Unit => True) (fun _ t => va_P (dC, dI) vwCl ([(h0, .inr (2, [.int (nI (n)), .int (nI (q)), .ref a1, .ref a2, .ref a3, .int (nI (bd)), .int (nI (fr))])), (a1, .inl (cG, n, .inr (.inr (.inr (.inr (fun j => some ((va_up (va_up gR x (gR y)) y (gR x)) j))))))), (a2, .inl (cI, n, .inl (fun j => oI (ro j)))), (a3, .inl (cG, n, .inr (.inr (.inr (.inr (fun j => some (gQ j)))))))] ++ va_pl L (pI cI pl pr)) t.heap ∧ va_K (dC, dI) vwCl [(cI, .int), (cG, .array .int)] t ∧ va_D (va_A ([(h0, .inr (2, [.int (nI (n)), .int (nI (q)), .ref a1, .ref a2, .ref a3, .int (nI (bd)), .int (nI (fr))])), (a1, .inl (cG, n, .inr (.inr (.inr (.inr (fun j => some (gR j))))))), (a2, .inl (cI, n, .inl (fun j => oI (ro j)))), (a3, .inl (cG, n, .inr (.inr (.inr (.inr (fun j => some (gQ j)))))))] ++ va_pl L (pI cI pl pr)) sz) ([(h0, .inr (2, [.int (nI (n)), .int (nI (q)), .ref a1, .ref a2, .ref a3, .int (nI (bd)), .int (nI (fr))])), (a1, .inl (cG, n, .inr (.inr (.inr (.inr (fun j => some ((va_up (va_up gR x (gR y)) y (gR x)) j))))))), (a2, .inl (cI, n, .inl (fun j => oI (ro j)))), (a3, .inl (cG, n, .inr (.inr (.inr (.inr (fun j => some (gQ j)))))))] ++ va_pl L (pI cI pl pr))) (va_A ([(h0, .inr (2, [.int (nI (n)), .int (nI (q)), .ref a1, .ref a2, .ref a3, .int (nI (bd)), .int (nI (fr))])), (a1, .inl (cG, n, .inr (.inr (.inr (.inr (fun j => some (gR j))))))), (a2, .inl (cI, n, .inl (fun j => oI (ro j)))), (a3, .inl (cG, n, .inr (.inr (.inr (.inr (fun j => some (gQ j)))))))] ++ va_pl L (pI cI pl pr)) sz)) 0 0 (va_A ([(h0, .inr (2, [.int (nI (n)), .int (nI (q)), .ref a1, .ref a2, .ref a3, .int (nI (bd)), .int (nI (fr))])), (a1, .inl (cG, n, .inr (.inr (.inr (.inr (fun j => some (gR j))))))), (a2, .inl (cI, n, .inl (fun j => oI (ro j)))), (a3, .inl (cG, n, .inr (.inr (.inr (.inr (fun j => some (gQ j)))))))] ++ va_pl L (pI cI pl pr)) sz) := by
  refine Met.ofW (cc := cX1_swap) (maxL := 4) (ret := none) (by decide) rfl ?_
  intro zp ze s m args below meth zc s₁ B hml hv
  obtain ⟨hargs, hsz, hP, ⟨hK, hG⟩, hD0⟩ := hv
  have hx := B.exec
  have hb := B.bytes
  have hr := B.returns
  have hts := atoms_spec (ws := wsX1_swap) B.pre
  have hown : s.vm.findClass RX1 = some m.cls := findClass_of_methodNamed B.named
  have hlocks := B.notSynchronized
  subst hsz
  obtain ⟨Q, hQ⟩ : ∃ Q, Q = MQ below (va_Qv (fun _ : Unit => True) (fun _ t => va_P (dC, dI) vwCl ([(h0, .inr (2, [.int (nI (n)), .int (nI (q)), .ref a1, .ref a2, .ref a3, .int (nI (bd)), .int (nI (fr))])), (a1, .inl (cG, n, .inr (.inr (.inr (.inr (fun j => some ((va_up (va_up gR x (gR y)) y (gR x)) j))))))), (a2, .inl (cI, n, .inl (fun j => oI (ro j)))), (a3, .inl (cG, n, .inr (.inr (.inr (.inr (fun j => some (gQ j)))))))] ++ va_pl L (pI cI pl pr)) t.heap ∧ va_K (dC, dI) vwCl [(cI, .int), (cG, .array .int)] t ∧ va_D (va_A ([(h0, .inr (2, [.int (nI (n)), .int (nI (q)), .ref a1, .ref a2, .ref a3, .int (nI (bd)), .int (nI (fr))])), (a1, .inl (cG, n, .inr (.inr (.inr (.inr (fun j => some (gR j))))))), (a2, .inl (cI, n, .inl (fun j => oI (ro j)))), (a3, .inl (cG, n, .inr (.inr (.inr (.inr (fun j => some (gQ j)))))))] ++ va_pl L (pI cI pl pr)) s.heap.size) ([(h0, .inr (2, [.int (nI (n)), .int (nI (q)), .ref a1, .ref a2, .ref a3, .int (nI (bd)), .int (nI (fr))])), (a1, .inl (cG, n, .inr (.inr (.inr (.inr (fun j => some ((va_up (va_up gR x (gR y)) y (gR x)) j))))))), (a2, .inl (cI, n, .inl (fun j => oI (ro j)))), (a3, .inl (cG, n, .inr (.inr (.inr (.inr (fun j => some (gQ j)))))))] ++ va_pl L (pI cI pl pr))) (va_A ([(h0, .inr (2, [.int (nI (n)), .int (nI (q)), .ref a1, .ref a2, .ref a3, .int (nI (bd)), .int (nI (fr))])), (a1, .inl (cG, n, .inr (.inr (.inr (.inr (fun j => some (gR j))))))), (a2, .inl (cI, n, .inl (fun j => oI (ro j)))), (a3, .inl (cG, n, .inr (.inr (.inr (.inr (fun j => some (gQ j)))))))] ++ va_pl L (pI cI pl pr)) s.heap.size)) args s 0 0 (va_A ([(h0, .inr (2, [.int (nI (n)), .int (nI (q)), .ref a1, .ref a2, .ref a3, .int (nI (bd)), .int (nI (fr))])), (a1, .inl (cG, n, .inr (.inr (.inr (.inr (fun j => some (gR j))))))), (a2, .inl (cI, n, .inl (fun j => oI (ro j)))), (a3, .inl (cG, n, .inr (.inr (.inr (.inr (fun j => some (gQ j)))))))] ++ va_pl L (pI cI pl pr)) s.heap.size) := ⟨_, rfl⟩
  rw [← hQ]
  have hD := hD0.self (sz := s.heap.size)
  generalize hAe : (va_A ([(h0, .inr (2, [.int (nI (n)), .int (nI (q)), .ref a1, .ref a2, .ref a3, .int (nI (bd)), .int (nI (fr))])), (a1, .inl (cG, n, .inr (.inr (.inr (.inr (fun j => some (gR j))))))), (a2, .inl (cI, n, .inl (fun j => oI (ro j)))), (a3, .inl (cG, n, .inr (.inr (.inr (.inr (fun j => some (gQ j)))))))] ++ va_pl L (pI cI pl pr)) s.heap.size) = A at hD hQ
  have hA : ∀ q : Nat, s.heap.size ≤ q → A q := fun q h => by rw [← hAe]; exact Or.inr h
  have hS : va_S A s.heap s.heap [] := va_S.rf
  have hl := lv_entry ([.ref h0, .int (nI (x)), .int (nI (y))]) (n := 4) (Nat.le_of_ble_eq_true rfl)
  generalize hen : entryFrame m args 4 = fr
  rw [hargs, lg_entry_eq] at hen
  subst hen
  generalize (lg_sl ([.ref h0, .int (nI (x)), .int (nI (y))]) ++ List.replicate (4 - (lg_sl ([.ref h0, .int (nI (x)), .int (nI (y))])).length) Slot.unset).toArray = ls at hl ⊢
  have hl : lv_has ls 4 [(0, .ref h0), (1, .int (nI (x))), (2, .int (nI (y)))] := hl
  have hinX1 : ∀ w ∈ wsX10, w ∈ wsX1_swap := by decide +kernel
  have hf20 := hts (.fieldLink RX1 20 "LightRows$Equations" "rows" "[[I") (by decide +kernel)
  refine lv_aload_n hx hb dX1_swap_0 rfl (lv_at hl 0 rfl) ?_
  refine va_get (D := (dC, dI)) (ci := 2) (v := .ref a1) (C := RX1) (T := TX1) (N := 7) hx hb hts hinX1 hown hK hP 0 rfl rfl 2 (by decide) hf20 (fun _ h9 => h9) rfl dX1_swap_1 ?_
  refine lv_iload_n hx hb dX1_swap_4 rfl (lv_at hl 1 rfl) ?_
  refine rg_ld (G := gR) hx hb hK hP 1 1 rfl rfl (by omega) (by omega) dX1_swap_5 ?_
  refine lv_astore_n (lv' := [(3, .ref (gR x)), (0, .ref h0), (1, .int (nI (x))), (2, .int (nI (y)))]) hx hb dX1_swap_6 rfl hl (by decide) rfl (fun ls hl => ?_)
  refine lv_aload_n hx hb dX1_swap_7 rfl (lv_at hl 1 rfl) ?_
  refine va_get (D := (dC, dI)) (ci := 2) (v := .ref a1) (C := RX1) (T := TX1) (N := 7) hx hb hts hinX1 hown hK hP 0 rfl rfl 2 (by decide) hf20 (fun _ h9 => h9) rfl dX1_swap_8 ?_
  refine lv_iload_n hx hb dX1_swap_11 rfl (lv_at hl 2 rfl) ?_
  refine lv_aload_n hx hb dX1_swap_12 rfl (lv_at hl 1 rfl) ?_
  refine va_get (D := (dC, dI)) (ci := 2) (v := .ref a1) (C := RX1) (T := TX1) (N := 7) hx hb hts hinX1 hown hK hP 0 rfl rfl 2 (by decide) hf20 (fun _ h9 => h9) rfl dX1_swap_13 ?_
  refine lv_iload_n hx hb dX1_swap_16 rfl (lv_at hl 3 rfl) ?_
  refine rg_ld (G := gR) hx hb hK hP 1 1 rfl rfl (by omega) (by omega) dX1_swap_17 ?_
  refine rg_st (G := gR) hx hb hG hP hD hS 1 rfl ((hok.1 y hy0).1) (by omega) (by omega) dX1_swap_18 (fun H locs hP hD hS => ?_)
  have hP : va_P (dC, dI) vwCl ([(h0, .inr (2, [.int (nI (n)), .int (nI (q)), .ref a1, .ref a2, .ref a3, .int (nI (bd)), .int (nI (fr))])), (a1, .inl (cG, n, .inr (.inr (.inr (.inr (fun j => some ((va_up gR x (gR y)) j))))))), (a2, .inl (cI, n, .inl (fun j => oI (ro j)))), (a3, .inl (cG, n, .inr (.inr (.inr (.inr (fun j => some (gQ j)))))))] ++ va_pl L (pI cI pl pr)) H := hP
  have hD : va_D A ([(h0, .inr (2, [.int (nI (n)), .int (nI (q)), .ref a1, .ref a2, .ref a3, .int (nI (bd)), .int (nI (fr))])), (a1, .inl (cG, n, .inr (.inr (.inr (.inr (fun j => some ((va_up gR x (gR y)) j))))))), (a2, .inl (cI, n, .inl (fun j => oI (ro j)))), (a3, .inl (cG, n, .inr (.inr (.inr (.inr (fun j => some (gQ j)))))))] ++ va_pl L (pI cI pl pr)) := hD
  refine lv_aload_n hx hb dX1_swap_19 rfl (lv_at hl 1 rfl) ?_
  refine va_get (D := (dC, dI)) (ci := 2) (v := .ref a1) (C := RX1) (T := TX1) (N := 7) hx hb hts hinX1 hown hK hP 0 rfl rfl 2 (by decide) hf20 (fun _ h9 => h9) rfl dX1_swap_20 ?_
  refine lv_iload_n hx hb dX1_swap_23 rfl (lv_at hl 3 rfl) ?_
  refine lv_aload_n hx hb dX1_swap_24 rfl (lv_at hl 0 rfl) ?_
  refine rg_st (G := (va_up gR x (gR y))) hx hb hG hP hD hS 1 rfl ((hok.1 x hx0).1) (by omega) (by omega) dX1_swap_25 (fun H locs hP hD hS => ?_)
  have hP : va_P (dC, dI) vwCl ([(h0, .inr (2, [.int (nI (n)), .int (nI (q)), .ref a1, .ref a2, .ref a3, .int (nI (bd)), .int (nI (fr))])), (a1, .inl (cG, n, .inr (.inr (.inr (.inr (fun j => some ((va_up (va_up gR x (gR y)) y (gR x)) j))))))), (a2, .inl (cI, n, .inl (fun j => oI (ro j)))), (a3, .inl (cG, n, .inr (.inr (.inr (.inr (fun j => some (gQ j)))))))] ++ va_pl L (pI cI pl pr)) H := hP
  have hD : va_D A ([(h0, .inr (2, [.int (nI (n)), .int (nI (q)), .ref a1, .ref a2, .ref a3, .int (nI (bd)), .int (nI (fr))])), (a1, .inl (cG, n, .inr (.inr (.inr (.inr (fun j => some ((va_up (va_up gR x (gR y)) y (gR x)) j))))))), (a2, .inl (cI, n, .inl (fun j => oI (ro j)))), (a3, .inl (cG, n, .inr (.inr (.inr (.inr (fun j => some (gQ j)))))))] ++ va_pl L (pI cI pl pr)) := hD
  rw [hQ]
  exact W.vret hx hb hr (fun t ht hW => ⟨⟨(), rfl, trivial, by rw [ht]; exact hP, va_K.moved hW.alike hK, hD⟩, hS.F ht⟩) hS.2.2 dX1_swap_26

set_option maxHeartbeats 4000000 in
set_option maxRecDepth 100000 in
theorem c_X1_clearElsewhere (l : Launch) (dC : Nat → ClassId) (dI : Nat → Nat → Nat) (sz : Nat) (h0 a1 a2 a3 n q bd fr : Nat) (gR gQ : Nat → Nat) (ro : Nat → Option Nat) (cG : ClassId) (cI : ClassId) (L : List Nat) (pl : Nat → Nat) (pr : Nat → Nat → Nat) (x j0 : Nat) (hn : n < 1000) (hok : eqOK n gR gQ L pl) (hx0 : x < n) (hj0 : j0 < n + 1) (hq : 2 ≤ q) (hq2 : q < 100) (bx : ∀ i, i < n → ∀ j, j < n + 1 → pr (gR i) j < q) : Met l yX1_clearElsewhere wsX1_clearElsewhere ({ frames := 1, cells := 0, slots := 0, locals := 24 }) (va_Pc [.ref h0, .int (nI (x)), .int (nI (j0))] (fun U => U.heap.size = sz ∧ va_P (dC, dI) vwCl ([(h0, .inr (2, [.int (nI (n)), .int (nI (q)), .ref a1, .ref a2, .ref a3, .int (nI (bd)), .int (nI (fr))])), (a1, .inl (cG, n, .inr (.inr (.inr (.inr (fun j => some (gR j))))))), (a2, .inl (cI, n, .inl (fun j => oI (ro j)))), (a3, .inl (cG, n, .inr (.inr (.inr (.inr (fun j => some (gQ j)))))))] ++ va_pl L (pI cI pl pr)) U.heap ∧ va_K (dC, dI) vwCl [(cI, .int), (cG, .array .int)] U ∧ va_D (fun _ => True) ([(h0, .inr (2, [.int (nI (n)), .int (nI (q)), .ref a1, .ref a2, .ref a3, .int (nI (bd)), .int (nI (fr))])), (a1, .inl (cG, n, .inr (.inr (.inr (.inr (fun j => some (gR j))))))), (a2, .inl (cI, n, .inl (fun j => oI (ro j)))), (a3, .inl (cG, n, .inr (.inr (.inr (.inr (fun j => some (gQ j)))))))] ++ va_pl L (pI cI pl pr)))) (va_Qv (fun u : Nat → Nat → Nat => (∀ i, i < n → u (gR i) = clr n q x j0 (fun i => pr (gR i)) i) ∧ ∀ y, (∀ i, i < n → y ≠ gR i) → u y = pr y) (fun u t => va_P (dC, dI) vwCl ([(h0, .inr (2, [.int (nI (n)), .int (nI (q)), .ref a1, .ref a2, .ref a3, .int (nI (bd)), .int (nI (fr))])), (a1, .inl (cG, n, .inr (.inr (.inr (.inr (fun j => some (gR j))))))), (a2, .inl (cI, n, .inl (fun j => oI (ro j)))), (a3, .inl (cG, n, .inr (.inr (.inr (.inr (fun j => some (gQ j)))))))] ++ va_pl L (pI cI pl u)) t.heap ∧ va_K (dC, dI) vwCl [(cI, .int), (cG, .array .int)] t ∧ va_D (va_A ([(h0, .inr (2, [.int (nI (n)), .int (nI (q)), .ref a1, .ref a2, .ref a3, .int (nI (bd)), .int (nI (fr))])), (a1, .inl (cG, n, .inr (.inr (.inr (.inr (fun j => some (gR j))))))), (a2, .inl (cI, n, .inl (fun j => oI (ro j)))), (a3, .inl (cG, n, .inr (.inr (.inr (.inr (fun j => some (gQ j)))))))] ++ va_pl L (pI cI pl pr)) sz) ([(h0, .inr (2, [.int (nI (n)), .int (nI (q)), .ref a1, .ref a2, .ref a3, .int (nI (bd)), .int (nI (fr))])), (a1, .inl (cG, n, .inr (.inr (.inr (.inr (fun j => some (gR j))))))), (a2, .inl (cI, n, .inl (fun j => oI (ro j)))), (a3, .inl (cG, n, .inr (.inr (.inr (.inr (fun j => some (gQ j)))))))] ++ va_pl L (pI cI pl u))) (va_A ([(h0, .inr (2, [.int (nI (n)), .int (nI (q)), .ref a1, .ref a2, .ref a3, .int (nI (bd)), .int (nI (fr))])), (a1, .inl (cG, n, .inr (.inr (.inr (.inr (fun j => some (gR j))))))), (a2, .inl (cI, n, .inl (fun j => oI (ro j)))), (a3, .inl (cG, n, .inr (.inr (.inr (.inr (fun j => some (gQ j)))))))] ++ va_pl L (pI cI pl pr)) sz)) 0 0 (va_A ([(h0, .inr (2, [.int (nI (n)), .int (nI (q)), .ref a1, .ref a2, .ref a3, .int (nI (bd)), .int (nI (fr))])), (a1, .inl (cG, n, .inr (.inr (.inr (.inr (fun j => some (gR j))))))), (a2, .inl (cI, n, .inl (fun j => oI (ro j)))), (a3, .inl (cG, n, .inr (.inr (.inr (.inr (fun j => some (gQ j)))))))] ++ va_pl L (pI cI pl pr)) sz) := by
  refine Met.ofW (cc := cX1_clearElsewhere) (maxL := 4) (ret := none) (by decide) rfl ?_
  intro zp ze s m args below meth zc s₁ B hml hv
  obtain ⟨hargs, hsz, hP, hK, hD0⟩ := hv
  have hx := B.exec
  have hb := B.bytes
  have hr := B.returns
  have hts := atoms_spec (ws := wsX1_clearElsewhere) B.pre
  have hown : s.vm.findClass RX1 = some m.cls := findClass_of_methodNamed B.named
  have hlocks := B.notSynchronized
  subst hsz
  obtain ⟨Q, hQ⟩ : ∃ Q, Q = MQ below (va_Qv (fun u : Nat → Nat → Nat => (∀ i, i < n → u (gR i) = clr n q x j0 (fun i => pr (gR i)) i) ∧ ∀ y, (∀ i, i < n → y ≠ gR i) → u y = pr y) (fun u t => va_P (dC, dI) vwCl ([(h0, .inr (2, [.int (nI (n)), .int (nI (q)), .ref a1, .ref a2, .ref a3, .int (nI (bd)), .int (nI (fr))])), (a1, .inl (cG, n, .inr (.inr (.inr (.inr (fun j => some (gR j))))))), (a2, .inl (cI, n, .inl (fun j => oI (ro j)))), (a3, .inl (cG, n, .inr (.inr (.inr (.inr (fun j => some (gQ j)))))))] ++ va_pl L (pI cI pl u)) t.heap ∧ va_K (dC, dI) vwCl [(cI, .int), (cG, .array .int)] t ∧ va_D (va_A ([(h0, .inr (2, [.int (nI (n)), .int (nI (q)), .ref a1, .ref a2, .ref a3, .int (nI (bd)), .int (nI (fr))])), (a1, .inl (cG, n, .inr (.inr (.inr (.inr (fun j => some (gR j))))))), (a2, .inl (cI, n, .inl (fun j => oI (ro j)))), (a3, .inl (cG, n, .inr (.inr (.inr (.inr (fun j => some (gQ j)))))))] ++ va_pl L (pI cI pl pr)) s.heap.size) ([(h0, .inr (2, [.int (nI (n)), .int (nI (q)), .ref a1, .ref a2, .ref a3, .int (nI (bd)), .int (nI (fr))])), (a1, .inl (cG, n, .inr (.inr (.inr (.inr (fun j => some (gR j))))))), (a2, .inl (cI, n, .inl (fun j => oI (ro j)))), (a3, .inl (cG, n, .inr (.inr (.inr (.inr (fun j => some (gQ j)))))))] ++ va_pl L (pI cI pl u))) (va_A ([(h0, .inr (2, [.int (nI (n)), .int (nI (q)), .ref a1, .ref a2, .ref a3, .int (nI (bd)), .int (nI (fr))])), (a1, .inl (cG, n, .inr (.inr (.inr (.inr (fun j => some (gR j))))))), (a2, .inl (cI, n, .inl (fun j => oI (ro j)))), (a3, .inl (cG, n, .inr (.inr (.inr (.inr (fun j => some (gQ j)))))))] ++ va_pl L (pI cI pl pr)) s.heap.size)) args s 0 0 (va_A ([(h0, .inr (2, [.int (nI (n)), .int (nI (q)), .ref a1, .ref a2, .ref a3, .int (nI (bd)), .int (nI (fr))])), (a1, .inl (cG, n, .inr (.inr (.inr (.inr (fun j => some (gR j))))))), (a2, .inl (cI, n, .inl (fun j => oI (ro j)))), (a3, .inl (cG, n, .inr (.inr (.inr (.inr (fun j => some (gQ j)))))))] ++ va_pl L (pI cI pl pr)) s.heap.size) := ⟨_, rfl⟩
  rw [← hQ]
  have hD := hD0.self (sz := s.heap.size)
  generalize hAe : (va_A ([(h0, .inr (2, [.int (nI (n)), .int (nI (q)), .ref a1, .ref a2, .ref a3, .int (nI (bd)), .int (nI (fr))])), (a1, .inl (cG, n, .inr (.inr (.inr (.inr (fun j => some (gR j))))))), (a2, .inl (cI, n, .inl (fun j => oI (ro j)))), (a3, .inl (cG, n, .inr (.inr (.inr (.inr (fun j => some (gQ j)))))))] ++ va_pl L (pI cI pl pr)) s.heap.size) = A at hD hQ
  have hA : ∀ q : Nat, s.heap.size ≤ q → A q := fun q h => by rw [← hAe]; exact Or.inr h
  have hS : va_S A s.heap s.heap [] := va_S.rf
  have hl := lv_entry ([.ref h0, .int (nI (x)), .int (nI (j0))]) (n := 4) (Nat.le_of_ble_eq_true rfl)
  generalize hen : entryFrame m args 4 = fr
  rw [hargs, lg_entry_eq] at hen
  subst hen
  generalize (lg_sl ([.ref h0, .int (nI (x)), .int (nI (j0))]) ++ List.replicate (4 - (lg_sl ([.ref h0, .int (nI (x)), .int (nI (j0))])).length) Slot.unset).toArray = ls at hl ⊢
  have hl : lv_has ls 4 [(0, .ref h0), (1, .int (nI (x))), (2, .int (nI (j0)))] := hl
  have hinX1 : ∀ w ∈ wsX10, w ∈ wsX1_clearElsewhere := by decide +kernel
  have hf9 := hts (.fieldLink RX1 9 "LightRows$Equations" "size" "I") (by decide +kernel)
  have hf15 := hts (.fieldLink RX1 15 "LightRows$Equations" "modulus" "I") (by decide +kernel)
  have hf20 := hts (.fieldLink RX1 20 "LightRows$Equations" "rows" "[[I") (by decide +kernel)
  refine lv_iconst (v := nI 0) hx hb dX1_clearElsewhere_0 (by decide) ?_
  refine lv_istore_n (lv' := [(3, .int (nI (0))), (0, .ref h0), (1, .int (nI (x))), (2, .int (nI (j0)))]) hx hb dX1_clearElsewhere_1 rfl hl (by decide) rfl (fun ls hl => ?_)
  have lp : ∀ (k : Nat) (i : Nat) (f : Nat → Nat → Nat), (i + k = n) → (∀ a, a < n → f (gR a) = if a < i then clr n q x j0 (fun i => pr (gR i)) a else pr (gR a)) → (∀ y, (∀ a, a < n → y ≠ gR a) → f y = pr y) → ∀ (H : Heap) (locs : List Loc), va_P (dC, dI) vwCl ([(h0, .inr (2, [.int (nI (n)), .int (nI (q)), .ref a1, .ref a2, .ref a3, .int (nI (bd)), .int (nI (fr))])), (a1, .inl (cG, n, .inr (.inr (.inr (.inr (fun j => some (gR j))))))), (a2, .inl (cI, n, .inl (fun j => oI (ro j)))), (a3, .inl (cG, n, .inr (.inr (.inr (.inr (fun j => some (gQ j)))))))] ++ va_pl L (pI cI pl f)) H → va_D A ([(h0, .inr (2, [.int (nI (n)), .int (nI (q)), .ref a1, .ref a2, .ref a3, .int (nI (bd)), .int (nI (fr))])), (a1, .inl (cG, n, .inr (.inr (.inr (.inr (fun j => some (gR j))))))), (a2, .inl (cI, n, .inl (fun j => oI (ro j)))), (a3, .inl (cG, n, .inr (.inr (.inr (.inr (fun j => some (gQ j)))))))] ++ va_pl L (pI cI pl f)) → va_S A s.heap H locs → ∀ (ls : Array Slot), lv_has ls 4 [(0, .ref h0), (1, .int (nI (x))), (2, .int (nI (j0))), (3, .int (nI (i)))] → W zp l ze (headSpec wsX1_clearElsewhere ({ frames := 1, cells := 0, slots := 0, locals := 24 })).room s m args below meth zc H locs 0 0 Q (F0 m 2 ls []) := by
    intro k
    induction k with
    | zero =>
      intro i f hi h1 h2 H locs hP hD hS ls hl
      refine lv_iload_n hx hb dX1_clearElsewhere_2 rfl (lv_at hl 3 rfl) ?_
      refine lv_aload_n hx hb dX1_clearElsewhere_3 rfl (lv_at hl 0 rfl) ?_
      refine va_get (D := (dC, dI)) (ci := 2) (v := .int (nI (n))) (C := RX1) (T := TX1) (N := 7) hx hb hts hinX1 hown hK hP 0 rfl rfl 0 (by decide) hf9 (fun _ h9 => h9) rfl dX1_clearElsewhere_4 ?_
      refine lv_icmp_ge (tgt := 61) hx hb dX1_clearElsewhere_7 (by decide) (fun c => ?_) (fun c => ?_)
      · skip
        have c : n ≤ i := (nI_leI (a := n) (b := i) (by omega) (by omega)).mp c
        rw [hQ]
        exact W.vret hx hb hr (fun t ht hW => ⟨⟨f, rfl, ⟨fun a ha => by rw [h1 a ha, if_pos (by omega)], h2⟩, by rw [ht]; exact hP, va_K.moved hW.alike hK, hD⟩, hS.F ht⟩) hS.2.2 dX1_clearElsewhere_61
      · skip
        have c : i < n := Nat.not_le.mp (fun h => c ((nI_leI (a := n) (b := i) (by omega) (by omega)).mpr h))
        exact absurd c (by omega)
    | succ k ih =>
      intro i f hi h1 h2 H locs hP hD hS ls hl
      refine lv_iload_n hx hb dX1_clearElsewhere_2 rfl (lv_at hl 3 rfl) ?_
      refine lv_aload_n hx hb dX1_clearElsewhere_3 rfl (lv_at hl 0 rfl) ?_
      refine va_get (D := (dC, dI)) (ci := 2) (v := .int (nI (n))) (C := RX1) (T := TX1) (N := 7) hx hb hts hinX1 hown hK hP 0 rfl rfl 0 (by decide) hf9 (fun _ h9 => h9) rfl dX1_clearElsewhere_4 ?_
      refine lv_icmp_ge (tgt := 61) hx hb dX1_clearElsewhere_7 (by decide) (fun c => ?_) (fun c => ?_)
      · skip
        have c : n ≤ i := (nI_leI (a := n) (b := i) (by omega) (by omega)).mp c
        exact absurd c (by omega)
      · skip
        have c : i < n := Nat.not_le.mp (fun h => c ((nI_leI (a := n) (b := i) (by omega) (by omega)).mpr h))
        have g1 := hok.1 i (by omega)
        have gx := hok.1 x hx0
        have ei : f (gR i) = pr (gR i) := by rw [h1 i (by omega), if_neg (by omega)]
        have bij := bx i (by omega) j0 hj0
        have clx : clr n q x j0 (fun i => pr (gR i)) x = pr (gR x) := by unfold clr; rw [if_pos (Or.inl rfl)]
        have ex : f (gR x) = pr (gR x) := by
          rw [h1 x hx0]
          split
          · exact clx
          · rfl
        have keep : (i = x ∨ pr (gR i) j0 = 0) → ∀ a, a < n → f (gR a) = if a < i + 1 then clr n q x j0 (fun i => pr (gR i)) a else pr (gR a) := by
          intro hc a ha
          rw [h1 a ha]
          by_cases e1 : a = i
          · subst e1
            rw [if_neg (by omega), if_pos (by omega)]
            unfold clr
            rw [if_pos hc]
          · by_cases e2 : a < i
            · rw [if_pos e2, if_pos (by omega)]
            · rw [if_neg e2, if_neg (by omega)]
        refine lv_iload_n hx hb dX1_clearElsewhere_10 rfl (lv_at hl 3 rfl) ?_
        refine lv_iload_n hx hb dX1_clearElsewhere_11 rfl (lv_at hl 1 rfl) ?_
        refine lv_icmp_eq (tgt := 55) hx hb dX1_clearElsewhere_12 (by decide) (fun c2 => ?_) (fun c2 => ?_)
        · skip
          have c2 : i = x := (nI_eq (a := i) (b := x) (by omega) (by omega)).mp c2
          refine lv_iinc (v := nI (i + 1)) (lv' := [(3, .int (nI (i + 1))), (0, .ref h0), (1, .int (nI (x))), (2, .int (nI (j0)))]) hx hb dX1_clearElsewhere_55 hl (k := 3) rfl (nI_1 _) (by decide) rfl (fun ls hl => ?_)
          refine lv_goto (tgt := 2) hx hb dX1_clearElsewhere_58 (by decide) ?_
          exact ih (i + 1) f (by omega) (keep (Or.inl c2)) h2 _ _ hP hD hS ls (lv_sub hl [1, 2, 3, 0] rfl)
        · skip
          have c2 : i ≠ x := fun h => c2 ((nI_eq (a := i) (b := x) (by omega) (by omega)).mpr h)
          refine lv_aload_n hx hb dX1_clearElsewhere_15 rfl (lv_at hl 0 rfl) ?_
          refine va_get (D := (dC, dI)) (ci := 2) (v := .ref a1) (C := RX1) (T := TX1) (N := 7) hx hb hts hinX1 hown hK hP 0 rfl rfl 2 (by decide) hf20 (fun _ h9 => h9) rfl dX1_clearElsewhere_16 ?_
          refine lv_iload_n hx hb dX1_clearElsewhere_19 rfl (lv_at hl 3 rfl) ?_
          refine rg_ld (G := gR) hx hb hK hP 1 1 rfl rfl (by omega) (by omega) dX1_clearElsewhere_20 ?_
          refine lv_iload_n hx hb dX1_clearElsewhere_21 rfl (lv_at hl 2 rfl) ?_
          refine rp_ld hx hb hK hP 0 rfl (g1.1) (by omega) (by omega) dX1_clearElsewhere_22 ?_
          refine tp_i (y := nI (pr (gR i) j0)) (by rw [ei]) ?_
          refine lv_if_eq (tgt := 55) hx hb dX1_clearElsewhere_23 (by decide) (fun c3 => ?_) (fun c3 => ?_)
          · skip
            have c3 : pr (gR i) j0 = 0 := (nI_eq (a := pr (gR i) j0) (b := 0) (by omega) (by omega)).mp c3
            refine lv_iinc (v := nI (i + 1)) (lv' := [(3, .int (nI (i + 1))), (0, .ref h0), (1, .int (nI (x))), (2, .int (nI (j0)))]) hx hb dX1_clearElsewhere_55 hl (k := 3) rfl (nI_1 _) (by decide) rfl (fun ls hl => ?_)
            refine lv_goto (tgt := 2) hx hb dX1_clearElsewhere_58 (by decide) ?_
            exact ih (i + 1) f (by omega) (keep (Or.inr c3)) h2 _ _ hP hD hS ls (lv_sub hl [1, 2, 3, 0] rfl)
          · skip
            have c3 : pr (gR i) j0 ≠ 0 := fun h => c3 ((nI_eq (a := pr (gR i) j0) (b := 0) (by omega) (by omega)).mpr h)
            refine lv_aload_n hx hb dX1_clearElsewhere_26 rfl (lv_at hl 0 rfl) ?_
            refine lv_aload_n hx hb dX1_clearElsewhere_27 rfl (lv_at hl 0 rfl) ?_
            refine va_get (D := (dC, dI)) (ci := 2) (v := .ref a1) (C := RX1) (T := TX1) (N := 7) hx hb hts hinX1 hown hK hP 0 rfl rfl 2 (by decide) hf20 (fun _ h9 => h9) rfl dX1_clearElsewhere_28 ?_
            refine lv_iload_n hx hb dX1_clearElsewhere_31 rfl (lv_at hl 3 rfl) ?_
            refine rg_ld (G := gR) hx hb hK hP 1 1 rfl rfl (by omega) (by omega) dX1_clearElsewhere_32 ?_
            refine lv_aload_n hx hb dX1_clearElsewhere_33 rfl (lv_at hl 0 rfl) ?_
            refine va_get (D := (dC, dI)) (ci := 2) (v := .ref a1) (C := RX1) (T := TX1) (N := 7) hx hb hts hinX1 hown hK hP 0 rfl rfl 2 (by decide) hf20 (fun _ h9 => h9) rfl dX1_clearElsewhere_34 ?_
            refine lv_iload_n hx hb dX1_clearElsewhere_37 rfl (lv_at hl 1 rfl) ?_
            refine rg_ld (G := gR) hx hb hK hP 1 1 rfl rfl (by omega) (by omega) dX1_clearElsewhere_38 ?_
            refine lv_aload_n hx hb dX1_clearElsewhere_39 rfl (lv_at hl 0 rfl) ?_
            refine va_get (D := (dC, dI)) (ci := 2) (v := .int (nI (q))) (C := RX1) (T := TX1) (N := 7) hx hb hts hinX1 hown hK hP 0 rfl rfl 1 (by decide) hf15 (fun _ h9 => h9) rfl dX1_clearElsewhere_40 ?_
            refine lv_aload_n hx hb dX1_clearElsewhere_43 rfl (lv_at hl 0 rfl) ?_
            refine va_get (D := (dC, dI)) (ci := 2) (v := .ref a1) (C := RX1) (T := TX1) (N := 7) hx hb hts hinX1 hown hK hP 0 rfl rfl 2 (by decide) hf20 (fun _ h9 => h9) rfl dX1_clearElsewhere_44 ?_
            refine lv_iload_n hx hb dX1_clearElsewhere_47 rfl (lv_at hl 3 rfl) ?_
            refine rg_ld (G := gR) hx hb hK hP 1 1 rfl rfl (by omega) (by omega) dX1_clearElsewhere_48 ?_
            refine lv_iload_n hx hb dX1_clearElsewhere_49 rfl (lv_at hl 2 rfl) ?_
            refine rp_ld hx hb hK hP 0 rfl (g1.1) (by omega) (by omega) dX1_clearElsewhere_50 ?_
            refine tp_i (y := nI (pr (gR i) j0)) (by rw [ei]) ?_
            refine lv_isub hx hb dX1_clearElsewhere_51 ?_
            refine tp_i (y := nI (q - (pr (gR i) j0))) (pk_sub (by omega)) ?_
            have hPc := hP.part (cx := [(h0, .inr (2, [.int (nI (n)), .int (nI (q)), .ref a1, .ref a2, .ref a3, .int (nI (bd)), .int (nI (fr))]))]) [0] rfl
            have hDc := hD.part (cx := [(h0, .inr (2, [.int (nI (n)), .int (nI (q)), .ref a1, .ref a2, .ref a3, .int (nI (bd)), .int (nI (fr))]))]) [0] (by decide) rfl
            have hFc := va_freeP (cx := [(h0, .inr (2, [.int (nI (n)), .int (nI (q)), .ref a1, .ref a2, .ref a3, .int (nI (bd)), .int (nI (fr))]))]) hD hS hA [0] rfl
            have hKc := hK.sub (tys' := [(cI, .int)]) [0] rfl
            refine va_callv (va_runV (As := [.ref (gR i), .ref (gR x), .int (nI (q - (pr (gR i) j0)))]) (rest := []) ⟨hx, hb, hml, hown, hts⟩ (c_X1_addMultiple l dC dI H.size h0 n q (gR i) (gR x) (q - pr (gR i) j0) (.ref a1) (.ref a2) (.ref a3) (.int (nI bd)) (.int (nI fr)) cI L pl f hn (by omega) hq2 (by omega) g1.1 gx.1 (fun h => c2 (hok.2.2.1 _ _ (by omega) hx0 h.symm)) g1.2 gx.2 (fun j hj => by rw [ei]; have := bx i (by omega) j hj; omega) (fun j hj => by rw [ex]; have := bx x hx0 j hj; omega)) (cwV 3 hts gX1_clearElsewhere_X1_addMultiple rfl rfl rfl (by decide +kernel) ⟨Nat.le_of_ble_eq_true rfl, Nat.le_of_ble_eq_true rfl⟩) ⟨fun a U g mk q => by obtain ⟨q0, q1, qP, qK, qD⟩ := q; exact ⟨q0, q1, qP, va_K.moved (u := U) (U := U.calling g mk a) (Vm.Alike.refl U.vm) qK, qD⟩, va_recv hKc hPc (ci := 2) (q0 := 0) rfl rfl, fun U hU hW => ⟨rfl, by rw [hU], by rw [hU]; exact hPc, va_K.moved hW.alike hKc, hDc.weaken (fun _ _ _ _ => trivial)⟩⟩ rfl rfl hl.1 rfl (lv_room (Nat.le_of_ble_eq_true rfl)) dX1_clearElsewhere_52 ⟨Nat.zero_le _, Nat.zero_le _⟩) hS (fun q _ h => hFc q h) hFc (fun u t H1 locs ht hvm hw hB hz1 hk1 hS => ?_)
            obtain ⟨hP1, hK1, hD1⟩ := hB
            rw [ht] at hP1
            try dsimp only at hw
            obtain ⟨hP, hD⟩ := va_joinP (wr := [(a1, .inl (cG, n, .inr (.inr (.inr (.inr (fun j => some (gR j))))))), (a2, .inl (cI, n, .inl (fun j => oI (ro j)))), (a3, .inl (cG, n, .inr (.inr (.inr (.inr (fun j => some (gQ j)))))))]) (rx := [(h0, .inr (2, [.int (nI (n)), .int (nI (q)), .ref a1, .ref a2, .ref a3, .int (nI (bd)), .int (nI (fr))]))]) (pl1 := va_pl L (pI cI pl (va_up f (gR i) (fun j => if j < n + 1 then (f (gR i) j + f (gR x) j * (q - pr (gR i) j0)) % q else f (gR i) j)))) hP hD [0] [1, 2, 3] rfl rfl (by decide) (by decide) hk1 hFc hP1 hD1
            generalize H1 = H at hP hS ⊢
            have hP := hP.part (cx := [(h0, .inr (2, [.int (nI (n)), .int (nI (q)), .ref a1, .ref a2, .ref a3, .int (nI (bd)), .int (nI (fr))])), (a1, .inl (cG, n, .inr (.inr (.inr (.inr (fun j => some (gR j))))))), (a2, .inl (cI, n, .inl (fun j => oI (ro j)))), (a3, .inl (cG, n, .inr (.inr (.inr (.inr (fun j => some (gQ j)))))))]) [3, 0, 1, 2] rfl
            have hD := hD.part (cx := [(h0, .inr (2, [.int (nI (n)), .int (nI (q)), .ref a1, .ref a2, .ref a3, .int (nI (bd)), .int (nI (fr))])), (a1, .inl (cG, n, .inr (.inr (.inr (.inr (fun j => some (gR j))))))), (a2, .inl (cI, n, .inl (fun j => oI (ro j)))), (a3, .inl (cG, n, .inr (.inr (.inr (.inr (fun j => some (gQ j)))))))]) [3, 0, 1, 2] (by decide) rfl
            have hP : va_P (dC, dI) vwCl ([(h0, .inr (2, [.int (nI (n)), .int (nI (q)), .ref a1, .ref a2, .ref a3, .int (nI (bd)), .int (nI (fr))])), (a1, .inl (cG, n, .inr (.inr (.inr (.inr (fun j => some (gR j))))))), (a2, .inl (cI, n, .inl (fun j => oI (ro j)))), (a3, .inl (cG, n, .inr (.inr (.inr (.inr (fun j => some (gQ j)))))))] ++ va_pl L (pI cI pl (va_up f (gR i) (fun j => if j < n + 1 then (f (gR i) j + f (gR x) j * (q - pr (gR i) j0)) % q else f (gR i) j)))) H := hP
            have hD : va_D A ([(h0, .inr (2, [.int (nI (n)), .int (nI (q)), .ref a1, .ref a2, .ref a3, .int (nI (bd)), .int (nI (fr))])), (a1, .inl (cG, n, .inr (.inr (.inr (.inr (fun j => some (gR j))))))), (a2, .inl (cI, n, .inl (fun j => oI (ro j)))), (a3, .inl (cG, n, .inr (.inr (.inr (.inr (fun j => some (gQ j)))))))] ++ va_pl L (pI cI pl (va_up f (gR i) (fun j => if j < n + 1 then (f (gR i) j + f (gR x) j * (q - pr (gR i) j0)) % q else f (gR i) j)))) := hD
            have e9 : va_up f (gR i) (fun j => if j < n + 1 then (f (gR i) j + f (gR x) j * (q - pr (gR i) j0)) % q else f (gR i) j) = va_up f (gR i) (adR n q (q - pr (gR i) j0) (pr (gR i)) (pr (gR x))) := by rw [ei, ex]
            rw [e9] at hP hD
            have hP : va_P (dC, dI) vwCl ([(h0, .inr (2, [.int (nI (n)), .int (nI (q)), .ref a1, .ref a2, .ref a3, .int (nI (bd)), .int (nI (fr))])), (a1, .inl (cG, n, .inr (.inr (.inr (.inr (fun j => some (gR j))))))), (a2, .inl (cI, n, .inl (fun j => oI (ro j)))), (a3, .inl (cG, n, .inr (.inr (.inr (.inr (fun j => some (gQ j)))))))] ++ va_pl L (pI cI pl (va_up f (gR i) (adR n q (q - pr (gR i) j0) (pr (gR i)) (pr (gR x)))))) H := hP
            have hD : va_D A ([(h0, .inr (2, [.int (nI (n)), .int (nI (q)), .ref a1, .ref a2, .ref a3, .int (nI (bd)), .int (nI (fr))])), (a1, .inl (cG, n, .inr (.inr (.inr (.inr (fun j => some (gR j))))))), (a2, .inl (cI, n, .inl (fun j => oI (ro j)))), (a3, .inl (cG, n, .inr (.inr (.inr (.inr (fun j => some (gQ j)))))))] ++ va_pl L (pI cI pl (va_up f (gR i) (adR n q (q - pr (gR i) j0) (pr (gR i)) (pr (gR x)))))) := hD
            refine lv_iinc (v := nI (i + 1)) (lv' := [(3, .int (nI (i + 1))), (0, .ref h0), (1, .int (nI (x))), (2, .int (nI (j0)))]) hx hb dX1_clearElsewhere_55 hl (k := 3) rfl (nI_1 _) (by decide) rfl (fun ls hl => ?_)
            refine lv_goto (tgt := 2) hx hb dX1_clearElsewhere_58 (by decide) ?_
            exact ih (i + 1) (va_up f (gR i) (adR n q (q - pr (gR i) j0) (pr (gR i)) (pr (gR x)))) (by omega) (fun a ha => by
                  by_cases e1 : a = i
                  · subst e1
                    rw [up_at, if_pos (by omega)]
                    unfold clr
                    rw [if_neg (fun h => h.elim c2 c3)]
                  · rw [up_of _ _ (fun h => e1 (hok.2.2.1 _ _ ha (by omega) h)), h1 a ha]
                    by_cases e2 : a < i
                    · rw [if_pos e2, if_pos (by omega)]
                    · rw [if_neg e2, if_neg (by omega)]) (fun y hy => by rw [up_of _ _ (hy i (by omega)), h2 y hy]) _ _ hP hD hS ls (lv_sub hl [1, 2, 3, 0] rfl)
  exact lp n 0 pr (by omega) (fun a _ => by simp) (fun _ _ => rfl) _ _ hP hD hS ls (lv_sub hl [1, 2, 3, 0] rfl)

set_option maxHeartbeats 4000000 in
set_option maxRecDepth 100000 in
theorem c_X1_readQuietPattern (l : Launch) (dC : Nat → ClassId) (dI : Nat → Nat → Nat) (sz : Nat) (h0 a1 a2 a3 n q bd fr : Nat) (gR gQ : Nat → Nat) (ro : Nat → Option Nat) (cG : ClassId) (cI : ClassId) (L : List Nat) (pl : Nat → Nat) (pr : Nat → Nat → Nat) (k0 f0 : Nat) (hn : n < 1000) (hok : eqOK n gR gQ L pl) (hk0 : k0 < n) (hf0 : f0 < n) (hq : 2 ≤ q) (hq2 : q < 100) (bx : ∀ i, i < n → ∀ j, j < n + 1 → pr (gR i) j < q) (hro : ∀ j, j < n → ∀ r, ro j = some r → r < n) : Met l yX1_readQuietPattern wsX1_readQuietPattern ({ frames := 0, cells := 0, slots := 0, locals := 0 }) (va_Pc [.ref h0, .ref (gQ k0), .int (nI (f0))] (fun U => U.heap.size = sz ∧ va_P (dC, dI) vwCl ([(h0, .inr (2, [.int (nI (n)), .int (nI (q)), .ref a1, .ref a2, .ref a3, .int (nI (bd)), .int (nI (fr))])), (a1, .inl (cG, n, .inr (.inr (.inr (.inr (fun j => some (gR j))))))), (a2, .inl (cI, n, .inl (fun j => oI (ro j)))), (a3, .inl (cG, n, .inr (.inr (.inr (.inr (fun j => some (gQ j)))))))] ++ va_pl L (pI cI pl pr)) U.heap ∧ va_K (dC, dI) vwCl [(cI, .int), (cG, .array .int)] U ∧ va_D (fun _ => True) ([(h0, .inr (2, [.int (nI (n)), .int (nI (q)), .ref a1, .ref a2, .ref a3, .int (nI (bd)), .int (nI (fr))])), (a1, .inl (cG, n, .inr (.inr (.inr (.inr (fun j => some (gR j))))))), (a2, .inl (cI, n, .inl (fun j => oI (ro j)))), (a3, .inl (cG, n, .inr (.inr (.inr (.inr (fun j => some (gQ j)))))))] ++ va_pl L (pI cI pl pr)))) (va_Qv (fun _ : Unit => True) (fun _ t => va_P (dC, dI) vwCl ([(h0, .inr (2, [.int (nI (n)), .int (nI (q)), .ref a1, .ref a2, .ref a3, .int (nI (bd)), .int (nI (fr))])), (a1, .inl (cG, n, .inr (.inr (.inr (.inr (fun j => some (gR j))))))), (a2, .inl (cI, n, .inl (fun j => oI (ro j)))), (a3, .inl (cG, n, .inr (.inr (.inr (.inr (fun j => some (gQ j)))))))] ++ va_pl L (pI cI pl (va_up pr (gQ k0) (qpt n q (fun i => pr (gR i)) ro f0 (pr (gQ k0)))))) t.heap ∧ va_K (dC, dI) vwCl [(cI, .int), (cG, .array .int)] t ∧ va_D (va_A ([(h0, .inr (2, [.int (nI (n)), .int (nI (q)), .ref a1, .ref a2, .ref a3, .int (nI (bd)), .int (nI (fr))])), (a1, .inl (cG, n, .inr (.inr (.inr (.inr (fun j => some (gR j))))))), (a2, .inl (cI, n, .inl (fun j => oI (ro j)))), (a3, .inl (cG, n, .inr (.inr (.inr (.inr (fun j => some (gQ j)))))))] ++ va_pl L (pI cI pl pr)) sz) ([(h0, .inr (2, [.int (nI (n)), .int (nI (q)), .ref a1, .ref a2, .ref a3, .int (nI (bd)), .int (nI (fr))])), (a1, .inl (cG, n, .inr (.inr (.inr (.inr (fun j => some (gR j))))))), (a2, .inl (cI, n, .inl (fun j => oI (ro j)))), (a3, .inl (cG, n, .inr (.inr (.inr (.inr (fun j => some (gQ j)))))))] ++ va_pl L (pI cI pl (va_up pr (gQ k0) (qpt n q (fun i => pr (gR i)) ro f0 (pr (gQ k0))))))) (va_A ([(h0, .inr (2, [.int (nI (n)), .int (nI (q)), .ref a1, .ref a2, .ref a3, .int (nI (bd)), .int (nI (fr))])), (a1, .inl (cG, n, .inr (.inr (.inr (.inr (fun j => some (gR j))))))), (a2, .inl (cI, n, .inl (fun j => oI (ro j)))), (a3, .inl (cG, n, .inr (.inr (.inr (.inr (fun j => some (gQ j)))))))] ++ va_pl L (pI cI pl pr)) sz)) 0 0 (va_A ([(h0, .inr (2, [.int (nI (n)), .int (nI (q)), .ref a1, .ref a2, .ref a3, .int (nI (bd)), .int (nI (fr))])), (a1, .inl (cG, n, .inr (.inr (.inr (.inr (fun j => some (gR j))))))), (a2, .inl (cI, n, .inl (fun j => oI (ro j)))), (a3, .inl (cG, n, .inr (.inr (.inr (.inr (fun j => some (gQ j)))))))] ++ va_pl L (pI cI pl pr)) sz) := by
  refine Met.ofW (cc := cX1_readQuietPattern) (maxL := 5) (ret := none) (by decide) rfl ?_
  intro zp ze s m args below meth zc s₁ B hml hv
  obtain ⟨hargs, hsz, hP, hK, hD0⟩ := hv
  have hx := B.exec
  have hb := B.bytes
  have hr := B.returns
  have hts := atoms_spec (ws := wsX1_readQuietPattern) B.pre
  have hown : s.vm.findClass RX1 = some m.cls := findClass_of_methodNamed B.named
  have hlocks := B.notSynchronized
  subst hsz
  obtain ⟨Q, hQ⟩ : ∃ Q, Q = MQ below (va_Qv (fun _ : Unit => True) (fun _ t => va_P (dC, dI) vwCl ([(h0, .inr (2, [.int (nI (n)), .int (nI (q)), .ref a1, .ref a2, .ref a3, .int (nI (bd)), .int (nI (fr))])), (a1, .inl (cG, n, .inr (.inr (.inr (.inr (fun j => some (gR j))))))), (a2, .inl (cI, n, .inl (fun j => oI (ro j)))), (a3, .inl (cG, n, .inr (.inr (.inr (.inr (fun j => some (gQ j)))))))] ++ va_pl L (pI cI pl (va_up pr (gQ k0) (qpt n q (fun i => pr (gR i)) ro f0 (pr (gQ k0)))))) t.heap ∧ va_K (dC, dI) vwCl [(cI, .int), (cG, .array .int)] t ∧ va_D (va_A ([(h0, .inr (2, [.int (nI (n)), .int (nI (q)), .ref a1, .ref a2, .ref a3, .int (nI (bd)), .int (nI (fr))])), (a1, .inl (cG, n, .inr (.inr (.inr (.inr (fun j => some (gR j))))))), (a2, .inl (cI, n, .inl (fun j => oI (ro j)))), (a3, .inl (cG, n, .inr (.inr (.inr (.inr (fun j => some (gQ j)))))))] ++ va_pl L (pI cI pl pr)) s.heap.size) ([(h0, .inr (2, [.int (nI (n)), .int (nI (q)), .ref a1, .ref a2, .ref a3, .int (nI (bd)), .int (nI (fr))])), (a1, .inl (cG, n, .inr (.inr (.inr (.inr (fun j => some (gR j))))))), (a2, .inl (cI, n, .inl (fun j => oI (ro j)))), (a3, .inl (cG, n, .inr (.inr (.inr (.inr (fun j => some (gQ j)))))))] ++ va_pl L (pI cI pl (va_up pr (gQ k0) (qpt n q (fun i => pr (gR i)) ro f0 (pr (gQ k0))))))) (va_A ([(h0, .inr (2, [.int (nI (n)), .int (nI (q)), .ref a1, .ref a2, .ref a3, .int (nI (bd)), .int (nI (fr))])), (a1, .inl (cG, n, .inr (.inr (.inr (.inr (fun j => some (gR j))))))), (a2, .inl (cI, n, .inl (fun j => oI (ro j)))), (a3, .inl (cG, n, .inr (.inr (.inr (.inr (fun j => some (gQ j)))))))] ++ va_pl L (pI cI pl pr)) s.heap.size)) args s 0 0 (va_A ([(h0, .inr (2, [.int (nI (n)), .int (nI (q)), .ref a1, .ref a2, .ref a3, .int (nI (bd)), .int (nI (fr))])), (a1, .inl (cG, n, .inr (.inr (.inr (.inr (fun j => some (gR j))))))), (a2, .inl (cI, n, .inl (fun j => oI (ro j)))), (a3, .inl (cG, n, .inr (.inr (.inr (.inr (fun j => some (gQ j)))))))] ++ va_pl L (pI cI pl pr)) s.heap.size) := ⟨_, rfl⟩
  rw [← hQ]
  have hD := hD0.self (sz := s.heap.size)
  generalize hAe : (va_A ([(h0, .inr (2, [.int (nI (n)), .int (nI (q)), .ref a1, .ref a2, .ref a3, .int (nI (bd)), .int (nI (fr))])), (a1, .inl (cG, n, .inr (.inr (.inr (.inr (fun j => some (gR j))))))), (a2, .inl (cI, n, .inl (fun j => oI (ro j)))), (a3, .inl (cG, n, .inr (.inr (.inr (.inr (fun j => some (gQ j)))))))] ++ va_pl L (pI cI pl pr)) s.heap.size) = A at hD hQ
  have hA : ∀ q : Nat, s.heap.size ≤ q → A q := fun q h => by rw [← hAe]; exact Or.inr h
  have hS : va_S A s.heap s.heap [] := va_S.rf
  have hl := lv_entry ([.ref h0, .ref (gQ k0), .int (nI (f0))]) (n := 5) (Nat.le_of_ble_eq_true rfl)
  generalize hen : entryFrame m args 5 = fr
  rw [hargs, lg_entry_eq] at hen
  subst hen
  generalize (lg_sl ([.ref h0, .ref (gQ k0), .int (nI (f0))]) ++ List.replicate (5 - (lg_sl ([.ref h0, .ref (gQ k0), .int (nI (f0))])).length) Slot.unset).toArray = ls at hl ⊢
  have hl : lv_has ls 5 [(0, .ref h0), (1, .ref (gQ k0)), (2, .int (nI (f0)))] := hl
  have hinX1 : ∀ w ∈ wsX10, w ∈ wsX1_readQuietPattern := by decide +kernel
  have hf9 := hts (.fieldLink RX1 9 "LightRows$Equations" "size" "I") (by decide +kernel)
  have hf15 := hts (.fieldLink RX1 15 "LightRows$Equations" "modulus" "I") (by decide +kernel)
  have hf20 := hts (.fieldLink RX1 20 "LightRows$Equations" "rows" "[[I") (by decide +kernel)
  have hf23 := hts (.fieldLink RX1 23 "LightRows$Equations" "rowOf" "[I") (by decide +kernel)
  have gk := hok.2.1 k0 hk0
  have gap : ∀ i, i < n → gR i ≠ gQ k0 := fun i hi => hok.apart hi hk0
  refine lv_iconst (v := nI 0) hx hb dX1_readQuietPattern_0 (by decide) ?_
  refine lv_istore_n (lv' := [(3, .int (nI (0))), (0, .ref h0), (1, .ref (gQ k0)), (2, .int (nI (f0)))]) hx hb dX1_readQuietPattern_1 rfl hl (by decide) rfl (fun ls hl => ?_)
  have lp : ∀ (k : Nat) (i : Nat) (F : Nat → Nat), (i + k = n) → (∀ j, F j = if j < i then (fun j => match ro j with | none => 0 | some r => (q - pr (gR r) f0) % q) j else pr (gQ k0) j) → ∀ (H : Heap) (locs : List Loc), va_P (dC, dI) vwCl ([(h0, .inr (2, [.int (nI (n)), .int (nI (q)), .ref a1, .ref a2, .ref a3, .int (nI (bd)), .int (nI (fr))])), (a1, .inl (cG, n, .inr (.inr (.inr (.inr (fun j => some (gR j))))))), (a2, .inl (cI, n, .inl (fun j => oI (ro j)))), (a3, .inl (cG, n, .inr (.inr (.inr (.inr (fun j => some (gQ j)))))))] ++ va_pl L (pI cI pl (va_up pr (gQ k0) F))) H → va_D A ([(h0, .inr (2, [.int (nI (n)), .int (nI (q)), .ref a1, .ref a2, .ref a3, .int (nI (bd)), .int (nI (fr))])), (a1, .inl (cG, n, .inr (.inr (.inr (.inr (fun j => some (gR j))))))), (a2, .inl (cI, n, .inl (fun j => oI (ro j)))), (a3, .inl (cG, n, .inr (.inr (.inr (.inr (fun j => some (gQ j)))))))] ++ va_pl L (pI cI pl (va_up pr (gQ k0) F))) → va_S A s.heap H locs → ∀ (ls : Array Slot), lv_has ls 5 [(0, .ref h0), (1, .ref (gQ k0)), (2, .int (nI (f0))), (3, .int (nI (i)))] → W zp l ze (headSpec wsX1_readQuietPattern ({ frames := 0, cells := 0, slots := 0, locals := 0 })).room s m args below meth zc H locs 0 0 Q (F0 m 2 ls []) := by
    intro k
    induction k with
    | zero =>
      intro i F hi hF H locs hP hD hS ls hl
      refine lv_iload_n hx hb dX1_readQuietPattern_2 rfl (lv_at hl 3 rfl) ?_
      refine lv_aload_n hx hb dX1_readQuietPattern_3 rfl (lv_at hl 0 rfl) ?_
      refine va_get (D := (dC, dI)) (ci := 2) (v := .int (nI (n))) (C := RX1) (T := TX1) (N := 7) hx hb hts hinX1 hown hK hP 0 rfl rfl 0 (by decide) hf9 (fun _ h9 => h9) rfl dX1_readQuietPattern_4 ?_
      refine lv_icmp_ge (tgt := 56) hx hb dX1_readQuietPattern_7 (by decide) (fun c => ?_) (fun c => ?_)
      · skip
        have c : n ≤ i := (nI_leI (a := n) (b := i) (by omega) (by omega)).mp c
        obtain rfl : n = i := by omega
        refine lv_aload_n hx hb dX1_readQuietPattern_56 rfl (lv_at hl 1 rfl) ?_
        refine lv_iload_n hx hb dX1_readQuietPattern_57 rfl (lv_at hl 2 rfl) ?_
        refine lv_iconst (v := nI 1) hx hb dX1_readQuietPattern_58 (by decide) ?_
        refine rp_st (v := 1) hx hb hK hP hD hS 0 rfl (gk.1) (by omega) (by omega) dX1_readQuietPattern_59 (fun H locs hP hD hS => ?_)
        have hP : va_P (dC, dI) vwCl ([(h0, .inr (2, [.int (nI (n)), .int (nI (q)), .ref a1, .ref a2, .ref a3, .int (nI (bd)), .int (nI (fr))])), (a1, .inl (cG, n, .inr (.inr (.inr (.inr (fun j => some (gR j))))))), (a2, .inl (cI, n, .inl (fun j => oI (ro j)))), (a3, .inl (cG, n, .inr (.inr (.inr (.inr (fun j => some (gQ j)))))))] ++ va_pl L (pI cI pl (va_up (va_up pr (gQ k0) F) (gQ k0) (va_up ((va_up pr (gQ k0) F) (gQ k0)) f0 (1))))) H := hP
        have hD : va_D A ([(h0, .inr (2, [.int (nI (n)), .int (nI (q)), .ref a1, .ref a2, .ref a3, .int (nI (bd)), .int (nI (fr))])), (a1, .inl (cG, n, .inr (.inr (.inr (.inr (fun j => some (gR j))))))), (a2, .inl (cI, n, .inl (fun j => oI (ro j)))), (a3, .inl (cG, n, .inr (.inr (.inr (.inr (fun j => some (gQ j)))))))] ++ va_pl L (pI cI pl (va_up (va_up pr (gQ k0) F) (gQ k0) (va_up ((va_up pr (gQ k0) F) (gQ k0)) f0 (1))))) := hD
        have e9 : va_up (va_up pr (gQ k0) F) (gQ k0) (va_up ((va_up pr (gQ k0) F) (gQ k0)) f0 (1)) = va_up pr (gQ k0) (qpt n q (fun i => pr (gR i)) ro f0 (pr (gQ k0))) := by rw [up_at, up_up, (funext hF : F = _)]; rfl
        rw [e9] at hP hD
        have hP : va_P (dC, dI) vwCl ([(h0, .inr (2, [.int (nI (n)), .int (nI (q)), .ref a1, .ref a2, .ref a3, .int (nI (bd)), .int (nI (fr))])), (a1, .inl (cG, n, .inr (.inr (.inr (.inr (fun j => some (gR j))))))), (a2, .inl (cI, n, .inl (fun j => oI (ro j)))), (a3, .inl (cG, n, .inr (.inr (.inr (.inr (fun j => some (gQ j)))))))] ++ va_pl L (pI cI pl (va_up pr (gQ k0) (qpt n q (fun i => pr (gR i)) ro f0 (pr (gQ k0)))))) H := hP
        have hD : va_D A ([(h0, .inr (2, [.int (nI (n)), .int (nI (q)), .ref a1, .ref a2, .ref a3, .int (nI (bd)), .int (nI (fr))])), (a1, .inl (cG, n, .inr (.inr (.inr (.inr (fun j => some (gR j))))))), (a2, .inl (cI, n, .inl (fun j => oI (ro j)))), (a3, .inl (cG, n, .inr (.inr (.inr (.inr (fun j => some (gQ j)))))))] ++ va_pl L (pI cI pl (va_up pr (gQ k0) (qpt n q (fun i => pr (gR i)) ro f0 (pr (gQ k0)))))) := hD
        rw [hQ]
        exact W.vret hx hb hr (fun t ht hW => ⟨⟨(), rfl, trivial, by rw [ht]; exact hP, va_K.moved hW.alike hK, hD⟩, hS.F ht⟩) hS.2.2 dX1_readQuietPattern_60
      · skip
        have c : i < n := Nat.not_le.mp (fun h => c ((nI_leI (a := n) (b := i) (by omega) (by omega)).mpr h))
        exact absurd c (by omega)
    | succ k ih =>
      intro i F hi hF H locs hP hD hS ls hl
      refine lv_iload_n hx hb dX1_readQuietPattern_2 rfl (lv_at hl 3 rfl) ?_
      refine lv_aload_n hx hb dX1_readQuietPattern_3 rfl (lv_at hl 0 rfl) ?_
      refine va_get (D := (dC, dI)) (ci := 2) (v := .int (nI (n))) (C := RX1) (T := TX1) (N := 7) hx hb hts hinX1 hown hK hP 0 rfl rfl 0 (by decide) hf9 (fun _ h9 => h9) rfl dX1_readQuietPattern_4 ?_
      refine lv_icmp_ge (tgt := 56) hx hb dX1_readQuietPattern_7 (by decide) (fun c => ?_) (fun c => ?_)
      · skip
        have c : n ≤ i := (nI_leI (a := n) (b := i) (by omega) (by omega)).mp c
        exact absurd c (by omega)
      · skip
        have c : i < n := Nat.not_le.mp (fun h => c ((nI_leI (a := n) (b := i) (by omega) (by omega)).mpr h))
        refine lv_aload_n hx hb dX1_readQuietPattern_10 rfl (lv_at hl 0 rfl) ?_
        refine va_get (D := (dC, dI)) (ci := 2) (v := .ref a2) (C := RX1) (T := TX1) (N := 7) hx hb hts hinX1 hown hK hP 0 rfl rfl 3 (by decide) hf23 (fun _ h9 => h9) rfl dX1_readQuietPattern_11 ?_
        refine lv_iload_n hx hb dX1_readQuietPattern_14 rfl (lv_at hl 3 rfl) ?_
        refine ra_ld (g := oI) (F := ro) hx hb hK hP 2 0 rfl rfl (by omega) (by omega) dX1_readQuietPattern_15 ?_
        rcases ho : ro i with _ | r
        · skip
          refine tp_i (y := (-1)) rfl ?_
          refine lv_istore (lv' := [(4, .int ((-1))), (0, .ref h0), (1, .ref (gQ k0)), (2, .int (nI (f0))), (3, .int (nI (i)))]) hx hb dX1_readQuietPattern_16 hl (by decide) rfl (fun ls hl => ?_)
          refine lv_aload_n hx hb dX1_readQuietPattern_18 rfl (lv_at hl 2 rfl) ?_
          refine lv_iload_n hx hb dX1_readQuietPattern_19 rfl (lv_at hl 4 rfl) ?_
          refine lv_iload hx hb dX1_readQuietPattern_20 (lv_at hl 0 rfl) ?_
          refine lv_iconst (v := (-1)) hx hb dX1_readQuietPattern_22 (by decide) ?_
          refine lv_icmp_ne (tgt := 30) hx hb dX1_readQuietPattern_23 (by decide) (fun c2 => ?_) (fun c2 => ?_)
          · skip
            exact absurd rfl c2
          · skip
            refine lv_iconst (v := nI 0) hx hb dX1_readQuietPattern_26 (by decide) ?_
            refine lv_goto (tgt := 49) hx hb dX1_readQuietPattern_27 (by decide) ?_
            refine rp_st (v := 0) hx hb hK hP hD hS 0 rfl (gk.1) (by omega) (by omega) dX1_readQuietPattern_49 (fun H locs hP hD hS => ?_)
            have hP : va_P (dC, dI) vwCl ([(h0, .inr (2, [.int (nI (n)), .int (nI (q)), .ref a1, .ref a2, .ref a3, .int (nI (bd)), .int (nI (fr))])), (a1, .inl (cG, n, .inr (.inr (.inr (.inr (fun j => some (gR j))))))), (a2, .inl (cI, n, .inl (fun j => oI (ro j)))), (a3, .inl (cG, n, .inr (.inr (.inr (.inr (fun j => some (gQ j)))))))] ++ va_pl L (pI cI pl (va_up (va_up pr (gQ k0) F) (gQ k0) (va_up ((va_up pr (gQ k0) F) (gQ k0)) i (0))))) H := hP
            have hD : va_D A ([(h0, .inr (2, [.int (nI (n)), .int (nI (q)), .ref a1, .ref a2, .ref a3, .int (nI (bd)), .int (nI (fr))])), (a1, .inl (cG, n, .inr (.inr (.inr (.inr (fun j => some (gR j))))))), (a2, .inl (cI, n, .inl (fun j => oI (ro j)))), (a3, .inl (cG, n, .inr (.inr (.inr (.inr (fun j => some (gQ j)))))))] ++ va_pl L (pI cI pl (va_up (va_up pr (gQ k0) F) (gQ k0) (va_up ((va_up pr (gQ k0) F) (gQ k0)) i (0))))) := hD
            have e9 : va_up (va_up pr (gQ k0) F) (gQ k0) (va_up ((va_up pr (gQ k0) F) (gQ k0)) i (0)) = va_up pr (gQ k0) (va_up F i 0) := by rw [up_at, up_up]
            rw [e9] at hP hD
            have hP : va_P (dC, dI) vwCl ([(h0, .inr (2, [.int (nI (n)), .int (nI (q)), .ref a1, .ref a2, .ref a3, .int (nI (bd)), .int (nI (fr))])), (a1, .inl (cG, n, .inr (.inr (.inr (.inr (fun j => some (gR j))))))), (a2, .inl (cI, n, .inl (fun j => oI (ro j)))), (a3, .inl (cG, n, .inr (.inr (.inr (.inr (fun j => some (gQ j)))))))] ++ va_pl L (pI cI pl (va_up pr (gQ k0) (va_up F i 0)))) H := hP
            have hD : va_D A ([(h0, .inr (2, [.int (nI (n)), .int (nI (q)), .ref a1, .ref a2, .ref a3, .int (nI (bd)), .int (nI (fr))])), (a1, .inl (cG, n, .inr (.inr (.inr (.inr (fun j => some (gR j))))))), (a2, .inl (cI, n, .inl (fun j => oI (ro j)))), (a3, .inl (cG, n, .inr (.inr (.inr (.inr (fun j => some (gQ j)))))))] ++ va_pl L (pI cI pl (va_up pr (gQ k0) (va_up F i 0)))) := hD
            refine lv_iinc (v := nI (i + 1)) (lv' := [(3, .int (nI (i + 1))), (4, .int ((-1))), (0, .ref h0), (1, .ref (gQ k0)), (2, .int (nI (f0)))]) hx hb dX1_readQuietPattern_50 hl (k := 4) rfl (nI_1 _) (by decide) rfl (fun ls hl => ?_)
            refine lv_goto (tgt := 2) hx hb dX1_readQuietPattern_53 (by decide) ?_
            exact ih (i + 1) (va_up F i 0) (by omega) (lp_step hF (by simp only [ho])) _ _ hP hD hS ls (lv_sub hl [2, 3, 4, 0] rfl)
        · skip
          refine tp_i (y := nI r) rfl ?_
          have hr1 := hro i (by omega) r ho
          have g1 := hok.1 r hr1
          have b1 := bx r hr1 f0 (by omega)
          refine lv_istore (lv' := [(4, .int (nI (r))), (0, .ref h0), (1, .ref (gQ k0)), (2, .int (nI (f0))), (3, .int (nI (i)))]) hx hb dX1_readQuietPattern_16 hl (by decide) rfl (fun ls hl => ?_)
          refine lv_aload_n hx hb dX1_readQuietPattern_18 rfl (lv_at hl 2 rfl) ?_
          refine lv_iload_n hx hb dX1_readQuietPattern_19 rfl (lv_at hl 4 rfl) ?_
          refine lv_iload hx hb dX1_readQuietPattern_20 (lv_at hl 0 rfl) ?_
          refine lv_iconst (v := (-1)) hx hb dX1_readQuietPattern_22 (by decide) ?_
          refine lv_icmp_ne (tgt := 30) hx hb dX1_readQuietPattern_23 (by decide) (fun c2 => ?_) (fun c2 => ?_)
          · skip
            refine lv_aload_n hx hb dX1_readQuietPattern_30 rfl (lv_at hl 1 rfl) ?_
            refine va_get (D := (dC, dI)) (ci := 2) (v := .int (nI (q))) (C := RX1) (T := TX1) (N := 7) hx hb hts hinX1 hown hK hP 0 rfl rfl 1 (by decide) hf15 (fun _ h9 => h9) rfl dX1_readQuietPattern_31 ?_
            refine lv_aload_n hx hb dX1_readQuietPattern_34 rfl (lv_at hl 1 rfl) ?_
            refine va_get (D := (dC, dI)) (ci := 2) (v := .ref a1) (C := RX1) (T := TX1) (N := 7) hx hb hts hinX1 hown hK hP 0 rfl rfl 2 (by decide) hf20 (fun _ h9 => h9) rfl dX1_readQuietPattern_35 ?_
            refine lv_iload hx hb dX1_readQuietPattern_38 (lv_at hl 0 rfl) ?_
            refine rg_ld (G := gR) hx hb hK hP 1 1 rfl rfl (by omega) (by omega) dX1_readQuietPattern_40 ?_
            refine lv_iload_n hx hb dX1_readQuietPattern_41 rfl (lv_at hl 3 rfl) ?_
            refine rp_ld hx hb hK hP 0 rfl (g1.1) (by omega) (by omega) dX1_readQuietPattern_42 ?_
            refine tp_i (y := nI (pr (gR r) f0)) (by rw [up_of _ _ (gap r hr1)]) ?_
            refine lv_isub hx hb dX1_readQuietPattern_43 ?_
            refine tp_i (y := nI (q - (pr (gR r) f0))) (pk_sub (by omega)) ?_
            refine lv_aload_n hx hb dX1_readQuietPattern_44 rfl (lv_at hl 1 rfl) ?_
            refine va_get (D := (dC, dI)) (ci := 2) (v := .int (nI (q))) (C := RX1) (T := TX1) (N := 7) hx hb hts hinX1 hown hK hP 0 rfl rfl 1 (by decide) hf15 (fun _ h9 => h9) rfl dX1_readQuietPattern_45 ?_
            refine lv_irem hx hb dX1_readQuietPattern_48 (nI_ne0 (by omega) (by omega)) ?_
            refine tp_i (y := nI ((q - (pr (gR r) f0)) % q)) (pk_rem (by omega) (by omega) (by omega)) ?_
            refine rp_st (v := (q - (pr (gR r) f0)) % q) hx hb hK hP hD hS 0 rfl (gk.1) (by omega) (by omega) dX1_readQuietPattern_49 (fun H locs hP hD hS => ?_)
            have hP : va_P (dC, dI) vwCl ([(h0, .inr (2, [.int (nI (n)), .int (nI (q)), .ref a1, .ref a2, .ref a3, .int (nI (bd)), .int (nI (fr))])), (a1, .inl (cG, n, .inr (.inr (.inr (.inr (fun j => some (gR j))))))), (a2, .inl (cI, n, .inl (fun j => oI (ro j)))), (a3, .inl (cG, n, .inr (.inr (.inr (.inr (fun j => some (gQ j)))))))] ++ va_pl L (pI cI pl (va_up (va_up pr (gQ k0) F) (gQ k0) (va_up ((va_up pr (gQ k0) F) (gQ k0)) i ((q - (pr (gR r) f0)) % q))))) H := hP
            have hD : va_D A ([(h0, .inr (2, [.int (nI (n)), .int (nI (q)), .ref a1, .ref a2, .ref a3, .int (nI (bd)), .int (nI (fr))])), (a1, .inl (cG, n, .inr (.inr (.inr (.inr (fun j => some (gR j))))))), (a2, .inl (cI, n, .inl (fun j => oI (ro j)))), (a3, .inl (cG, n, .inr (.inr (.inr (.inr (fun j => some (gQ j)))))))] ++ va_pl L (pI cI pl (va_up (va_up pr (gQ k0) F) (gQ k0) (va_up ((va_up pr (gQ k0) F) (gQ k0)) i ((q - (pr (gR r) f0)) % q))))) := hD
            have e9 : va_up (va_up pr (gQ k0) F) (gQ k0) (va_up ((va_up pr (gQ k0) F) (gQ k0)) i ((q - (pr (gR r) f0)) % q)) = va_up pr (gQ k0) (va_up F i ((q - pr (gR r) f0) % q)) := by rw [up_at, up_up]
            rw [e9] at hP hD
            have hP : va_P (dC, dI) vwCl ([(h0, .inr (2, [.int (nI (n)), .int (nI (q)), .ref a1, .ref a2, .ref a3, .int (nI (bd)), .int (nI (fr))])), (a1, .inl (cG, n, .inr (.inr (.inr (.inr (fun j => some (gR j))))))), (a2, .inl (cI, n, .inl (fun j => oI (ro j)))), (a3, .inl (cG, n, .inr (.inr (.inr (.inr (fun j => some (gQ j)))))))] ++ va_pl L (pI cI pl (va_up pr (gQ k0) (va_up F i ((q - pr (gR r) f0) % q))))) H := hP
            have hD : va_D A ([(h0, .inr (2, [.int (nI (n)), .int (nI (q)), .ref a1, .ref a2, .ref a3, .int (nI (bd)), .int (nI (fr))])), (a1, .inl (cG, n, .inr (.inr (.inr (.inr (fun j => some (gR j))))))), (a2, .inl (cI, n, .inl (fun j => oI (ro j)))), (a3, .inl (cG, n, .inr (.inr (.inr (.inr (fun j => some (gQ j)))))))] ++ va_pl L (pI cI pl (va_up pr (gQ k0) (va_up F i ((q - pr (gR r) f0) % q))))) := hD
            refine lv_iinc (v := nI (i + 1)) (lv' := [(3, .int (nI (i + 1))), (4, .int (nI (r))), (0, .ref h0), (1, .ref (gQ k0)), (2, .int (nI (f0)))]) hx hb dX1_readQuietPattern_50 hl (k := 4) rfl (nI_1 _) (by decide) rfl (fun ls hl => ?_)
            refine lv_goto (tgt := 2) hx hb dX1_readQuietPattern_53 (by decide) ?_
            exact ih (i + 1) (va_up F i ((q - pr (gR r) f0) % q)) (by omega) (lp_step hF (by simp only [ho])) _ _ hP hD hS ls (lv_sub hl [2, 3, 4, 0] rfl)
          · skip
            exact absurd c2 (nI_nm1 (by omega))
  have hP : va_P (dC, dI) vwCl ([(h0, .inr (2, [.int (nI (n)), .int (nI (q)), .ref a1, .ref a2, .ref a3, .int (nI (bd)), .int (nI (fr))])), (a1, .inl (cG, n, .inr (.inr (.inr (.inr (fun j => some (gR j))))))), (a2, .inl (cI, n, .inl (fun j => oI (ro j)))), (a3, .inl (cG, n, .inr (.inr (.inr (.inr (fun j => some (gQ j)))))))] ++ va_pl L (pI cI pl (va_up pr (gQ k0) (pr (gQ k0))))) s.heap := by rw [up_id]; exact hP
  have hD : va_D A ([(h0, .inr (2, [.int (nI (n)), .int (nI (q)), .ref a1, .ref a2, .ref a3, .int (nI (bd)), .int (nI (fr))])), (a1, .inl (cG, n, .inr (.inr (.inr (.inr (fun j => some (gR j))))))), (a2, .inl (cI, n, .inl (fun j => oI (ro j)))), (a3, .inl (cG, n, .inr (.inr (.inr (.inr (fun j => some (gQ j)))))))] ++ va_pl L (pI cI pl (va_up pr (gQ k0) (pr (gQ k0))))) := by rw [up_id]; exact hD
  exact lp n 0 (pr (gQ k0)) (by omega) (lp_zero _ _) _ _ hP hD hS ls (lv_sub hl [1, 2, 3, 0] rfl)
end
section
theorem s_l : ∀ n, n < 32 → ((nI n &&& 31).toBitVec.smod 32).toNat = n := by decide +kernel
/-- how many of the first i lamps have no row -/
def cF (ro : Nat → Option Nat) : Nat → Nat
  | 0 => 0
  | i + 1 => match ro i with
    | none => cF ro i + 1
    | some _ => cF ro i
theorem cF_none {ro : Nat → Option Nat} {i : Nat} (h : ro i = none) : cF ro (i + 1) = cF ro i + 1 := by simp only [cF, h]
theorem cF_some {ro : Nat → Option Nat} {i r : Nat} (h : ro i = some r) : cF ro (i + 1) = cF ro i := by simp only [cF, h]
theorem cF_le (ro : Nat → Option Nat) : ∀ i, cF ro i ≤ i
  | 0 => Nat.le_refl 0
  | i + 1 => by
    have := cF_le ro i
    rcases h : ro i with _ | r
    · rw [cF_none h]; omega
    · rw [cF_some h]; omega
theorem cF_lt {ro : Nat → Option Nat} {j : Nat} (h : ro j = none) : ∀ i, j < i → cF ro j < cF ro i
  | 0, hi => absurd hi (by omega)
  | i + 1, hi => by
    by_cases e : j = i
    · subst e
      rw [cF_none h]; omega
    · have := cF_lt h i (by omega)
      rcases h2 : ro i with _ | r
      · rw [cF_none h2]; omega
      · rw [cF_some h2]; exact this
/-- what the QUIET pattern of the FREE lamp f says of lamp i -/
def qv (q : Nat) (M : Nat → Nat → Nat) (ro : Nat → Option Nat) (f i : Nat) : Nat := if i = f then 1 else match ro i with
  | none => 0
  | some r => (q - M r f) % q
theorem qpt_qv {n q : Nat} {M : Nat → Nat → Nat} {ro : Nat → Option Nat} {f : Nat} {old : Nat → Nat} {i : Nat} (hi : i < n) : qpt n q M ro f old i = qv q M ro f i := by
  unfold qpt qv
  by_cases e : i = f
  · subst e; rw [up_at, if_pos rfl]
  · rw [up_of _ _ e, if_neg e, if_pos hi]
    cases ro i <;> rfl
theorem fR_congr {M M' : Nat → Nat → Nat} {j : Nat} : ∀ (k b : Nat), (∀ i, b ≤ i → i < b + k → M i j = M' i j) → fR M j k b = fR M' j k b
  | 0, _, _ => rfl
  | k + 1, b, h => by
    simp only [fR]
    rw [h b (by omega) (by omega), fR_congr k (b + 1) (fun i h1 h2 => h i (by omega) (by omega))]
theorem fR_some {M : Nat → Nat → Nat} {j r : Nat} : ∀ (k b : Nat), fR M j k b = some r → b ≤ r ∧ r < b + k ∧ M r j ≠ 0
  | 0, _, h => by cases h
  | k + 1, b, h => by
    simp only [fR] at h
    by_cases e : M b j = 0
    · rw [if_pos e] at h
      have := fR_some k (b + 1) h
      exact ⟨by omega, by omega, this.2.2⟩
    · rw [if_neg e] at h
      cases h
      exact ⟨Nat.le_refl _, by omega, e⟩
theorem fR_none {M : Nat → Nat → Nat} {j : Nat} : ∀ (k b : Nat), fR M j k b = none → ∀ i, b ≤ i → i < b + k → M i j = 0
  | 0, _, _ => fun i h1 h2 => absurd h2 (by omega)
  | k + 1, b, h => fun i h1 h2 => by
    simp only [fR] at h
    by_cases e : M b j = 0
    · rw [if_pos e] at h
      by_cases e2 : i = b
      · rw [e2]; exact e
      · exact fR_none k (b + 1) h i (by omega) (by omega)
    · rw [if_neg e] at h
      cases h
theorem ivq_lt {q r : Nat} : ∀ (k f : Nat), f + k ≤ 100 → ivq q r k f < 100
  | 0, _, _ => by simp [ivq]
  | k + 1, f, h => by
    simp only [ivq]
    split
    · omega
    · exact ivq_lt k (f + 1) (by omega)
/-- one lamp of reduce: the rows, the lamps' rows, how many rows are used -/
def rst (n q j : Nat) (z : (Nat → Nat → Nat) × (Nat → Option Nat) × Nat) : (Nat → Nat → Nat) × (Nat → Option Nat) × Nat := match fR z.1 j (n - z.2.2) z.2.2 with
  | none => (z.1, va_up z.2.1 j none, z.2.2)
  | some r => (clr n q z.2.2 j (va_up (swp r z.2.2 z.1) z.2.2 (scR n q (ivq q (z.1 r j) (q - 2) 2) (z.1 r))), va_up z.2.1 j (some z.2.2), z.2.2 + 1)
def rds (n q : Nat) (M : Nat → Nat → Nat) (ro : Nat → Option Nat) : Nat → (Nat → Nat → Nat) × (Nat → Option Nat) × Nat
  | 0 => (M, ro, 0)
  | j + 1 => rst n q j (rds n q M ro j)
theorem rst_bd {n q j : Nat} {z : (Nat → Nat → Nat) × (Nat → Option Nat) × Nat} : (rst n q j z).2.2 ≤ z.2.2 + 1 := by
  unfold rst
  split
  · exact Nat.le_succ _
  · exact Nat.le_refl _
theorem rds_bd {n q : Nat} {M : Nat → Nat → Nat} {ro : Nat → Option Nat} : ∀ j, (rds n q M ro j).2.2 ≤ j
  | 0 => Nat.le_refl 0
  | j + 1 => Nat.le_trans (rst_bd (n := n) (q := q) (j := j)) (Nat.succ_le_succ (rds_bd j))
theorem adR_lt {n q f : Nat} (hq : 0 < q) (r s : Nat → Nat) {j : Nat} (hj : j < n + 1) : adR n q f r s j < q := by
  show (if j < n + 1 then _ else _) < q
  rw [if_pos hj]
  exact Nat.mod_lt _ hq
theorem scR_lt {n q f : Nat} (hq : 0 < q) (r : Nat → Nat) {j : Nat} (hj : j < n + 1) : scR n q f r j < q := by
  show (if j < n + 1 then _ else _) < q
  rw [if_pos hj]
  exact Nat.mod_lt _ hq
theorem clr_lt {n q u j0 : Nat} (hq : 0 < q) {M : Nat → Nat → Nat} (h : ∀ i, i < n → ∀ j, j < n + 1 → M i j < q) : ∀ i, i < n → ∀ j, j < n + 1 → clr n q u j0 M i j < q := by
  intro i hi j hj
  unfold clr
  by_cases h1 : i = u ∨ M i j0 = 0
  · rw [if_pos h1]; exact h i hi j hj
  · rw [if_neg h1]; exact adR_lt hq _ _ hj
theorem rst_lt {n q j0 : Nat} (hq : 0 < q) {z : (Nat → Nat → Nat) × (Nat → Option Nat) × Nat} (hz : z.2.2 ≤ n) (h : ∀ i, i < n → ∀ j, j < n + 1 → z.1 i j < q) : ∀ i, i < n → ∀ j, j < n + 1 → (rst n q j0 z).1 i j < q := by
  unfold rst
  split
  · exact h
  · rename_i r hr
    have h1 := fR_some _ _ hr
    refine clr_lt hq (fun i hi j hj => ?_)
    by_cases e : i = z.2.2
    · subst e; rw [up_at]; exact scR_lt hq _ hj
    · rw [up_of _ _ e]
      unfold swp
      rw [if_neg e]
      split
      · exact h _ (by omega) j hj
      · exact h i hi j hj
theorem rds_lt {n q : Nat} (hq : 0 < q) {M : Nat → Nat → Nat} {ro : Nat → Option Nat} (h : ∀ i, i < n → ∀ j, j < n + 1 → M i j < q) : ∀ k, k ≤ n → ∀ i, i < n → ∀ j, j < n + 1 → (rds n q M ro k).1 i j < q
  | 0, _ => h
  | k + 1, hk => rst_lt hq (Nat.le_trans (rds_bd k) (by omega)) (rds_lt hq h k (by omega))
/-- a lamp's row is one of the rows that are used -/
theorem rst_ro {n q j0 : Nat} {z : (Nat → Nat → Nat) × (Nat → Option Nat) × Nat} (h : ∀ j, j < j0 → ∀ r, z.2.1 j = some r → r < z.2.2) : ∀ j, j < j0 + 1 → ∀ r, (rst n q j0 z).2.1 j = some r → r < (rst n q j0 z).2.2 := by
  intro j hj r
  unfold rst
  split
  · intro h2
    dsimp only at h2 ⊢
    by_cases e : j = j0
    · subst e; rw [up_at] at h2; cases h2
    · rw [up_of _ _ e] at h2; exact h j (by omega) r h2
  · intro h2
    dsimp only at h2 ⊢
    by_cases e : j = j0
    · subst e; rw [up_at] at h2; cases h2; omega
    · rw [up_of _ _ e] at h2; have := h j (by omega) r h2; omega
theorem rds_ro {n q : Nat} {M : Nat → Nat → Nat} {ro : Nat → Option Nat} : ∀ k, ∀ j, j < k → ∀ r, (rds n q M ro k).2.1 j = some r → r < (rds n q M ro k).2.2
  | 0 => fun j hj => absurd hj (by omega)
  | k + 1 => rst_ro (rds_ro k)
theorem nI_smq {w v q : Nat} (h : v ≤ w + q) : nI w - nI v + nI q = nI (w + q - v) := by
  rw [← pk_sub h, ← nI_add, Int32.sub_eq_add_neg, Int32.sub_eq_add_neg, Int32.add_assoc, Int32.add_comm (-nI v), ← Int32.add_assoc]
end
section
set_option maxHeartbeats 4000000 in
set_option maxRecDepth 100000 in
theorem c_X1_readQuietPatterns (l : Launch) (dC : Nat → ClassId) (dI : Nat → Nat → Nat) (sz : Nat) (h0 a1 a2 a3 n q bd fr : Nat) (gR gQ : Nat → Nat) (ro : Nat → Option Nat) (cG : ClassId) (cI : ClassId) (L : List Nat) (pl : Nat → Nat) (pr : Nat → Nat → Nat) (hn : n < 1000) (hok : eqOK n gR gQ L pl) (hq : 2 ≤ q) (hq2 : q < 100) (bx : ∀ i, i < n → ∀ j, j < n + 1 → pr (gR i) j < q) (hro : ∀ j, j < n → ∀ r, ro j = some r → r < n) : Met l yX1_readQuietPatterns wsX1_readQuietPatterns ({ frames := 1, cells := 0, slots := 0, locals := 24 }) (va_Pc [.ref h0] (fun U => U.heap.size = sz ∧ va_P (dC, dI) vwCl ([(h0, .inr (2, [.int (nI (n)), .int (nI (q)), .ref a1, .ref a2, .ref a3, .int (nI (bd)), .int (nI (fr))])), (a1, .inl (cG, n, .inr (.inr (.inr (.inr (fun j => some (gR j))))))), (a2, .inl (cI, n, .inl (fun j => oI (ro j)))), (a3, .inl (cG, n, .inr (.inr (.inr (.inr (fun j => some (gQ j)))))))] ++ va_pl L (pI cI pl pr)) U.heap ∧ va_K (dC, dI) vwCl [(cI, .int), (cG, .array .int)] U ∧ va_D (fun _ => True) ([(h0, .inr (2, [.int (nI (n)), .int (nI (q)), .ref a1, .ref a2, .ref a3, .int (nI (bd)), .int (nI (fr))])), (a1, .inl (cG, n, .inr (.inr (.inr (.inr (fun j => some (gR j))))))), (a2, .inl (cI, n, .inl (fun j => oI (ro j)))), (a3, .inl (cG, n, .inr (.inr (.inr (.inr (fun j => some (gQ j)))))))] ++ va_pl L (pI cI pl pr)))) (va_Qv (fun u : Nat → Nat → Nat => (∀ i, i < n → u (gR i) = pr (gR i)) ∧ ∀ j, j < n → ro j = none → ∀ i, i < n → u (gQ (cF ro j)) i = qv q (fun i => pr (gR i)) ro j i) (fun u t => va_P (dC, dI) vwCl ([(h0, .inr (2, [.int (nI (n)), .int (nI (q)), .ref a1, .ref a2, .ref a3, .int (nI (bd)), .int (nI (cF ro n))])), (a1, .inl (cG, n, .inr (.inr (.inr (.inr (fun j => some (gR j))))))), (a2, .inl (cI, n, .inl (fun j => oI (ro j)))), (a3, .inl (cG, n, .inr (.inr (.inr (.inr (fun j => some (gQ j)))))))] ++ va_pl L (pI cI pl u)) t.heap ∧ va_K (dC, dI) vwCl [(cI, .int), (cG, .array .int)] t ∧ va_D (va_A ([(h0, .inr (2, [.int (nI (n)), .int (nI (q)), .ref a1, .ref a2, .ref a3, .int (nI (bd)), .int (nI (fr))])), (a1, .inl (cG, n, .inr (.inr (.inr (.inr (fun j => some (gR j))))))), (a2, .inl (cI, n, .inl (fun j => oI (ro j)))), (a3, .inl (cG, n, .inr (.inr (.inr (.inr (fun j => some (gQ j)))))))] ++ va_pl L (pI cI pl pr)) sz) ([(h0, .inr (2, [.int (nI (n)), .int (nI (q)), .ref a1, .ref a2, .ref a3, .int (nI (bd)), .int (nI (cF ro n))])), (a1, .inl (cG, n, .inr (.inr (.inr (.inr (fun j => some (gR j))))))), (a2, .inl (cI, n, .inl (fun j => oI (ro j)))), (a3, .inl (cG, n, .inr (.inr (.inr (.inr (fun j => some (gQ j)))))))] ++ va_pl L (pI cI pl u))) (va_A ([(h0, .inr (2, [.int (nI (n)), .int (nI (q)), .ref a1, .ref a2, .ref a3, .int (nI (bd)), .int (nI (fr))])), (a1, .inl (cG, n, .inr (.inr (.inr (.inr (fun j => some (gR j))))))), (a2, .inl (cI, n, .inl (fun j => oI (ro j)))), (a3, .inl (cG, n, .inr (.inr (.inr (.inr (fun j => some (gQ j)))))))] ++ va_pl L (pI cI pl pr)) sz)) 0 0 (va_A ([(h0, .inr (2, [.int (nI (n)), .int (nI (q)), .ref a1, .ref a2, .ref a3, .int (nI (bd)), .int (nI (fr))])), (a1, .inl (cG, n, .inr (.inr (.inr (.inr (fun j => some (gR j))))))), (a2, .inl (cI, n, .inl (fun j => oI (ro j)))), (a3, .inl (cG, n, .inr (.inr (.inr (.inr (fun j => some (gQ j)))))))] ++ va_pl L (pI cI pl pr)) sz) := by
  refine Met.ofW (cc := cX1_readQuietPatterns) (maxL := 2) (ret := none) (by decide) rfl ?_
  intro zp ze s m args below meth zc s₁ B hml hv
  obtain ⟨hargs, hsz, hP, hK, hD0⟩ := hv
  have hx := B.exec
  have hb := B.bytes
  have hr := B.returns
  have hts := atoms_spec (ws := wsX1_readQuietPatterns) B.pre
  have hown : s.vm.findClass RX1 = some m.cls := findClass_of_methodNamed B.named
  have hlocks := B.notSynchronized
  subst hsz
  obtain ⟨Q, hQ⟩ : ∃ Q, Q = MQ below (va_Qv (fun u : Nat → Nat → Nat => (∀ i, i < n → u (gR i) = pr (gR i)) ∧ ∀ j, j < n → ro j = none → ∀ i, i < n → u (gQ (cF ro j)) i = qv q (fun i => pr (gR i)) ro j i) (fun u t => va_P (dC, dI) vwCl ([(h0, .inr (2, [.int (nI (n)), .int (nI (q)), .ref a1, .ref a2, .ref a3, .int (nI (bd)), .int (nI (cF ro n))])), (a1, .inl (cG, n, .inr (.inr (.inr (.inr (fun j => some (gR j))))))), (a2, .inl (cI, n, .inl (fun j => oI (ro j)))), (a3, .inl (cG, n, .inr (.inr (.inr (.inr (fun j => some (gQ j)))))))] ++ va_pl L (pI cI pl u)) t.heap ∧ va_K (dC, dI) vwCl [(cI, .int), (cG, .array .int)] t ∧ va_D (va_A ([(h0, .inr (2, [.int (nI (n)), .int (nI (q)), .ref a1, .ref a2, .ref a3, .int (nI (bd)), .int (nI (fr))])), (a1, .inl (cG, n, .inr (.inr (.inr (.inr (fun j => some (gR j))))))), (a2, .inl (cI, n, .inl (fun j => oI (ro j)))), (a3, .inl (cG, n, .inr (.inr (.inr (.inr (fun j => some (gQ j)))))))] ++ va_pl L (pI cI pl pr)) s.heap.size) ([(h0, .inr (2, [.int (nI (n)), .int (nI (q)), .ref a1, .ref a2, .ref a3, .int (nI (bd)), .int (nI (cF ro n))])), (a1, .inl (cG, n, .inr (.inr (.inr (.inr (fun j => some (gR j))))))), (a2, .inl (cI, n, .inl (fun j => oI (ro j)))), (a3, .inl (cG, n, .inr (.inr (.inr (.inr (fun j => some (gQ j)))))))] ++ va_pl L (pI cI pl u))) (va_A ([(h0, .inr (2, [.int (nI (n)), .int (nI (q)), .ref a1, .ref a2, .ref a3, .int (nI (bd)), .int (nI (fr))])), (a1, .inl (cG, n, .inr (.inr (.inr (.inr (fun j => some (gR j))))))), (a2, .inl (cI, n, .inl (fun j => oI (ro j)))), (a3, .inl (cG, n, .inr (.inr (.inr (.inr (fun j => some (gQ j)))))))] ++ va_pl L (pI cI pl pr)) s.heap.size)) args s 0 0 (va_A ([(h0, .inr (2, [.int (nI (n)), .int (nI (q)), .ref a1, .ref a2, .ref a3, .int (nI (bd)), .int (nI (fr))])), (a1, .inl (cG, n, .inr (.inr (.inr (.inr (fun j => some (gR j))))))), (a2, .inl (cI, n, .inl (fun j => oI (ro j)))), (a3, .inl (cG, n, .inr (.inr (.inr (.inr (fun j => some (gQ j)))))))] ++ va_pl L (pI cI pl pr)) s.heap.size) := ⟨_, rfl⟩
  rw [← hQ]
  have hD := hD0.self (sz := s.heap.size)
  generalize hAe : (va_A ([(h0, .inr (2, [.int (nI (n)), .int (nI (q)), .ref a1, .ref a2, .ref a3, .int (nI (bd)), .int (nI (fr))])), (a1, .inl (cG, n, .inr (.inr (.inr (.inr (fun j => some (gR j))))))), (a2, .inl (cI, n, .inl (fun j => oI (ro j)))), (a3, .inl (cG, n, .inr (.inr (.inr (.inr (fun j => some (gQ j)))))))] ++ va_pl L (pI cI pl pr)) s.heap.size) = A at hD hQ
  have hA : ∀ q : Nat, s.heap.size ≤ q → A q := fun q h => by rw [← hAe]; exact Or.inr h
  have hS : va_S A s.heap s.heap [] := va_S.rf
  have hl := lv_entry ([.ref h0]) (n := 2) (Nat.le_of_ble_eq_true rfl)
  generalize hen : entryFrame m args 2 = fr
  rw [hargs, lg_entry_eq] at hen
  subst hen
  generalize (lg_sl ([.ref h0]) ++ List.replicate (2 - (lg_sl ([.ref h0])).length) Slot.unset).toArray = ls at hl ⊢
  have hl : lv_has ls 2 [(0, .ref h0)] := hl
  have hinX1 : ∀ w ∈ wsX10, w ∈ wsX1_readQuietPatterns := by decide +kernel
  have hf9 := hts (.fieldLink RX1 9 "LightRows$Equations" "size" "I") (by decide +kernel)
  have hf15 := hts (.fieldLink RX1 15 "LightRows$Equations" "modulus" "I") (by decide +kernel)
  have hf20 := hts (.fieldLink RX1 20 "LightRows$Equations" "rows" "[[I") (by decide +kernel)
  have hf23 := hts (.fieldLink RX1 23 "LightRows$Equations" "rowOf" "[I") (by decide +kernel)
  have hf27 := hts (.fieldLink RX1 27 "LightRows$Equations" "quietPatterns" "[[I") (by decide +kernel)
  have hf33 := hts (.fieldLink RX1 33 "LightRows$Equations" "free" "I") (by decide +kernel)
  refine lv_aload_n hx hb dX1_readQuietPatterns_0 rfl (lv_at hl 0 rfl) ?_
  refine lv_iconst (v := nI 0) hx hb dX1_readQuietPatterns_1 (by decide) ?_
  refine va_put (D := (dC, dI)) (ci := 2) (v := .int (nI (0))) (ty := .int) (C := RX1) (T := TX1) (N := 7) hx hb hts hinX1 tyX1 tyX1_ok nmX1 hown hK hP hD hS 0 rfl rfl 6 (by decide) hf33 (fun _ h9 => h9) rfl (by decide +kernel) rfl rfl (Nat.le_of_ble_eq_true rfl) dX1_readQuietPatterns_2 (fun H locs hP hD hS => ?_)
  have hP : va_P (dC, dI) vwCl ([(h0, .inr (2, [.int (nI (n)), .int (nI (q)), .ref a1, .ref a2, .ref a3, .int (nI (bd)), .int (nI (0))])), (a1, .inl (cG, n, .inr (.inr (.inr (.inr (fun j => some (gR j))))))), (a2, .inl (cI, n, .inl (fun j => oI (ro j)))), (a3, .inl (cG, n, .inr (.inr (.inr (.inr (fun j => some (gQ j)))))))] ++ va_pl L (pI cI pl pr)) H := hP
  have hD : va_D A ([(h0, .inr (2, [.int (nI (n)), .int (nI (q)), .ref a1, .ref a2, .ref a3, .int (nI (bd)), .int (nI (0))])), (a1, .inl (cG, n, .inr (.inr (.inr (.inr (fun j => some (gR j))))))), (a2, .inl (cI, n, .inl (fun j => oI (ro j)))), (a3, .inl (cG, n, .inr (.inr (.inr (.inr (fun j => some (gQ j)))))))] ++ va_pl L (pI cI pl pr)) := hD
  refine lv_iconst (v := nI 0) hx hb dX1_readQuietPatterns_5 (by decide) ?_
  refine lv_istore_n (lv' := [(1, .int (nI (0))), (0, .ref h0)]) hx hb dX1_readQuietPatterns_6 rfl hl (by decide) rfl (fun ls hl => ?_)
  have lp : ∀ (k : Nat) (i : Nat) (f : Nat → Nat → Nat), (i + k = n) → (∀ a, a < n → f (gR a) = pr (gR a)) → (∀ j, j < i → ro j = none → ∀ a, a < n → f (gQ (cF ro j)) a = qv q (fun i => pr (gR i)) ro j a) → ∀ (H : Heap) (locs : List Loc), va_P (dC, dI) vwCl ([(h0, .inr (2, [.int (nI (n)), .int (nI (q)), .ref a1, .ref a2, .ref a3, .int (nI (bd)), .int (nI (cF ro i))])), (a1, .inl (cG, n, .inr (.inr (.inr (.inr (fun j => some (gR j))))))), (a2, .inl (cI, n, .inl (fun j => oI (ro j)))), (a3, .inl (cG, n, .inr (.inr (.inr (.inr (fun j => some (gQ j)))))))] ++ va_pl L (pI cI pl f)) H → va_D A ([(h0, .inr (2, [.int (nI (n)), .int (nI (q)), .ref a1, .ref a2, .ref a3, .int (nI (bd)), .int (nI (cF ro i))])), (a1, .inl (cG, n, .inr (.inr (.inr (.inr (fun j => some (gR j))))))), (a2, .inl (cI, n, .inl (fun j => oI (ro j)))), (a3, .inl (cG, n, .inr (.inr (.inr (.inr (fun j => some (gQ j)))))))] ++ va_pl L (pI cI pl f)) → va_S A s.heap H locs → ∀ (ls : Array Slot), lv_has ls 2 [(0, .ref h0), (1, .int (nI (i)))] → W zp l ze (headSpec wsX1_readQuietPatterns ({ frames := 1, cells := 0, slots := 0, locals := 24 })).room s m args below meth zc H locs 0 0 Q (F0 m 7 ls []) := by
    intro k
    induction k with
    | zero =>
      intro i f hi h1 h2 H locs hP hD hS ls hl
      refine lv_iload_n hx hb dX1_readQuietPatterns_7 rfl (lv_at hl 1 rfl) ?_
      refine lv_aload_n hx hb dX1_readQuietPatterns_8 rfl (lv_at hl 0 rfl) ?_
      refine va_get (D := (dC, dI)) (ci := 2) (v := .int (nI (n))) (C := RX1) (T := TX1) (N := 7) hx hb hts hinX1 hown hK hP 0 rfl rfl 0 (by decide) hf9 (fun _ h9 => h9) rfl dX1_readQuietPatterns_9 ?_
      refine lv_icmp_ge (tgt := 55) hx hb dX1_readQuietPatterns_12 (by decide) (fun c => ?_) (fun c => ?_)
      · skip
        have c : n ≤ i := (nI_leI (a := n) (b := i) (by omega) (by omega)).mp c
        obtain rfl : n = i := by omega
        rw [hQ]
        exact W.vret hx hb hr (fun t ht hW => ⟨⟨f, rfl, ⟨h1, h2⟩, by rw [ht]; exact hP, va_K.moved hW.alike hK, hD⟩, hS.F ht⟩) hS.2.2 dX1_readQuietPatterns_55
      · skip
        have c : i < n := Nat.not_le.mp (fun h => c ((nI_leI (a := n) (b := i) (by omega) (by omega)).mpr h))
        exact absurd c (by omega)
    | succ k ih =>
      intro i f hi h1 h2 H locs hP hD hS ls hl
      refine lv_iload_n hx hb dX1_readQuietPatterns_7 rfl (lv_at hl 1 rfl) ?_
      refine lv_aload_n hx hb dX1_readQuietPatterns_8 rfl (lv_at hl 0 rfl) ?_
      refine va_get (D := (dC, dI)) (ci := 2) (v := .int (nI (n))) (C := RX1) (T := TX1) (N := 7) hx hb hts hinX1 hown hK hP 0 rfl rfl 0 (by decide) hf9 (fun _ h9 => h9) rfl dX1_readQuietPatterns_9 ?_
      refine lv_icmp_ge (tgt := 55) hx hb dX1_readQuietPatterns_12 (by decide) (fun c => ?_) (fun c => ?_)
      · skip
        have c : n ≤ i := (nI_leI (a := n) (b := i) (by omega) (by omega)).mp c
        exact absurd c (by omega)
      · skip
        have c : i < n := Nat.not_le.mp (fun h => c ((nI_leI (a := n) (b := i) (by omega) (by omega)).mpr h))
        have hcl := cF_le ro i
        refine lv_aload_n hx hb dX1_readQuietPatterns_15 rfl (lv_at hl 0 rfl) ?_
        refine va_get (D := (dC, dI)) (ci := 2) (v := .ref a2) (C := RX1) (T := TX1) (N := 7) hx hb hts hinX1 hown hK hP 0 rfl rfl 3 (by decide) hf23 (fun _ h9 => h9) rfl dX1_readQuietPatterns_16 ?_
        refine lv_iload_n hx hb dX1_readQuietPatterns_19 rfl (lv_at hl 1 rfl) ?_
        refine ra_ld (g := oI) (F := ro) hx hb hK hP 2 0 rfl rfl (by omega) (by omega) dX1_readQuietPatterns_20 ?_
        rcases ho : ro i with _ | r
        · skip
          refine tp_i (y := (-1)) rfl ?_
          refine lv_iconst (v := (-1)) hx hb dX1_readQuietPatterns_21 (by decide) ?_
          refine lv_icmp_ne (tgt := 49) hx hb dX1_readQuietPatterns_22 (by decide) (fun c2 => ?_) (fun c2 => ?_)
          · skip
            exact absurd rfl c2
          · skip
            refine lv_aload_n hx hb dX1_readQuietPatterns_25 rfl (lv_at hl 0 rfl) ?_
            refine lv_aload_n hx hb dX1_readQuietPatterns_26 rfl (lv_at hl 0 rfl) ?_
            refine va_get (D := (dC, dI)) (ci := 2) (v := .ref a3) (C := RX1) (T := TX1) (N := 7) hx hb hts hinX1 hown hK hP 0 rfl rfl 4 (by decide) hf27 (fun _ h9 => h9) rfl dX1_readQuietPatterns_27 ?_
            refine lv_aload_n hx hb dX1_readQuietPatterns_30 rfl (lv_at hl 0 rfl) ?_
            refine va_get (D := (dC, dI)) (ci := 2) (v := .int (nI (cF ro i))) (C := RX1) (T := TX1) (N := 7) hx hb hts hinX1 hown hK hP 0 rfl rfl 6 (by decide) hf33 (fun _ h9 => h9) rfl dX1_readQuietPatterns_31 ?_
            refine rg_ld (G := gQ) hx hb hK hP 3 1 rfl rfl (by omega) (by omega) dX1_readQuietPatterns_34 ?_
            refine lv_iload_n hx hb dX1_readQuietPatterns_35 rfl (lv_at hl 1 rfl) ?_
            have hPc := hP.part (cx := [(h0, .inr (2, [.int (nI (n)), .int (nI (q)), .ref a1, .ref a2, .ref a3, .int (nI (bd)), .int (nI (cF ro i))])), (a1, .inl (cG, n, .inr (.inr (.inr (.inr (fun j => some (gR j))))))), (a2, .inl (cI, n, .inl (fun j => oI (ro j)))), (a3, .inl (cG, n, .inr (.inr (.inr (.inr (fun j => some (gQ j)))))))]) [0, 1, 2, 3] rfl
            have hDc := hD.part (cx := [(h0, .inr (2, [.int (nI (n)), .int (nI (q)), .ref a1, .ref a2, .ref a3, .int (nI (bd)), .int (nI (cF ro i))])), (a1, .inl (cG, n, .inr (.inr (.inr (.inr (fun j => some (gR j))))))), (a2, .inl (cI, n, .inl (fun j => oI (ro j)))), (a3, .inl (cG, n, .inr (.inr (.inr (.inr (fun j => some (gQ j)))))))]) [0, 1, 2, 3] (by decide) rfl
            have hFc := va_freeP (cx := [(h0, .inr (2, [.int (nI (n)), .int (nI (q)), .ref a1, .ref a2, .ref a3, .int (nI (bd)), .int (nI (cF ro i))])), (a1, .inl (cG, n, .inr (.inr (.inr (.inr (fun j => some (gR j))))))), (a2, .inl (cI, n, .inl (fun j => oI (ro j)))), (a3, .inl (cG, n, .inr (.inr (.inr (.inr (fun j => some (gQ j)))))))]) hD hS hA [0, 1, 2, 3] rfl
            have hKc := hK.sub (tys' := [(cI, .int), (cG, .array .int)]) [0, 1] rfl
            refine va_callv (va_runV (As := [.ref (gQ (cF ro i)), .int (nI (i))]) (rest := []) ⟨hx, hb, hml, hown, hts⟩ (c_X1_readQuietPattern l dC dI H.size h0 a1 a2 a3 n q bd (cF ro i) gR gQ ro cG cI L pl f (cF ro i) i hn hok (by omega) (by omega) hq hq2 (fun a ha j hj => by rw [h1 a ha]; exact bx a ha j hj) hro) (cwV 2 hts gX1_readQuietPatterns_X1_readQuietPattern rfl rfl rfl (by decide +kernel) ⟨Nat.le_of_ble_eq_true rfl, Nat.le_of_ble_eq_true rfl⟩) ⟨fun a U g mk q => by obtain ⟨q0, q1, qP, qK, qD⟩ := q; exact ⟨q0, q1, qP, va_K.moved (u := U) (U := U.calling g mk a) (Vm.Alike.refl U.vm) qK, qD⟩, va_recv hKc hPc (ci := 2) (q0 := 0) rfl rfl, fun U hU hW => ⟨rfl, by rw [hU], by rw [hU]; exact hPc, va_K.moved hW.alike hKc, hDc.weaken (fun _ _ _ _ => trivial)⟩⟩ rfl rfl hl.1 rfl (lv_room (Nat.le_of_ble_eq_true rfl)) dX1_readQuietPatterns_36 ⟨Nat.zero_le _, Nat.zero_le _⟩) hS (fun q _ h => hFc q h) hFc (fun u t H1 locs ht hvm hw hB hz1 hk1 hS => ?_)
            obtain ⟨hP1, hK1, hD1⟩ := hB
            rw [ht] at hP1
            try dsimp only at hw
            obtain ⟨hP, hD⟩ := va_joinP (wr := []) (rx := [(h0, .inr (2, [.int (nI (n)), .int (nI (q)), .ref a1, .ref a2, .ref a3, .int (nI (bd)), .int (nI (cF ro i))])), (a1, .inl (cG, n, .inr (.inr (.inr (.inr (fun j => some (gR j))))))), (a2, .inl (cI, n, .inl (fun j => oI (ro j)))), (a3, .inl (cG, n, .inr (.inr (.inr (.inr (fun j => some (gQ j)))))))]) (pl1 := va_pl L (pI cI pl (va_up f (gQ (cF ro i)) (qpt n q (fun i => f (gR i)) ro i (f (gQ (cF ro i))))))) hP hD [0, 1, 2, 3] [] rfl rfl (by decide) (by decide) hk1 hFc hP1 hD1
            generalize H1 = H at hP hS ⊢
            have hP := hP.part (cx := [(h0, .inr (2, [.int (nI (n)), .int (nI (q)), .ref a1, .ref a2, .ref a3, .int (nI (bd)), .int (nI (cF ro i))])), (a1, .inl (cG, n, .inr (.inr (.inr (.inr (fun j => some (gR j))))))), (a2, .inl (cI, n, .inl (fun j => oI (ro j)))), (a3, .inl (cG, n, .inr (.inr (.inr (.inr (fun j => some (gQ j)))))))]) [0, 1, 2, 3] rfl
            have hD := hD.part (cx := [(h0, .inr (2, [.int (nI (n)), .int (nI (q)), .ref a1, .ref a2, .ref a3, .int (nI (bd)), .int (nI (cF ro i))])), (a1, .inl (cG, n, .inr (.inr (.inr (.inr (fun j => some (gR j))))))), (a2, .inl (cI, n, .inl (fun j => oI (ro j)))), (a3, .inl (cG, n, .inr (.inr (.inr (.inr (fun j => some (gQ j)))))))]) [0, 1, 2, 3] (by decide) rfl
            have hP : va_P (dC, dI) vwCl ([(h0, .inr (2, [.int (nI (n)), .int (nI (q)), .ref a1, .ref a2, .ref a3, .int (nI (bd)), .int (nI (cF ro i))])), (a1, .inl (cG, n, .inr (.inr (.inr (.inr (fun j => some (gR j))))))), (a2, .inl (cI, n, .inl (fun j => oI (ro j)))), (a3, .inl (cG, n, .inr (.inr (.inr (.inr (fun j => some (gQ j)))))))] ++ va_pl L (pI cI pl (va_up f (gQ (cF ro i)) (qpt n q (fun i => f (gR i)) ro i (f (gQ (cF ro i))))))) H := hP
            have hD : va_D A ([(h0, .inr (2, [.int (nI (n)), .int (nI (q)), .ref a1, .ref a2, .ref a3, .int (nI (bd)), .int (nI (cF ro i))])), (a1, .inl (cG, n, .inr (.inr (.inr (.inr (fun j => some (gR j))))))), (a2, .inl (cI, n, .inl (fun j => oI (ro j)))), (a3, .inl (cG, n, .inr (.inr (.inr (.inr (fun j => some (gQ j)))))))] ++ va_pl L (pI cI pl (va_up f (gQ (cF ro i)) (qpt n q (fun i => f (gR i)) ro i (f (gQ (cF ro i))))))) := hD
            refine lv_aload_n hx hb dX1_readQuietPatterns_39 rfl (lv_at hl 0 rfl) ?_
            refine lv_dup hx hb dX1_readQuietPatterns_40 rfl ?_
            refine va_get (D := (dC, dI)) (ci := 2) (v := .int (nI (cF ro i))) (C := RX1) (T := TX1) (N := 7) hx hb hts hinX1 hown hK hP 0 rfl rfl 6 (by decide) hf33 (fun _ h9 => h9) rfl dX1_readQuietPatterns_41 ?_
            refine lv_iconst (v := nI 1) hx hb dX1_readQuietPatterns_44 (by decide) ?_
            refine lv_iadd hx hb dX1_readQuietPatterns_45 ?_
            refine tp_i (y := nI ((cF ro i) + 1)) (nI_add _ _) ?_
            refine tp_i (y := nI (cF ro (i + 1))) (by rw [cF_none ho]) ?_
            refine va_put (D := (dC, dI)) (ci := 2) (v := .int (nI (cF ro (i + 1)))) (ty := .int) (C := RX1) (T := TX1) (N := 7) hx hb hts hinX1 tyX1 tyX1_ok nmX1 hown hK hP hD hS 0 rfl rfl 6 (by decide) hf33 (fun _ h9 => h9) rfl (by decide +kernel) rfl rfl (Nat.le_of_ble_eq_true rfl) dX1_readQuietPatterns_46 (fun H locs hP hD hS => ?_)
            have hP : va_P (dC, dI) vwCl ([(h0, .inr (2, [.int (nI (n)), .int (nI (q)), .ref a1, .ref a2, .ref a3, .int (nI (bd)), .int (nI (cF ro (i + 1)))])), (a1, .inl (cG, n, .inr (.inr (.inr (.inr (fun j => some (gR j))))))), (a2, .inl (cI, n, .inl (fun j => oI (ro j)))), (a3, .inl (cG, n, .inr (.inr (.inr (.inr (fun j => some (gQ j)))))))] ++ va_pl L (pI cI pl (va_up f (gQ (cF ro i)) (qpt n q (fun i => f (gR i)) ro i (f (gQ (cF ro i))))))) H := hP
            have hD : va_D A ([(h0, .inr (2, [.int (nI (n)), .int (nI (q)), .ref a1, .ref a2, .ref a3, .int (nI (bd)), .int (nI (cF ro (i + 1)))])), (a1, .inl (cG, n, .inr (.inr (.inr (.inr (fun j => some (gR j))))))), (a2, .inl (cI, n, .inl (fun j => oI (ro j)))), (a3, .inl (cG, n, .inr (.inr (.inr (.inr (fun j => some (gQ j)))))))] ++ va_pl L (pI cI pl (va_up f (gQ (cF ro i)) (qpt n q (fun i => f (gR i)) ro i (f (gQ (cF ro i))))))) := hD
            refine lv_iinc (v := nI (i + 1)) (lv' := [(1, .int (nI (i + 1))), (0, .ref h0)]) hx hb dX1_readQuietPatterns_49 hl (k := 1) rfl (nI_1 _) (by decide) rfl (fun ls hl => ?_)
            refine lv_goto (tgt := 7) hx hb dX1_readQuietPatterns_52 (by decide) ?_
            exact ih (i + 1) (va_up f (gQ (cF ro i)) (qpt n q (fun i => f (gR i)) ro i (f (gQ (cF ro i))))) (by omega) (fun a ha => by rw [up_of _ _ (hok.apart ha (by omega)), h1 a ha]) (fun j hj hjn a ha => by
                  by_cases e : j = i
                  · subst e
                    rw [up_at, qpt_qv ha]
                    have e2 : qv q (fun i => f (gR i)) ro j a = qv q (fun i => pr (gR i)) ro j a := by
                      unfold qv
                      rcases h3 : ro a with _ | r
                      · rfl
                      · simp only [h1 r (hro a ha r h3)]
                    exact e2
                  · have hlt := cF_lt hjn i (by omega)
                    rw [up_of _ _ (fun h => by have := hok.2.2.2 _ _ (by omega) (by omega) h; omega)]
                    exact h2 j (by omega) hjn a ha) _ _ hP hD hS ls (lv_sub hl [1, 0] rfl)
        · skip
          refine tp_i (y := nI r) rfl ?_
          refine lv_iconst (v := (-1)) hx hb dX1_readQuietPatterns_21 (by decide) ?_
          refine lv_icmp_ne (tgt := 49) hx hb dX1_readQuietPatterns_22 (by decide) (fun c2 => ?_) (fun c2 => ?_)
          · skip
            refine lv_iinc (v := nI (i + 1)) (lv' := [(1, .int (nI (i + 1))), (0, .ref h0)]) hx hb dX1_readQuietPatterns_49 hl (k := 1) rfl (nI_1 _) (by decide) rfl (fun ls hl => ?_)
            refine lv_goto (tgt := 7) hx hb dX1_readQuietPatterns_52 (by decide) ?_
            rw [← cF_some ho] at hP hD
            have hP : va_P (dC, dI) vwCl ([(h0, .inr (2, [.int (nI (n)), .int (nI (q)), .ref a1, .ref a2, .ref a3, .int (nI (bd)), .int (nI (cF ro (i + 1)))])), (a1, .inl (cG, n, .inr (.inr (.inr (.inr (fun j => some (gR j))))))), (a2, .inl (cI, n, .inl (fun j => oI (ro j)))), (a3, .inl (cG, n, .inr (.inr (.inr (.inr (fun j => some (gQ j)))))))] ++ va_pl L (pI cI pl f)) H := hP
            have hD : va_D A ([(h0, .inr (2, [.int (nI (n)), .int (nI (q)), .ref a1, .ref a2, .ref a3, .int (nI (bd)), .int (nI (cF ro (i + 1)))])), (a1, .inl (cG, n, .inr (.inr (.inr (.inr (fun j => some (gR j))))))), (a2, .inl (cI, n, .inl (fun j => oI (ro j)))), (a3, .inl (cG, n, .inr (.inr (.inr (.inr (fun j => some (gQ j)))))))] ++ va_pl L (pI cI pl f)) := hD
            exact ih (i + 1) f (by omega) h1 (fun j hj hjn a ha => by
                  by_cases e : j = i
                  · subst e; rw [ho] at hjn; cases hjn
                  · exact h2 j (by omega) hjn a ha) _ _ hP hD hS ls (lv_sub hl [1, 0] rfl)
          · skip
            exact absurd c2 (nI_nm1 (by have := hro i (by omega) r ho; omega))
  exact lp n 0 pr (by omega) (fun _ _ => rfl) (fun j hj => absurd hj (by omega)) _ _ hP hD hS ls (lv_sub hl [1, 0] rfl)

set_option maxHeartbeats 4000000 in
set_option maxRecDepth 100000 in
theorem c_X1_reduce (l : Launch) (dC : Nat → ClassId) (dI : Nat → Nat → Nat) (sz : Nat) (h0 a1 a2 a3 n q bd fr : Nat) (gR gQ : Nat → Nat) (ro : Nat → Option Nat) (cG : ClassId) (cI : ClassId) (L : List Nat) (pl : Nat → Nat) (pr : Nat → Nat → Nat) (hn : n < 1000) (hok : eqOK n gR gQ L pl) (hq : 2 ≤ q) (hq2 : q < 100) (bx : ∀ i, i < n → ∀ j, j < n + 1 → pr (gR i) j < q) : Met l yX1_reduce wsX1_reduce ({ frames := 2, cells := 0, slots := 0, locals := 47 }) (va_Pc [.ref h0] (fun U => U.heap.size = sz ∧ va_P (dC, dI) vwCl ([(h0, .inr (2, [.int (nI (n)), .int (nI (q)), .ref a1, .ref a2, .ref a3, .int (nI (bd)), .int (nI (fr))])), (a1, .inl (cG, n, .inr (.inr (.inr (.inr (fun j => some (gR j))))))), (a2, .inl (cI, n, .inl (fun j => oI (ro j)))), (a3, .inl (cG, n, .inr (.inr (.inr (.inr (fun j => some (gQ j)))))))] ++ va_pl L (pI cI pl pr)) U.heap ∧ (va_K (dC, dI) vwCl [(cI, .int), (cG, .array .int)] U ∧ grK cG cI U) ∧ va_D (fun _ => True) ([(h0, .inr (2, [.int (nI (n)), .int (nI (q)), .ref a1, .ref a2, .ref a3, .int (nI (bd)), .int (nI (fr))])), (a1, .inl (cG, n, .inr (.inr (.inr (.inr (fun j => some (gR j))))))), (a2, .inl (cI, n, .inl (fun j => oI (ro j)))), (a3, .inl (cG, n, .inr (.inr (.inr (.inr (fun j => some (gQ j)))))))] ++ va_pl L (pI cI pl pr)))) (va_Qv (fun u : (Nat → Nat) × (Nat → Nat → Nat) => eqOK n u.1 gQ L pl ∧ (∀ i, i < n → u.2 (u.1 i) = (rds n q (fun i => pr (gR i)) ro n).1 i) ∧ ∀ j, j < n → (rds n q (fun i => pr (gR i)) ro n).2.1 j = none → ∀ i, i < n → u.2 (gQ (cF (rds n q (fun i => pr (gR i)) ro n).2.1 j)) i = qv q (rds n q (fun i => pr (gR i)) ro n).1 (rds n q (fun i => pr (gR i)) ro n).2.1 j i) (fun u t => va_P (dC, dI) vwCl ([(h0, .inr (2, [.int (nI (n)), .int (nI (q)), .ref a1, .ref a2, .ref a3, .int (nI ((rds n q (fun i => pr (gR i)) ro n).2.2)), .int (nI (cF (rds n q (fun i => pr (gR i)) ro n).2.1 n))])), (a1, .inl (cG, n, .inr (.inr (.inr (.inr (fun j => some (u.1 j))))))), (a2, .inl (cI, n, .inl (fun j => oI (((rds n q (fun i => pr (gR i)) ro n).2.1) j)))), (a3, .inl (cG, n, .inr (.inr (.inr (.inr (fun j => some (gQ j)))))))] ++ va_pl L (pI cI pl u.2)) t.heap ∧ va_K (dC, dI) vwCl [(cI, .int), (cG, .array .int)] t ∧ va_D (va_A ([(h0, .inr (2, [.int (nI (n)), .int (nI (q)), .ref a1, .ref a2, .ref a3, .int (nI (bd)), .int (nI (fr))])), (a1, .inl (cG, n, .inr (.inr (.inr (.inr (fun j => some (gR j))))))), (a2, .inl (cI, n, .inl (fun j => oI (ro j)))), (a3, .inl (cG, n, .inr (.inr (.inr (.inr (fun j => some (gQ j)))))))] ++ va_pl L (pI cI pl pr)) sz) ([(h0, .inr (2, [.int (nI (n)), .int (nI (q)), .ref a1, .ref a2, .ref a3, .int (nI ((rds n q (fun i => pr (gR i)) ro n).2.2)), .int (nI (cF (rds n q (fun i => pr (gR i)) ro n).2.1 n))])), (a1, .inl (cG, n, .inr (.inr (.inr (.inr (fun j => some (u.1 j))))))), (a2, .inl (cI, n, .inl (fun j => oI (((rds n q (fun i => pr (gR i)) ro n).2.1) j)))), (a3, .inl (cG, n, .inr (.inr (.inr (.inr (fun j => some (gQ j)))))))] ++ va_pl L (pI cI pl u.2))) (va_A ([(h0, .inr (2, [.int (nI (n)), .int (nI (q)), .ref a1, .ref a2, .ref a3, .int (nI (bd)), .int (nI (fr))])), (a1, .inl (cG, n, .inr (.inr (.inr (.inr (fun j => some (gR j))))))), (a2, .inl (cI, n, .inl (fun j => oI (ro j)))), (a3, .inl (cG, n, .inr (.inr (.inr (.inr (fun j => some (gQ j)))))))] ++ va_pl L (pI cI pl pr)) sz)) 0 0 (va_A ([(h0, .inr (2, [.int (nI (n)), .int (nI (q)), .ref a1, .ref a2, .ref a3, .int (nI (bd)), .int (nI (fr))])), (a1, .inl (cG, n, .inr (.inr (.inr (.inr (fun j => some (gR j))))))), (a2, .inl (cI, n, .inl (fun j => oI (ro j)))), (a3, .inl (cG, n, .inr (.inr (.inr (.inr (fun j => some (gQ j)))))))] ++ va_pl L (pI cI pl pr)) sz) := by
  refine Met.ofW (cc := cX1_reduce) (maxL := 3) (ret := none) (by decide) rfl ?_
  intro zp ze s m args below meth zc s₁ B hml hv
  obtain ⟨hargs, hsz, hP, ⟨hK, hG⟩, hD0⟩ := hv
  have hx := B.exec
  have hb := B.bytes
  have hr := B.returns
  have hts := atoms_spec (ws := wsX1_reduce) B.pre
  have hown : s.vm.findClass RX1 = some m.cls := findClass_of_methodNamed B.named
  have hlocks := B.notSynchronized
  subst hsz
  obtain ⟨Q, hQ⟩ : ∃ Q, Q = MQ below (va_Qv (fun u : (Nat → Nat) × (Nat → Nat → Nat) => eqOK n u.1 gQ L pl ∧ (∀ i, i < n → u.2 (u.1 i) = (rds n q (fun i => pr (gR i)) ro n).1 i) ∧ ∀ j, j < n → (rds n q (fun i => pr (gR i)) ro n).2.1 j = none → ∀ i, i < n → u.2 (gQ (cF (rds n q (fun i => pr (gR i)) ro n).2.1 j)) i = qv q (rds n q (fun i => pr (gR i)) ro n).1 (rds n q (fun i => pr (gR i)) ro n).2.1 j i) (fun u t => va_P (dC, dI) vwCl ([(h0, .inr (2, [.int (nI (n)), .int (nI (q)), .ref a1, .ref a2, .ref a3, .int (nI ((rds n q (fun i => pr (gR i)) ro n).2.2)), .int (nI (cF (rds n q (fun i => pr (gR i)) ro n).2.1 n))])), (a1, .inl (cG, n, .inr (.inr (.inr (.inr (fun j => some (u.1 j))))))), (a2, .inl (cI, n, .inl (fun j => oI (((rds n q (fun i => pr (gR i)) ro n).2.1) j)))), (a3, .inl (cG, n, .inr (.inr (.inr (.inr (fun j => some (gQ j)))))))] ++ va_pl L (pI cI pl u.2)) t.heap ∧ va_K (dC, dI) vwCl [(cI, .int), (cG, .array .int)] t ∧ va_D (va_A ([(h0, .inr (2, [.int (nI (n)), .int (nI (q)), .ref a1, .ref a2, .ref a3, .int (nI (bd)), .int (nI (fr))])), (a1, .inl (cG, n, .inr (.inr (.inr (.inr (fun j => some (gR j))))))), (a2, .inl (cI, n, .inl (fun j => oI (ro j)))), (a3, .inl (cG, n, .inr (.inr (.inr (.inr (fun j => some (gQ j)))))))] ++ va_pl L (pI cI pl pr)) s.heap.size) ([(h0, .inr (2, [.int (nI (n)), .int (nI (q)), .ref a1, .ref a2, .ref a3, .int (nI ((rds n q (fun i => pr (gR i)) ro n).2.2)), .int (nI (cF (rds n q (fun i => pr (gR i)) ro n).2.1 n))])), (a1, .inl (cG, n, .inr (.inr (.inr (.inr (fun j => some (u.1 j))))))), (a2, .inl (cI, n, .inl (fun j => oI (((rds n q (fun i => pr (gR i)) ro n).2.1) j)))), (a3, .inl (cG, n, .inr (.inr (.inr (.inr (fun j => some (gQ j)))))))] ++ va_pl L (pI cI pl u.2))) (va_A ([(h0, .inr (2, [.int (nI (n)), .int (nI (q)), .ref a1, .ref a2, .ref a3, .int (nI (bd)), .int (nI (fr))])), (a1, .inl (cG, n, .inr (.inr (.inr (.inr (fun j => some (gR j))))))), (a2, .inl (cI, n, .inl (fun j => oI (ro j)))), (a3, .inl (cG, n, .inr (.inr (.inr (.inr (fun j => some (gQ j)))))))] ++ va_pl L (pI cI pl pr)) s.heap.size)) args s 0 0 (va_A ([(h0, .inr (2, [.int (nI (n)), .int (nI (q)), .ref a1, .ref a2, .ref a3, .int (nI (bd)), .int (nI (fr))])), (a1, .inl (cG, n, .inr (.inr (.inr (.inr (fun j => some (gR j))))))), (a2, .inl (cI, n, .inl (fun j => oI (ro j)))), (a3, .inl (cG, n, .inr (.inr (.inr (.inr (fun j => some (gQ j)))))))] ++ va_pl L (pI cI pl pr)) s.heap.size) := ⟨_, rfl⟩
  rw [← hQ]
  have hD := hD0.self (sz := s.heap.size)
  generalize hAe : (va_A ([(h0, .inr (2, [.int (nI (n)), .int (nI (q)), .ref a1, .ref a2, .ref a3, .int (nI (bd)), .int (nI (fr))])), (a1, .inl (cG, n, .inr (.inr (.inr (.inr (fun j => some (gR j))))))), (a2, .inl (cI, n, .inl (fun j => oI (ro j)))), (a3, .inl (cG, n, .inr (.inr (.inr (.inr (fun j => some (gQ j)))))))] ++ va_pl L (pI cI pl pr)) s.heap.size) = A at hD hQ
  have hA : ∀ q : Nat, s.heap.size ≤ q → A q := fun q h => by rw [← hAe]; exact Or.inr h
  have hS : va_S A s.heap s.heap [] := va_S.rf
  have hl := lv_entry ([.ref h0]) (n := 3) (Nat.le_of_ble_eq_true rfl)
  generalize hen : entryFrame m args 3 = fr
  rw [hargs, lg_entry_eq] at hen
  subst hen
  generalize (lg_sl ([.ref h0]) ++ List.replicate (3 - (lg_sl ([.ref h0])).length) Slot.unset).toArray = ls at hl ⊢
  have hl : lv_has ls 3 [(0, .ref h0)] := hl
  have hinX1 : ∀ w ∈ wsX10, w ∈ wsX1_reduce := by decide +kernel
  have hf9 := hts (.fieldLink RX1 9 "LightRows$Equations" "size" "I") (by decide +kernel)
  have hf15 := hts (.fieldLink RX1 15 "LightRows$Equations" "modulus" "I") (by decide +kernel)
  have hf20 := hts (.fieldLink RX1 20 "LightRows$Equations" "rows" "[[I") (by decide +kernel)
  have hf23 := hts (.fieldLink RX1 23 "LightRows$Equations" "rowOf" "[I") (by decide +kernel)
  have hf27 := hts (.fieldLink RX1 27 "LightRows$Equations" "quietPatterns" "[[I") (by decide +kernel)
  have hf30 := hts (.fieldLink RX1 30 "LightRows$Equations" "bound" "I") (by decide +kernel)
  have hf33 := hts (.fieldLink RX1 33 "LightRows$Equations" "free" "I") (by decide +kernel)
  refine lv_aload_n hx hb dX1_reduce_0 rfl (lv_at hl 0 rfl) ?_
  refine lv_iconst (v := nI 0) hx hb dX1_reduce_1 (by decide) ?_
  refine va_put (D := (dC, dI)) (ci := 2) (v := .int (nI (0))) (ty := .int) (C := RX1) (T := TX1) (N := 7) hx hb hts hinX1 tyX1 tyX1_ok nmX1 hown hK hP hD hS 0 rfl rfl 5 (by decide) hf30 (fun _ h9 => h9) rfl (by decide +kernel) rfl rfl (Nat.le_of_ble_eq_true rfl) dX1_reduce_2 (fun H locs hP hD hS => ?_)
  have hP : va_P (dC, dI) vwCl ([(h0, .inr (2, [.int (nI (n)), .int (nI (q)), .ref a1, .ref a2, .ref a3, .int (nI (0)), .int (nI (fr))])), (a1, .inl (cG, n, .inr (.inr (.inr (.inr (fun j => some (gR j))))))), (a2, .inl (cI, n, .inl (fun j => oI (ro j)))), (a3, .inl (cG, n, .inr (.inr (.inr (.inr (fun j => some (gQ j)))))))] ++ va_pl L (pI cI pl pr)) H := hP
  have hD : va_D A ([(h0, .inr (2, [.int (nI (n)), .int (nI (q)), .ref a1, .ref a2, .ref a3, .int (nI (0)), .int (nI (fr))])), (a1, .inl (cG, n, .inr (.inr (.inr (.inr (fun j => some (gR j))))))), (a2, .inl (cI, n, .inl (fun j => oI (ro j)))), (a3, .inl (cG, n, .inr (.inr (.inr (.inr (fun j => some (gQ j)))))))] ++ va_pl L (pI cI pl pr)) := hD
  refine lv_iconst (v := nI 0) hx hb dX1_reduce_5 (by decide) ?_
  refine lv_istore_n (lv' := [(1, .int (nI (0))), (0, .ref h0)]) hx hb dX1_reduce_6 rfl hl (by decide) rfl (fun ls hl => ?_)
  have lp : ∀ (k : Nat) (i : Nat) (z : (Nat → Nat → Nat) × (Nat → Option Nat) × Nat) (g : Nat → Nat) (f : Nat → Nat → Nat), (i + k = n) → (z = rds n q (fun i => pr (gR i)) ro i) → (eqOK n g gQ L pl) → (∀ a, a < n → f (g a) = z.1 a) → ∀ (H : Heap) (locs : List Loc), va_P (dC, dI) vwCl ([(h0, .inr (2, [.int (nI (n)), .int (nI (q)), .ref a1, .ref a2, .ref a3, .int (nI (z.2.2)), .int (nI (fr))])), (a1, .inl (cG, n, .inr (.inr (.inr (.inr (fun j => some (g j))))))), (a2, .inl (cI, n, .inl (fun j => oI (z.2.1 j)))), (a3, .inl (cG, n, .inr (.inr (.inr (.inr (fun j => some (gQ j)))))))] ++ va_pl L (pI cI pl f)) H → va_D A ([(h0, .inr (2, [.int (nI (n)), .int (nI (q)), .ref a1, .ref a2, .ref a3, .int (nI (z.2.2)), .int (nI (fr))])), (a1, .inl (cG, n, .inr (.inr (.inr (.inr (fun j => some (g j))))))), (a2, .inl (cI, n, .inl (fun j => oI (z.2.1 j)))), (a3, .inl (cG, n, .inr (.inr (.inr (.inr (fun j => some (gQ j)))))))] ++ va_pl L (pI cI pl f)) → va_S A s.heap H locs → ∀ (ls : Array Slot), lv_has ls 3 [(0, .ref h0), (1, .int (nI (i)))] → W zp l ze (headSpec wsX1_reduce ({ frames := 2, cells := 0, slots := 0, locals := 47 })).room s m args below meth zc H locs 0 0 Q (F0 m 7 ls []) := by
    intro k
    induction k with
    | zero =>
      intro i z g f hi hz ho h1 H locs hP hD hS ls hl
      have bz : z.2.2 ≤ n := by rw [hz]; exact Nat.le_trans (rds_bd i) (by omega)
      have bl : ∀ a, a < n → ∀ j, j < n + 1 → f (g a) j < q := fun a ha j hj => by rw [h1 a ha, hz]; exact rds_lt (by omega) bx i (by omega) a ha j hj
      refine lv_iload_n hx hb dX1_reduce_7 rfl (lv_at hl 1 rfl) ?_
      refine lv_aload_n hx hb dX1_reduce_8 rfl (lv_at hl 0 rfl) ?_
      refine va_get (D := (dC, dI)) (ci := 2) (v := .int (nI (n))) (C := RX1) (T := TX1) (N := 7) hx hb hts hinX1 hown hK hP 0 rfl rfl 0 (by decide) hf9 (fun _ h9 => h9) rfl dX1_reduce_9 ?_
      refine lv_icmp_ge (tgt := 93) hx hb dX1_reduce_12 (by decide) (fun c => ?_) (fun c => ?_)
      · skip
        have c : n ≤ i := (nI_leI (a := n) (b := i) (by omega) (by omega)).mp c
        obtain rfl : n = i := by omega
        refine lv_aload_n hx hb dX1_reduce_93 rfl (lv_at hl 0 rfl) ?_
        have hro : ∀ j, j < n → ∀ r, z.2.1 j = some r → r < n := fun j hj r h => by rw [hz] at h bz; have := rds_ro n j hj r h; omega
        have hPc := hP.part (cx := [(h0, .inr (2, [.int (nI (n)), .int (nI (q)), .ref a1, .ref a2, .ref a3, .int (nI (z.2.2)), .int (nI (fr))])), (a1, .inl (cG, n, .inr (.inr (.inr (.inr (fun j => some (g j))))))), (a2, .inl (cI, n, .inl (fun j => oI (z.2.1 j)))), (a3, .inl (cG, n, .inr (.inr (.inr (.inr (fun j => some (gQ j)))))))]) [0, 1, 2, 3] rfl
        have hDc := hD.part (cx := [(h0, .inr (2, [.int (nI (n)), .int (nI (q)), .ref a1, .ref a2, .ref a3, .int (nI (z.2.2)), .int (nI (fr))])), (a1, .inl (cG, n, .inr (.inr (.inr (.inr (fun j => some (g j))))))), (a2, .inl (cI, n, .inl (fun j => oI (z.2.1 j)))), (a3, .inl (cG, n, .inr (.inr (.inr (.inr (fun j => some (gQ j)))))))]) [0, 1, 2, 3] (by decide) rfl
        have hFc := va_freeP (cx := [(h0, .inr (2, [.int (nI (n)), .int (nI (q)), .ref a1, .ref a2, .ref a3, .int (nI (z.2.2)), .int (nI (fr))])), (a1, .inl (cG, n, .inr (.inr (.inr (.inr (fun j => some (g j))))))), (a2, .inl (cI, n, .inl (fun j => oI (z.2.1 j)))), (a3, .inl (cG, n, .inr (.inr (.inr (.inr (fun j => some (gQ j)))))))]) hD hS hA [0, 1, 2, 3] rfl
        have hKc := hK.sub (tys' := [(cI, .int), (cG, .array .int)]) [0, 1] rfl
        refine va_callv (va_runV (As := []) (rest := []) ⟨hx, hb, hml, hown, hts⟩ (c_X1_readQuietPatterns l dC dI H.size h0 a1 a2 a3 n q z.2.2 fr g gQ z.2.1 cG cI L pl f hn ho hq hq2 bl hro) (cwV 0 hts gX1_reduce_X1_readQuietPatterns rfl rfl rfl (by decide +kernel) ⟨Nat.le_of_ble_eq_true rfl, Nat.le_of_ble_eq_true rfl⟩) ⟨fun a U g mk q => by obtain ⟨q0, q1, qP, qK, qD⟩ := q; exact ⟨q0, q1, qP, va_K.moved (u := U) (U := U.calling g mk a) (Vm.Alike.refl U.vm) qK, qD⟩, va_recv hKc hPc (ci := 2) (q0 := 0) rfl rfl, fun U hU hW => ⟨rfl, by rw [hU], by rw [hU]; exact hPc, va_K.moved hW.alike hKc, hDc.weaken (fun _ _ _ _ => trivial)⟩⟩ rfl rfl hl.1 rfl (lv_room (Nat.le_of_ble_eq_true rfl)) dX1_reduce_94 ⟨Nat.zero_le _, Nat.zero_le _⟩) hS (fun q _ h => hFc q h) hFc (fun f2 t H1 locs ht hvm hw hB hz1 hk1 hS => ?_)
        obtain ⟨hP1, hK1, hD1⟩ := hB
        rw [ht] at hP1
        try dsimp only at hw
        obtain ⟨hP, hD⟩ := va_joinP (wr := []) (rx := [(h0, .inr (2, [.int (nI (n)), .int (nI (q)), .ref a1, .ref a2, .ref a3, .int (nI (z.2.2)), .int (nI (cF z.2.1 n))])), (a1, .inl (cG, n, .inr (.inr (.inr (.inr (fun j => some (g j))))))), (a2, .inl (cI, n, .inl (fun j => oI (z.2.1 j)))), (a3, .inl (cG, n, .inr (.inr (.inr (.inr (fun j => some (gQ j)))))))]) (pl1 := va_pl L (pI cI pl f2)) hP hD [0, 1, 2, 3] [] rfl rfl (by decide) (by decide) hk1 hFc hP1 hD1
        generalize H1 = H at hP hS ⊢
        have hP := hP.part (cx := [(h0, .inr (2, [.int (nI (n)), .int (nI (q)), .ref a1, .ref a2, .ref a3, .int (nI (z.2.2)), .int (nI (cF z.2.1 n))])), (a1, .inl (cG, n, .inr (.inr (.inr (.inr (fun j => some (g j))))))), (a2, .inl (cI, n, .inl (fun j => oI (z.2.1 j)))), (a3, .inl (cG, n, .inr (.inr (.inr (.inr (fun j => some (gQ j)))))))]) [0, 1, 2, 3] rfl
        have hD := hD.part (cx := [(h0, .inr (2, [.int (nI (n)), .int (nI (q)), .ref a1, .ref a2, .ref a3, .int (nI (z.2.2)), .int (nI (cF z.2.1 n))])), (a1, .inl (cG, n, .inr (.inr (.inr (.inr (fun j => some (g j))))))), (a2, .inl (cI, n, .inl (fun j => oI (z.2.1 j)))), (a3, .inl (cG, n, .inr (.inr (.inr (.inr (fun j => some (gQ j)))))))]) [0, 1, 2, 3] (by decide) rfl
        have hP : va_P (dC, dI) vwCl ([(h0, .inr (2, [.int (nI (n)), .int (nI (q)), .ref a1, .ref a2, .ref a3, .int (nI (z.2.2)), .int (nI (cF z.2.1 n))])), (a1, .inl (cG, n, .inr (.inr (.inr (.inr (fun j => some (g j))))))), (a2, .inl (cI, n, .inl (fun j => oI (z.2.1 j)))), (a3, .inl (cG, n, .inr (.inr (.inr (.inr (fun j => some (gQ j)))))))] ++ va_pl L (pI cI pl f2)) H := hP
        have hD : va_D A ([(h0, .inr (2, [.int (nI (n)), .int (nI (q)), .ref a1, .ref a2, .ref a3, .int (nI (z.2.2)), .int (nI (cF z.2.1 n))])), (a1, .inl (cG, n, .inr (.inr (.inr (.inr (fun j => some (g j))))))), (a2, .inl (cI, n, .inl (fun j => oI (z.2.1 j)))), (a3, .inl (cG, n, .inr (.inr (.inr (.inr (fun j => some (gQ j)))))))] ++ va_pl L (pI cI pl f2)) := hD
        have e3 : ∀ j a, a < n → qv q (fun i => f (g i)) z.2.1 j a = qv q z.1 z.2.1 j a := fun j a ha => by
          unfold qv
          rcases h3 : z.2.1 a with _ | r
          · rfl
          · simp only [h1 r (hro a ha r h3)]
        subst hz
        rw [hQ]
        exact W.vret hx hb hr (fun t ht hW => ⟨⟨(g, f2), rfl, ⟨ho, fun a ha => (hw.1 a ha).trans (h1 a ha), fun j hj hjn a ha => (hw.2 j hj hjn a ha).trans (e3 j a ha)⟩, by rw [ht]; exact hP, va_K.moved hW.alike hK, hD⟩, hS.F ht⟩) hS.2.2 dX1_reduce_97
      · skip
        have c : i < n := Nat.not_le.mp (fun h => c ((nI_leI (a := n) (b := i) (by omega) (by omega)).mpr h))
        exact absurd c (by omega)
    | succ k ih =>
      intro i z g f hi hz ho h1 H locs hP hD hS ls hl
      have bz : z.2.2 ≤ i := by rw [hz]; exact rds_bd i
      have bl : ∀ a, a < n → ∀ j, j < n + 1 → f (g a) j < q := fun a ha j hj => by rw [h1 a ha, hz]; exact rds_lt (by omega) bx i (by omega) a ha j hj
      refine lv_iload_n hx hb dX1_reduce_7 rfl (lv_at hl 1 rfl) ?_
      refine lv_aload_n hx hb dX1_reduce_8 rfl (lv_at hl 0 rfl) ?_
      refine va_get (D := (dC, dI)) (ci := 2) (v := .int (nI (n))) (C := RX1) (T := TX1) (N := 7) hx hb hts hinX1 hown hK hP 0 rfl rfl 0 (by decide) hf9 (fun _ h9 => h9) rfl dX1_reduce_9 ?_
      refine lv_icmp_ge (tgt := 93) hx hb dX1_reduce_12 (by decide) (fun c => ?_) (fun c => ?_)
      · skip
        have c : n ≤ i := (nI_leI (a := n) (b := i) (by omega) (by omega)).mp c
        exact absurd c (by omega)
      · skip
        have c : i < n := Nat.not_le.mp (fun h => c ((nI_leI (a := n) (b := i) (by omega) (by omega)).mpr h))
        refine lv_aload_n hx hb dX1_reduce_15 rfl (lv_at hl 0 rfl) ?_
        refine lv_iload_n hx hb dX1_reduce_16 rfl (lv_at hl 1 rfl) ?_
        have ef : fR (fun i => f (g i)) i (n - z.2.2) z.2.2 = fR z.1 i (n - z.2.2) z.2.2 := fR_congr _ _ (fun a h3 h4 => by simp only [h1 a (by omega)])
        have hPc := hP.part (cx := [(h0, .inr (2, [.int (nI (n)), .int (nI (q)), .ref a1, .ref a2, .ref a3, .int (nI (z.2.2)), .int (nI (fr))])), (a1, .inl (cG, n, .inr (.inr (.inr (.inr (fun j => some (g j))))))), (a2, .inl (cI, n, .inl (fun j => oI (z.2.1 j)))), (a3, .inl (cG, n, .inr (.inr (.inr (.inr (fun j => some (gQ j)))))))]) [0, 1, 2, 3] rfl
        have hDc := hD.part (cx := [(h0, .inr (2, [.int (nI (n)), .int (nI (q)), .ref a1, .ref a2, .ref a3, .int (nI (z.2.2)), .int (nI (fr))])), (a1, .inl (cG, n, .inr (.inr (.inr (.inr (fun j => some (g j))))))), (a2, .inl (cI, n, .inl (fun j => oI (z.2.1 j)))), (a3, .inl (cG, n, .inr (.inr (.inr (.inr (fun j => some (gQ j)))))))]) [0, 1, 2, 3] (by decide) rfl
        have hFc := va_freeP (cx := [(h0, .inr (2, [.int (nI (n)), .int (nI (q)), .ref a1, .ref a2, .ref a3, .int (nI (z.2.2)), .int (nI (fr))])), (a1, .inl (cG, n, .inr (.inr (.inr (.inr (fun j => some (g j))))))), (a2, .inl (cI, n, .inl (fun j => oI (z.2.1 j)))), (a3, .inl (cG, n, .inr (.inr (.inr (.inr (fun j => some (gQ j)))))))]) hD hS hA [0, 1, 2, 3] rfl
        have hKc := hK.sub (tys' := [(cI, .int), (cG, .array .int)]) [0, 1] rfl
        refine va_calli (va_runV (As := [.int (nI (i))]) (rest := []) ⟨hx, hb, hml, hown, hts⟩ (c_X1_unusedRowWith l dC dI H.size h0 a1 a2 a3 n q z.2.2 fr g gQ z.2.1 cG cI L pl f i hn ho (by omega) (by omega) (fun a ha => by have := bl a ha i (by omega); omega)) (cwV 1 hts gX1_reduce_X1_unusedRowWith rfl rfl rfl (by decide +kernel) ⟨Nat.le_of_ble_eq_true rfl, Nat.le_of_ble_eq_true rfl⟩) ⟨fun a U g mk q => by obtain ⟨q0, q1, qP, qK, qD⟩ := q; exact ⟨q0, q1, qP, va_K.moved (u := U) (U := U.calling g mk a) (Vm.Alike.refl U.vm) qK, qD⟩, va_recv hKc hPc (ci := 2) (q0 := 0) rfl rfl, fun U hU hW => ⟨rfl, by rw [hU], by rw [hU]; exact hPc, va_K.moved hW.alike hKc, hDc.weaken (fun _ _ _ _ => trivial)⟩⟩ rfl rfl hl.1 rfl (lv_room (Nat.le_of_ble_eq_true rfl)) dX1_reduce_17 ⟨Nat.zero_le _, Nat.zero_le _⟩) hS (fun q _ h => hFc q h) hFc (fun r2 u t H1 locs ht hvm hw hB hz1 hk1 hS => ?_)
        obtain ⟨hP1, hK1, hD1⟩ := hB
        rw [ht] at hP1
        try dsimp only at hw
        obtain ⟨hP, hD⟩ := va_joinP (wr := []) (rx := [(h0, .inr (2, [.int (nI (n)), .int (nI (q)), .ref a1, .ref a2, .ref a3, .int (nI (z.2.2)), .int (nI (fr))])), (a1, .inl (cG, n, .inr (.inr (.inr (.inr (fun j => some (g j))))))), (a2, .inl (cI, n, .inl (fun j => oI (z.2.1 j)))), (a3, .inl (cG, n, .inr (.inr (.inr (.inr (fun j => some (gQ j)))))))]) (pl1 := va_pl L (pI cI pl f)) hP hD [0, 1, 2, 3] [] rfl rfl (by decide) (by decide) hk1 hFc hP1 hD1
        generalize H1 = H at hP hS ⊢
        have hP := hP.part (cx := [(h0, .inr (2, [.int (nI (n)), .int (nI (q)), .ref a1, .ref a2, .ref a3, .int (nI (z.2.2)), .int (nI (fr))])), (a1, .inl (cG, n, .inr (.inr (.inr (.inr (fun j => some (g j))))))), (a2, .inl (cI, n, .inl (fun j => oI (z.2.1 j)))), (a3, .inl (cG, n, .inr (.inr (.inr (.inr (fun j => some (gQ j)))))))]) [0, 1, 2, 3] rfl
        have hD := hD.part (cx := [(h0, .inr (2, [.int (nI (n)), .int (nI (q)), .ref a1, .ref a2, .ref a3, .int (nI (z.2.2)), .int (nI (fr))])), (a1, .inl (cG, n, .inr (.inr (.inr (.inr (fun j => some (g j))))))), (a2, .inl (cI, n, .inl (fun j => oI (z.2.1 j)))), (a3, .inl (cG, n, .inr (.inr (.inr (.inr (fun j => some (gQ j)))))))]) [0, 1, 2, 3] (by decide) rfl
        have hP : va_P (dC, dI) vwCl ([(h0, .inr (2, [.int (nI (n)), .int (nI (q)), .ref a1, .ref a2, .ref a3, .int (nI (z.2.2)), .int (nI (fr))])), (a1, .inl (cG, n, .inr (.inr (.inr (.inr (fun j => some (g j))))))), (a2, .inl (cI, n, .inl (fun j => oI (z.2.1 j)))), (a3, .inl (cG, n, .inr (.inr (.inr (.inr (fun j => some (gQ j)))))))] ++ va_pl L (pI cI pl f)) H := hP
        have hD : va_D A ([(h0, .inr (2, [.int (nI (n)), .int (nI (q)), .ref a1, .ref a2, .ref a3, .int (nI (z.2.2)), .int (nI (fr))])), (a1, .inl (cG, n, .inr (.inr (.inr (.inr (fun j => some (g j))))))), (a2, .inl (cI, n, .inl (fun j => oI (z.2.1 j)))), (a3, .inl (cG, n, .inr (.inr (.inr (.inr (fun j => some (gQ j)))))))] ++ va_pl L (pI cI pl f)) := hD
        rw [ef] at hw
        subst hw
        have hzs : rst n q i z = rds n q (fun i => pr (gR i)) ro (i + 1) := by rw [hz]; rfl
        rcases hfr : fR z.1 i (n - z.2.2) z.2.2 with _ | r
        · skip
          refine tp_i (y := (-1)) rfl ?_
          have es : rst n q i z = (z.1, va_up z.2.1 i none, z.2.2) := by unfold rst; rw [hfr]
          refine lv_istore_n (lv' := [(2, .int ((-1))), (0, .ref h0), (1, .int (nI (i)))]) hx hb dX1_reduce_20 rfl hl (by decide) rfl (fun ls hl => ?_)
          refine lv_aload_n hx hb dX1_reduce_21 rfl (lv_at hl 1 rfl) ?_
          refine va_get (D := (dC, dI)) (ci := 2) (v := .ref a2) (C := RX1) (T := TX1) (N := 7) hx hb hts hinX1 hown hK hP 0 rfl rfl 3 (by decide) hf23 (fun _ h9 => h9) rfl dX1_reduce_22 ?_
          refine lv_iload_n hx hb dX1_reduce_25 rfl (lv_at hl 2 rfl) ?_
          refine lv_iload_n hx hb dX1_reduce_26 rfl (lv_at hl 0 rfl) ?_
          refine lv_iconst (v := (-1)) hx hb dX1_reduce_27 (by decide) ?_
          refine lv_icmp_ne (tgt := 35) hx hb dX1_reduce_28 (by decide) (fun c2 => ?_) (fun c2 => ?_)
          · skip
            exact absurd rfl c2
          · skip
            refine lv_iconst (v := (-1)) hx hb dX1_reduce_31 (by decide) ?_
            refine lv_goto (tgt := 39) hx hb dX1_reduce_32 (by decide) ?_
            refine ra_st (g := oI) (F := z.2.1) (v := none) hx hb hK hP hD hS 2 0 rfl rfl (by omega) (by omega) dX1_reduce_39 (fun H locs hP hD hS => ?_)
            have hP : va_P (dC, dI) vwCl ([(h0, .inr (2, [.int (nI (n)), .int (nI (q)), .ref a1, .ref a2, .ref a3, .int (nI (z.2.2)), .int (nI (fr))])), (a1, .inl (cG, n, .inr (.inr (.inr (.inr (fun j => some (g j))))))), (a2, .inl (cI, n, .inl (fun j => oI ((va_up z.2.1 i (none)) j)))), (a3, .inl (cG, n, .inr (.inr (.inr (.inr (fun j => some (gQ j)))))))] ++ va_pl L (pI cI pl f)) H := hP
            have hD : va_D A ([(h0, .inr (2, [.int (nI (n)), .int (nI (q)), .ref a1, .ref a2, .ref a3, .int (nI (z.2.2)), .int (nI (fr))])), (a1, .inl (cG, n, .inr (.inr (.inr (.inr (fun j => some (g j))))))), (a2, .inl (cI, n, .inl (fun j => oI ((va_up z.2.1 i (none)) j)))), (a3, .inl (cG, n, .inr (.inr (.inr (.inr (fun j => some (gQ j)))))))] ++ va_pl L (pI cI pl f)) := hD
            refine lv_iload_n hx hb dX1_reduce_40 rfl (lv_at hl 0 rfl) ?_
            refine lv_iconst (v := (-1)) hx hb dX1_reduce_41 (by decide) ?_
            refine lv_icmp_eq (tgt := 87) hx hb dX1_reduce_42 (by decide) (fun c3 => ?_) (fun c3 => ?_)
            · skip
              refine lv_iinc (v := nI (i + 1)) (lv' := [(1, .int (nI (i + 1))), (2, .int ((-1))), (0, .ref h0)]) hx hb dX1_reduce_87 hl (k := 2) rfl (nI_1 _) (by decide) rfl (fun ls hl => ?_)
              refine lv_goto (tgt := 7) hx hb dX1_reduce_90 (by decide) ?_
              exact ih (i + 1) (z.1, va_up z.2.1 i none, z.2.2) g f (by omega) (by rw [← hzs, es]) ho h1 _ _ hP hD hS ls (lv_sub hl [2, 0] rfl)
            · skip
              exact absurd rfl c3
        · skip
          refine tp_i (y := nI r) rfl ?_
          have h9 := fR_some _ _ hfr
          have hrn : r < n := by omega
          refine lv_istore_n (lv' := [(2, .int (nI (r))), (0, .ref h0), (1, .int (nI (i)))]) hx hb dX1_reduce_20 rfl hl (by decide) rfl (fun ls hl => ?_)
          refine lv_aload_n hx hb dX1_reduce_21 rfl (lv_at hl 1 rfl) ?_
          refine va_get (D := (dC, dI)) (ci := 2) (v := .ref a2) (C := RX1) (T := TX1) (N := 7) hx hb hts hinX1 hown hK hP 0 rfl rfl 3 (by decide) hf23 (fun _ h9 => h9) rfl dX1_reduce_22 ?_
          refine lv_iload_n hx hb dX1_reduce_25 rfl (lv_at hl 2 rfl) ?_
          refine lv_iload_n hx hb dX1_reduce_26 rfl (lv_at hl 0 rfl) ?_
          refine lv_iconst (v := (-1)) hx hb dX1_reduce_27 (by decide) ?_
          refine lv_icmp_ne (tgt := 35) hx hb dX1_reduce_28 (by decide) (fun c2 => ?_) (fun c2 => ?_)
          · skip
            refine lv_aload_n hx hb dX1_reduce_35 rfl (lv_at hl 1 rfl) ?_
            refine va_get (D := (dC, dI)) (ci := 2) (v := .int (nI (z.2.2))) (C := RX1) (T := TX1) (N := 7) hx hb hts hinX1 hown hK hP 0 rfl rfl 5 (by decide) hf30 (fun _ h9 => h9) rfl dX1_reduce_36 ?_
            refine ra_st (g := oI) (F := z.2.1) (v := some z.2.2) hx hb hK hP hD hS 2 0 rfl rfl (by omega) (by omega) dX1_reduce_39 (fun H locs hP hD hS => ?_)
            have hP : va_P (dC, dI) vwCl ([(h0, .inr (2, [.int (nI (n)), .int (nI (q)), .ref a1, .ref a2, .ref a3, .int (nI (z.2.2)), .int (nI (fr))])), (a1, .inl (cG, n, .inr (.inr (.inr (.inr (fun j => some (g j))))))), (a2, .inl (cI, n, .inl (fun j => oI ((va_up z.2.1 i (some z.2.2)) j)))), (a3, .inl (cG, n, .inr (.inr (.inr (.inr (fun j => some (gQ j)))))))] ++ va_pl L (pI cI pl f)) H := hP
            have hD : va_D A ([(h0, .inr (2, [.int (nI (n)), .int (nI (q)), .ref a1, .ref a2, .ref a3, .int (nI (z.2.2)), .int (nI (fr))])), (a1, .inl (cG, n, .inr (.inr (.inr (.inr (fun j => some (g j))))))), (a2, .inl (cI, n, .inl (fun j => oI ((va_up z.2.1 i (some z.2.2)) j)))), (a3, .inl (cG, n, .inr (.inr (.inr (.inr (fun j => some (gQ j)))))))] ++ va_pl L (pI cI pl f)) := hD
            refine lv_iload_n hx hb dX1_reduce_40 rfl (lv_at hl 0 rfl) ?_
            refine lv_iconst (v := (-1)) hx hb dX1_reduce_41 (by decide) ?_
            refine lv_icmp_eq (tgt := 87) hx hb dX1_reduce_42 (by decide) (fun c3 => ?_) (fun c3 => ?_)
            · skip
              exact absurd c3 (nI_nm1 (by omega))
            · skip
              refine lv_aload_n hx hb dX1_reduce_45 rfl (lv_at hl 1 rfl) ?_
              refine lv_iload_n hx hb dX1_reduce_46 rfl (lv_at hl 0 rfl) ?_
              refine lv_aload_n hx hb dX1_reduce_47 rfl (lv_at hl 1 rfl) ?_
              refine va_get (D := (dC, dI)) (ci := 2) (v := .int (nI (z.2.2))) (C := RX1) (T := TX1) (N := 7) hx hb hts hinX1 hown hK hP 0 rfl rfl 5 (by decide) hf30 (fun _ h9 => h9) rfl dX1_reduce_48 ?_
              have hPc := hP.part (cx := [(h0, .inr (2, [.int (nI (n)), .int (nI (q)), .ref a1, .ref a2, .ref a3, .int (nI (z.2.2)), .int (nI (fr))])), (a1, .inl (cG, n, .inr (.inr (.inr (.inr (fun j => some (g j))))))), (a2, .inl (cI, n, .inl (fun j => oI ((va_up z.2.1 i (some z.2.2)) j)))), (a3, .inl (cG, n, .inr (.inr (.inr (.inr (fun j => some (gQ j)))))))]) [0, 1, 2, 3] rfl
              have hDc := hD.part (cx := [(h0, .inr (2, [.int (nI (n)), .int (nI (q)), .ref a1, .ref a2, .ref a3, .int (nI (z.2.2)), .int (nI (fr))])), (a1, .inl (cG, n, .inr (.inr (.inr (.inr (fun j => some (g j))))))), (a2, .inl (cI, n, .inl (fun j => oI ((va_up z.2.1 i (some z.2.2)) j)))), (a3, .inl (cG, n, .inr (.inr (.inr (.inr (fun j => some (gQ j)))))))]) [0, 1, 2, 3] (by decide) rfl
              have hFc := va_freeP (cx := [(h0, .inr (2, [.int (nI (n)), .int (nI (q)), .ref a1, .ref a2, .ref a3, .int (nI (z.2.2)), .int (nI (fr))])), (a1, .inl (cG, n, .inr (.inr (.inr (.inr (fun j => some (g j))))))), (a2, .inl (cI, n, .inl (fun j => oI ((va_up z.2.1 i (some z.2.2)) j)))), (a3, .inl (cG, n, .inr (.inr (.inr (.inr (fun j => some (gQ j)))))))]) hD hS hA [0, 1, 2, 3] rfl
              have hKc := hK.sub (tys' := [(cI, .int), (cG, .array .int)]) [0, 1] rfl
              refine va_callv (va_runV (As := [.int (nI (r)), .int (nI (z.2.2))]) (rest := []) ⟨hx, hb, hml, hown, hts⟩ (c_X1_swap l dC dI H.size h0 a1 a2 a3 n q z.2.2 fr g gQ (va_up z.2.1 i (some z.2.2)) cG cI L pl f r z.2.2 hn ho hrn (by omega)) (cwV 2 hts gX1_reduce_X1_swap rfl rfl rfl (by decide +kernel) ⟨Nat.le_of_ble_eq_true rfl, Nat.le_of_ble_eq_true rfl⟩) ⟨fun a U g mk q => by obtain ⟨q0, q1, qP, ⟨qK, qG⟩, qD⟩ := q; exact ⟨q0, q1, qP, ⟨va_K.moved (u := U) (U := U.calling g mk a) (Vm.Alike.refl U.vm) qK, qG.moved (u := U) (U := U.calling g mk a) (Vm.Alike.refl U.vm)⟩, qD⟩, va_recv hKc hPc (ci := 2) (q0 := 0) rfl rfl, fun U hU hW => ⟨rfl, by rw [hU], by rw [hU]; exact hPc, ⟨va_K.moved hW.alike hKc, hG.moved hW.alike⟩, hDc.weaken (fun _ _ _ _ => trivial)⟩⟩ rfl rfl hl.1 rfl (lv_room (Nat.le_of_ble_eq_true rfl)) dX1_reduce_51 ⟨Nat.zero_le _, Nat.zero_le _⟩) hS (fun q _ h => hFc q h) hFc (fun u t H1 locs ht hvm hw hB hz1 hk1 hS => ?_)
              obtain ⟨hP1, hK1, hD1⟩ := hB
              rw [ht] at hP1
              try dsimp only at hw
              obtain ⟨hP, hD⟩ := va_joinP (wr := []) (rx := [(h0, .inr (2, [.int (nI (n)), .int (nI (q)), .ref a1, .ref a2, .ref a3, .int (nI (z.2.2)), .int (nI (fr))])), (a1, .inl (cG, n, .inr (.inr (.inr (.inr (fun j => some ((va_up (va_up g r (g z.2.2)) z.2.2 (g r)) j))))))), (a2, .inl (cI, n, .inl (fun j => oI ((va_up z.2.1 i (some z.2.2)) j)))), (a3, .inl (cG, n, .inr (.inr (.inr (.inr (fun j => some (gQ j)))))))]) (pl1 := va_pl L (pI cI pl f)) hP hD [0, 1, 2, 3] [] rfl rfl (by decide) (by decide) hk1 hFc hP1 hD1
              generalize H1 = H at hP hS ⊢
              have hP := hP.part (cx := [(h0, .inr (2, [.int (nI (n)), .int (nI (q)), .ref a1, .ref a2, .ref a3, .int (nI (z.2.2)), .int (nI (fr))])), (a1, .inl (cG, n, .inr (.inr (.inr (.inr (fun j => some ((va_up (va_up g r (g z.2.2)) z.2.2 (g r)) j))))))), (a2, .inl (cI, n, .inl (fun j => oI ((va_up z.2.1 i (some z.2.2)) j)))), (a3, .inl (cG, n, .inr (.inr (.inr (.inr (fun j => some (gQ j)))))))]) [0, 1, 2, 3] rfl
              have hD := hD.part (cx := [(h0, .inr (2, [.int (nI (n)), .int (nI (q)), .ref a1, .ref a2, .ref a3, .int (nI (z.2.2)), .int (nI (fr))])), (a1, .inl (cG, n, .inr (.inr (.inr (.inr (fun j => some ((va_up (va_up g r (g z.2.2)) z.2.2 (g r)) j))))))), (a2, .inl (cI, n, .inl (fun j => oI ((va_up z.2.1 i (some z.2.2)) j)))), (a3, .inl (cG, n, .inr (.inr (.inr (.inr (fun j => some (gQ j)))))))]) [0, 1, 2, 3] (by decide) rfl
              have hP : va_P (dC, dI) vwCl ([(h0, .inr (2, [.int (nI (n)), .int (nI (q)), .ref a1, .ref a2, .ref a3, .int (nI (z.2.2)), .int (nI (fr))])), (a1, .inl (cG, n, .inr (.inr (.inr (.inr (fun j => some ((va_up (va_up g r (g z.2.2)) z.2.2 (g r)) j))))))), (a2, .inl (cI, n, .inl (fun j => oI ((va_up z.2.1 i (some z.2.2)) j)))), (a3, .inl (cG, n, .inr (.inr (.inr (.inr (fun j => some (gQ j)))))))] ++ va_pl L (pI cI pl f)) H := hP
              have hD : va_D A ([(h0, .inr (2, [.int (nI (n)), .int (nI (q)), .ref a1, .ref a2, .ref a3, .int (nI (z.2.2)), .int (nI (fr))])), (a1, .inl (cG, n, .inr (.inr (.inr (.inr (fun j => some ((va_up (va_up g r (g z.2.2)) z.2.2 (g r)) j))))))), (a2, .inl (cI, n, .inl (fun j => oI ((va_up z.2.1 i (some z.2.2)) j)))), (a3, .inl (cG, n, .inr (.inr (.inr (.inr (fun j => some (gQ j)))))))] ++ va_pl L (pI cI pl f)) := hD
              generalize eg : va_up (va_up g r (g z.2.2)) z.2.2 (g r) = g2 at hP hD
              have hP : va_P (dC, dI) vwCl ([(h0, .inr (2, [.int (nI (n)), .int (nI (q)), .ref a1, .ref a2, .ref a3, .int (nI (z.2.2)), .int (nI (fr))])), (a1, .inl (cG, n, .inr (.inr (.inr (.inr (fun j => some (g2 j))))))), (a2, .inl (cI, n, .inl (fun j => oI ((va_up z.2.1 i (some z.2.2)) j)))), (a3, .inl (cG, n, .inr (.inr (.inr (.inr (fun j => some (gQ j)))))))] ++ va_pl L (pI cI pl f)) H := hP
              have hD : va_D A ([(h0, .inr (2, [.int (nI (n)), .int (nI (q)), .ref a1, .ref a2, .ref a3, .int (nI (z.2.2)), .int (nI (fr))])), (a1, .inl (cG, n, .inr (.inr (.inr (.inr (fun j => some (g2 j))))))), (a2, .inl (cI, n, .inl (fun j => oI ((va_up z.2.1 i (some z.2.2)) j)))), (a3, .inl (cG, n, .inr (.inr (.inr (.inr (fun j => some (gQ j)))))))] ++ va_pl L (pI cI pl f)) := hD
              have g2b : g2 z.2.2 = g r := by rw [← eg, up_at]
              have g2r : r ≠ z.2.2 → g2 r = g z.2.2 := fun h => by rw [← eg, up_of _ _ h, up_at]
              have g2o : ∀ a, a ≠ z.2.2 → a ≠ r → g2 a = g a := fun a h h3 => by rw [← eg, up_of _ _ h, up_of _ _ h3]
              have ho2 : eqOK n g2 gQ L pl := by
                refine ⟨fun a ha => ?_, ho.2.1, fun a b ha hb hab => ?_, ho.2.2.2⟩
                · by_cases e1 : a = z.2.2
                  · rw [e1, g2b]; exact ho.1 r hrn
                  · by_cases e2 : a = r
                    · rw [e2, g2r (e2 ▸ e1)]; exact ho.1 _ (by omega)
                    · rw [g2o a e1 e2]; exact ho.1 a ha
                · have inj := ho.2.2.1
                  by_cases e1 : a = z.2.2 <;> by_cases e2 : b = z.2.2
                  · omega
                  · rw [e1, g2b] at hab
                    by_cases e3 : b = r
                    · rw [e3, g2r (e3 ▸ e2)] at hab; have := inj _ _ hrn (by omega) hab; omega
                    · rw [g2o b e2 e3] at hab; have := inj _ _ hrn hb hab; omega
                  · rw [e2, g2b] at hab
                    by_cases e3 : a = r
                    · rw [e3, g2r (e3 ▸ e1)] at hab; have := inj _ _ (by omega) hrn hab; omega
                    · rw [g2o a e1 e3] at hab; have := inj _ _ ha hrn hab; omega
                  · by_cases e3 : a = r <;> by_cases e4 : b = r
                    · omega
                    · rw [e3, g2r (e3 ▸ e1), g2o b e2 e4] at hab; have := inj _ _ (by omega) hb hab; omega
                    · rw [e4, g2r (e4 ▸ e2), g2o a e1 e3] at hab; have := inj _ _ ha (by omega) hab; omega
                    · rw [g2o a e1 e3, g2o b e2 e4] at hab; exact inj _ _ ha hb hab
              have hs : ∀ a, a < n → f (g2 a) = swp r z.2.2 z.1 a := by
                intro a ha
                unfold swp
                by_cases e1 : a = z.2.2
                · rw [if_pos e1, e1, g2b, h1 r hrn]
                · rw [if_neg e1]
                  by_cases e2 : a = r
                  · rw [if_pos e2, e2, g2r (e2 ▸ e1), h1 _ (by omega)]
                  · rw [if_neg e2, g2o a e1 e2, h1 a ha]
              have bl2 : ∀ a, a < n → ∀ j, j < n + 1 → f (g2 a) j < q := by
                intro a ha j hj
                by_cases e1 : a = z.2.2
                · rw [e1, g2b]; exact bl r hrn j hj
                · by_cases e2 : a = r
                  · rw [e2, g2r (e2 ▸ e1)]; exact bl _ (by omega) j hj
                  · rw [g2o a e1 e2]; exact bl a ha j hj
              have gb := ho2.1 z.2.2 (by omega)
              have efr : f (g2 z.2.2) = z.1 r := by rw [g2b, h1 r hrn]
              refine lv_aload_n hx hb dX1_reduce_54 rfl (lv_at hl 1 rfl) ?_
              refine lv_aload_n hx hb dX1_reduce_55 rfl (lv_at hl 1 rfl) ?_
              refine va_get (D := (dC, dI)) (ci := 2) (v := .ref a1) (C := RX1) (T := TX1) (N := 7) hx hb hts hinX1 hown hK hP 0 rfl rfl 2 (by decide) hf20 (fun _ h9 => h9) rfl dX1_reduce_56 ?_
              refine lv_aload_n hx hb dX1_reduce_59 rfl (lv_at hl 1 rfl) ?_
              refine va_get (D := (dC, dI)) (ci := 2) (v := .int (nI (z.2.2))) (C := RX1) (T := TX1) (N := 7) hx hb hts hinX1 hown hK hP 0 rfl rfl 5 (by decide) hf30 (fun _ h9 => h9) rfl dX1_reduce_60 ?_
              refine rg_ld (G := g2) hx hb hK hP 1 1 rfl rfl (by omega) (by omega) dX1_reduce_63 ?_
              refine lv_iload_n hx hb dX1_reduce_64 rfl (lv_at hl 2 rfl) ?_
              have hPc := hP.part (cx := [(h0, .inr (2, [.int (nI (n)), .int (nI (q)), .ref a1, .ref a2, .ref a3, .int (nI (z.2.2)), .int (nI (fr))]))]) [0] rfl
              have hDc := hD.part (cx := [(h0, .inr (2, [.int (nI (n)), .int (nI (q)), .ref a1, .ref a2, .ref a3, .int (nI (z.2.2)), .int (nI (fr))]))]) [0] (by decide) rfl
              have hFc := va_freeP (cx := [(h0, .inr (2, [.int (nI (n)), .int (nI (q)), .ref a1, .ref a2, .ref a3, .int (nI (z.2.2)), .int (nI (fr))]))]) hD hS hA [0] rfl
              have hKc := hK.sub (tys' := [(cI, .int)]) [0] rfl
              refine va_callv (va_runV (As := [.ref (g2 z.2.2), .int (nI (i))]) (rest := []) ⟨hx, hb, hml, hown, hts⟩ (c_X1_makeUnit l dC dI H.size h0 n q (g2 z.2.2) i (.ref a1) (.ref a2) (.ref a3) (.int (nI z.2.2)) (.int (nI fr)) cI L pl f hn hq hq2 (by omega) gb.1 gb.2 (bl2 _ (by omega)) (ivq_lt _ _ (by omega))) (cwV 2 hts gX1_reduce_X1_makeUnit rfl rfl rfl (by decide +kernel) ⟨Nat.le_of_ble_eq_true rfl, Nat.le_of_ble_eq_true rfl⟩) ⟨fun a U g mk q => by obtain ⟨q0, q1, qP, qK, qD⟩ := q; exact ⟨q0, q1, qP, va_K.moved (u := U) (U := U.calling g mk a) (Vm.Alike.refl U.vm) qK, qD⟩, va_recv hKc hPc (ci := 2) (q0 := 0) rfl rfl, fun U hU hW => ⟨rfl, by rw [hU], by rw [hU]; exact hPc, va_K.moved hW.alike hKc, hDc.weaken (fun _ _ _ _ => trivial)⟩⟩ rfl rfl hl.1 rfl (lv_room (Nat.le_of_ble_eq_true rfl)) dX1_reduce_65 ⟨Nat.zero_le _, Nat.zero_le _⟩) hS (fun q _ h => hFc q h) hFc (fun u t H1 locs ht hvm hw hB hz1 hk1 hS => ?_)
              obtain ⟨hP1, hK1, hD1⟩ := hB
              rw [ht] at hP1
              try dsimp only at hw
              obtain ⟨hP, hD⟩ := va_joinP (wr := [(a1, .inl (cG, n, .inr (.inr (.inr (.inr (fun j => some (g2 j))))))), (a2, .inl (cI, n, .inl (fun j => oI ((va_up z.2.1 i (some z.2.2)) j)))), (a3, .inl (cG, n, .inr (.inr (.inr (.inr (fun j => some (gQ j)))))))]) (rx := [(h0, .inr (2, [.int (nI (n)), .int (nI (q)), .ref a1, .ref a2, .ref a3, .int (nI (z.2.2)), .int (nI (fr))]))]) (pl1 := va_pl L (pI cI pl (va_up f (g2 z.2.2) (scR n q (ivq q (f (g2 z.2.2) i) (q - 2) 2) (f (g2 z.2.2)))))) hP hD [0] [1, 2, 3] rfl rfl (by decide) (by decide) hk1 hFc hP1 hD1
              generalize H1 = H at hP hS ⊢
              have hP := hP.part (cx := [(h0, .inr (2, [.int (nI (n)), .int (nI (q)), .ref a1, .ref a2, .ref a3, .int (nI (z.2.2)), .int (nI (fr))])), (a1, .inl (cG, n, .inr (.inr (.inr (.inr (fun j => some (g2 j))))))), (a2, .inl (cI, n, .inl (fun j => oI ((va_up z.2.1 i (some z.2.2)) j)))), (a3, .inl (cG, n, .inr (.inr (.inr (.inr (fun j => some (gQ j)))))))]) [3, 0, 1, 2] rfl
              have hD := hD.part (cx := [(h0, .inr (2, [.int (nI (n)), .int (nI (q)), .ref a1, .ref a2, .ref a3, .int (nI (z.2.2)), .int (nI (fr))])), (a1, .inl (cG, n, .inr (.inr (.inr (.inr (fun j => some (g2 j))))))), (a2, .inl (cI, n, .inl (fun j => oI ((va_up z.2.1 i (some z.2.2)) j)))), (a3, .inl (cG, n, .inr (.inr (.inr (.inr (fun j => some (gQ j)))))))]) [3, 0, 1, 2] (by decide) rfl
              have hP : va_P (dC, dI) vwCl ([(h0, .inr (2, [.int (nI (n)), .int (nI (q)), .ref a1, .ref a2, .ref a3, .int (nI (z.2.2)), .int (nI (fr))])), (a1, .inl (cG, n, .inr (.inr (.inr (.inr (fun j => some (g2 j))))))), (a2, .inl (cI, n, .inl (fun j => oI ((va_up z.2.1 i (some z.2.2)) j)))), (a3, .inl (cG, n, .inr (.inr (.inr (.inr (fun j => some (gQ j)))))))] ++ va_pl L (pI cI pl (va_up f (g2 z.2.2) (scR n q (ivq q (f (g2 z.2.2) i) (q - 2) 2) (f (g2 z.2.2)))))) H := hP
              have hD : va_D A ([(h0, .inr (2, [.int (nI (n)), .int (nI (q)), .ref a1, .ref a2, .ref a3, .int (nI (z.2.2)), .int (nI (fr))])), (a1, .inl (cG, n, .inr (.inr (.inr (.inr (fun j => some (g2 j))))))), (a2, .inl (cI, n, .inl (fun j => oI ((va_up z.2.1 i (some z.2.2)) j)))), (a3, .inl (cG, n, .inr (.inr (.inr (.inr (fun j => some (gQ j)))))))] ++ va_pl L (pI cI pl (va_up f (g2 z.2.2) (scR n q (ivq q (f (g2 z.2.2) i) (q - 2) 2) (f (g2 z.2.2)))))) := hD
              generalize ef2 : va_up f (g2 z.2.2) (scR n q (ivq q (f (g2 z.2.2) i) (q - 2) 2) (f (g2 z.2.2))) = f2 at hP hD
              have hP : va_P (dC, dI) vwCl ([(h0, .inr (2, [.int (nI (n)), .int (nI (q)), .ref a1, .ref a2, .ref a3, .int (nI (z.2.2)), .int (nI (fr))])), (a1, .inl (cG, n, .inr (.inr (.inr (.inr (fun j => some (g2 j))))))), (a2, .inl (cI, n, .inl (fun j => oI ((va_up z.2.1 i (some z.2.2)) j)))), (a3, .inl (cG, n, .inr (.inr (.inr (.inr (fun j => some (gQ j)))))))] ++ va_pl L (pI cI pl f2)) H := hP
              have hD : va_D A ([(h0, .inr (2, [.int (nI (n)), .int (nI (q)), .ref a1, .ref a2, .ref a3, .int (nI (z.2.2)), .int (nI (fr))])), (a1, .inl (cG, n, .inr (.inr (.inr (.inr (fun j => some (g2 j))))))), (a2, .inl (cI, n, .inl (fun j => oI ((va_up z.2.1 i (some z.2.2)) j)))), (a3, .inl (cG, n, .inr (.inr (.inr (.inr (fun j => some (gQ j)))))))] ++ va_pl L (pI cI pl f2)) := hD
              have hs2 : ∀ a, a < n → f2 (g2 a) = (va_up (swp r z.2.2 z.1) z.2.2 (scR n q (ivq q (z.1 r i) (q - 2) 2) (z.1 r))) a := by
                intro a ha
                rw [← ef2]
                by_cases e1 : a = z.2.2
                · rw [e1, up_at, up_at, efr]
                · rw [up_of _ _ (fun h => e1 (ho2.2.2.1 _ _ ha (by omega) h)), up_of _ _ e1, hs a ha]
              have bl3 : ∀ a, a < n → ∀ j, j < n + 1 → f2 (g2 a) j < q := by
                intro a ha j hj
                rw [← ef2]
                by_cases e1 : a = z.2.2
                · rw [e1, up_at]; exact scR_lt (by omega) _ hj
                · rw [up_of _ _ (fun h => e1 (ho2.2.2.1 _ _ ha (by omega) h))]; exact bl2 a ha j hj
              refine lv_aload_n hx hb dX1_reduce_68 rfl (lv_at hl 1 rfl) ?_
              refine lv_aload_n hx hb dX1_reduce_69 rfl (lv_at hl 1 rfl) ?_
              refine va_get (D := (dC, dI)) (ci := 2) (v := .int (nI (z.2.2))) (C := RX1) (T := TX1) (N := 7) hx hb hts hinX1 hown hK hP 0 rfl rfl 5 (by decide) hf30 (fun _ h9 => h9) rfl dX1_reduce_70 ?_
              refine lv_iload_n hx hb dX1_reduce_73 rfl (lv_at hl 2 rfl) ?_
              have hPc := hP.part (cx := [(h0, .inr (2, [.int (nI (n)), .int (nI (q)), .ref a1, .ref a2, .ref a3, .int (nI (z.2.2)), .int (nI (fr))])), (a1, .inl (cG, n, .inr (.inr (.inr (.inr (fun j => some (g2 j))))))), (a2, .inl (cI, n, .inl (fun j => oI ((va_up z.2.1 i (some z.2.2)) j)))), (a3, .inl (cG, n, .inr (.inr (.inr (.inr (fun j => some (gQ j)))))))]) [0, 1, 2, 3] rfl
              have hDc := hD.part (cx := [(h0, .inr (2, [.int (nI (n)), .int (nI (q)), .ref a1, .ref a2, .ref a3, .int (nI (z.2.2)), .int (nI (fr))])), (a1, .inl (cG, n, .inr (.inr (.inr (.inr (fun j => some (g2 j))))))), (a2, .inl (cI, n, .inl (fun j => oI ((va_up z.2.1 i (some z.2.2)) j)))), (a3, .inl (cG, n, .inr (.inr (.inr (.inr (fun j => some (gQ j)))))))]) [0, 1, 2, 3] (by decide) rfl
              have hFc := va_freeP (cx := [(h0, .inr (2, [.int (nI (n)), .int (nI (q)), .ref a1, .ref a2, .ref a3, .int (nI (z.2.2)), .int (nI (fr))])), (a1, .inl (cG, n, .inr (.inr (.inr (.inr (fun j => some (g2 j))))))), (a2, .inl (cI, n, .inl (fun j => oI ((va_up z.2.1 i (some z.2.2)) j)))), (a3, .inl (cG, n, .inr (.inr (.inr (.inr (fun j => some (gQ j)))))))]) hD hS hA [0, 1, 2, 3] rfl
              have hKc := hK.sub (tys' := [(cI, .int), (cG, .array .int)]) [0, 1] rfl
              refine va_callv (va_runV (As := [.int (nI (z.2.2)), .int (nI (i))]) (rest := []) ⟨hx, hb, hml, hown, hts⟩ (c_X1_clearElsewhere l dC dI H.size h0 a1 a2 a3 n q z.2.2 fr g2 gQ (va_up z.2.1 i (some z.2.2)) cG cI L pl f2 z.2.2 i hn ho2 (by omega) (by omega) hq hq2 bl3) (cwV 2 hts gX1_reduce_X1_clearElsewhere rfl rfl rfl (by decide +kernel) ⟨Nat.le_of_ble_eq_true rfl, Nat.le_of_ble_eq_true rfl⟩) ⟨fun a U g mk q => by obtain ⟨q0, q1, qP, qK, qD⟩ := q; exact ⟨q0, q1, qP, va_K.moved (u := U) (U := U.calling g mk a) (Vm.Alike.refl U.vm) qK, qD⟩, va_recv hKc hPc (ci := 2) (q0 := 0) rfl rfl, fun U hU hW => ⟨rfl, by rw [hU], by rw [hU]; exact hPc, va_K.moved hW.alike hKc, hDc.weaken (fun _ _ _ _ => trivial)⟩⟩ rfl rfl hl.1 rfl (lv_room (Nat.le_of_ble_eq_true rfl)) dX1_reduce_74 ⟨Nat.zero_le _, Nat.zero_le _⟩) hS (fun q _ h => hFc q h) hFc (fun f3 t H1 locs ht hvm hw hB hz1 hk1 hS => ?_)
              obtain ⟨hP1, hK1, hD1⟩ := hB
              rw [ht] at hP1
              try dsimp only at hw
              obtain ⟨hP, hD⟩ := va_joinP (wr := []) (rx := [(h0, .inr (2, [.int (nI (n)), .int (nI (q)), .ref a1, .ref a2, .ref a3, .int (nI (z.2.2)), .int (nI (fr))])), (a1, .inl (cG, n, .inr (.inr (.inr (.inr (fun j => some (g2 j))))))), (a2, .inl (cI, n, .inl (fun j => oI ((va_up z.2.1 i (some z.2.2)) j)))), (a3, .inl (cG, n, .inr (.inr (.inr (.inr (fun j => some (gQ j)))))))]) (pl1 := va_pl L (pI cI pl f3)) hP hD [0, 1, 2, 3] [] rfl rfl (by decide) (by decide) hk1 hFc hP1 hD1
              generalize H1 = H at hP hS ⊢
              have hP := hP.part (cx := [(h0, .inr (2, [.int (nI (n)), .int (nI (q)), .ref a1, .ref a2, .ref a3, .int (nI (z.2.2)), .int (nI (fr))])), (a1, .inl (cG, n, .inr (.inr (.inr (.inr (fun j => some (g2 j))))))), (a2, .inl (cI, n, .inl (fun j => oI ((va_up z.2.1 i (some z.2.2)) j)))), (a3, .inl (cG, n, .inr (.inr (.inr (.inr (fun j => some (gQ j)))))))]) [0, 1, 2, 3] rfl
              have hD := hD.part (cx := [(h0, .inr (2, [.int (nI (n)), .int (nI (q)), .ref a1, .ref a2, .ref a3, .int (nI (z.2.2)), .int (nI (fr))])), (a1, .inl (cG, n, .inr (.inr (.inr (.inr (fun j => some (g2 j))))))), (a2, .inl (cI, n, .inl (fun j => oI ((va_up z.2.1 i (some z.2.2)) j)))), (a3, .inl (cG, n, .inr (.inr (.inr (.inr (fun j => some (gQ j)))))))]) [0, 1, 2, 3] (by decide) rfl
              have hP : va_P (dC, dI) vwCl ([(h0, .inr (2, [.int (nI (n)), .int (nI (q)), .ref a1, .ref a2, .ref a3, .int (nI (z.2.2)), .int (nI (fr))])), (a1, .inl (cG, n, .inr (.inr (.inr (.inr (fun j => some (g2 j))))))), (a2, .inl (cI, n, .inl (fun j => oI ((va_up z.2.1 i (some z.2.2)) j)))), (a3, .inl (cG, n, .inr (.inr (.inr (.inr (fun j => some (gQ j)))))))] ++ va_pl L (pI cI pl f3)) H := hP
              have hD : va_D A ([(h0, .inr (2, [.int (nI (n)), .int (nI (q)), .ref a1, .ref a2, .ref a3, .int (nI (z.2.2)), .int (nI (fr))])), (a1, .inl (cG, n, .inr (.inr (.inr (.inr (fun j => some (g2 j))))))), (a2, .inl (cI, n, .inl (fun j => oI ((va_up z.2.1 i (some z.2.2)) j)))), (a3, .inl (cG, n, .inr (.inr (.inr (.inr (fun j => some (gQ j)))))))] ++ va_pl L (pI cI pl f3)) := hD
              refine lv_aload_n hx hb dX1_reduce_77 rfl (lv_at hl 1 rfl) ?_
              refine lv_dup hx hb dX1_reduce_78 rfl ?_
              refine va_get (D := (dC, dI)) (ci := 2) (v := .int (nI (z.2.2))) (C := RX1) (T := TX1) (N := 7) hx hb hts hinX1 hown hK hP 0 rfl rfl 5 (by decide) hf30 (fun _ h9 => h9) rfl dX1_reduce_79 ?_
              refine lv_iconst (v := nI 1) hx hb dX1_reduce_82 (by decide) ?_
              refine lv_iadd hx hb dX1_reduce_83 ?_
              refine tp_i (y := nI (z.2.2 + 1)) (nI_add _ _) ?_
              refine va_put (D := (dC, dI)) (ci := 2) (v := .int (nI (z.2.2 + 1))) (ty := .int) (C := RX1) (T := TX1) (N := 7) hx hb hts hinX1 tyX1 tyX1_ok nmX1 hown hK hP hD hS 0 rfl rfl 5 (by decide) hf30 (fun _ h9 => h9) rfl (by decide +kernel) rfl rfl (Nat.le_of_ble_eq_true rfl) dX1_reduce_84 (fun H locs hP hD hS => ?_)
              have hP : va_P (dC, dI) vwCl ([(h0, .inr (2, [.int (nI (n)), .int (nI (q)), .ref a1, .ref a2, .ref a3, .int (nI (z.2.2 + 1)), .int (nI (fr))])), (a1, .inl (cG, n, .inr (.inr (.inr (.inr (fun j => some (g2 j))))))), (a2, .inl (cI, n, .inl (fun j => oI ((va_up z.2.1 i (some z.2.2)) j)))), (a3, .inl (cG, n, .inr (.inr (.inr (.inr (fun j => some (gQ j)))))))] ++ va_pl L (pI cI pl f3)) H := hP
              have hD : va_D A ([(h0, .inr (2, [.int (nI (n)), .int (nI (q)), .ref a1, .ref a2, .ref a3, .int (nI (z.2.2 + 1)), .int (nI (fr))])), (a1, .inl (cG, n, .inr (.inr (.inr (.inr (fun j => some (g2 j))))))), (a2, .inl (cI, n, .inl (fun j => oI ((va_up z.2.1 i (some z.2.2)) j)))), (a3, .inl (cG, n, .inr (.inr (.inr (.inr (fun j => some (gQ j)))))))] ++ va_pl L (pI cI pl f3)) := hD
              refine lv_iinc (v := nI (i + 1)) (lv' := [(1, .int (nI (i + 1))), (2, .int (nI (r))), (0, .ref h0)]) hx hb dX1_reduce_87 hl (k := 2) rfl (nI_1 _) (by decide) rfl (fun ls hl => ?_)
              refine lv_goto (tgt := 7) hx hb dX1_reduce_90 (by decide) ?_
              have es : rst n q i z = (clr n q z.2.2 i (va_up (swp r z.2.2 z.1) z.2.2 (scR n q (ivq q (z.1 r i) (q - 2) 2) (z.1 r))), va_up z.2.1 i (some z.2.2), z.2.2 + 1) := by unfold rst; rw [hfr]
              have hs3 : ∀ a, a < n → f3 (g2 a) = clr n q z.2.2 i (va_up (swp r z.2.2 z.1) z.2.2 (scR n q (ivq q (z.1 r i) (q - 2) 2) (z.1 r))) a := by
                intro a ha
                rw [hw.1 a ha]
                unfold clr
                simp only [hs2 a ha, hs2 z.2.2 (by omega)]
              exact ih (i + 1) (clr n q z.2.2 i (va_up (swp r z.2.2 z.1) z.2.2 (scR n q (ivq q (z.1 r i) (q - 2) 2) (z.1 r))), va_up z.2.1 i (some z.2.2), z.2.2 + 1) g2 f3 (by omega) (by rw [← hzs, es]) ho2 hs3 _ _ hP hD hS ls (lv_sub hl [2, 0] rfl)
          · skip
            exact absurd c2 (nI_nm1 (by omega))
  exact lp n 0 ((fun i => pr (gR i)), ro, 0) gR pr (by omega) rfl hok (fun _ _ => rfl) _ _ hP hD hS ls (lv_sub hl [1, 0] rfl)
end
section
/-- the digits and what is carried, behind i digits of a multiplication by x -/
def mulD (x : Nat) (dg : Nat → Nat) : Nat → (Nat → Nat) × Nat
  | 0 => (dg, 0)
  | i + 1 => (va_up (mulD x dg i).1 i ((dg i * x + (mulD x dg i).2) % 10), (dg i * x + (mulD x dg i).2) / 10)
/-- a multiplication of the len digits dg -/
def mulE (x : Nat) (dg : Nat → Nat) (len : Nat) : (Nat → Nat) × Nat :=
  if 0 < (mulD x dg len).2 ∧ len < 26 then (va_up (mulD x dg len).1 len (mulD x dg len).2, len + 1) else ((mulD x dg len).1, len)
theorem mulD_o {x : Nat} {dg : Nat → Nat} : ∀ i j, i ≤ j → (mulD x dg i).1 j = dg j
  | 0, _, _ => rfl
  | i + 1, j, h => by
    simp only [mulD]
    rw [up_of _ _ (by omega)]
    exact mulD_o i j (by omega)
theorem mulD_c {x : Nat} {dg : Nat → Nat} {len : Nat} (hd : ∀ j, j < len → dg j < 10) : ∀ i, i ≤ len → (mulD x dg i).2 ≤ x
  | 0, _ => Nat.zero_le _
  | i + 1, h => by
    simp only [mulD]
    have h1 := mulD_c hd i (by omega) (x := x)
    have h2 := hd i (by omega)
    have h3 : dg i * x ≤ 9 * x := Nat.mul_le_mul_right x (by omega)
    omega
end
section
set_option maxHeartbeats 4000000 in
set_option maxRecDepth 100000 in
theorem c_X1_take (l : Launch) (dC : Nat → ClassId) (dI : Nat → Nat → Nat) (sz : Nat) (h0 a1 b1 b2 b3 n q : Nat) (v3 v4 v5 v6 : Value) (gR : Nat → Nat) (tm st wt : Nat → Nat) (cG : ClassId) (cI : ClassId) (L : List Nat) (pl : Nat → Nat) (pr : Nat → Nat → Nat) (hn : n < 32) (g1 : ∀ i, i < n → gR i ∈ L ∧ pl (gR i) = n + 1) (g3 : ∀ i j, i < n → j < n → gR i = gR j → i = j) (hq : 2 ≤ q) (hq2 : q < 100) (ht0 : ∀ j, j < n → tm j < 2 ^ 31) (hs0 : ∀ j, j < n → st j < q) (hw0 : ∀ j, j < n → wt j < q) : Met l yX1_take wsX1_take ({ frames := 0, cells := 0, slots := 0, locals := 0 }) (va_Pc [.ref h0, .ref b1, .ref b2, .ref b3] (fun U => U.heap.size = sz ∧ va_P (dC, dI) vwCl ([(h0, .inr (2, [.int (nI (n)), .int (nI (q)), .ref a1, v3, v4, v5, v6])), (a1, .inl (cG, n, .inr (.inr (.inr (.inr (fun j => some (gR j))))))), (b1, .inl (cI, n, .inl (fun j => nI (tm j)))), (b2, .inl (cI, n, .inl (fun j => nI (st j)))), (b3, .inl (cI, n, .inl (fun j => nI (wt j))))] ++ va_pl L (pI cI pl pr)) U.heap ∧ va_K (dC, dI) vwCl [(cI, .int), (cG, .array .int)] U ∧ va_D (fun _ => True) ([(h0, .inr (2, [.int (nI (n)), .int (nI (q)), .ref a1, v3, v4, v5, v6])), (a1, .inl (cG, n, .inr (.inr (.inr (.inr (fun j => some (gR j))))))), (b1, .inl (cI, n, .inl (fun j => nI (tm j)))), (b2, .inl (cI, n, .inl (fun j => nI (st j)))), (b3, .inl (cI, n, .inl (fun j => nI (wt j))))] ++ va_pl L (pI cI pl pr)))) (va_Qv (fun u : Nat → Nat → Nat => (∀ i, i < n → ∀ j, j < n → u (gR i) j = tm j / 2 ^ i % 2) ∧ (∀ i, i < n → u (gR i) n = (wt i + q - st i) % q)) (fun u t => va_P (dC, dI) vwCl ([(h0, .inr (2, [.int (nI (n)), .int (nI (q)), .ref a1, v3, v4, v5, v6])), (a1, .inl (cG, n, .inr (.inr (.inr (.inr (fun j => some (gR j))))))), (b1, .inl (cI, n, .inl (fun j => nI (tm j)))), (b2, .inl (cI, n, .inl (fun j => nI (st j)))), (b3, .inl (cI, n, .inl (fun j => nI (wt j))))] ++ va_pl L (pI cI pl u)) t.heap ∧ va_K (dC, dI) vwCl [(cI, .int), (cG, .array .int)] t ∧ va_D (va_A ([(h0, .inr (2, [.int (nI (n)), .int (nI (q)), .ref a1, v3, v4, v5, v6])), (a1, .inl (cG, n, .inr (.inr (.inr (.inr (fun j => some (gR j))))))), (b1, .inl (cI, n, .inl (fun j => nI (tm j)))), (b2, .inl (cI, n, .inl (fun j => nI (st j)))), (b3, .inl (cI, n, .inl (fun j => nI (wt j))))] ++ va_pl L (pI cI pl pr)) sz) ([(h0, .inr (2, [.int (nI (n)), .int (nI (q)), .ref a1, v3, v4, v5, v6])), (a1, .inl (cG, n, .inr (.inr (.inr (.inr (fun j => some (gR j))))))), (b1, .inl (cI, n, .inl (fun j => nI (tm j)))), (b2, .inl (cI, n, .inl (fun j => nI (st j)))), (b3, .inl (cI, n, .inl (fun j => nI (wt j))))] ++ va_pl L (pI cI pl u))) (va_A ([(h0, .inr (2, [.int (nI (n)), .int (nI (q)), .ref a1, v3, v4, v5, v6])), (a1, .inl (cG, n, .inr (.inr (.inr (.inr (fun j => some (gR j))))))), (b1, .inl (cI, n, .inl (fun j => nI (tm j)))), (b2, .inl (cI, n, .inl (fun j => nI (st j)))), (b3, .inl (cI, n, .inl (fun j => nI (wt j))))] ++ va_pl L (pI cI pl pr)) sz)) 0 0 (va_A ([(h0, .inr (2, [.int (nI (n)), .int (nI (q)), .ref a1, v3, v4, v5, v6])), (a1, .inl (cG, n, .inr (.inr (.inr (.inr (fun j => some (gR j))))))), (b1, .inl (cI, n, .inl (fun j => nI (tm j)))), (b2, .inl (cI, n, .inl (fun j => nI (st j)))), (b3, .inl (cI, n, .inl (fun j => nI (wt j))))] ++ va_pl L (pI cI pl pr)) sz) := by
  refine Met.ofW (cc := cX1_take) (maxL := 7) (ret := none) (by decide) rfl ?_
  intro zp ze s m args below meth zc s₁ B hml hv
  obtain ⟨hargs, hsz, hP, hK, hD0⟩ := hv
  have hx := B.exec
  have hb := B.bytes
  have hr := B.returns
  have hts := atoms_spec (ws := wsX1_take) B.pre
  have hown : s.vm.findClass RX1 = some m.cls := findClass_of_methodNamed B.named
  have hlocks := B.notSynchronized
  subst hsz
  obtain ⟨Q, hQ⟩ : ∃ Q, Q = MQ below (va_Qv (fun u : Nat → Nat → Nat => (∀ i, i < n → ∀ j, j < n → u (gR i) j = tm j / 2 ^ i % 2) ∧ (∀ i, i < n → u (gR i) n = (wt i + q - st i) % q)) (fun u t => va_P (dC, dI) vwCl ([(h0, .inr (2, [.int (nI (n)), .int (nI (q)), .ref a1, v3, v4, v5, v6])), (a1, .inl (cG, n, .inr (.inr (.inr (.inr (fun j => some (gR j))))))), (b1, .inl (cI, n, .inl (fun j => nI (tm j)))), (b2, .inl (cI, n, .inl (fun j => nI (st j)))), (b3, .inl (cI, n, .inl (fun j => nI (wt j))))] ++ va_pl L (pI cI pl u)) t.heap ∧ va_K (dC, dI) vwCl [(cI, .int), (cG, .array .int)] t ∧ va_D (va_A ([(h0, .inr (2, [.int (nI (n)), .int (nI (q)), .ref a1, v3, v4, v5, v6])), (a1, .inl (cG, n, .inr (.inr (.inr (.inr (fun j => some (gR j))))))), (b1, .inl (cI, n, .inl (fun j => nI (tm j)))), (b2, .inl (cI, n, .inl (fun j => nI (st j)))), (b3, .inl (cI, n, .inl (fun j => nI (wt j))))] ++ va_pl L (pI cI pl pr)) s.heap.size) ([(h0, .inr (2, [.int (nI (n)), .int (nI (q)), .ref a1, v3, v4, v5, v6])), (a1, .inl (cG, n, .inr (.inr (.inr (.inr (fun j => some (gR j))))))), (b1, .inl (cI, n, .inl (fun j => nI (tm j)))), (b2, .inl (cI, n, .inl (fun j => nI (st j)))), (b3, .inl (cI, n, .inl (fun j => nI (wt j))))] ++ va_pl L (pI cI pl u))) (va_A ([(h0, .inr (2, [.int (nI (n)), .int (nI (q)), .ref a1, v3, v4, v5, v6])), (a1, .inl (cG, n, .inr (.inr (.inr (.inr (fun j => some (gR j))))))), (b1, .inl (cI, n, .inl (fun j => nI (tm j)))), (b2, .inl (cI, n, .inl (fun j => nI (st j)))), (b3, .inl (cI, n, .inl (fun j => nI (wt j))))] ++ va_pl L (pI cI pl pr)) s.heap.size)) args s 0 0 (va_A ([(h0, .inr (2, [.int (nI (n)), .int (nI (q)), .ref a1, v3, v4, v5, v6])), (a1, .inl (cG, n, .inr (.inr (.inr (.inr (fun j => some (gR j))))))), (b1, .inl (cI, n, .inl (fun j => nI (tm j)))), (b2, .inl (cI, n, .inl (fun j => nI (st j)))), (b3, .inl (cI, n, .inl (fun j => nI (wt j))))] ++ va_pl L (pI cI pl pr)) s.heap.size) := ⟨_, rfl⟩
  rw [← hQ]
  have hD := hD0.self (sz := s.heap.size)
  generalize hAe : (va_A ([(h0, .inr (2, [.int (nI (n)), .int (nI (q)), .ref a1, v3, v4, v5, v6])), (a1, .inl (cG, n, .inr (.inr (.inr (.inr (fun j => some (gR j))))))), (b1, .inl (cI, n, .inl (fun j => nI (tm j)))), (b2, .inl (cI, n, .inl (fun j => nI (st j)))), (b3, .inl (cI, n, .inl (fun j => nI (wt j))))] ++ va_pl L (pI cI pl pr)) s.heap.size) = A at hD hQ
  have hA : ∀ q : Nat, s.heap.size ≤ q → A q := fun q h => by rw [← hAe]; exact Or.inr h
  have hS : va_S A s.heap s.heap [] := va_S.rf
  have hl := lv_entry ([.ref h0, .ref b1, .ref b2, .ref b3]) (n := 7) (Nat.le_of_ble_eq_true rfl)
  generalize hen : entryFrame m args 7 = fr
  rw [hargs, lg_entry_eq] at hen
  subst hen
  generalize (lg_sl ([.ref h0, .ref b1, .ref b2, .ref b3]) ++ List.replicate (7 - (lg_sl ([.ref h0, .ref b1, .ref b2, .ref b3])).length) Slot.unset).toArray = ls at hl ⊢
  have hl : lv_has ls 7 [(0, .ref h0), (1, .ref b1), (2, .ref b2), (3, .ref b3)] := hl
  have hinX1 : ∀ w ∈ wsX10, w ∈ wsX1_take := by decide +kernel
  have hf9 := hts (.fieldLink RX1 9 "LightRows$Equations" "size" "I") (by decide +kernel)
  have hf15 := hts (.fieldLink RX1 15 "LightRows$Equations" "modulus" "I") (by decide +kernel)
  have hf20 := hts (.fieldLink RX1 20 "LightRows$Equations" "rows" "[[I") (by decide +kernel)
  refine lv_iconst (v := nI 0) hx hb dX1_take_0 (by decide) ?_
  refine lv_istore (lv' := [(4, .int (nI (0))), (0, .ref h0), (1, .ref b1), (2, .ref b2), (3, .ref b3)]) hx hb dX1_take_1 hl (by decide) rfl (fun ls hl => ?_)
  have lp : ∀ (k : Nat) (i : Nat) (f : Nat → Nat → Nat), (i + k = n) → (∀ a, a < i → ∀ j, j < n → f (gR a) j = tm j / 2 ^ a % 2) → (∀ a, a < i → f (gR a) n = (wt a + q - st a) % q) → ∀ (H : Heap) (locs : List Loc), va_P (dC, dI) vwCl ([(h0, .inr (2, [.int (nI (n)), .int (nI (q)), .ref a1, v3, v4, v5, v6])), (a1, .inl (cG, n, .inr (.inr (.inr (.inr (fun j => some (gR j))))))), (b1, .inl (cI, n, .inl (fun j => nI (tm j)))), (b2, .inl (cI, n, .inl (fun j => nI (st j)))), (b3, .inl (cI, n, .inl (fun j => nI (wt j))))] ++ va_pl L (pI cI pl f)) H → va_D A ([(h0, .inr (2, [.int (nI (n)), .int (nI (q)), .ref a1, v3, v4, v5, v6])), (a1, .inl (cG, n, .inr (.inr (.inr (.inr (fun j => some (gR j))))))), (b1, .inl (cI, n, .inl (fun j => nI (tm j)))), (b2, .inl (cI, n, .inl (fun j => nI (st j)))), (b3, .inl (cI, n, .inl (fun j => nI (wt j))))] ++ va_pl L (pI cI pl f)) → va_S A s.heap H locs → ∀ (ls : Array Slot), lv_has ls 7 [(0, .ref h0), (1, .ref b1), (2, .ref b2), (3, .ref b3), (4, .int (nI (i)))] → W zp l ze (headSpec wsX1_take ({ frames := 0, cells := 0, slots := 0, locals := 0 })).room s m args below meth zc H locs 0 0 Q (F0 m 3 ls []) := by
    intro k
    induction k with
    | zero =>
      intro i f hi h1 h2 H locs hP hD hS ls hl
      refine lv_iload hx hb dX1_take_3 (lv_at hl 4 rfl) ?_
      refine lv_aload_n hx hb dX1_take_5 rfl (lv_at hl 0 rfl) ?_
      refine va_get (D := (dC, dI)) (ci := 2) (v := .int (nI (n))) (C := RX1) (T := TX1) (N := 7) hx hb hts hinX1 hown hK hP 0 rfl rfl 0 (by decide) hf9 (fun _ h9 => h9) rfl dX1_take_6 ?_
      refine lv_icmp_ge (tgt := 85) hx hb dX1_take_9 (by decide) (fun c => ?_) (fun c => ?_)
      · skip
        have c : n ≤ i := (nI_leI (a := n) (b := i) (by omega) (by omega)).mp c
        obtain rfl : n = i := by omega
        rw [hQ]
        exact W.vret hx hb hr (fun t ht hW => ⟨⟨f, rfl, ⟨h1, h2⟩, by rw [ht]; exact hP, va_K.moved hW.alike hK, hD⟩, hS.F ht⟩) hS.2.2 dX1_take_85
      · skip
        have c : i < n := Nat.not_le.mp (fun h => c ((nI_leI (a := n) (b := i) (by omega) (by omega)).mpr h))
        exact absurd c (by omega)
    | succ k ih =>
      intro i f hi h1 h2 H locs hP hD hS ls hl
      refine lv_iload hx hb dX1_take_3 (lv_at hl 4 rfl) ?_
      refine lv_aload_n hx hb dX1_take_5 rfl (lv_at hl 0 rfl) ?_
      refine va_get (D := (dC, dI)) (ci := 2) (v := .int (nI (n))) (C := RX1) (T := TX1) (N := 7) hx hb hts hinX1 hown hK hP 0 rfl rfl 0 (by decide) hf9 (fun _ h9 => h9) rfl dX1_take_6 ?_
      refine lv_icmp_ge (tgt := 85) hx hb dX1_take_9 (by decide) (fun c => ?_) (fun c => ?_)
      · skip
        have c : n ≤ i := (nI_leI (a := n) (b := i) (by omega) (by omega)).mp c
        exact absurd c (by omega)
      · skip
        have c : i < n := Nat.not_le.mp (fun h => c ((nI_leI (a := n) (b := i) (by omega) (by omega)).mpr h))
        have gi := g1 i (by omega)
        refine lv_aload_n hx hb dX1_take_12 rfl (lv_at hl 0 rfl) ?_
        refine va_get (D := (dC, dI)) (ci := 2) (v := .ref a1) (C := RX1) (T := TX1) (N := 7) hx hb hts hinX1 hown hK hP 0 rfl rfl 2 (by decide) hf20 (fun _ h9 => h9) rfl dX1_take_13 ?_
        refine lv_iload hx hb dX1_take_16 (lv_at hl 4 rfl) ?_
        refine rg_ld (G := gR) hx hb hK hP 1 1 rfl rfl (by omega) (by omega) dX1_take_18 ?_
        refine lv_astore (lv' := [(5, .ref (gR i)), (0, .ref h0), (1, .ref b1), (2, .ref b2), (3, .ref b3), (4, .int (nI (i)))]) hx hb dX1_take_19 hl (by decide) rfl (fun ls hl => ?_)
        refine lv_iconst (v := nI 0) hx hb dX1_take_21 (by decide) ?_
        refine lv_istore (lv' := [(6, .int (nI (0))), (5, .ref (gR i)), (0, .ref h0), (1, .ref b1), (2, .ref b2), (3, .ref b3), (4, .int (nI (i)))]) hx hb dX1_take_22 hl (by decide) rfl (fun ls hl => ?_)
        have lp2 : ∀ (k2 : Nat) (b : Nat) (F : Nat → Nat), (b + k2 = n) → (∀ j, F j = if j < b then (fun j => tm j / 2 ^ i % 2) j else f (gR i) j) → ∀ (H : Heap) (locs : List Loc), va_P (dC, dI) vwCl ([(h0, .inr (2, [.int (nI (n)), .int (nI (q)), .ref a1, v3, v4, v5, v6])), (a1, .inl (cG, n, .inr (.inr (.inr (.inr (fun j => some (gR j))))))), (b1, .inl (cI, n, .inl (fun j => nI (tm j)))), (b2, .inl (cI, n, .inl (fun j => nI (st j)))), (b3, .inl (cI, n, .inl (fun j => nI (wt j))))] ++ va_pl L (pI cI pl (va_up f (gR i) F))) H → va_D A ([(h0, .inr (2, [.int (nI (n)), .int (nI (q)), .ref a1, v3, v4, v5, v6])), (a1, .inl (cG, n, .inr (.inr (.inr (.inr (fun j => some (gR j))))))), (b1, .inl (cI, n, .inl (fun j => nI (tm j)))), (b2, .inl (cI, n, .inl (fun j => nI (st j)))), (b3, .inl (cI, n, .inl (fun j => nI (wt j))))] ++ va_pl L (pI cI pl (va_up f (gR i) F))) → va_S A s.heap H locs → ∀ (ls : Array Slot), lv_has ls 7 [(0, .ref h0), (1, .ref b1), (2, .ref b2), (3, .ref b3), (4, .int (nI (i))), (5, .ref (gR i)), (6, .int (nI (b)))] → W zp l ze (headSpec wsX1_take ({ frames := 0, cells := 0, slots := 0, locals := 0 })).room s m args below meth zc H locs 0 0 Q (F0 m 24 ls []) := by
          intro k2
          induction k2 with
          | zero =>
            intro b F hb2 hF H locs hP hD hS ls hl
            refine lv_iload hx hb dX1_take_24 (lv_at hl 6 rfl) ?_
            refine lv_aload_n hx hb dX1_take_26 rfl (lv_at hl 0 rfl) ?_
            refine va_get (D := (dC, dI)) (ci := 2) (v := .int (nI (n))) (C := RX1) (T := TX1) (N := 7) hx hb hts hinX1 hown hK hP 0 rfl rfl 0 (by decide) hf9 (fun _ h9 => h9) rfl dX1_take_27 ?_
            refine lv_icmp_ge (tgt := 53) hx hb dX1_take_30 (by decide) (fun c2 => ?_) (fun c2 => ?_)
            · skip
              have c2 : n ≤ b := (nI_leI (a := n) (b := b) (by omega) (by omega)).mp c2
              have e1 := hs0 i (by omega)
              have e2 := hw0 i (by omega)
              have hbn : b = n := by omega
              refine lv_aload hx hb dX1_take_53 (lv_at hl 5 rfl) ?_
              refine lv_aload_n hx hb dX1_take_55 rfl (lv_at hl 0 rfl) ?_
              refine va_get (D := (dC, dI)) (ci := 2) (v := .int (nI (n))) (C := RX1) (T := TX1) (N := 7) hx hb hts hinX1 hown hK hP 0 rfl rfl 0 (by decide) hf9 (fun _ h9 => h9) rfl dX1_take_56 ?_
              refine lv_aload_n hx hb dX1_take_59 rfl (lv_at hl 3 rfl) ?_
              refine lv_iload hx hb dX1_take_60 (lv_at hl 4 rfl) ?_
              refine ra_ld (g := nI) (F := wt) hx hb hK hP 4 0 rfl rfl (by omega) (by omega) dX1_take_62 ?_
              refine lv_aload_n hx hb dX1_take_63 rfl (lv_at hl 2 rfl) ?_
              refine lv_iload hx hb dX1_take_64 (lv_at hl 4 rfl) ?_
              refine ra_ld (g := nI) (F := st) hx hb hK hP 3 0 rfl rfl (by omega) (by omega) dX1_take_66 ?_
              refine lv_isub hx hb dX1_take_67 ?_
              refine tp_i (y := nI (wt i) - nI (st i)) (rfl) ?_
              refine lv_aload_n hx hb dX1_take_68 rfl (lv_at hl 0 rfl) ?_
              refine va_get (D := (dC, dI)) (ci := 2) (v := .int (nI (q))) (C := RX1) (T := TX1) (N := 7) hx hb hts hinX1 hown hK hP 0 rfl rfl 1 (by decide) hf15 (fun _ h9 => h9) rfl dX1_take_69 ?_
              refine lv_iadd hx hb dX1_take_72 ?_
              refine tp_i (y := nI (wt i + q - st i)) (nI_smq (by omega)) ?_
              refine lv_aload_n hx hb dX1_take_73 rfl (lv_at hl 0 rfl) ?_
              refine va_get (D := (dC, dI)) (ci := 2) (v := .int (nI (q))) (C := RX1) (T := TX1) (N := 7) hx hb hts hinX1 hown hK hP 0 rfl rfl 1 (by decide) hf15 (fun _ h9 => h9) rfl dX1_take_74 ?_
              refine lv_irem hx hb dX1_take_77 (nI_ne0 (by omega) (by omega)) ?_
              refine tp_i (y := nI ((wt i + q - st i) % q)) (pk_rem (by omega) (by omega) (by omega)) ?_
              refine rp_st (v := (wt i + q - st i) % q) hx hb hK hP hD hS 0 rfl (gi.1) (by omega) (by omega) dX1_take_78 (fun H locs hP hD hS => ?_)
              have hP : va_P (dC, dI) vwCl ([(h0, .inr (2, [.int (nI (n)), .int (nI (q)), .ref a1, v3, v4, v5, v6])), (a1, .inl (cG, n, .inr (.inr (.inr (.inr (fun j => some (gR j))))))), (b1, .inl (cI, n, .inl (fun j => nI (tm j)))), (b2, .inl (cI, n, .inl (fun j => nI (st j)))), (b3, .inl (cI, n, .inl (fun j => nI (wt j))))] ++ va_pl L (pI cI pl (va_up (va_up f (gR i) F) (gR i) (va_up ((va_up f (gR i) F) (gR i)) n ((wt i + q - st i) % q))))) H := hP
              have hD : va_D A ([(h0, .inr (2, [.int (nI (n)), .int (nI (q)), .ref a1, v3, v4, v5, v6])), (a1, .inl (cG, n, .inr (.inr (.inr (.inr (fun j => some (gR j))))))), (b1, .inl (cI, n, .inl (fun j => nI (tm j)))), (b2, .inl (cI, n, .inl (fun j => nI (st j)))), (b3, .inl (cI, n, .inl (fun j => nI (wt j))))] ++ va_pl L (pI cI pl (va_up (va_up f (gR i) F) (gR i) (va_up ((va_up f (gR i) F) (gR i)) n ((wt i + q - st i) % q))))) := hD
              have e9 : va_up (va_up f (gR i) F) (gR i) (va_up ((va_up f (gR i) F) (gR i)) n ((wt i + q - st i) % q)) = va_up f (gR i) (va_up F n ((wt i + q - st i) % q)) := by rw [up_at, up_up]
              rw [e9] at hP hD
              have hP : va_P (dC, dI) vwCl ([(h0, .inr (2, [.int (nI (n)), .int (nI (q)), .ref a1, v3, v4, v5, v6])), (a1, .inl (cG, n, .inr (.inr (.inr (.inr (fun j => some (gR j))))))), (b1, .inl (cI, n, .inl (fun j => nI (tm j)))), (b2, .inl (cI, n, .inl (fun j => nI (st j)))), (b3, .inl (cI, n, .inl (fun j => nI (wt j))))] ++ va_pl L (pI cI pl (va_up f (gR i) (va_up F n ((wt i + q - st i) % q))))) H := hP
              have hD : va_D A ([(h0, .inr (2, [.int (nI (n)), .int (nI (q)), .ref a1, v3, v4, v5, v6])), (a1, .inl (cG, n, .inr (.inr (.inr (.inr (fun j => some (gR j))))))), (b1, .inl (cI, n, .inl (fun j => nI (tm j)))), (b2, .inl (cI, n, .inl (fun j => nI (st j)))), (b3, .inl (cI, n, .inl (fun j => nI (wt j))))] ++ va_pl L (pI cI pl (va_up f (gR i) (va_up F n ((wt i + q - st i) % q))))) := hD
              refine lv_iinc (v := nI (i + 1)) (lv' := [(4, .int (nI (i + 1))), (0, .ref h0), (1, .ref b1), (2, .ref b2), (3, .ref b3), (5, .ref (gR i)), (6, .int (nI (b)))]) hx hb dX1_take_79 hl (k := 4) rfl (nI_1 _) (by decide) rfl (fun ls hl => ?_)
              refine lv_goto (tgt := 3) hx hb dX1_take_82 (by decide) ?_
              exact ih (i + 1) (va_up f (gR i) (va_up F n ((wt i + q - st i) % q))) (by omega) (fun a ha j hj => by
                    by_cases e : a = i
                    · subst e; rw [up_at, up_of _ _ (by omega), hF j, if_pos (by omega)]
                    · rw [up_of _ _ (fun h => e (g3 _ _ (by omega) (by omega) h))]; exact h1 a (by omega) j hj) (fun a ha => by
                    by_cases e : a = i
                    · subst e; rw [up_at, up_at]
                    · rw [up_of _ _ (fun h => e (g3 _ _ (by omega) (by omega) h))]; exact h2 a (by omega)) _ _ hP hD hS ls (lv_sub hl [1, 2, 3, 4, 0] rfl)
            · skip
              have c2 : b < n := Nat.not_le.mp (fun h => c2 ((nI_leI (a := n) (b := b) (by omega) (by omega)).mpr h))
              exact absurd c2 (by omega)
          | succ k2 ih2 =>
            intro b F hb2 hF H locs hP hD hS ls hl
            refine lv_iload hx hb dX1_take_24 (lv_at hl 6 rfl) ?_
            refine lv_aload_n hx hb dX1_take_26 rfl (lv_at hl 0 rfl) ?_
            refine va_get (D := (dC, dI)) (ci := 2) (v := .int (nI (n))) (C := RX1) (T := TX1) (N := 7) hx hb hts hinX1 hown hK hP 0 rfl rfl 0 (by decide) hf9 (fun _ h9 => h9) rfl dX1_take_27 ?_
            refine lv_icmp_ge (tgt := 53) hx hb dX1_take_30 (by decide) (fun c2 => ?_) (fun c2 => ?_)
            · skip
              have c2 : n ≤ b := (nI_leI (a := n) (b := b) (by omega) (by omega)).mp c2
              exact absurd c2 (by omega)
            · skip
              have c2 : b < n := Nat.not_le.mp (fun h => c2 ((nI_leI (a := n) (b := b) (by omega) (by omega)).mpr h))
              have e1 := ht0 b (by omega)
              have e4 : tm b / 2 ^ i ≤ tm b := Nat.div_le_self _ _
              refine lv_aload hx hb dX1_take_33 (lv_at hl 5 rfl) ?_
              refine lv_iload hx hb dX1_take_35 (lv_at hl 6 rfl) ?_
              refine lv_aload_n hx hb dX1_take_37 rfl (lv_at hl 1 rfl) ?_
              refine lv_iload hx hb dX1_take_38 (lv_at hl 6 rfl) ?_
              refine ra_ld (g := nI) (F := tm) hx hb hK hP 2 0 rfl rfl (by omega) (by omega) dX1_take_40 ?_
              refine lv_iload hx hb dX1_take_41 (lv_at hl 4 rfl) ?_
              refine lv_ishr hx hb dX1_take_43 ?_
              refine tp_i (y := nI ((tm b) / 2 ^ i)) (pk_shrN (by omega) _ _ (s_l _ (by omega))) ?_
              refine lv_iconst (v := nI 1) hx hb dX1_take_44 (by decide) ?_
              refine lv_iand hx hb dX1_take_45 ?_
              refine tp_i (y := nI (((tm b) / 2 ^ i) % 2)) (pk_andN (by omega) 1 (by decide)) ?_
              refine rp_st (v := ((tm b) / 2 ^ i) % 2) hx hb hK hP hD hS 0 rfl (gi.1) (by omega) (by omega) dX1_take_46 (fun H locs hP hD hS => ?_)
              have hP : va_P (dC, dI) vwCl ([(h0, .inr (2, [.int (nI (n)), .int (nI (q)), .ref a1, v3, v4, v5, v6])), (a1, .inl (cG, n, .inr (.inr (.inr (.inr (fun j => some (gR j))))))), (b1, .inl (cI, n, .inl (fun j => nI (tm j)))), (b2, .inl (cI, n, .inl (fun j => nI (st j)))), (b3, .inl (cI, n, .inl (fun j => nI (wt j))))] ++ va_pl L (pI cI pl (va_up (va_up f (gR i) F) (gR i) (va_up ((va_up f (gR i) F) (gR i)) b (((tm b) / 2 ^ i) % 2))))) H := hP
              have hD : va_D A ([(h0, .inr (2, [.int (nI (n)), .int (nI (q)), .ref a1, v3, v4, v5, v6])), (a1, .inl (cG, n, .inr (.inr (.inr (.inr (fun j => some (gR j))))))), (b1, .inl (cI, n, .inl (fun j => nI (tm j)))), (b2, .inl (cI, n, .inl (fun j => nI (st j)))), (b3, .inl (cI, n, .inl (fun j => nI (wt j))))] ++ va_pl L (pI cI pl (va_up (va_up f (gR i) F) (gR i) (va_up ((va_up f (gR i) F) (gR i)) b (((tm b) / 2 ^ i) % 2))))) := hD
              have e9 : va_up (va_up f (gR i) F) (gR i) (va_up ((va_up f (gR i) F) (gR i)) b (((tm b) / 2 ^ i) % 2)) = va_up f (gR i) (va_up F b (tm b / 2 ^ i % 2)) := by rw [up_at, up_up]
              rw [e9] at hP hD
              have hP : va_P (dC, dI) vwCl ([(h0, .inr (2, [.int (nI (n)), .int (nI (q)), .ref a1, v3, v4, v5, v6])), (a1, .inl (cG, n, .inr (.inr (.inr (.inr (fun j => some (gR j))))))), (b1, .inl (cI, n, .inl (fun j => nI (tm j)))), (b2, .inl (cI, n, .inl (fun j => nI (st j)))), (b3, .inl (cI, n, .inl (fun j => nI (wt j))))] ++ va_pl L (pI cI pl (va_up f (gR i) (va_up F b (tm b / 2 ^ i % 2))))) H := hP
              have hD : va_D A ([(h0, .inr (2, [.int (nI (n)), .int (nI (q)), .ref a1, v3, v4, v5, v6])), (a1, .inl (cG, n, .inr (.inr (.inr (.inr (fun j => some (gR j))))))), (b1, .inl (cI, n, .inl (fun j => nI (tm j)))), (b2, .inl (cI, n, .inl (fun j => nI (st j)))), (b3, .inl (cI, n, .inl (fun j => nI (wt j))))] ++ va_pl L (pI cI pl (va_up f (gR i) (va_up F b (tm b / 2 ^ i % 2))))) := hD
              refine lv_iinc (v := nI (b + 1)) (lv' := [(6, .int (nI (b + 1))), (0, .ref h0), (1, .ref b1), (2, .ref b2), (3, .ref b3), (4, .int (nI (i))), (5, .ref (gR i))]) hx hb dX1_take_47 hl (k := 6) rfl (nI_1 _) (by decide) rfl (fun ls hl => ?_)
              refine lv_goto (tgt := 24) hx hb dX1_take_50 (by decide) ?_
              exact ih2 (b + 1) (va_up F b (tm b / 2 ^ i % 2)) (by omega) (lp_step hF rfl) _ _ hP hD hS ls (lv_sub hl [1, 2, 3, 4, 5, 6, 0] rfl)
        have hP : va_P (dC, dI) vwCl ([(h0, .inr (2, [.int (nI (n)), .int (nI (q)), .ref a1, v3, v4, v5, v6])), (a1, .inl (cG, n, .inr (.inr (.inr (.inr (fun j => some (gR j))))))), (b1, .inl (cI, n, .inl (fun j => nI (tm j)))), (b2, .inl (cI, n, .inl (fun j => nI (st j)))), (b3, .inl (cI, n, .inl (fun j => nI (wt j))))] ++ va_pl L (pI cI pl (va_up f (gR i) (f (gR i))))) H := by rw [up_id]; exact hP
        have hD : va_D A ([(h0, .inr (2, [.int (nI (n)), .int (nI (q)), .ref a1, v3, v4, v5, v6])), (a1, .inl (cG, n, .inr (.inr (.inr (.inr (fun j => some (gR j))))))), (b1, .inl (cI, n, .inl (fun j => nI (tm j)))), (b2, .inl (cI, n, .inl (fun j => nI (st j)))), (b3, .inl (cI, n, .inl (fun j => nI (wt j))))] ++ va_pl L (pI cI pl (va_up f (gR i) (f (gR i))))) := by rw [up_id]; exact hD
        exact lp2 n 0 (f (gR i)) (by omega) (lp_zero _ _) _ _ hP hD hS ls (lv_sub hl [2, 3, 4, 5, 6, 1, 0] rfl)
  exact lp n 0 pr (by omega) (fun a h => absurd h (by omega)) (fun a h => absurd h (by omega)) _ _ hP hD hS ls (lv_sub hl [1, 2, 3, 4, 0] rfl)

set_option maxHeartbeats 4000000 in
set_option maxRecDepth 100000 in
theorem c_X0_become (l : Launch) (dC : Nat → ClassId) (dI : Nat → Nat → Nat) (sz : Nat) (h0 a1 len : Nat) (dg : Nat → Nat) (cI : ClassId) (d : Nat)  : Met l yX0_become wsX0_become ({ frames := 0, cells := 0, slots := 0, locals := 0 }) (va_Pc [.ref h0, .int (nI (d))] (fun U => U.heap.size = sz ∧ va_P (dC, dI) vwCl [(h0, .inr (1, [.ref a1, .int (nI (len))])), (a1, .inl (cI, 26, .inl (fun j => nI (dg j))))] U.heap ∧ va_K (dC, dI) vwCl [(cI, .int)] U ∧ va_D (fun _ => True) [(h0, .inr (1, [.ref a1, .int (nI (len))])), (a1, .inl (cI, 26, .inl (fun j => nI (dg j))))])) (va_Qv (fun _ : Unit => True) (fun _ t => va_P (dC, dI) vwCl [(h0, .inr (1, [.ref a1, .int (nI (1))])), (a1, .inl (cI, 26, .inl (fun j => nI ((va_up dg 0 d) j))))] t.heap ∧ va_K (dC, dI) vwCl [(cI, .int)] t ∧ va_D (va_A [(h0, .inr (1, [.ref a1, .int (nI (len))])), (a1, .inl (cI, 26, .inl (fun j => nI (dg j))))] sz) [(h0, .inr (1, [.ref a1, .int (nI (1))])), (a1, .inl (cI, 26, .inl (fun j => nI ((va_up dg 0 d) j))))]) (va_A [(h0, .inr (1, [.ref a1, .int (nI (len))])), (a1, .inl (cI, 26, .inl (fun j => nI (dg j))))] sz)) 0 0 (va_A [(h0, .inr (1, [.ref a1, .int (nI (len))])), (a1, .inl (cI, 26, .inl (fun j => nI (dg j))))] sz) := by
  refine Met.ofW (cc := cX0_become) (maxL := 2) (ret := none) (by decide) rfl ?_
  intro zp ze s m args below meth zc s₁ B hml hv
  obtain ⟨hargs, hsz, hP, hK, hD0⟩ := hv
  have hx := B.exec
  have hb := B.bytes
  have hr := B.returns
  have hts := atoms_spec (ws := wsX0_become) B.pre
  have hown : s.vm.findClass RX0 = some m.cls := findClass_of_methodNamed B.named
  have hlocks := B.notSynchronized
  subst hsz
  obtain ⟨Q, hQ⟩ : ∃ Q, Q = MQ below (va_Qv (fun _ : Unit => True) (fun _ t => va_P (dC, dI) vwCl [(h0, .inr (1, [.ref a1, .int (nI (1))])), (a1, .inl (cI, 26, .inl (fun j => nI ((va_up dg 0 d) j))))] t.heap ∧ va_K (dC, dI) vwCl [(cI, .int)] t ∧ va_D (va_A [(h0, .inr (1, [.ref a1, .int (nI (len))])), (a1, .inl (cI, 26, .inl (fun j => nI (dg j))))] s.heap.size) [(h0, .inr (1, [.ref a1, .int (nI (1))])), (a1, .inl (cI, 26, .inl (fun j => nI ((va_up dg 0 d) j))))]) (va_A [(h0, .inr (1, [.ref a1, .int (nI (len))])), (a1, .inl (cI, 26, .inl (fun j => nI (dg j))))] s.heap.size)) args s 0 0 (va_A [(h0, .inr (1, [.ref a1, .int (nI (len))])), (a1, .inl (cI, 26, .inl (fun j => nI (dg j))))] s.heap.size) := ⟨_, rfl⟩
  rw [← hQ]
  have hD := hD0.self (sz := s.heap.size)
  generalize hAe : (va_A [(h0, .inr (1, [.ref a1, .int (nI (len))])), (a1, .inl (cI, 26, .inl (fun j => nI (dg j))))] s.heap.size) = A at hD hQ
  have hA : ∀ q : Nat, s.heap.size ≤ q → A q := fun q h => by rw [← hAe]; exact Or.inr h
  have hS : va_S A s.heap s.heap [] := va_S.rf
  have hl := lv_entry ([.ref h0, .int (nI (d))]) (n := 2) (Nat.le_of_ble_eq_true rfl)
  generalize hen : entryFrame m args 2 = fr
  rw [hargs, lg_entry_eq] at hen
  subst hen
  generalize (lg_sl ([.ref h0, .int (nI (d))]) ++ List.replicate (2 - (lg_sl ([.ref h0, .int (nI (d))])).length) Slot.unset).toArray = ls at hl ⊢
  have hl : lv_has ls 2 [(0, .ref h0), (1, .int (nI (d)))] := hl
  have hinX0 : ∀ w ∈ wsX00, w ∈ wsX0_become := by decide +kernel
  have hf11 := hts (.fieldLink RX0 11 "LightRows$Decimal" "digits" "[I") (by decide +kernel)
  have hf15 := hts (.fieldLink RX0 15 "LightRows$Decimal" "length" "I") (by decide +kernel)
  refine lv_aload_n hx hb dX0_become_0 rfl (lv_at hl 0 rfl) ?_
  refine va_get (D := (dC, dI)) (ci := 1) (v := .ref a1) (C := RX0) (T := TX0) (N := 2) hx hb hts hinX0 hown hK hP 0 rfl rfl 0 (by decide) hf11 (fun _ h9 => h9) rfl dX0_become_1 ?_
  refine lv_iconst (v := nI 0) hx hb dX0_become_4 (by decide) ?_
  refine lv_iload_n hx hb dX0_become_5 rfl (lv_at hl 1 rfl) ?_
  refine ra_st (g := nI) (F := dg) (v := d) hx hb hK hP hD hS 1 0 rfl rfl (by omega) (by omega) dX0_become_6 (fun H locs hP hD hS => ?_)
  have hP : va_P (dC, dI) vwCl [(h0, .inr (1, [.ref a1, .int (nI (len))])), (a1, .inl (cI, 26, .inl (fun j => nI ((va_up dg 0 (d)) j))))] H := hP
  have hD : va_D A [(h0, .inr (1, [.ref a1, .int (nI (len))])), (a1, .inl (cI, 26, .inl (fun j => nI ((va_up dg 0 (d)) j))))] := hD
  refine lv_aload_n hx hb dX0_become_7 rfl (lv_at hl 0 rfl) ?_
  refine lv_iconst (v := nI 1) hx hb dX0_become_8 (by decide) ?_
  refine va_put (D := (dC, dI)) (ci := 1) (v := .int (nI (1))) (ty := .int) (C := RX0) (T := TX0) (N := 2) hx hb hts hinX0 tyX0 tyX0_ok nmX0 hown hK hP hD hS 0 rfl rfl 1 (by decide) hf15 (fun _ h9 => h9) rfl (by decide +kernel) rfl rfl (Nat.le_of_ble_eq_true rfl) dX0_become_9 (fun H locs hP hD hS => ?_)
  have hP : va_P (dC, dI) vwCl [(h0, .inr (1, [.ref a1, .int (nI (1))])), (a1, .inl (cI, 26, .inl (fun j => nI ((va_up dg 0 (d)) j))))] H := hP
  have hD : va_D A [(h0, .inr (1, [.ref a1, .int (nI (1))])), (a1, .inl (cI, 26, .inl (fun j => nI ((va_up dg 0 (d)) j))))] := hD
  rw [hQ]
  exact W.vret hx hb hr (fun t ht hW => ⟨⟨(), rfl, trivial, by rw [ht]; exact hP, va_K.moved hW.alike hK, hD⟩, hS.F ht⟩) hS.2.2 dX0_become_12

set_option maxHeartbeats 4000000 in
set_option maxRecDepth 100000 in
theorem c_X0_multiply (l : Launch) (dC : Nat → ClassId) (dI : Nat → Nat → Nat) (sz : Nat) (h0 a1 len : Nat) (dg : Nat → Nat) (cI : ClassId) (x : Nat) (hl0 : len ≤ 26) (hx0 : x < 100) (hd0 : ∀ j, j < len → dg j < 10) : Met l yX0_multiply wsX0_multiply ({ frames := 0, cells := 0, slots := 0, locals := 0 }) (va_Pc [.ref h0, .int (nI (x))] (fun U => U.heap.size = sz ∧ va_P (dC, dI) vwCl [(h0, .inr (1, [.ref a1, .int (nI (len))])), (a1, .inl (cI, 26, .inl (fun j => nI (dg j))))] U.heap ∧ va_K (dC, dI) vwCl [(cI, .int)] U ∧ va_D (fun _ => True) [(h0, .inr (1, [.ref a1, .int (nI (len))])), (a1, .inl (cI, 26, .inl (fun j => nI (dg j))))])) (va_Qv (fun _ : Unit => True) (fun _ t => va_P (dC, dI) vwCl [(h0, .inr (1, [.ref a1, .int (nI ((mulE x dg len).2))])), (a1, .inl (cI, 26, .inl (fun j => nI (((mulE x dg len).1) j))))] t.heap ∧ va_K (dC, dI) vwCl [(cI, .int)] t ∧ va_D (va_A [(h0, .inr (1, [.ref a1, .int (nI (len))])), (a1, .inl (cI, 26, .inl (fun j => nI (dg j))))] sz) [(h0, .inr (1, [.ref a1, .int (nI ((mulE x dg len).2))])), (a1, .inl (cI, 26, .inl (fun j => nI (((mulE x dg len).1) j))))]) (va_A [(h0, .inr (1, [.ref a1, .int (nI (len))])), (a1, .inl (cI, 26, .inl (fun j => nI (dg j))))] sz)) 0 0 (va_A [(h0, .inr (1, [.ref a1, .int (nI (len))])), (a1, .inl (cI, 26, .inl (fun j => nI (dg j))))] sz) := by
  refine Met.ofW (cc := cX0_multiply) (maxL := 5) (ret := none) (by decide) rfl ?_
  intro zp ze s m args below meth zc s₁ B hml hv
  obtain ⟨hargs, hsz, hP, hK, hD0⟩ := hv
  have hx := B.exec
  have hb := B.bytes
  have hr := B.returns
  have hts := atoms_spec (ws := wsX0_multiply) B.pre
  have hown : s.vm.findClass RX0 = some m.cls := findClass_of_methodNamed B.named
  have hlocks := B.notSynchronized
  subst hsz
  obtain ⟨Q, hQ⟩ : ∃ Q, Q = MQ below (va_Qv (fun _ : Unit => True) (fun _ t => va_P (dC, dI) vwCl [(h0, .inr (1, [.ref a1, .int (nI ((mulE x dg len).2))])), (a1, .inl (cI, 26, .inl (fun j => nI (((mulE x dg len).1) j))))] t.heap ∧ va_K (dC, dI) vwCl [(cI, .int)] t ∧ va_D (va_A [(h0, .inr (1, [.ref a1, .int (nI (len))])), (a1, .inl (cI, 26, .inl (fun j => nI (dg j))))] s.heap.size) [(h0, .inr (1, [.ref a1, .int (nI ((mulE x dg len).2))])), (a1, .inl (cI, 26, .inl (fun j => nI (((mulE x dg len).1) j))))]) (va_A [(h0, .inr (1, [.ref a1, .int (nI (len))])), (a1, .inl (cI, 26, .inl (fun j => nI (dg j))))] s.heap.size)) args s 0 0 (va_A [(h0, .inr (1, [.ref a1, .int (nI (len))])), (a1, .inl (cI, 26, .inl (fun j => nI (dg j))))] s.heap.size) := ⟨_, rfl⟩
  rw [← hQ]
  have hD := hD0.self (sz := s.heap.size)
  generalize hAe : (va_A [(h0, .inr (1, [.ref a1, .int (nI (len))])), (a1, .inl (cI, 26, .inl (fun j => nI (dg j))))] s.heap.size) = A at hD hQ
  have hA : ∀ q : Nat, s.heap.size ≤ q → A q := fun q h => by rw [← hAe]; exact Or.inr h
  have hS : va_S A s.heap s.heap [] := va_S.rf
  have hl := lv_entry ([.ref h0, .int (nI (x))]) (n := 5) (Nat.le_of_ble_eq_true rfl)
  generalize hen : entryFrame m args 5 = fr
  rw [hargs, lg_entry_eq] at hen
  subst hen
  generalize (lg_sl ([.ref h0, .int (nI (x))]) ++ List.replicate (5 - (lg_sl ([.ref h0, .int (nI (x))])).length) Slot.unset).toArray = ls at hl ⊢
  have hl : lv_has ls 5 [(0, .ref h0), (1, .int (nI (x)))] := hl
  have hinX0 : ∀ w ∈ wsX00, w ∈ wsX0_multiply := by decide +kernel
  have hf11 := hts (.fieldLink RX0 11 "LightRows$Decimal" "digits" "[I") (by decide +kernel)
  have hf15 := hts (.fieldLink RX0 15 "LightRows$Decimal" "length" "I") (by decide +kernel)
  refine lv_iconst (v := nI 0) hx hb dX0_multiply_0 (by decide) ?_
  refine lv_istore_n (lv' := [(2, .int (nI (0))), (0, .ref h0), (1, .int (nI (x)))]) hx hb dX0_multiply_1 rfl hl (by decide) rfl (fun ls hl => ?_)
  refine lv_iconst (v := nI 0) hx hb dX0_multiply_2 (by decide) ?_
  refine lv_istore_n (lv' := [(3, .int (nI (0))), (2, .int (nI (0))), (0, .ref h0), (1, .int (nI (x)))]) hx hb dX0_multiply_3 rfl hl (by decide) rfl (fun ls hl => ?_)
  have lp : ∀ (k : Nat) (i : Nat) (z : (Nat → Nat) × Nat), (i + k = len) → (z = mulD x dg i) → ∀ (H : Heap) (locs : List Loc), va_P (dC, dI) vwCl [(h0, .inr (1, [.ref a1, .int (nI (len))])), (a1, .inl (cI, 26, .inl (fun j => nI (z.1 j))))] H → va_D A [(h0, .inr (1, [.ref a1, .int (nI (len))])), (a1, .inl (cI, 26, .inl (fun j => nI (z.1 j))))] → va_S A s.heap H locs → ∀ (ls : Array Slot), lv_has ls 5 [(0, .ref h0), (1, .int (nI (x))), (2, .int (nI (z.2))), (3, .int (nI (i)))] → W zp l ze (headSpec wsX0_multiply ({ frames := 0, cells := 0, slots := 0, locals := 0 })).room s m args below meth zc H locs 0 0 Q (F0 m 4 ls []) := by
    intro k
    induction k with
    | zero =>
      intro i z hi hz H locs hP hD hS ls hl
      have hc : z.2 ≤ x := by rw [hz]; exact mulD_c hd0 i (by omega)
      refine lv_iload_n hx hb dX0_multiply_4 rfl (lv_at hl 3 rfl) ?_
      refine lv_aload_n hx hb dX0_multiply_5 rfl (lv_at hl 0 rfl) ?_
      refine va_get (D := (dC, dI)) (ci := 1) (v := .int (nI (len))) (C := RX0) (T := TX0) (N := 2) hx hb hts hinX0 hown hK hP 0 rfl rfl 1 (by decide) hf15 (fun _ h9 => h9) rfl dX0_multiply_6 ?_
      refine lv_icmp_ge (tgt := 47) hx hb dX0_multiply_9 (by decide) (fun c => ?_) (fun c => ?_)
      · skip
        have c : len ≤ i := (nI_leI (a := len) (b := i) (by omega) (by omega)).mp c
        obtain rfl : len = i := by omega
        refine lv_iload_n hx hb dX0_multiply_47 rfl (lv_at hl 2 rfl) ?_
        refine lv_if_le (tgt := 80) hx hb dX0_multiply_48 (by decide) (fun c2 => ?_) (fun c2 => ?_)
        · skip
          have c2 : z.2 ≤ 0 := (nI_leI (a := z.2) (b := 0) (by omega) (by omega)).mp c2
          have em : mulE x dg len = (z.1, len) := by unfold mulE; rw [← hz, if_neg (by omega)]
          rw [em] at hQ
          rw [hQ]
          exact W.vret hx hb hr (fun t ht hW => ⟨⟨(), rfl, trivial, by rw [ht]; exact hP, va_K.moved hW.alike hK, hD⟩, hS.F ht⟩) hS.2.2 dX0_multiply_80
        · skip
          have c2 : 0 < z.2 := Nat.not_le.mp (fun h => c2 ((nI_leI (a := z.2) (b := 0) (by omega) (by omega)).mpr h))
          refine lv_aload_n hx hb dX0_multiply_51 rfl (lv_at hl 0 rfl) ?_
          refine va_get (D := (dC, dI)) (ci := 1) (v := .int (nI (len))) (C := RX0) (T := TX0) (N := 2) hx hb hts hinX0 hown hK hP 0 rfl rfl 1 (by decide) hf15 (fun _ h9 => h9) rfl dX0_multiply_52 ?_
          refine lv_bipush (v := nI 26) hx hb dX0_multiply_55 (by decide) ?_
          refine lv_icmp_ge (tgt := 80) hx hb dX0_multiply_57 (by decide) (fun c3 => ?_) (fun c3 => ?_)
          · skip
            have c3 : 26 ≤ len := (nI_leI (a := 26) (b := len) (by omega) (by omega)).mp c3
            have em : mulE x dg len = (z.1, len) := by unfold mulE; rw [← hz, if_neg (by omega)]
            rw [em] at hQ
            rw [hQ]
            exact W.vret hx hb hr (fun t ht hW => ⟨⟨(), rfl, trivial, by rw [ht]; exact hP, va_K.moved hW.alike hK, hD⟩, hS.F ht⟩) hS.2.2 dX0_multiply_80
          · skip
            have c3 : len < 26 := Nat.not_le.mp (fun h => c3 ((nI_leI (a := 26) (b := len) (by omega) (by omega)).mpr h))
            refine lv_aload_n hx hb dX0_multiply_60 rfl (lv_at hl 0 rfl) ?_
            refine va_get (D := (dC, dI)) (ci := 1) (v := .ref a1) (C := RX0) (T := TX0) (N := 2) hx hb hts hinX0 hown hK hP 0 rfl rfl 0 (by decide) hf11 (fun _ h9 => h9) rfl dX0_multiply_61 ?_
            refine lv_aload_n hx hb dX0_multiply_64 rfl (lv_at hl 0 rfl) ?_
            refine va_get (D := (dC, dI)) (ci := 1) (v := .int (nI (len))) (C := RX0) (T := TX0) (N := 2) hx hb hts hinX0 hown hK hP 0 rfl rfl 1 (by decide) hf15 (fun _ h9 => h9) rfl dX0_multiply_65 ?_
            refine lv_iload_n hx hb dX0_multiply_68 rfl (lv_at hl 2 rfl) ?_
            refine ra_st (g := nI) (F := z.1) (v := z.2) hx hb hK hP hD hS 1 0 rfl rfl (by omega) (by omega) dX0_multiply_69 (fun H locs hP hD hS => ?_)
            have hP : va_P (dC, dI) vwCl [(h0, .inr (1, [.ref a1, .int (nI (len))])), (a1, .inl (cI, 26, .inl (fun j => nI ((va_up z.1 len (z.2)) j))))] H := hP
            have hD : va_D A [(h0, .inr (1, [.ref a1, .int (nI (len))])), (a1, .inl (cI, 26, .inl (fun j => nI ((va_up z.1 len (z.2)) j))))] := hD
            refine lv_aload_n hx hb dX0_multiply_70 rfl (lv_at hl 0 rfl) ?_
            refine lv_dup hx hb dX0_multiply_71 rfl ?_
            refine va_get (D := (dC, dI)) (ci := 1) (v := .int (nI (len))) (C := RX0) (T := TX0) (N := 2) hx hb hts hinX0 hown hK hP 0 rfl rfl 1 (by decide) hf15 (fun _ h9 => h9) rfl dX0_multiply_72 ?_
            refine lv_iconst (v := nI 1) hx hb dX0_multiply_75 (by decide) ?_
            refine lv_iadd hx hb dX0_multiply_76 ?_
            refine tp_i (y := nI (len + 1)) (nI_add _ _) ?_
            refine va_put (D := (dC, dI)) (ci := 1) (v := .int (nI (len + 1))) (ty := .int) (C := RX0) (T := TX0) (N := 2) hx hb hts hinX0 tyX0 tyX0_ok nmX0 hown hK hP hD hS 0 rfl rfl 1 (by decide) hf15 (fun _ h9 => h9) rfl (by decide +kernel) rfl rfl (Nat.le_of_ble_eq_true rfl) dX0_multiply_77 (fun H locs hP hD hS => ?_)
            have hP : va_P (dC, dI) vwCl [(h0, .inr (1, [.ref a1, .int (nI (len + 1))])), (a1, .inl (cI, 26, .inl (fun j => nI ((va_up z.1 len (z.2)) j))))] H := hP
            have hD : va_D A [(h0, .inr (1, [.ref a1, .int (nI (len + 1))])), (a1, .inl (cI, 26, .inl (fun j => nI ((va_up z.1 len (z.2)) j))))] := hD
            have em : mulE x dg len = (va_up z.1 len z.2, len + 1) := by unfold mulE; rw [← hz, if_pos (by omega)]
            rw [em] at hQ
            rw [hQ]
            exact W.vret hx hb hr (fun t ht hW => ⟨⟨(), rfl, trivial, by rw [ht]; exact hP, va_K.moved hW.alike hK, hD⟩, hS.F ht⟩) hS.2.2 dX0_multiply_80
      · skip
        have c : i < len := Nat.not_le.mp (fun h => c ((nI_leI (a := len) (b := i) (by omega) (by omega)).mpr h))
        exact absurd c (by omega)
    | succ k ih =>
      intro i z hi hz H locs hP hD hS ls hl
      have hc : z.2 ≤ x := by rw [hz]; exact mulD_c hd0 i (by omega)
      refine lv_iload_n hx hb dX0_multiply_4 rfl (lv_at hl 3 rfl) ?_
      refine lv_aload_n hx hb dX0_multiply_5 rfl (lv_at hl 0 rfl) ?_
      refine va_get (D := (dC, dI)) (ci := 1) (v := .int (nI (len))) (C := RX0) (T := TX0) (N := 2) hx hb hts hinX0 hown hK hP 0 rfl rfl 1 (by decide) hf15 (fun _ h9 => h9) rfl dX0_multiply_6 ?_
      refine lv_icmp_ge (tgt := 47) hx hb dX0_multiply_9 (by decide) (fun c => ?_) (fun c => ?_)
      · skip
        have c : len ≤ i := (nI_leI (a := len) (b := i) (by omega) (by omega)).mp c
        exact absurd c (by omega)
      · skip
        have c : i < len := Nat.not_le.mp (fun h => c ((nI_leI (a := len) (b := i) (by omega) (by omega)).mpr h))
        have e1 : z.1 i = dg i := by rw [hz]; exact mulD_o i i (Nat.le_refl i)
        have e2 := hd0 i (by omega)
        have e3 : dg i * x ≤ 10 * 100 := Nat.mul_le_mul (by omega) (by omega)
        refine lv_aload_n hx hb dX0_multiply_12 rfl (lv_at hl 0 rfl) ?_
        refine va_get (D := (dC, dI)) (ci := 1) (v := .ref a1) (C := RX0) (T := TX0) (N := 2) hx hb hts hinX0 hown hK hP 0 rfl rfl 0 (by decide) hf11 (fun _ h9 => h9) rfl dX0_multiply_13 ?_
        refine lv_iload_n hx hb dX0_multiply_16 rfl (lv_at hl 3 rfl) ?_
        refine ra_ld (g := nI) (F := z.1) hx hb hK hP 1 0 rfl rfl (by omega) (by omega) dX0_multiply_17 ?_
        refine tp_i (y := nI (dg i)) (by rw [e1]) ?_
        refine lv_iload_n hx hb dX0_multiply_18 rfl (lv_at hl 1 rfl) ?_
        refine lv_imul hx hb dX0_multiply_19 ?_
        refine tp_i (y := nI ((dg i) * x)) (pk_mul _ _) ?_
        refine lv_iload_n hx hb dX0_multiply_20 rfl (lv_at hl 2 rfl) ?_
        refine lv_iadd hx hb dX0_multiply_21 ?_
        refine tp_i (y := nI (((dg i) * x) + z.2)) (nI_add _ _) ?_
        refine lv_istore (lv' := [(4, .int (nI (((dg i) * x) + z.2))), (0, .ref h0), (1, .int (nI (x))), (2, .int (nI (z.2))), (3, .int (nI (i)))]) hx hb dX0_multiply_22 hl (by decide) rfl (fun ls hl => ?_)
        refine lv_aload_n hx hb dX0_multiply_24 rfl (lv_at hl 1 rfl) ?_
        refine va_get (D := (dC, dI)) (ci := 1) (v := .ref a1) (C := RX0) (T := TX0) (N := 2) hx hb hts hinX0 hown hK hP 0 rfl rfl 0 (by decide) hf11 (fun _ h9 => h9) rfl dX0_multiply_25 ?_
        refine lv_iload_n hx hb dX0_multiply_28 rfl (lv_at hl 4 rfl) ?_
        refine lv_iload hx hb dX0_multiply_29 (lv_at hl 0 rfl) ?_
        refine lv_bipush (v := nI 10) hx hb dX0_multiply_31 (by decide) ?_
        refine lv_irem hx hb dX0_multiply_33 (nI_ne0 (by omega) (by omega)) ?_
        refine tp_i (y := nI ((((dg i) * x) + z.2) % 10)) (pk_rem (by omega) (by omega) (by omega)) ?_
        refine ra_st (g := nI) (F := z.1) (v := (((dg i) * x) + z.2) % 10) hx hb hK hP hD hS 1 0 rfl rfl (by omega) (by omega) dX0_multiply_34 (fun H locs hP hD hS => ?_)
        have hP : va_P (dC, dI) vwCl [(h0, .inr (1, [.ref a1, .int (nI (len))])), (a1, .inl (cI, 26, .inl (fun j => nI ((va_up z.1 i ((((dg i) * x) + z.2) % 10)) j))))] H := hP
        have hD : va_D A [(h0, .inr (1, [.ref a1, .int (nI (len))])), (a1, .inl (cI, 26, .inl (fun j => nI ((va_up z.1 i ((((dg i) * x) + z.2) % 10)) j))))] := hD
        refine lv_iload hx hb dX0_multiply_35 (lv_at hl 0 rfl) ?_
        refine lv_bipush (v := nI 10) hx hb dX0_multiply_37 (by decide) ?_
        refine lv_idiv hx hb dX0_multiply_39 (nI_ne0 (by omega) (by omega)) ?_
        refine tp_i (y := nI ((((dg i) * x) + z.2) / 10)) (pk_div (by omega) (by omega) (by omega)) ?_
        refine lv_istore_n (lv' := [(2, .int (nI ((((dg i) * x) + z.2) / 10))), (4, .int (nI (((dg i) * x) + z.2))), (0, .ref h0), (1, .int (nI (x))), (3, .int (nI (i)))]) hx hb dX0_multiply_40 rfl hl (by decide) rfl (fun ls hl => ?_)
        refine lv_iinc (v := nI (i + 1)) (lv' := [(3, .int (nI (i + 1))), (2, .int (nI ((((dg i) * x) + z.2) / 10))), (4, .int (nI (((dg i) * x) + z.2))), (0, .ref h0), (1, .int (nI (x)))]) hx hb dX0_multiply_41 hl (k := 4) rfl (nI_1 _) (by decide) rfl (fun ls hl => ?_)
        refine lv_goto (tgt := 4) hx hb dX0_multiply_44 (by decide) ?_
        exact ih (i + 1) (va_up z.1 i ((dg i * x + z.2) % 10), (dg i * x + z.2) / 10) (by omega) (by simp only [mulD, hz]) _ _ hP hD hS ls (lv_sub hl [3, 4, 1, 0] rfl)
  exact lp len 0 (dg, 0) (by omega) rfl _ _ hP hD hS ls (lv_sub hl [2, 3, 1, 0] rfl)

set_option maxHeartbeats 4000000 in
set_option maxRecDepth 100000 in
theorem c_X0_digit (l : Launch) (dC : Nat → ClassId) (dI : Nat → Nat → Nat) (sz : Nat) (h0 a1 len : Nat) (dg : Nat → Nat) (cI : ClassId) (x : Int32) (hl0 : len ≤ 26) : Met l yX0_digit wsX0_digit ({ frames := 0, cells := 0, slots := 0, locals := 0 }) (va_Pc [.ref h0, .int (x)] (fun U => U.heap.size = sz ∧ va_P (dC, dI) vwCl [(h0, .inr (1, [.ref a1, .int (nI (len))])), (a1, .inl (cI, 26, .inl (fun j => nI (dg j))))] U.heap ∧ va_K (dC, dI) vwCl [(cI, .int)] U ∧ va_D (fun _ => True) [(h0, .inr (1, [.ref a1, .int (nI (len))])), (a1, .inl (cI, 26, .inl (fun j => nI (dg j))))])) (va_Qi (fun (z : Int32) (_ : Unit) => z = if x < 0 ∨ nI len ≤ x then -1 else nI (dg x.toNatClampNeg)) (fun _ t => va_P (dC, dI) vwCl [(h0, .inr (1, [.ref a1, .int (nI (len))])), (a1, .inl (cI, 26, .inl (fun j => nI (dg j))))] t.heap ∧ va_K (dC, dI) vwCl [(cI, .int)] t ∧ va_D (va_A [(h0, .inr (1, [.ref a1, .int (nI (len))])), (a1, .inl (cI, 26, .inl (fun j => nI (dg j))))] sz) [(h0, .inr (1, [.ref a1, .int (nI (len))])), (a1, .inl (cI, 26, .inl (fun j => nI (dg j))))]) (va_A [(h0, .inr (1, [.ref a1, .int (nI (len))])), (a1, .inl (cI, 26, .inl (fun j => nI (dg j))))] sz)) 0 0 (va_A [(h0, .inr (1, [.ref a1, .int (nI (len))])), (a1, .inl (cI, 26, .inl (fun j => nI (dg j))))] sz) := by
  refine Met.ofW (cc := cX0_digit) (maxL := 2) (ret := (some .int)) (by decide) rfl ?_
  intro zp ze s m args below meth zc s₁ B hml hv
  obtain ⟨hargs, hsz, hP, hK, hD0⟩ := hv
  have hx := B.exec
  have hb := B.bytes
  have hr := B.returns
  have hts := atoms_spec (ws := wsX0_digit) B.pre
  have hown : s.vm.findClass RX0 = some m.cls := findClass_of_methodNamed B.named
  have hlocks := B.notSynchronized
  subst hsz
  obtain ⟨Q, hQ⟩ : ∃ Q, Q = MQ below (va_Qi (fun (z : Int32) (_ : Unit) => z = if x < 0 ∨ nI len ≤ x then -1 else nI (dg x.toNatClampNeg)) (fun _ t => va_P (dC, dI) vwCl [(h0, .inr (1, [.ref a1, .int (nI (len))])), (a1, .inl (cI, 26, .inl (fun j => nI (dg j))))] t.heap ∧ va_K (dC, dI) vwCl [(cI, .int)] t ∧ va_D (va_A [(h0, .inr (1, [.ref a1, .int (nI (len))])), (a1, .inl (cI, 26, .inl (fun j => nI (dg j))))] s.heap.size) [(h0, .inr (1, [.ref a1, .int (nI (len))])), (a1, .inl (cI, 26, .inl (fun j => nI (dg j))))]) (va_A [(h0, .inr (1, [.ref a1, .int (nI (len))])), (a1, .inl (cI, 26, .inl (fun j => nI (dg j))))] s.heap.size)) args s 0 0 (va_A [(h0, .inr (1, [.ref a1, .int (nI (len))])), (a1, .inl (cI, 26, .inl (fun j => nI (dg j))))] s.heap.size) := ⟨_, rfl⟩
  rw [← hQ]
  have hD := hD0.self (sz := s.heap.size)
  generalize hAe : (va_A [(h0, .inr (1, [.ref a1, .int (nI (len))])), (a1, .inl (cI, 26, .inl (fun j => nI (dg j))))] s.heap.size) = A at hD hQ
  have hA : ∀ q : Nat, s.heap.size ≤ q → A q := fun q h => by rw [← hAe]; exact Or.inr h
  have hS : va_S A s.heap s.heap [] := va_S.rf
  have hl := lv_entry ([.ref h0, .int (x)]) (n := 2) (Nat.le_of_ble_eq_true rfl)
  generalize hen : entryFrame m args 2 = fr
  rw [hargs, lg_entry_eq] at hen
  subst hen
  generalize (lg_sl ([.ref h0, .int (x)]) ++ List.replicate (2 - (lg_sl ([.ref h0, .int (x)])).length) Slot.unset).toArray = ls at hl ⊢
  have hl : lv_has ls 2 [(0, .ref h0), (1, .int (x))] := hl
  have hinX0 : ∀ w ∈ wsX00, w ∈ wsX0_digit := by decide +kernel
  have hf11 := hts (.fieldLink RX0 11 "LightRows$Decimal" "digits" "[I") (by decide +kernel)
  have hf15 := hts (.fieldLink RX0 15 "LightRows$Decimal" "length" "I") (by decide +kernel)
  refine lv_iload_n hx hb dX0_digit_0 rfl (lv_at hl 1 rfl) ?_
  refine lv_if_lt (tgt := 12) hx hb dX0_digit_1 (by decide) (fun c => ?_) (fun c => ?_)
  · skip
    refine lv_iconst (v := (-1)) hx hb dX0_digit_12 (by decide) ?_
    refine lv_goto (tgt := 22) hx hb dX0_digit_13 (by decide) ?_
    rw [hQ]
    exact W.iret (v := (-1)) hx hb hr (fun t ht hW => ⟨⟨_, (), rfl, by rw [if_pos (Or.inl c)], by rw [ht]; exact hP, va_K.moved hW.alike hK, hD⟩, hS.F ht⟩) hS.2.2 dX0_digit_22
  · skip
    refine lv_iload_n hx hb dX0_digit_4 rfl (lv_at hl 1 rfl) ?_
    refine lv_aload_n hx hb dX0_digit_5 rfl (lv_at hl 0 rfl) ?_
    refine va_get (D := (dC, dI)) (ci := 1) (v := .int (nI (len))) (C := RX0) (T := TX0) (N := 2) hx hb hts hinX0 hown hK hP 0 rfl rfl 1 (by decide) hf15 (fun _ h9 => h9) rfl dX0_digit_6 ?_
    refine lv_icmp_lt (tgt := 16) hx hb dX0_digit_9 (by decide) (fun c2 => ?_) (fun c2 => ?_)
    · skip
      obtain ⟨j, hj, rfl⟩ : ∃ j : Nat, j < len ∧ x = nI j := by
        rcases pk_ix x (n := len) (by omega) with h | h | h
        · exact absurd h c
        · exact absurd c2 (by rw [Int32.not_lt]; exact h)
        · exact h
      refine lv_aload_n hx hb dX0_digit_16 rfl (lv_at hl 0 rfl) ?_
      refine va_get (D := (dC, dI)) (ci := 1) (v := .ref a1) (C := RX0) (T := TX0) (N := 2) hx hb hts hinX0 hown hK hP 0 rfl rfl 0 (by decide) hf11 (fun _ h9 => h9) rfl dX0_digit_17 ?_
      refine lv_iload_n hx hb dX0_digit_20 rfl (lv_at hl 1 rfl) ?_
      refine ra_ld (g := nI) (F := dg) hx hb hK hP 1 0 rfl rfl (by omega) (by omega) dX0_digit_21 ?_
      rw [hQ]
      exact W.iret (v := nI (dg j)) hx hb hr (fun t ht hW => ⟨⟨_, (), rfl, by rw [if_neg (fun h => h.elim c (fun h => by rw [← Int32.not_lt] at h; exact h c2)), nI_clamp (by omega)], by rw [ht]; exact hP, va_K.moved hW.alike hK, hD⟩, hS.F ht⟩) hS.2.2 dX0_digit_22
    · skip
      refine lv_iconst (v := (-1)) hx hb dX0_digit_12 (by decide) ?_
      refine lv_goto (tgt := 22) hx hb dX0_digit_13 (by decide) ?_
      rw [hQ]
      exact W.iret (v := (-1)) hx hb hr (fun t ht hW => ⟨⟨_, (), rfl, by rw [if_pos (Or.inr (by rw [← Int32.not_lt]; exact c2))], by rw [ht]; exact hP, va_K.moved hW.alike hK, hD⟩, hS.F ht⟩) hS.2.2 dX0_digit_22
end
section
/-- sums, the order by the first lamp that differs, and a step of the search -/
def sumF (f : Nat → Nat) : Nat → Nat
  | 0 => 0
  | i + 1 => sumF f i + f i
theorem sumF_congr {f g : Nat → Nat} : ∀ n, (∀ j, j < n → f j = g j) → sumF f n = sumF g n
  | 0, _ => rfl
  | n + 1, h => by
    simp only [sumF]
    rw [sumF_congr n (fun j hj => h j (by omega)), h n (by omega)]
theorem sumF_le {f : Nat → Nat} {q : Nat} : ∀ n, (∀ j, j < n → f j < q) → sumF f n ≤ n * q
  | 0, _ => Nat.zero_le _
  | n + 1, h => by
    simp only [sumF]
    have h1 := sumF_le n (fun j hj => h j (by omega))
    have h2 := h n (by omega)
    rw [Nat.succ_mul]
    omega
/-- whether f is ahead of g: k places are looked at, from i on -/
def lexL (f g : Nat → Nat) : Nat → Nat → Bool
  | 0, _ => false
  | k + 1, i => if f i = g i then lexL f g k (i + 1) else decide (f i < g i)
theorem lexL_congr {f g f' g' : Nat → Nat} : ∀ k i, (∀ j, i ≤ j → j < i + k → f j = f' j ∧ g j = g' j) → lexL f g k i = lexL f' g' k i
  | 0, _, _ => rfl
  | k + 1, i, h => by
    simp only [lexL]
    have h1 := h i (by omega) (by omega)
    rw [h1.1, h1.2, lexL_congr k (i + 1) (fun j h2 h3 => h j (by omega) (by omega))]
abbrev adq (q a b : Nat) : Nat := if a + b < q then a + b else a + b - q
theorem adq_lt {q a b : Nat} (ha : a < q) (hb : b < q) : adq q a b < q := by
  unfold adq
  split <;> omega
/-- one QUIET pattern after the other is added, as the digits of a number go on -/
def adv (q : Nat) (qp : Nat → Nat → Nat) : Nat → Nat → (Nat → Nat) × (Nat → Nat) → (Nat → Nat) × (Nat → Nat)
  | 0, _, z => z
  | f + 1, k, z => if z.2 k + 1 < q then (fun j => adq q (z.1 j) (qp k j), va_up z.2 k (z.2 k + 1)) else adv q qp f (k + 1) (fun j => adq q (z.1 j) (qp k j), va_up z.2 k 0)
/-- the search: what is tried, the least so far, the turns, the least total -/
abbrev srT : Type := (Nat → Nat) × (Nat → Nat) × (Nat → Nat) × Nat
def srK (n : Nat) (t : Nat → Nat) (l : Nat → Nat) (u : Nat → Nat) (z : Nat) : srT :=
  if sumF t n < z ∨ (sumF t n = z ∧ lexL t l n 0 = true) then (t, t, u, sumF t n) else (t, l, u, z)
def srS (n q fr : Nat) (qp : Nat → Nat → Nat) (w : srT) : srT := srK n (adv q qp fr 0 (w.1, w.2.2.1)).1 w.2.1 (adv q qp fr 0 (w.1, w.2.2.1)).2 w.2.2.2
def srB (n : Nat) (an : Nat → Nat) : srT := (an, an, fun _ => 0, sumF an n)
def srN (n q fr : Nat) (qp : Nat → Nat → Nat) (an : Nat → Nat) : Nat → srT
  | 0 => srB n an
  | k + 1 => srS n q fr qp (srN n q fr qp an k)
theorem adv_lt {q : Nat} {qp : Nat → Nat → Nat} {n fr : Nat} (hq : 0 < q) (hp : ∀ k, k < fr → ∀ j, j < n → qp k j < q) : ∀ (f k : Nat) (z : (Nat → Nat) × (Nat → Nat)), k + f ≤ fr → (∀ j, j < n → z.1 j < q) → (∀ j, z.2 j < q) → (∀ j, j < n → (adv q qp f k z).1 j < q) ∧ ∀ j, (adv q qp f k z).2 j < q
  | 0, _, _, _, h1, h2 => ⟨h1, h2⟩
  | f + 1, k, z, hk, h1, h2 => by
    simp only [adv]
    by_cases e : z.2 k + 1 < q
    · rw [if_pos e]
      exact ⟨fun j hj => adq_lt (h1 j hj) (hp k (by omega) j hj), fun j => by
        dsimp only
        by_cases e2 : j = k
        · rw [e2, up_at]; exact e
        · rw [up_of _ _ e2]; exact h2 j⟩
    · rw [if_neg e]
      exact adv_lt hq hp f (k + 1) _ (by omega) (fun j hj => adq_lt (h1 j hj) (hp k (by omega) j hj)) (fun j => by
        dsimp only
        by_cases e2 : j = k
        · rw [e2, up_at]; exact hq
        · rw [up_of _ _ e2]; exact h2 j)
theorem srN_lt {n q fr : Nat} {qp : Nat → Nat → Nat} {an : Nat → Nat} (hq : 0 < q) (hp : ∀ k, k < fr → ∀ j, j < n → qp k j < q) (ha : ∀ j, j < n → an j < q) : ∀ k, (∀ j, j < n → (srN n q fr qp an k).1 j < q) ∧ (∀ j, j < n → (srN n q fr qp an k).2.1 j < q) ∧ (∀ j, (srN n q fr qp an k).2.2.1 j < q) ∧ (srN n q fr qp an k).2.2.2 ≤ n * q
  | 0 => ⟨ha, ha, fun _ => hq, sumF_le n ha⟩
  | k + 1 => by
    obtain ⟨h1, h2, h3, h4⟩ := srN_lt hq hp ha k
    have h5 := adv_lt hq hp fr 0 ((srN n q fr qp an k).1, (srN n q fr qp an k).2.2.1) (by omega) h1 h3
    simp only [srN, srS, srK]
    split
    · exact ⟨h5.1, h5.1, h5.2, sumF_le n h5.1⟩
    · exact ⟨h5.1, h2, h5.2, h4⟩
section RG4
variable {p : Program} {l : Launch} {e : Env} {R : Room} {s : State} {m : MethodId} {args : Array Value} {below : List Frame} {meth : Method} {c : Code} {H : Heap} {locs : List Loc} {cells slots : Nat} {Q : State → Prop}
variable {cc : ByteArray} {pc : Nat} {ls : Array Slot} {rest : List Value} {D : va_G} {cl : List vw_C} {A : Nat → Prop} {a : Nat} {tys : List (ClassId × FieldType)} {ws : va_W} {H0 : Heap}
theorem ra_cp {F G : Nat → Nat} (hexec : p.tables.exec = Jvm.exec) (hb : c.code = cc) (hml : c.maxLocals = ls.size) {own : String} {index : Nat} (hown : s.vm.findClass own = some m.cls) (hlink : (Cond.methodLink own index arraycopyName).before args s = true) (hnat : (Cond.native arraycopyName).before args s = true) (hstat : (Cond.static arraycopyName).before args s = true) (hini : (Cond.initialized "java/lang/System").before args s = true)
    (hK : va_K D cl tys s) (hP : va_P D cl ws H) (hD : va_D A ws) (hS : va_S A H0 H locs) (q0 q1 t0 : Nat) {a0 : Nat} {c0 : ClassId} {n0 n1 k : Nat} (ha0 : ws[q0]? = some (a0, .inl (c0, n0, .inl (fun j => nI (F j))))) (ha1 : ws[q1]? = some (a, .inl (c0, n1, .inl (fun j => nI (G j))))) (ht0 : tys[t0]? = some (c0, .int)) (hk0 : k ≤ n0) (hk1 : k ≤ n1) (hk2 : k < 2 ^ 31)
    (hframes : 1 ≤ R.frames) (hlocals : (rest.map fun v => v.category).sum + (nativeFrameWords "java/lang/System" "arraycopy" 5 + 11) ≤ R.locals) (hdg : decode cc pc = .ok (.invokestatic index, 3))
    (kk : ∀ (H1 : Heap) (locs1 : List Loc), va_P D cl (ws.set q1 (a, .inl (c0, n1, .inl (fun j => nI ((fun j => if j < k then F j else G j) j))))) H1 → va_D A (ws.set q1 (a, .inl (c0, n1, .inl (fun j => nI ((fun j => if j < k then F j else G j) j))))) → va_S A H0 H1 locs1 → W p l e R s m args below meth c H1 locs1 cells slots Q (F0 m (pc + 3) ls rest)) : W p l e R s m args below meth c H locs cells slots Q (F0 m pc ls (.int (nI k) :: .int (nI 0) :: .ref a :: .int (nI 0) :: .ref a0 :: rest)) := by
  have e0 : (nI 0).toNatClampNeg = 0 := nI_clamp (by omega)
  have ek : (nI k).toNatClampNeg = k := nI_clamp hk2
  refine va_copyi (ty := .int) hexec hb hml hown hlink hnat hstat hini hK hP hD hS q0 q1 t0 t0 ha0 ha1 ht0 ht0 rfl (nI_pos (by omega)) (nI_pos (by omega)) (nI_pos hk2) (by rw [e0, ek]; omega) (by rw [e0, ek]; omega) (fun i _ => rfl) hframes hlocals hdg (fun H1 locs1 h1 h2 h3 => ?_)
  have ec : va_cpy (fun j => nI (F j)) (fun j => nI (G j)) (nI 0).toNatClampNeg (nI 0).toNatClampNeg (nI k).toNatClampNeg = fun j => nI ((fun j => if j < k then F j else G j) j) := by
    rw [e0, ek]
    funext j
    by_cases h : j < k
    · rw [pk_cpy_in (Nat.zero_le j) (by omega)]; simp [h]
    · rw [pk_cpy_out (Or.inr (by omega))]; simp [h]
  rw [ec] at h1 h2
  exact kk H1 locs1 h1 h2 h3
end RG4
end
section
set_option maxHeartbeats 4000000 in
set_option maxRecDepth 100000 in
theorem c_X2_leastTotal (l : Launch) (dC : Nat → ClassId) (dI : Nat → Nat → Nat) (sz : Nat) (g0 : Nat) (r : Int32) (v0 v1 v2 v3 v4 : Value)  : Met l yX2_leastTotal wsX2_leastTotal ({ frames := 0, cells := 0, slots := 0, locals := 0 }) (va_Pc [.ref g0] (fun U => U.heap.size = sz ∧ va_P (dC, dI) vwCl [(g0, .inr (3, [v0, v1, v2, v3, v4, .int (r)]))] U.heap ∧ va_K (dC, dI) vwCl [] U ∧ va_D (fun _ => True) [(g0, .inr (3, [v0, v1, v2, v3, v4, .int (r)]))])) (va_Qi (fun (z : Int32) (_ : Unit) => z = r) (fun _ t => va_P (dC, dI) vwCl [(g0, .inr (3, [v0, v1, v2, v3, v4, .int (r)]))] t.heap ∧ va_K (dC, dI) vwCl [] t ∧ va_D (va_A [(g0, .inr (3, [v0, v1, v2, v3, v4, .int (r)]))] sz) [(g0, .inr (3, [v0, v1, v2, v3, v4, .int (r)]))]) (va_A [(g0, .inr (3, [v0, v1, v2, v3, v4, .int (r)]))] sz)) 0 0 (va_A [(g0, .inr (3, [v0, v1, v2, v3, v4, .int (r)]))] sz) := by
  refine Met.ofW (cc := cX2_leastTotal) (maxL := 1) (ret := (some .int)) (by decide) rfl ?_
  intro zp ze s m args below meth zc s₁ B hml hv
  obtain ⟨hargs, hsz, hP, hK, hD0⟩ := hv
  have hx := B.exec
  have hb := B.bytes
  have hr := B.returns
  have hts := atoms_spec (ws := wsX2_leastTotal) B.pre
  have hown : s.vm.findClass RX2 = some m.cls := findClass_of_methodNamed B.named
  have hlocks := B.notSynchronized
  subst hsz
  obtain ⟨Q, hQ⟩ : ∃ Q, Q = MQ below (va_Qi (fun (z : Int32) (_ : Unit) => z = r) (fun _ t => va_P (dC, dI) vwCl [(g0, .inr (3, [v0, v1, v2, v3, v4, .int (r)]))] t.heap ∧ va_K (dC, dI) vwCl [] t ∧ va_D (va_A [(g0, .inr (3, [v0, v1, v2, v3, v4, .int (r)]))] s.heap.size) [(g0, .inr (3, [v0, v1, v2, v3, v4, .int (r)]))]) (va_A [(g0, .inr (3, [v0, v1, v2, v3, v4, .int (r)]))] s.heap.size)) args s 0 0 (va_A [(g0, .inr (3, [v0, v1, v2, v3, v4, .int (r)]))] s.heap.size) := ⟨_, rfl⟩
  rw [← hQ]
  have hD := hD0.self (sz := s.heap.size)
  generalize hAe : (va_A [(g0, .inr (3, [v0, v1, v2, v3, v4, .int (r)]))] s.heap.size) = A at hD hQ
  have hA : ∀ q : Nat, s.heap.size ≤ q → A q := fun q h => by rw [← hAe]; exact Or.inr h
  have hS : va_S A s.heap s.heap [] := va_S.rf
  have hl := lv_entry ([.ref g0]) (n := 1) (Nat.le_of_ble_eq_true rfl)
  generalize hen : entryFrame m args 1 = fr
  rw [hargs, lg_entry_eq] at hen
  subst hen
  generalize (lg_sl ([.ref g0]) ++ List.replicate (1 - (lg_sl ([.ref g0])).length) Slot.unset).toArray = ls at hl ⊢
  have hl : lv_has ls 1 [(0, .ref g0)] := hl
  have hinX2 : ∀ w ∈ wsX20, w ∈ wsX2_leastTotal := by decide +kernel
  have hf28 := hts (.fieldLink RX2 28 "LightRows$Search" "total" "I") (by decide +kernel)
  refine lv_aload_n hx hb dX2_leastTotal_0 rfl (lv_at hl 0 rfl) ?_
  refine va_get (D := (dC, dI)) (ci := 3) (v := .int (r)) (C := RX2) (T := TX2) (N := 6) hx hb hts hinX2 hown hK hP 0 rfl rfl 5 (by decide) hf28 (fun _ h9 => h9) rfl dX2_leastTotal_1 ?_
  rw [hQ]
  exact W.iret (v := r) hx hb hr (fun t ht hW => ⟨⟨_, (), rfl, rfl, by rw [ht]; exact hP, va_K.moved hW.alike hK, hD⟩, hS.F ht⟩) hS.2.2 dX2_leastTotal_4

set_option maxHeartbeats 4000000 in
set_option maxRecDepth 100000 in
theorem c_X2_leastPresses (l : Launch) (dC : Nat → ClassId) (dI : Nat → Nat → Nat) (sz : Nat) (g0 c1 c2 c3 n q j0 : Nat) (tot : Int32) (le : Nat → Nat) (cI : ClassId) (hn : n < 1000) (hj0 : j0 < n) : Met l yX2_leastPresses wsX2_leastPresses ({ frames := 0, cells := 0, slots := 0, locals := 0 }) (va_Pc [.ref g0, .int (nI (j0))] (fun U => U.heap.size = sz ∧ va_P (dC, dI) vwCl [(g0, .inr (3, [.int (nI (n)), .int (nI (q)), .ref c1, .ref c2, .ref c3, .int (tot)])), (c2, .inl (cI, n, .inl (fun j => nI (le j))))] U.heap ∧ va_K (dC, dI) vwCl [(cI, .int)] U ∧ va_D (fun _ => True) [(g0, .inr (3, [.int (nI (n)), .int (nI (q)), .ref c1, .ref c2, .ref c3, .int (tot)])), (c2, .inl (cI, n, .inl (fun j => nI (le j))))])) (va_Qi (fun (z : Int32) (_ : Unit) => z = nI (le j0)) (fun _ t => va_P (dC, dI) vwCl [(g0, .inr (3, [.int (nI (n)), .int (nI (q)), .ref c1, .ref c2, .ref c3, .int (tot)])), (c2, .inl (cI, n, .inl (fun j => nI (le j))))] t.heap ∧ va_K (dC, dI) vwCl [(cI, .int)] t ∧ va_D (va_A [(g0, .inr (3, [.int (nI (n)), .int (nI (q)), .ref c1, .ref c2, .ref c3, .int (tot)])), (c2, .inl (cI, n, .inl (fun j => nI (le j))))] sz) [(g0, .inr (3, [.int (nI (n)), .int (nI (q)), .ref c1, .ref c2, .ref c3, .int (tot)])), (c2, .inl (cI, n, .inl (fun j => nI (le j))))]) (va_A [(g0, .inr (3, [.int (nI (n)), .int (nI (q)), .ref c1, .ref c2, .ref c3, .int (tot)])), (c2, .inl (cI, n, .inl (fun j => nI (le j))))] sz)) 0 0 (va_A [(g0, .inr (3, [.int (nI (n)), .int (nI (q)), .ref c1, .ref c2, .ref c3, .int (tot)])), (c2, .inl (cI, n, .inl (fun j => nI (le j))))] sz) := by
  refine Met.ofW (cc := cX2_leastPresses) (maxL := 2) (ret := (some .int)) (by decide) rfl ?_
  intro zp ze s m args below meth zc s₁ B hml hv
  obtain ⟨hargs, hsz, hP, hK, hD0⟩ := hv
  have hx := B.exec
  have hb := B.bytes
  have hr := B.returns
  have hts := atoms_spec (ws := wsX2_leastPresses) B.pre
  have hown : s.vm.findClass RX2 = some m.cls := findClass_of_methodNamed B.named
  have hlocks := B.notSynchronized
  subst hsz
  obtain ⟨Q, hQ⟩ : ∃ Q, Q = MQ below (va_Qi (fun (z : Int32) (_ : Unit) => z = nI (le j0)) (fun _ t => va_P (dC, dI) vwCl [(g0, .inr (3, [.int (nI (n)), .int (nI (q)), .ref c1, .ref c2, .ref c3, .int (tot)])), (c2, .inl (cI, n, .inl (fun j => nI (le j))))] t.heap ∧ va_K (dC, dI) vwCl [(cI, .int)] t ∧ va_D (va_A [(g0, .inr (3, [.int (nI (n)), .int (nI (q)), .ref c1, .ref c2, .ref c3, .int (tot)])), (c2, .inl (cI, n, .inl (fun j => nI (le j))))] s.heap.size) [(g0, .inr (3, [.int (nI (n)), .int (nI (q)), .ref c1, .ref c2, .ref c3, .int (tot)])), (c2, .inl (cI, n, .inl (fun j => nI (le j))))]) (va_A [(g0, .inr (3, [.int (nI (n)), .int (nI (q)), .ref c1, .ref c2, .ref c3, .int (tot)])), (c2, .inl (cI, n, .inl (fun j => nI (le j))))] s.heap.size)) args s 0 0 (va_A [(g0, .inr (3, [.int (nI (n)), .int (nI (q)), .ref c1, .ref c2, .ref c3, .int (tot)])), (c2, .inl (cI, n, .inl (fun j => nI (le j))))] s.heap.size) := ⟨_, rfl⟩
  rw [← hQ]
  have hD := hD0.self (sz := s.heap.size)
  generalize hAe : (va_A [(g0, .inr (3, [.int (nI (n)), .int (nI (q)), .ref c1, .ref c2, .ref c3, .int (tot)])), (c2, .inl (cI, n, .inl (fun j => nI (le j))))] s.heap.size) = A at hD hQ
  have hA : ∀ q : Nat, s.heap.size ≤ q → A q := fun q h => by rw [← hAe]; exact Or.inr h
  have hS : va_S A s.heap s.heap [] := va_S.rf
  have hl := lv_entry ([.ref g0, .int (nI (j0))]) (n := 2) (Nat.le_of_ble_eq_true rfl)
  generalize hen : entryFrame m args 2 = fr
  rw [hargs, lg_entry_eq] at hen
  subst hen
  generalize (lg_sl ([.ref g0, .int (nI (j0))]) ++ List.replicate (2 - (lg_sl ([.ref g0, .int (nI (j0))])).length) Slot.unset).toArray = ls at hl ⊢
  have hl : lv_has ls 2 [(0, .ref g0), (1, .int (nI (j0)))] := hl
  have hinX2 : ∀ w ∈ wsX20, w ∈ wsX2_leastPresses := by decide +kernel
  have hf22 := hts (.fieldLink RX2 22 "LightRows$Search" "least" "[I") (by decide +kernel)
  refine lv_aload_n hx hb dX2_leastPresses_0 rfl (lv_at hl 0 rfl) ?_
  refine va_get (D := (dC, dI)) (ci := 3) (v := .ref c2) (C := RX2) (T := TX2) (N := 6) hx hb hts hinX2 hown hK hP 0 rfl rfl 3 (by decide) hf22 (fun _ h9 => h9) rfl dX2_leastPresses_1 ?_
  refine lv_iload_n hx hb dX2_leastPresses_4 rfl (lv_at hl 1 rfl) ?_
  refine ra_ld (g := nI) (F := le) hx hb hK hP 1 0 rfl rfl (by omega) (by omega) dX2_leastPresses_5 ?_
  rw [hQ]
  exact W.iret (v := nI (le j0)) hx hb hr (fun t ht hW => ⟨⟨_, (), rfl, rfl, by rw [ht]; exact hP, va_K.moved hW.alike hK, hD⟩, hS.F ht⟩) hS.2.2 dX2_leastPresses_6

set_option maxHeartbeats 4000000 in
set_option maxRecDepth 100000 in
theorem c_X2_totalTried (l : Launch) (dC : Nat → ClassId) (dI : Nat → Nat → Nat) (sz : Nat) (g0 c1 c2 c3 n q : Nat) (tot : Int32) (tr : Nat → Nat) (cI : ClassId) (hn : n < 1000) : Met l yX2_totalTried wsX2_totalTried ({ frames := 0, cells := 0, slots := 0, locals := 0 }) (va_Pc [.ref g0] (fun U => U.heap.size = sz ∧ va_P (dC, dI) vwCl [(g0, .inr (3, [.int (nI (n)), .int (nI (q)), .ref c1, .ref c2, .ref c3, .int (tot)])), (c1, .inl (cI, n, .inl (fun j => nI (tr j))))] U.heap ∧ va_K (dC, dI) vwCl [(cI, .int)] U ∧ va_D (fun _ => True) [(g0, .inr (3, [.int (nI (n)), .int (nI (q)), .ref c1, .ref c2, .ref c3, .int (tot)])), (c1, .inl (cI, n, .inl (fun j => nI (tr j))))])) (va_Qi (fun (z : Int32) (_ : Unit) => z = nI (sumF tr n)) (fun _ t => va_P (dC, dI) vwCl [(g0, .inr (3, [.int (nI (n)), .int (nI (q)), .ref c1, .ref c2, .ref c3, .int (tot)])), (c1, .inl (cI, n, .inl (fun j => nI (tr j))))] t.heap ∧ va_K (dC, dI) vwCl [(cI, .int)] t ∧ va_D (va_A [(g0, .inr (3, [.int (nI (n)), .int (nI (q)), .ref c1, .ref c2, .ref c3, .int (tot)])), (c1, .inl (cI, n, .inl (fun j => nI (tr j))))] sz) [(g0, .inr (3, [.int (nI (n)), .int (nI (q)), .ref c1, .ref c2, .ref c3, .int (tot)])), (c1, .inl (cI, n, .inl (fun j => nI (tr j))))]) (va_A [(g0, .inr (3, [.int (nI (n)), .int (nI (q)), .ref c1, .ref c2, .ref c3, .int (tot)])), (c1, .inl (cI, n, .inl (fun j => nI (tr j))))] sz)) 0 0 (va_A [(g0, .inr (3, [.int (nI (n)), .int (nI (q)), .ref c1, .ref c2, .ref c3, .int (tot)])), (c1, .inl (cI, n, .inl (fun j => nI (tr j))))] sz) := by
  refine Met.ofW (cc := cX2_totalTried) (maxL := 3) (ret := (some .int)) (by decide) rfl ?_
  intro zp ze s m args below meth zc s₁ B hml hv
  obtain ⟨hargs, hsz, hP, hK, hD0⟩ := hv
  have hx := B.exec
  have hb := B.bytes
  have hr := B.returns
  have hts := atoms_spec (ws := wsX2_totalTried) B.pre
  have hown : s.vm.findClass RX2 = some m.cls := findClass_of_methodNamed B.named
  have hlocks := B.notSynchronized
  subst hsz
  obtain ⟨Q, hQ⟩ : ∃ Q, Q = MQ below (va_Qi (fun (z : Int32) (_ : Unit) => z = nI (sumF tr n)) (fun _ t => va_P (dC, dI) vwCl [(g0, .inr (3, [.int (nI (n)), .int (nI (q)), .ref c1, .ref c2, .ref c3, .int (tot)])), (c1, .inl (cI, n, .inl (fun j => nI (tr j))))] t.heap ∧ va_K (dC, dI) vwCl [(cI, .int)] t ∧ va_D (va_A [(g0, .inr (3, [.int (nI (n)), .int (nI (q)), .ref c1, .ref c2, .ref c3, .int (tot)])), (c1, .inl (cI, n, .inl (fun j => nI (tr j))))] s.heap.size) [(g0, .inr (3, [.int (nI (n)), .int (nI (q)), .ref c1, .ref c2, .ref c3, .int (tot)])), (c1, .inl (cI, n, .inl (fun j => nI (tr j))))]) (va_A [(g0, .inr (3, [.int (nI (n)), .int (nI (q)), .ref c1, .ref c2, .ref c3, .int (tot)])), (c1, .inl (cI, n, .inl (fun j => nI (tr j))))] s.heap.size)) args s 0 0 (va_A [(g0, .inr (3, [.int (nI (n)), .int (nI (q)), .ref c1, .ref c2, .ref c3, .int (tot)])), (c1, .inl (cI, n, .inl (fun j => nI (tr j))))] s.heap.size) := ⟨_, rfl⟩
  rw [← hQ]
  have hD := hD0.self (sz := s.heap.size)
  generalize hAe : (va_A [(g0, .inr (3, [.int (nI (n)), .int (nI (q)), .ref c1, .ref c2, .ref c3, .int (tot)])), (c1, .inl (cI, n, .inl (fun j => nI (tr j))))] s.heap.size) = A at hD hQ
  have hA : ∀ q : Nat, s.heap.size ≤ q → A q := fun q h => by rw [← hAe]; exact Or.inr h
  have hS : va_S A s.heap s.heap [] := va_S.rf
  have hl := lv_entry ([.ref g0]) (n := 3) (Nat.le_of_ble_eq_true rfl)
  generalize hen : entryFrame m args 3 = fr
  rw [hargs, lg_entry_eq] at hen
  subst hen
  generalize (lg_sl ([.ref g0]) ++ List.replicate (3 - (lg_sl ([.ref g0])).length) Slot.unset).toArray = ls at hl ⊢
  have hl : lv_has ls 3 [(0, .ref g0)] := hl
  have hinX2 : ∀ w ∈ wsX20, w ∈ wsX2_totalTried := by decide +kernel
  have hf9 := hts (.fieldLink RX2 9 "LightRows$Search" "size" "I") (by decide +kernel)
  have hf18 := hts (.fieldLink RX2 18 "LightRows$Search" "tried" "[I") (by decide +kernel)
  refine lv_iconst (v := nI 0) hx hb dX2_totalTried_0 (by decide) ?_
  refine lv_istore_n (lv' := [(1, .int (nI (0))), (0, .ref g0)]) hx hb dX2_totalTried_1 rfl hl (by decide) rfl (fun ls hl => ?_)
  refine lv_iconst (v := nI 0) hx hb dX2_totalTried_2 (by decide) ?_
  refine lv_istore_n (lv' := [(2, .int (nI (0))), (1, .int (nI (0))), (0, .ref g0)]) hx hb dX2_totalTried_3 rfl hl (by decide) rfl (fun ls hl => ?_)
  have lp : ∀ (k : Nat) (i : Nat), (i + k = n) → ∀ (H : Heap) (locs : List Loc), va_P (dC, dI) vwCl [(g0, .inr (3, [.int (nI (n)), .int (nI (q)), .ref c1, .ref c2, .ref c3, .int (tot)])), (c1, .inl (cI, n, .inl (fun j => nI (tr j))))] H → va_D A [(g0, .inr (3, [.int (nI (n)), .int (nI (q)), .ref c1, .ref c2, .ref c3, .int (tot)])), (c1, .inl (cI, n, .inl (fun j => nI (tr j))))] → va_S A s.heap H locs → ∀ (ls : Array Slot), lv_has ls 3 [(0, .ref g0), (1, .int (nI (sumF tr i))), (2, .int (nI (i)))] → W zp l ze (headSpec wsX2_totalTried ({ frames := 0, cells := 0, slots := 0, locals := 0 })).room s m args below meth zc H locs 0 0 Q (F0 m 4 ls []) := by
    intro k
    induction k with
    | zero =>
      intro i hi H locs hP hD hS ls hl
      refine lv_iload_n hx hb dX2_totalTried_4 rfl (lv_at hl 2 rfl) ?_
      refine lv_aload_n hx hb dX2_totalTried_5 rfl (lv_at hl 0 rfl) ?_
      refine va_get (D := (dC, dI)) (ci := 3) (v := .int (nI (n))) (C := RX2) (T := TX2) (N := 6) hx hb hts hinX2 hown hK hP 0 rfl rfl 0 (by decide) hf9 (fun _ h9 => h9) rfl dX2_totalTried_6 ?_
      refine lv_icmp_ge (tgt := 27) hx hb dX2_totalTried_9 (by decide) (fun c => ?_) (fun c => ?_)
      · skip
        have c : n ≤ i := (nI_leI (a := n) (b := i) (by omega) (by omega)).mp c
        obtain rfl : n = i := by omega
        refine lv_iload_n hx hb dX2_totalTried_27 rfl (lv_at hl 1 rfl) ?_
        rw [hQ]
        exact W.iret (v := nI (sumF tr n)) hx hb hr (fun t ht hW => ⟨⟨_, (), rfl, rfl, by rw [ht]; exact hP, va_K.moved hW.alike hK, hD⟩, hS.F ht⟩) hS.2.2 dX2_totalTried_28
      · skip
        have c : i < n := Nat.not_le.mp (fun h => c ((nI_leI (a := n) (b := i) (by omega) (by omega)).mpr h))
        exact absurd c (by omega)
    | succ k ih =>
      intro i hi H locs hP hD hS ls hl
      refine lv_iload_n hx hb dX2_totalTried_4 rfl (lv_at hl 2 rfl) ?_
      refine lv_aload_n hx hb dX2_totalTried_5 rfl (lv_at hl 0 rfl) ?_
      refine va_get (D := (dC, dI)) (ci := 3) (v := .int (nI (n))) (C := RX2) (T := TX2) (N := 6) hx hb hts hinX2 hown hK hP 0 rfl rfl 0 (by decide) hf9 (fun _ h9 => h9) rfl dX2_totalTried_6 ?_
      refine lv_icmp_ge (tgt := 27) hx hb dX2_totalTried_9 (by decide) (fun c => ?_) (fun c => ?_)
      · skip
        have c : n ≤ i := (nI_leI (a := n) (b := i) (by omega) (by omega)).mp c
        exact absurd c (by omega)
      · skip
        have c : i < n := Nat.not_le.mp (fun h => c ((nI_leI (a := n) (b := i) (by omega) (by omega)).mpr h))
        refine lv_iload_n hx hb dX2_totalTried_12 rfl (lv_at hl 1 rfl) ?_
        refine lv_aload_n hx hb dX2_totalTried_13 rfl (lv_at hl 0 rfl) ?_
        refine va_get (D := (dC, dI)) (ci := 3) (v := .ref c1) (C := RX2) (T := TX2) (N := 6) hx hb hts hinX2 hown hK hP 0 rfl rfl 2 (by decide) hf18 (fun _ h9 => h9) rfl dX2_totalTried_14 ?_
        refine lv_iload_n hx hb dX2_totalTried_17 rfl (lv_at hl 2 rfl) ?_
        refine ra_ld (g := nI) (F := tr) hx hb hK hP 1 0 rfl rfl (by omega) (by omega) dX2_totalTried_18 ?_
        refine lv_iadd hx hb dX2_totalTried_19 ?_
        refine tp_i (y := nI ((sumF tr i) + (tr i))) (nI_add _ _) ?_
        refine tp_i (y := nI (sumF tr (i + 1))) (rfl) ?_
        refine lv_istore_n (lv' := [(1, .int (nI (sumF tr (i + 1)))), (0, .ref g0), (2, .int (nI (i)))]) hx hb dX2_totalTried_20 rfl hl (by decide) rfl (fun ls hl => ?_)
        refine lv_iinc (v := nI (i + 1)) (lv' := [(2, .int (nI (i + 1))), (1, .int (nI (sumF tr (i + 1)))), (0, .ref g0)]) hx hb dX2_totalTried_21 hl (k := 2) rfl (nI_1 _) (by decide) rfl (fun ls hl => ?_)
        refine lv_goto (tgt := 4) hx hb dX2_totalTried_24 (by decide) ?_
        exact ih (i + 1) (by omega) _ _ hP hD hS ls (lv_sub hl [2, 1, 0] rfl)
  exact lp n 0 (by omega) _ _ hP hD hS ls (lv_sub hl [2, 1, 0] rfl)

set_option maxHeartbeats 4000000 in
set_option maxRecDepth 100000 in
theorem c_X2_triedIsAhead (l : Launch) (dC : Nat → ClassId) (dI : Nat → Nat → Nat) (sz : Nat) (g0 c1 c2 c3 n q : Nat) (tot : Int32) (tr le : Nat → Nat) (cI : ClassId) (hn : n < 1000) (h1 : ∀ j, j < n → tr j < 100) (h2 : ∀ j, j < n → le j < 100) : Met l yX2_triedIsAhead wsX2_triedIsAhead ({ frames := 0, cells := 0, slots := 0, locals := 0 }) (va_Pc [.ref g0] (fun U => U.heap.size = sz ∧ va_P (dC, dI) vwCl [(g0, .inr (3, [.int (nI (n)), .int (nI (q)), .ref c1, .ref c2, .ref c3, .int (tot)])), (c1, .inl (cI, n, .inl (fun j => nI (tr j)))), (c2, .inl (cI, n, .inl (fun j => nI (le j))))] U.heap ∧ va_K (dC, dI) vwCl [(cI, .int)] U ∧ va_D (fun _ => True) [(g0, .inr (3, [.int (nI (n)), .int (nI (q)), .ref c1, .ref c2, .ref c3, .int (tot)])), (c1, .inl (cI, n, .inl (fun j => nI (tr j)))), (c2, .inl (cI, n, .inl (fun j => nI (le j))))])) (va_Qi (fun (z : Int32) (_ : Unit) => z = bI (lexL tr le n 0)) (fun _ t => va_P (dC, dI) vwCl [(g0, .inr (3, [.int (nI (n)), .int (nI (q)), .ref c1, .ref c2, .ref c3, .int (tot)])), (c1, .inl (cI, n, .inl (fun j => nI (tr j)))), (c2, .inl (cI, n, .inl (fun j => nI (le j))))] t.heap ∧ va_K (dC, dI) vwCl [(cI, .int)] t ∧ va_D (va_A [(g0, .inr (3, [.int (nI (n)), .int (nI (q)), .ref c1, .ref c2, .ref c3, .int (tot)])), (c1, .inl (cI, n, .inl (fun j => nI (tr j)))), (c2, .inl (cI, n, .inl (fun j => nI (le j))))] sz) [(g0, .inr (3, [.int (nI (n)), .int (nI (q)), .ref c1, .ref c2, .ref c3, .int (tot)])), (c1, .inl (cI, n, .inl (fun j => nI (tr j)))), (c2, .inl (cI, n, .inl (fun j => nI (le j))))]) (va_A [(g0, .inr (3, [.int (nI (n)), .int (nI (q)), .ref c1, .ref c2, .ref c3, .int (tot)])), (c1, .inl (cI, n, .inl (fun j => nI (tr j)))), (c2, .inl (cI, n, .inl (fun j => nI (le j))))] sz)) 0 0 (va_A [(g0, .inr (3, [.int (nI (n)), .int (nI (q)), .ref c1, .ref c2, .ref c3, .int (tot)])), (c1, .inl (cI, n, .inl (fun j => nI (tr j)))), (c2, .inl (cI, n, .inl (fun j => nI (le j))))] sz) := by
  refine Met.ofW (cc := cX2_triedIsAhead) (maxL := 2) (ret := (some .boolean)) (by decide) rfl ?_
  intro zp ze s m args below meth zc s₁ B hml hv
  obtain ⟨hargs, hsz, hP, hK, hD0⟩ := hv
  have hx := B.exec
  have hb := B.bytes
  have hr := B.returns
  have hts := atoms_spec (ws := wsX2_triedIsAhead) B.pre
  have hown : s.vm.findClass RX2 = some m.cls := findClass_of_methodNamed B.named
  have hlocks := B.notSynchronized
  subst hsz
  obtain ⟨Q, hQ⟩ : ∃ Q, Q = MQ below (va_Qi (fun (z : Int32) (_ : Unit) => z = bI (lexL tr le n 0)) (fun _ t => va_P (dC, dI) vwCl [(g0, .inr (3, [.int (nI (n)), .int (nI (q)), .ref c1, .ref c2, .ref c3, .int (tot)])), (c1, .inl (cI, n, .inl (fun j => nI (tr j)))), (c2, .inl (cI, n, .inl (fun j => nI (le j))))] t.heap ∧ va_K (dC, dI) vwCl [(cI, .int)] t ∧ va_D (va_A [(g0, .inr (3, [.int (nI (n)), .int (nI (q)), .ref c1, .ref c2, .ref c3, .int (tot)])), (c1, .inl (cI, n, .inl (fun j => nI (tr j)))), (c2, .inl (cI, n, .inl (fun j => nI (le j))))] s.heap.size) [(g0, .inr (3, [.int (nI (n)), .int (nI (q)), .ref c1, .ref c2, .ref c3, .int (tot)])), (c1, .inl (cI, n, .inl (fun j => nI (tr j)))), (c2, .inl (cI, n, .inl (fun j => nI (le j))))]) (va_A [(g0, .inr (3, [.int (nI (n)), .int (nI (q)), .ref c1, .ref c2, .ref c3, .int (tot)])), (c1, .inl (cI, n, .inl (fun j => nI (tr j)))), (c2, .inl (cI, n, .inl (fun j => nI (le j))))] s.heap.size)) args s 0 0 (va_A [(g0, .inr (3, [.int (nI (n)), .int (nI (q)), .ref c1, .ref c2, .ref c3, .int (tot)])), (c1, .inl (cI, n, .inl (fun j => nI (tr j)))), (c2, .inl (cI, n, .inl (fun j => nI (le j))))] s.heap.size) := ⟨_, rfl⟩
  rw [← hQ]
  have hD := hD0.self (sz := s.heap.size)
  generalize hAe : (va_A [(g0, .inr (3, [.int (nI (n)), .int (nI (q)), .ref c1, .ref c2, .ref c3, .int (tot)])), (c1, .inl (cI, n, .inl (fun j => nI (tr j)))), (c2, .inl (cI, n, .inl (fun j => nI (le j))))] s.heap.size) = A at hD hQ
  have hA : ∀ q : Nat, s.heap.size ≤ q → A q := fun q h => by rw [← hAe]; exact Or.inr h
  have hS : va_S A s.heap s.heap [] := va_S.rf
  have hl := lv_entry ([.ref g0]) (n := 2) (Nat.le_of_ble_eq_true rfl)
  generalize hen : entryFrame m args 2 = fr
  rw [hargs, lg_entry_eq] at hen
  subst hen
  generalize (lg_sl ([.ref g0]) ++ List.replicate (2 - (lg_sl ([.ref g0])).length) Slot.unset).toArray = ls at hl ⊢
  have hl : lv_has ls 2 [(0, .ref g0)] := hl
  have hinX2 : ∀ w ∈ wsX20, w ∈ wsX2_triedIsAhead := by decide +kernel
  have hf9 := hts (.fieldLink RX2 9 "LightRows$Search" "size" "I") (by decide +kernel)
  have hf18 := hts (.fieldLink RX2 18 "LightRows$Search" "tried" "[I") (by decide +kernel)
  have hf22 := hts (.fieldLink RX2 22 "LightRows$Search" "least" "[I") (by decide +kernel)
  refine lv_iconst (v := nI 0) hx hb dX2_triedIsAhead_0 (by decide) ?_
  refine lv_istore_n (lv' := [(1, .int (nI (0))), (0, .ref g0)]) hx hb dX2_triedIsAhead_1 rfl hl (by decide) rfl (fun ls hl => ?_)
  have lp : ∀ (k : Nat) (i : Nat), (i + k = n) → (lexL tr le n 0 = lexL tr le k i) → ∀ (H : Heap) (locs : List Loc), va_P (dC, dI) vwCl [(g0, .inr (3, [.int (nI (n)), .int (nI (q)), .ref c1, .ref c2, .ref c3, .int (tot)])), (c1, .inl (cI, n, .inl (fun j => nI (tr j)))), (c2, .inl (cI, n, .inl (fun j => nI (le j))))] H → va_D A [(g0, .inr (3, [.int (nI (n)), .int (nI (q)), .ref c1, .ref c2, .ref c3, .int (tot)])), (c1, .inl (cI, n, .inl (fun j => nI (tr j)))), (c2, .inl (cI, n, .inl (fun j => nI (le j))))] → va_S A s.heap H locs → ∀ (ls : Array Slot), lv_has ls 2 [(0, .ref g0), (1, .int (nI (i)))] → W zp l ze (headSpec wsX2_triedIsAhead ({ frames := 0, cells := 0, slots := 0, locals := 0 })).room s m args below meth zc H locs 0 0 Q (F0 m 2 ls []) := by
    intro k
    induction k with
    | zero =>
      intro i hi hI H locs hP hD hS ls hl
      refine lv_iload_n hx hb dX2_triedIsAhead_2 rfl (lv_at hl 1 rfl) ?_
      refine lv_aload_n hx hb dX2_triedIsAhead_3 rfl (lv_at hl 0 rfl) ?_
      refine va_get (D := (dC, dI)) (ci := 3) (v := .int (nI (n))) (C := RX2) (T := TX2) (N := 6) hx hb hts hinX2 hown hK hP 0 rfl rfl 0 (by decide) hf9 (fun _ h9 => h9) rfl dX2_triedIsAhead_4 ?_
      refine lv_icmp_ge (tgt := 52) hx hb dX2_triedIsAhead_7 (by decide) (fun c => ?_) (fun c => ?_)
      · skip
        have c : n ≤ i := (nI_leI (a := n) (b := i) (by omega) (by omega)).mp c
        refine lv_iconst (v := nI 0) hx hb dX2_triedIsAhead_52 (by decide) ?_
        rw [hQ]
        exact W.zret (v := nI (0)) (ty := .boolean) hx hb hr rfl (fun t ht hW => ⟨⟨_, (), rfl, by rw [hI]; rfl, by rw [ht]; exact hP, va_K.moved hW.alike hK, hD⟩, hS.F ht⟩) hS.2.2 dX2_triedIsAhead_53
      · skip
        have c : i < n := Nat.not_le.mp (fun h => c ((nI_leI (a := n) (b := i) (by omega) (by omega)).mpr h))
        exact absurd c (by omega)
    | succ k ih =>
      intro i hi hI H locs hP hD hS ls hl
      refine lv_iload_n hx hb dX2_triedIsAhead_2 rfl (lv_at hl 1 rfl) ?_
      refine lv_aload_n hx hb dX2_triedIsAhead_3 rfl (lv_at hl 0 rfl) ?_
      refine va_get (D := (dC, dI)) (ci := 3) (v := .int (nI (n))) (C := RX2) (T := TX2) (N := 6) hx hb hts hinX2 hown hK hP 0 rfl rfl 0 (by decide) hf9 (fun _ h9 => h9) rfl dX2_triedIsAhead_4 ?_
      refine lv_icmp_ge (tgt := 52) hx hb dX2_triedIsAhead_7 (by decide) (fun c => ?_) (fun c => ?_)
      · skip
        have c : n ≤ i := (nI_leI (a := n) (b := i) (by omega) (by omega)).mp c
        exact absurd c (by omega)
      · skip
        have c : i < n := Nat.not_le.mp (fun h => c ((nI_leI (a := n) (b := i) (by omega) (by omega)).mpr h))
        have e1 := h1 i (by omega)
        have e2 := h2 i (by omega)
        refine lv_aload_n hx hb dX2_triedIsAhead_10 rfl (lv_at hl 0 rfl) ?_
        refine va_get (D := (dC, dI)) (ci := 3) (v := .ref c1) (C := RX2) (T := TX2) (N := 6) hx hb hts hinX2 hown hK hP 0 rfl rfl 2 (by decide) hf18 (fun _ h9 => h9) rfl dX2_triedIsAhead_11 ?_
        refine lv_iload_n hx hb dX2_triedIsAhead_14 rfl (lv_at hl 1 rfl) ?_
        refine ra_ld (g := nI) (F := tr) hx hb hK hP 1 0 rfl rfl (by omega) (by omega) dX2_triedIsAhead_15 ?_
        refine lv_aload_n hx hb dX2_triedIsAhead_16 rfl (lv_at hl 0 rfl) ?_
        refine va_get (D := (dC, dI)) (ci := 3) (v := .ref c2) (C := RX2) (T := TX2) (N := 6) hx hb hts hinX2 hown hK hP 0 rfl rfl 3 (by decide) hf22 (fun _ h9 => h9) rfl dX2_triedIsAhead_17 ?_
        refine lv_iload_n hx hb dX2_triedIsAhead_20 rfl (lv_at hl 1 rfl) ?_
        refine ra_ld (g := nI) (F := le) hx hb hK hP 2 0 rfl rfl (by omega) (by omega) dX2_triedIsAhead_21 ?_
        refine lv_icmp_eq (tgt := 46) hx hb dX2_triedIsAhead_22 (by decide) (fun hc2 => ?_) (fun hc2 => ?_)
        · skip
          have hc2 : tr i = le i := (nI_eq (a := tr i) (b := le i) (by omega) (by omega)).mp hc2
          refine lv_iinc (v := nI (i + 1)) (lv' := [(1, .int (nI (i + 1))), (0, .ref g0)]) hx hb dX2_triedIsAhead_46 hl (k := 1) rfl (nI_1 _) (by decide) rfl (fun ls hl => ?_)
          refine lv_goto (tgt := 2) hx hb dX2_triedIsAhead_49 (by decide) ?_
          exact ih (i + 1) (by omega) (by rw [hI]; simp only [lexL]; rw [if_pos hc2]) _ _ hP hD hS ls (lv_sub hl [1, 0] rfl)
        · skip
          have hc2 : tr i ≠ le i := fun h => hc2 ((nI_eq (a := tr i) (b := le i) (by omega) (by omega)).mpr h)
          refine lv_aload_n hx hb dX2_triedIsAhead_25 rfl (lv_at hl 0 rfl) ?_
          refine va_get (D := (dC, dI)) (ci := 3) (v := .ref c1) (C := RX2) (T := TX2) (N := 6) hx hb hts hinX2 hown hK hP 0 rfl rfl 2 (by decide) hf18 (fun _ h9 => h9) rfl dX2_triedIsAhead_26 ?_
          refine lv_iload_n hx hb dX2_triedIsAhead_29 rfl (lv_at hl 1 rfl) ?_
          refine ra_ld (g := nI) (F := tr) hx hb hK hP 1 0 rfl rfl (by omega) (by omega) dX2_triedIsAhead_30 ?_
          refine lv_aload_n hx hb dX2_triedIsAhead_31 rfl (lv_at hl 0 rfl) ?_
          refine va_get (D := (dC, dI)) (ci := 3) (v := .ref c2) (C := RX2) (T := TX2) (N := 6) hx hb hts hinX2 hown hK hP 0 rfl rfl 3 (by decide) hf22 (fun _ h9 => h9) rfl dX2_triedIsAhead_32 ?_
          refine lv_iload_n hx hb dX2_triedIsAhead_35 rfl (lv_at hl 1 rfl) ?_
          refine ra_ld (g := nI) (F := le) hx hb hK hP 2 0 rfl rfl (by omega) (by omega) dX2_triedIsAhead_36 ?_
          refine lv_icmp_ge (tgt := 44) hx hb dX2_triedIsAhead_37 (by decide) (fun hc3 => ?_) (fun hc3 => ?_)
          · skip
            have hc3 : le i ≤ tr i := (nI_leI (a := le i) (b := tr i) (by omega) (by omega)).mp hc3
            refine lv_iconst (v := nI 0) hx hb dX2_triedIsAhead_44 (by decide) ?_
            rw [hQ]
            exact W.zret (v := nI (0)) (ty := .boolean) hx hb hr rfl (fun t ht hW => ⟨⟨_, (), rfl, by rw [hI]; simp only [lexL]; rw [if_neg hc2, decide_eq_false (by omega)]; rfl, by rw [ht]; exact hP, va_K.moved hW.alike hK, hD⟩, hS.F ht⟩) hS.2.2 dX2_triedIsAhead_45
          · skip
            have hc3 : tr i < le i := Nat.not_le.mp (fun h => hc3 ((nI_leI (a := le i) (b := tr i) (by omega) (by omega)).mpr h))
            refine lv_iconst (v := nI 1) hx hb dX2_triedIsAhead_40 (by decide) ?_
            refine lv_goto (tgt := 45) hx hb dX2_triedIsAhead_41 (by decide) ?_
            rw [hQ]
            exact W.zret (v := nI (1)) (ty := .boolean) hx hb hr rfl (fun t ht hW => ⟨⟨_, (), rfl, by rw [hI]; simp only [lexL]; rw [if_neg hc2, decide_eq_true (by omega)]; rfl, by rw [ht]; exact hP, va_K.moved hW.alike hK, hD⟩, hS.F ht⟩) hS.2.2 dX2_triedIsAhead_45
  exact lp n 0 (by omega) rfl _ _ hP hD hS ls (lv_sub hl [1, 0] rfl)

set_option maxHeartbeats 4000000 in
set_option maxRecDepth 100000 in
theorem c_X2_keep (l : Launch) (dC : Nat → ClassId) (dI : Nat → Nat → Nat) (sz : Nat) (g0 c1 c2 c3 n q pz : Nat) (tot : Int32) (tr le : Nat → Nat) (cI : ClassId) (hn : n < 1000) : Met l yX2_keep wsX2_keep ({ frames := 1, cells := 0, slots := 0, locals := 60 }) (va_Pc [.ref g0, .int (nI (pz))] (fun U => U.heap.size = sz ∧ va_P (dC, dI) vwCl [(g0, .inr (3, [.int (nI (n)), .int (nI (q)), .ref c1, .ref c2, .ref c3, .int (tot)])), (c1, .inl (cI, n, .inl (fun j => nI (tr j)))), (c2, .inl (cI, n, .inl (fun j => nI (le j))))] U.heap ∧ va_K (dC, dI) vwCl [(cI, .int)] U ∧ va_D (fun _ => True) [(g0, .inr (3, [.int (nI (n)), .int (nI (q)), .ref c1, .ref c2, .ref c3, .int (tot)])), (c1, .inl (cI, n, .inl (fun j => nI (tr j)))), (c2, .inl (cI, n, .inl (fun j => nI (le j))))])) (va_Qv (fun _ : Unit => True) (fun _ t => va_P (dC, dI) vwCl [(g0, .inr (3, [.int (nI (n)), .int (nI (q)), .ref c1, .ref c2, .ref c3, .int (nI (pz))])), (c1, .inl (cI, n, .inl (fun j => nI (tr j)))), (c2, .inl (cI, n, .inl (fun j => nI ((fun j => if j < n then tr j else le j) j))))] t.heap ∧ va_K (dC, dI) vwCl [(cI, .int)] t ∧ va_D (va_A [(g0, .inr (3, [.int (nI (n)), .int (nI (q)), .ref c1, .ref c2, .ref c3, .int (tot)])), (c1, .inl (cI, n, .inl (fun j => nI (tr j)))), (c2, .inl (cI, n, .inl (fun j => nI (le j))))] sz) [(g0, .inr (3, [.int (nI (n)), .int (nI (q)), .ref c1, .ref c2, .ref c3, .int (nI (pz))])), (c1, .inl (cI, n, .inl (fun j => nI (tr j)))), (c2, .inl (cI, n, .inl (fun j => nI ((fun j => if j < n then tr j else le j) j))))]) (va_A [(g0, .inr (3, [.int (nI (n)), .int (nI (q)), .ref c1, .ref c2, .ref c3, .int (tot)])), (c1, .inl (cI, n, .inl (fun j => nI (tr j)))), (c2, .inl (cI, n, .inl (fun j => nI (le j))))] sz)) 0 0 (va_A [(g0, .inr (3, [.int (nI (n)), .int (nI (q)), .ref c1, .ref c2, .ref c3, .int (tot)])), (c1, .inl (cI, n, .inl (fun j => nI (tr j)))), (c2, .inl (cI, n, .inl (fun j => nI (le j))))] sz) := by
  refine Met.ofW (cc := cX2_keep) (maxL := 2) (ret := none) (by decide) rfl ?_
  intro zp ze s m args below meth zc s₁ B hml hv
  obtain ⟨hargs, hsz, hP, hK, hD0⟩ := hv
  have hx := B.exec
  have hb := B.bytes
  have hr := B.returns
  have hts := atoms_spec (ws := wsX2_keep) B.pre
  have hown : s.vm.findClass RX2 = some m.cls := findClass_of_methodNamed B.named
  have hlocks := B.notSynchronized
  subst hsz
  obtain ⟨Q, hQ⟩ : ∃ Q, Q = MQ below (va_Qv (fun _ : Unit => True) (fun _ t => va_P (dC, dI) vwCl [(g0, .inr (3, [.int (nI (n)), .int (nI (q)), .ref c1, .ref c2, .ref c3, .int (nI (pz))])), (c1, .inl (cI, n, .inl (fun j => nI (tr j)))), (c2, .inl (cI, n, .inl (fun j => nI ((fun j => if j < n then tr j else le j) j))))] t.heap ∧ va_K (dC, dI) vwCl [(cI, .int)] t ∧ va_D (va_A [(g0, .inr (3, [.int (nI (n)), .int (nI (q)), .ref c1, .ref c2, .ref c3, .int (tot)])), (c1, .inl (cI, n, .inl (fun j => nI (tr j)))), (c2, .inl (cI, n, .inl (fun j => nI (le j))))] s.heap.size) [(g0, .inr (3, [.int (nI (n)), .int (nI (q)), .ref c1, .ref c2, .ref c3, .int (nI (pz))])), (c1, .inl (cI, n, .inl (fun j => nI (tr j)))), (c2, .inl (cI, n, .inl (fun j => nI ((fun j => if j < n then tr j else le j) j))))]) (va_A [(g0, .inr (3, [.int (nI (n)), .int (nI (q)), .ref c1, .ref c2, .ref c3, .int (tot)])), (c1, .inl (cI, n, .inl (fun j => nI (tr j)))), (c2, .inl (cI, n, .inl (fun j => nI (le j))))] s.heap.size)) args s 0 0 (va_A [(g0, .inr (3, [.int (nI (n)), .int (nI (q)), .ref c1, .ref c2, .ref c3, .int (tot)])), (c1, .inl (cI, n, .inl (fun j => nI (tr j)))), (c2, .inl (cI, n, .inl (fun j => nI (le j))))] s.heap.size) := ⟨_, rfl⟩
  rw [← hQ]
  have hD := hD0.self (sz := s.heap.size)
  generalize hAe : (va_A [(g0, .inr (3, [.int (nI (n)), .int (nI (q)), .ref c1, .ref c2, .ref c3, .int (tot)])), (c1, .inl (cI, n, .inl (fun j => nI (tr j)))), (c2, .inl (cI, n, .inl (fun j => nI (le j))))] s.heap.size) = A at hD hQ
  have hA : ∀ q : Nat, s.heap.size ≤ q → A q := fun q h => by rw [← hAe]; exact Or.inr h
  have hS : va_S A s.heap s.heap [] := va_S.rf
  have hl := lv_entry ([.ref g0, .int (nI (pz))]) (n := 2) (Nat.le_of_ble_eq_true rfl)
  generalize hen : entryFrame m args 2 = fr
  rw [hargs, lg_entry_eq] at hen
  subst hen
  generalize (lg_sl ([.ref g0, .int (nI (pz))]) ++ List.replicate (2 - (lg_sl ([.ref g0, .int (nI (pz))])).length) Slot.unset).toArray = ls at hl ⊢
  have hl : lv_has ls 2 [(0, .ref g0), (1, .int (nI (pz)))] := hl
  have hinX2 : ∀ w ∈ wsX20, w ∈ wsX2_keep := by decide +kernel
  have hf9 := hts (.fieldLink RX2 9 "LightRows$Search" "size" "I") (by decide +kernel)
  have hf18 := hts (.fieldLink RX2 18 "LightRows$Search" "tried" "[I") (by decide +kernel)
  have hf22 := hts (.fieldLink RX2 22 "LightRows$Search" "least" "[I") (by decide +kernel)
  have hf28 := hts (.fieldLink RX2 28 "LightRows$Search" "total" "I") (by decide +kernel)
  refine lv_aload_n hx hb dX2_keep_0 rfl (lv_at hl 0 rfl) ?_
  refine lv_iload_n hx hb dX2_keep_1 rfl (lv_at hl 1 rfl) ?_
  refine va_put (D := (dC, dI)) (ci := 3) (v := .int (nI (pz))) (ty := .int) (C := RX2) (T := TX2) (N := 6) hx hb hts hinX2 tyX2 tyX2_ok nmX2 hown hK hP hD hS 0 rfl rfl 5 (by decide) hf28 (fun _ h9 => h9) rfl (by decide +kernel) rfl rfl (Nat.le_of_ble_eq_true rfl) dX2_keep_2 (fun H locs hP hD hS => ?_)
  have hP : va_P (dC, dI) vwCl [(g0, .inr (3, [.int (nI (n)), .int (nI (q)), .ref c1, .ref c2, .ref c3, .int (nI (pz))])), (c1, .inl (cI, n, .inl (fun j => nI (tr j)))), (c2, .inl (cI, n, .inl (fun j => nI (le j))))] H := hP
  have hD : va_D A [(g0, .inr (3, [.int (nI (n)), .int (nI (q)), .ref c1, .ref c2, .ref c3, .int (nI (pz))])), (c1, .inl (cI, n, .inl (fun j => nI (tr j)))), (c2, .inl (cI, n, .inl (fun j => nI (le j))))] := hD
  refine lv_aload_n hx hb dX2_keep_5 rfl (lv_at hl 0 rfl) ?_
  refine va_get (D := (dC, dI)) (ci := 3) (v := .ref c1) (C := RX2) (T := TX2) (N := 6) hx hb hts hinX2 hown hK hP 0 rfl rfl 2 (by decide) hf18 (fun _ h9 => h9) rfl dX2_keep_6 ?_
  refine lv_iconst (v := nI 0) hx hb dX2_keep_9 (by decide) ?_
  refine lv_aload_n hx hb dX2_keep_10 rfl (lv_at hl 0 rfl) ?_
  refine va_get (D := (dC, dI)) (ci := 3) (v := .ref c2) (C := RX2) (T := TX2) (N := 6) hx hb hts hinX2 hown hK hP 0 rfl rfl 3 (by decide) hf22 (fun _ h9 => h9) rfl dX2_keep_11 ?_
  refine lv_iconst (v := nI 0) hx hb dX2_keep_14 (by decide) ?_
  refine lv_aload_n hx hb dX2_keep_15 rfl (lv_at hl 0 rfl) ?_
  refine va_get (D := (dC, dI)) (ci := 3) (v := .int (nI (n))) (C := RX2) (T := TX2) (N := 6) hx hb hts hinX2 hown hK hP 0 rfl rfl 0 (by decide) hf9 (fun _ h9 => h9) rfl dX2_keep_16 ?_
  refine ra_cp (F := tr) (G := le) (k := n) hx hb (hml.trans hl.1.symm) hown (hts (.methodLink RX2 73 arraycopyName) (by decide +kernel)) (hts (.native arraycopyName) (by decide +kernel)) (hts (.static arraycopyName) (by decide +kernel)) (hts (.initialized "java/lang/System") (by decide +kernel)) hK hP hD hS 1 2 0 rfl rfl rfl (by omega) (by omega) (by omega) (Nat.le_of_ble_eq_true rfl) (Nat.le_of_ble_eq_true rfl) dX2_keep_19 (fun H locs hP hD hS => ?_)
  have hP : va_P (dC, dI) vwCl [(g0, .inr (3, [.int (nI (n)), .int (nI (q)), .ref c1, .ref c2, .ref c3, .int (nI (pz))])), (c1, .inl (cI, n, .inl (fun j => nI (tr j)))), (c2, .inl (cI, n, .inl (fun j => nI ((fun j => if j < n then tr j else le j) j))))] H := hP
  have hD : va_D A [(g0, .inr (3, [.int (nI (n)), .int (nI (q)), .ref c1, .ref c2, .ref c3, .int (nI (pz))])), (c1, .inl (cI, n, .inl (fun j => nI (tr j)))), (c2, .inl (cI, n, .inl (fun j => nI ((fun j => if j < n then tr j else le j) j))))] := hD
  rw [hQ]
  exact W.vret hx hb hr (fun t ht hW => ⟨⟨(), rfl, trivial, by rw [ht]; exact hP, va_K.moved hW.alike hK, hD⟩, hS.F ht⟩) hS.2.2 dX2_keep_22

set_option maxHeartbeats 4000000 in
set_option maxRecDepth 100000 in
theorem c_X2_addToTried (l : Launch) (dC : Nat → ClassId) (dI : Nat → Nat → Nat) (sz : Nat) (g0 c1 c2 c3 n q y : Nat) (tot : Int32) (tr : Nat → Nat) (cI : ClassId) (L : List Nat) (pl : Nat → Nat) (pr : Nat → Nat → Nat) (hn : n < 1000) (hq2 : q < 100) (hy : y ∈ L) (ly : pl y = n) (h1 : ∀ j, j < n → tr j < 100) (h2 : ∀ j, j < n → pr y j < 100) : Met l yX2_addToTried wsX2_addToTried ({ frames := 0, cells := 0, slots := 0, locals := 0 }) (va_Pc [.ref g0, .ref y] (fun U => U.heap.size = sz ∧ va_P (dC, dI) vwCl ([(g0, .inr (3, [.int (nI (n)), .int (nI (q)), .ref c1, .ref c2, .ref c3, .int (tot)])), (c1, .inl (cI, n, .inl (fun j => nI (tr j))))] ++ va_pl L (pI cI pl pr)) U.heap ∧ va_K (dC, dI) vwCl [(cI, .int)] U ∧ va_D (fun _ => True) ([(g0, .inr (3, [.int (nI (n)), .int (nI (q)), .ref c1, .ref c2, .ref c3, .int (tot)])), (c1, .inl (cI, n, .inl (fun j => nI (tr j))))] ++ va_pl L (pI cI pl pr)))) (va_Qv (fun _ : Unit => True) (fun _ t => va_P (dC, dI) vwCl ([(g0, .inr (3, [.int (nI (n)), .int (nI (q)), .ref c1, .ref c2, .ref c3, .int (tot)])), (c1, .inl (cI, n, .inl (fun j => nI ((fun j => if j < n then adq q (tr j) (pr y j) else tr j) j))))] ++ va_pl L (pI cI pl pr)) t.heap ∧ va_K (dC, dI) vwCl [(cI, .int)] t ∧ va_D (va_A ([(g0, .inr (3, [.int (nI (n)), .int (nI (q)), .ref c1, .ref c2, .ref c3, .int (tot)])), (c1, .inl (cI, n, .inl (fun j => nI (tr j))))] ++ va_pl L (pI cI pl pr)) sz) ([(g0, .inr (3, [.int (nI (n)), .int (nI (q)), .ref c1, .ref c2, .ref c3, .int (tot)])), (c1, .inl (cI, n, .inl (fun j => nI ((fun j => if j < n then adq q (tr j) (pr y j) else tr j) j))))] ++ va_pl L (pI cI pl pr))) (va_A ([(g0, .inr (3, [.int (nI (n)), .int (nI (q)), .ref c1, .ref c2, .ref c3, .int (tot)])), (c1, .inl (cI, n, .inl (fun j => nI (tr j))))] ++ va_pl L (pI cI pl pr)) sz)) 0 0 (va_A ([(g0, .inr (3, [.int (nI (n)), .int (nI (q)), .ref c1, .ref c2, .ref c3, .int (tot)])), (c1, .inl (cI, n, .inl (fun j => nI (tr j))))] ++ va_pl L (pI cI pl pr)) sz) := by
  refine Met.ofW (cc := cX2_addToTried) (maxL := 4) (ret := none) (by decide) rfl ?_
  intro zp ze s m args below meth zc s₁ B hml hv
  obtain ⟨hargs, hsz, hP, hK, hD0⟩ := hv
  have hx := B.exec
  have hb := B.bytes
  have hr := B.returns
  have hts := atoms_spec (ws := wsX2_addToTried) B.pre
  have hown : s.vm.findClass RX2 = some m.cls := findClass_of_methodNamed B.named
  have hlocks := B.notSynchronized
  subst hsz
  obtain ⟨Q, hQ⟩ : ∃ Q, Q = MQ below (va_Qv (fun _ : Unit => True) (fun _ t => va_P (dC, dI) vwCl ([(g0, .inr (3, [.int (nI (n)), .int (nI (q)), .ref c1, .ref c2, .ref c3, .int (tot)])), (c1, .inl (cI, n, .inl (fun j => nI ((fun j => if j < n then adq q (tr j) (pr y j) else tr j) j))))] ++ va_pl L (pI cI pl pr)) t.heap ∧ va_K (dC, dI) vwCl [(cI, .int)] t ∧ va_D (va_A ([(g0, .inr (3, [.int (nI (n)), .int (nI (q)), .ref c1, .ref c2, .ref c3, .int (tot)])), (c1, .inl (cI, n, .inl (fun j => nI (tr j))))] ++ va_pl L (pI cI pl pr)) s.heap.size) ([(g0, .inr (3, [.int (nI (n)), .int (nI (q)), .ref c1, .ref c2, .ref c3, .int (tot)])), (c1, .inl (cI, n, .inl (fun j => nI ((fun j => if j < n then adq q (tr j) (pr y j) else tr j) j))))] ++ va_pl L (pI cI pl pr))) (va_A ([(g0, .inr (3, [.int (nI (n)), .int (nI (q)), .ref c1, .ref c2, .ref c3, .int (tot)])), (c1, .inl (cI, n, .inl (fun j => nI (tr j))))] ++ va_pl L (pI cI pl pr)) s.heap.size)) args s 0 0 (va_A ([(g0, .inr (3, [.int (nI (n)), .int (nI (q)), .ref c1, .ref c2, .ref c3, .int (tot)])), (c1, .inl (cI, n, .inl (fun j => nI (tr j))))] ++ va_pl L (pI cI pl pr)) s.heap.size) := ⟨_, rfl⟩
  rw [← hQ]
  have hD := hD0.self (sz := s.heap.size)
  generalize hAe : (va_A ([(g0, .inr (3, [.int (nI (n)), .int (nI (q)), .ref c1, .ref c2, .ref c3, .int (tot)])), (c1, .inl (cI, n, .inl (fun j => nI (tr j))))] ++ va_pl L (pI cI pl pr)) s.heap.size) = A at hD hQ
  have hA : ∀ q : Nat, s.heap.size ≤ q → A q := fun q h => by rw [← hAe]; exact Or.inr h
  have hS : va_S A s.heap s.heap [] := va_S.rf
  have hl := lv_entry ([.ref g0, .ref y]) (n := 4) (Nat.le_of_ble_eq_true rfl)
  generalize hen : entryFrame m args 4 = fr
  rw [hargs, lg_entry_eq] at hen
  subst hen
  generalize (lg_sl ([.ref g0, .ref y]) ++ List.replicate (4 - (lg_sl ([.ref g0, .ref y])).length) Slot.unset).toArray = ls at hl ⊢
  have hl : lv_has ls 4 [(0, .ref g0), (1, .ref y)] := hl
  have hinX2 : ∀ w ∈ wsX20, w ∈ wsX2_addToTried := by decide +kernel
  have hf9 := hts (.fieldLink RX2 9 "LightRows$Search" "size" "I") (by decide +kernel)
  have hf15 := hts (.fieldLink RX2 15 "LightRows$Search" "modulus" "I") (by decide +kernel)
  have hf18 := hts (.fieldLink RX2 18 "LightRows$Search" "tried" "[I") (by decide +kernel)
  refine lv_iconst (v := nI 0) hx hb dX2_addToTried_0 (by decide) ?_
  refine lv_istore_n (lv' := [(2, .int (nI (0))), (0, .ref g0), (1, .ref y)]) hx hb dX2_addToTried_1 rfl hl (by decide) rfl (fun ls hl => ?_)
  have lp : ∀ (k : Nat) (i : Nat) (F : Nat → Nat), (i + k = n) → (∀ j, F j = if j < i then (fun j => adq q (tr j) (pr y j)) j else tr j) → ∀ (H : Heap) (locs : List Loc), va_P (dC, dI) vwCl ([(g0, .inr (3, [.int (nI (n)), .int (nI (q)), .ref c1, .ref c2, .ref c3, .int (tot)])), (c1, .inl (cI, n, .inl (fun j => nI (F j))))] ++ va_pl L (pI cI pl pr)) H → va_D A ([(g0, .inr (3, [.int (nI (n)), .int (nI (q)), .ref c1, .ref c2, .ref c3, .int (tot)])), (c1, .inl (cI, n, .inl (fun j => nI (F j))))] ++ va_pl L (pI cI pl pr)) → va_S A s.heap H locs → ∀ (ls : Array Slot), lv_has ls 4 [(0, .ref g0), (1, .ref y), (2, .int (nI (i)))] → W zp l ze (headSpec wsX2_addToTried ({ frames := 0, cells := 0, slots := 0, locals := 0 })).room s m args below meth zc H locs 0 0 Q (F0 m 2 ls []) := by
    intro k
    induction k with
    | zero =>
      intro i F hi hF H locs hP hD hS ls hl
      refine lv_iload_n hx hb dX2_addToTried_2 rfl (lv_at hl 2 rfl) ?_
      refine lv_aload_n hx hb dX2_addToTried_3 rfl (lv_at hl 0 rfl) ?_
      refine va_get (D := (dC, dI)) (ci := 3) (v := .int (nI (n))) (C := RX2) (T := TX2) (N := 6) hx hb hts hinX2 hown hK hP 0 rfl rfl 0 (by decide) hf9 (fun _ h9 => h9) rfl dX2_addToTried_4 ?_
      refine lv_icmp_ge (tgt := 51) hx hb dX2_addToTried_7 (by decide) (fun c => ?_) (fun c => ?_)
      · skip
        have c : n ≤ i := (nI_leI (a := n) (b := i) (by omega) (by omega)).mp c
        obtain rfl : n = i := by omega
        have eF : F = fun j => if j < n then adq q (tr j) (pr y j) else tr j := funext hF
        subst eF
        rw [hQ]
        exact W.vret hx hb hr (fun t ht hW => ⟨⟨(), rfl, trivial, by rw [ht]; exact hP, va_K.moved hW.alike hK, hD⟩, hS.F ht⟩) hS.2.2 dX2_addToTried_51
      · skip
        have c : i < n := Nat.not_le.mp (fun h => c ((nI_leI (a := n) (b := i) (by omega) (by omega)).mpr h))
        exact absurd c (by omega)
    | succ k ih =>
      intro i F hi hF H locs hP hD hS ls hl
      refine lv_iload_n hx hb dX2_addToTried_2 rfl (lv_at hl 2 rfl) ?_
      refine lv_aload_n hx hb dX2_addToTried_3 rfl (lv_at hl 0 rfl) ?_
      refine va_get (D := (dC, dI)) (ci := 3) (v := .int (nI (n))) (C := RX2) (T := TX2) (N := 6) hx hb hts hinX2 hown hK hP 0 rfl rfl 0 (by decide) hf9 (fun _ h9 => h9) rfl dX2_addToTried_4 ?_
      refine lv_icmp_ge (tgt := 51) hx hb dX2_addToTried_7 (by decide) (fun c => ?_) (fun c => ?_)
      · skip
        have c : n ≤ i := (nI_leI (a := n) (b := i) (by omega) (by omega)).mp c
        exact absurd c (by omega)
      · skip
        have c : i < n := Nat.not_le.mp (fun h => c ((nI_leI (a := n) (b := i) (by omega) (by omega)).mpr h))
        have e1 := h1 i (by omega)
        have e2 := h2 i (by omega)
        have e3 : F i = tr i := by rw [hF i, if_neg (by omega)]
        refine lv_aload_n hx hb dX2_addToTried_10 rfl (lv_at hl 0 rfl) ?_
        refine va_get (D := (dC, dI)) (ci := 3) (v := .ref c1) (C := RX2) (T := TX2) (N := 6) hx hb hts hinX2 hown hK hP 0 rfl rfl 2 (by decide) hf18 (fun _ h9 => h9) rfl dX2_addToTried_11 ?_
        refine lv_iload_n hx hb dX2_addToTried_14 rfl (lv_at hl 2 rfl) ?_
        refine ra_ld (g := nI) (F := F) hx hb hK hP 1 0 rfl rfl (by omega) (by omega) dX2_addToTried_15 ?_
        refine tp_i (y := nI (tr i)) (by rw [e3]) ?_
        refine lv_aload_n hx hb dX2_addToTried_16 rfl (lv_at hl 1 rfl) ?_
        refine lv_iload_n hx hb dX2_addToTried_17 rfl (lv_at hl 2 rfl) ?_
        refine rp_ld hx hb hK hP 0 rfl (hy) (by omega) (by omega) dX2_addToTried_18 ?_
        refine lv_iadd hx hb dX2_addToTried_19 ?_
        refine tp_i (y := nI ((tr i) + (pr y i))) (nI_add _ _) ?_
        refine lv_istore_n (lv' := [(3, .int (nI ((tr i) + (pr y i)))), (0, .ref g0), (1, .ref y), (2, .int (nI (i)))]) hx hb dX2_addToTried_20 rfl hl (by decide) rfl (fun ls hl => ?_)
        refine lv_aload_n hx hb dX2_addToTried_21 rfl (lv_at hl 1 rfl) ?_
        refine va_get (D := (dC, dI)) (ci := 3) (v := .ref c1) (C := RX2) (T := TX2) (N := 6) hx hb hts hinX2 hown hK hP 0 rfl rfl 2 (by decide) hf18 (fun _ h9 => h9) rfl dX2_addToTried_22 ?_
        refine lv_iload_n hx hb dX2_addToTried_25 rfl (lv_at hl 3 rfl) ?_
        refine lv_iload_n hx hb dX2_addToTried_26 rfl (lv_at hl 0 rfl) ?_
        refine lv_aload_n hx hb dX2_addToTried_27 rfl (lv_at hl 1 rfl) ?_
        refine va_get (D := (dC, dI)) (ci := 3) (v := .int (nI (q))) (C := RX2) (T := TX2) (N := 6) hx hb hts hinX2 hown hK hP 0 rfl rfl 1 (by decide) hf15 (fun _ h9 => h9) rfl dX2_addToTried_28 ?_
        refine lv_icmp_ge (tgt := 38) hx hb dX2_addToTried_31 (by decide) (fun hc2 => ?_) (fun hc2 => ?_)
        · skip
          have hc2 : q ≤ (tr i) + (pr y i) := (nI_leI (a := q) (b := (tr i) + (pr y i)) (by omega) (by omega)).mp hc2
          refine lv_iload_n hx hb dX2_addToTried_38 rfl (lv_at hl 0 rfl) ?_
          refine lv_aload_n hx hb dX2_addToTried_39 rfl (lv_at hl 1 rfl) ?_
          refine va_get (D := (dC, dI)) (ci := 3) (v := .int (nI (q))) (C := RX2) (T := TX2) (N := 6) hx hb hts hinX2 hown hK hP 0 rfl rfl 1 (by decide) hf15 (fun _ h9 => h9) rfl dX2_addToTried_40 ?_
          refine lv_isub hx hb dX2_addToTried_43 ?_
          refine tp_i (y := nI (((tr i) + (pr y i)) - q)) (pk_sub (by omega)) ?_
          refine ra_st (g := nI) (F := F) (v := ((tr i) + (pr y i)) - q) hx hb hK hP hD hS 1 0 rfl rfl (by omega) (by omega) dX2_addToTried_44 (fun H locs hP hD hS => ?_)
          have hP : va_P (dC, dI) vwCl ([(g0, .inr (3, [.int (nI (n)), .int (nI (q)), .ref c1, .ref c2, .ref c3, .int (tot)])), (c1, .inl (cI, n, .inl (fun j => nI ((va_up F i (((tr i) + (pr y i)) - q)) j))))] ++ va_pl L (pI cI pl pr)) H := hP
          have hD : va_D A ([(g0, .inr (3, [.int (nI (n)), .int (nI (q)), .ref c1, .ref c2, .ref c3, .int (tot)])), (c1, .inl (cI, n, .inl (fun j => nI ((va_up F i (((tr i) + (pr y i)) - q)) j))))] ++ va_pl L (pI cI pl pr)) := hD
          refine lv_iinc (v := nI (i + 1)) (lv' := [(2, .int (nI (i + 1))), (3, .int (nI ((tr i) + (pr y i)))), (0, .ref g0), (1, .ref y)]) hx hb dX2_addToTried_45 hl (k := 3) rfl (nI_1 _) (by decide) rfl (fun ls hl => ?_)
          refine lv_goto (tgt := 2) hx hb dX2_addToTried_48 (by decide) ?_
          exact ih (i + 1) (va_up F i (tr i + pr y i - q)) (by omega) (lp_step hF (by show _ = adq q (tr i) (pr y i); unfold adq; rw [if_neg (by omega)])) _ _ hP hD hS ls (lv_sub hl [2, 3, 0] rfl)
        · skip
          have hc2 : (tr i) + (pr y i) < q := Nat.not_le.mp (fun h => hc2 ((nI_leI (a := q) (b := (tr i) + (pr y i)) (by omega) (by omega)).mpr h))
          refine lv_iload_n hx hb dX2_addToTried_34 rfl (lv_at hl 0 rfl) ?_
          refine lv_goto (tgt := 44) hx hb dX2_addToTried_35 (by decide) ?_
          refine ra_st (g := nI) (F := F) (v := (tr i) + (pr y i)) hx hb hK hP hD hS 1 0 rfl rfl (by omega) (by omega) dX2_addToTried_44 (fun H locs hP hD hS => ?_)
          have hP : va_P (dC, dI) vwCl ([(g0, .inr (3, [.int (nI (n)), .int (nI (q)), .ref c1, .ref c2, .ref c3, .int (tot)])), (c1, .inl (cI, n, .inl (fun j => nI ((va_up F i ((tr i) + (pr y i))) j))))] ++ va_pl L (pI cI pl pr)) H := hP
          have hD : va_D A ([(g0, .inr (3, [.int (nI (n)), .int (nI (q)), .ref c1, .ref c2, .ref c3, .int (tot)])), (c1, .inl (cI, n, .inl (fun j => nI ((va_up F i ((tr i) + (pr y i))) j))))] ++ va_pl L (pI cI pl pr)) := hD
          refine lv_iinc (v := nI (i + 1)) (lv' := [(2, .int (nI (i + 1))), (3, .int (nI ((tr i) + (pr y i)))), (0, .ref g0), (1, .ref y)]) hx hb dX2_addToTried_45 hl (k := 3) rfl (nI_1 _) (by decide) rfl (fun ls hl => ?_)
          refine lv_goto (tgt := 2) hx hb dX2_addToTried_48 (by decide) ?_
          exact ih (i + 1) (va_up F i (tr i + pr y i)) (by omega) (lp_step hF (by show _ = adq q (tr i) (pr y i); unfold adq; rw [if_pos (by omega)])) _ _ hP hD hS ls (lv_sub hl [2, 3, 0] rfl)
  exact lp n 0 tr (by omega) (lp_zero _ _) _ _ hP hD hS ls (lv_sub hl [1, 2, 0] rfl)
end
section
def rTot (av z : Nat) : Int32 := if av = 0 then -1 else if 20000 < av then -2 else nI z
theorem adv_step {q : Nat} {qp : Nat → Nat → Nat} {f k : Nat} {w : (Nat → Nat) × (Nat → Nat)} (h : w.2 k + 1 < q) : adv q qp (f + 1) k w = (fun j => adq q (w.1 j) (qp k j), va_up w.2 k (w.2 k + 1)) := by
  simp only [adv]; rw [if_pos h]
theorem adv_next {q : Nat} {qp : Nat → Nat → Nat} {f k : Nat} {w : (Nat → Nat) × (Nat → Nat)} (h : ¬ w.2 k + 1 < q) : adv q qp (f + 1) k w = adv q qp f (k + 1) (fun j => adq q (w.1 j) (qp k j), va_up w.2 k 0) := by
  simp only [adv]; rw [if_neg h]
theorem srK_congr {n : Nat} {t l u : Nat → Nat} {z : Nat} {t' l' : Nat → Nat} (h1 : ∀ j, j < n → t' j = t j) (h2 : ∀ j, j < n → l' j = l j) : (∀ j, j < n → (srK n t' l' u z).2.1 j = (srK n t l u z).2.1 j) ∧ (srK n t' l' u z).2.2.2 = (srK n t l u z).2.2.2 := by
  have e1 : sumF t' n = sumF t n := sumF_congr n h1
  have e2 : lexL t' l' n 0 = lexL t l n 0 := lexL_congr n 0 (fun j _ hj => ⟨h1 j (by omega), h2 j (by omega)⟩)
  unfold srK
  rw [e1, e2]
  split
  · exact ⟨h1, rfl⟩
  · exact ⟨h2, rfl⟩
end
section
set_option maxHeartbeats 4000000 in
set_option maxRecDepth 100000 in
theorem c_X2_keepIfLess (l : Launch) (dC : Nat → ClassId) (dI : Nat → Nat → Nat) (sz : Nat) (g0 c1 c2 c3 n q tt : Nat) (tr le tu : Nat → Nat) (cI : ClassId) (hn : n < 1000) (htt : tt < 100000) (h1 : ∀ j, j < n → tr j < 100) (h2 : ∀ j, j < n → le j < 100) : Met l yX2_keepIfLess wsX2_keepIfLess ({ frames := 2, cells := 0, slots := 0, locals := 81 }) (va_Pc [.ref g0] (fun U => U.heap.size = sz ∧ va_P (dC, dI) vwCl [(g0, .inr (3, [.int (nI (n)), .int (nI (q)), .ref c1, .ref c2, .ref c3, .int (nI (tt))])), (c1, .inl (cI, n, .inl (fun j => nI (tr j)))), (c2, .inl (cI, n, .inl (fun j => nI (le j))))] U.heap ∧ va_K (dC, dI) vwCl [(cI, .int)] U ∧ va_D (fun _ => True) [(g0, .inr (3, [.int (nI (n)), .int (nI (q)), .ref c1, .ref c2, .ref c3, .int (nI (tt))])), (c1, .inl (cI, n, .inl (fun j => nI (tr j)))), (c2, .inl (cI, n, .inl (fun j => nI (le j))))])) (va_Qv (fun u : (Nat → Nat) × Nat => (∀ j, j < n → u.1 j = (srK n tr le tu tt).2.1 j) ∧ u.2 = (srK n tr le tu tt).2.2.2) (fun u t => va_P (dC, dI) vwCl [(g0, .inr (3, [.int (nI (n)), .int (nI (q)), .ref c1, .ref c2, .ref c3, .int (nI (u.2))])), (c1, .inl (cI, n, .inl (fun j => nI (tr j)))), (c2, .inl (cI, n, .inl (fun j => nI (u.1 j))))] t.heap ∧ va_K (dC, dI) vwCl [(cI, .int)] t ∧ va_D (va_A [(g0, .inr (3, [.int (nI (n)), .int (nI (q)), .ref c1, .ref c2, .ref c3, .int (nI (tt))])), (c1, .inl (cI, n, .inl (fun j => nI (tr j)))), (c2, .inl (cI, n, .inl (fun j => nI (le j))))] sz) [(g0, .inr (3, [.int (nI (n)), .int (nI (q)), .ref c1, .ref c2, .ref c3, .int (nI (u.2))])), (c1, .inl (cI, n, .inl (fun j => nI (tr j)))), (c2, .inl (cI, n, .inl (fun j => nI (u.1 j))))]) (va_A [(g0, .inr (3, [.int (nI (n)), .int (nI (q)), .ref c1, .ref c2, .ref c3, .int (nI (tt))])), (c1, .inl (cI, n, .inl (fun j => nI (tr j)))), (c2, .inl (cI, n, .inl (fun j => nI (le j))))] sz)) 0 0 (va_A [(g0, .inr (3, [.int (nI (n)), .int (nI (q)), .ref c1, .ref c2, .ref c3, .int (nI (tt))])), (c1, .inl (cI, n, .inl (fun j => nI (tr j)))), (c2, .inl (cI, n, .inl (fun j => nI (le j))))] sz) := by
  refine Met.ofW (cc := cX2_keepIfLess) (maxL := 2) (ret := none) (by decide) rfl ?_
  intro zp ze s m args below meth zc s₁ B hml hv
  obtain ⟨hargs, hsz, hP, hK, hD0⟩ := hv
  have hx := B.exec
  have hb := B.bytes
  have hr := B.returns
  have hts := atoms_spec (ws := wsX2_keepIfLess) B.pre
  have hown : s.vm.findClass RX2 = some m.cls := findClass_of_methodNamed B.named
  have hlocks := B.notSynchronized
  subst hsz
  obtain ⟨Q, hQ⟩ : ∃ Q, Q = MQ below (va_Qv (fun u : (Nat → Nat) × Nat => (∀ j, j < n → u.1 j = (srK n tr le tu tt).2.1 j) ∧ u.2 = (srK n tr le tu tt).2.2.2) (fun u t => va_P (dC, dI) vwCl [(g0, .inr (3, [.int (nI (n)), .int (nI (q)), .ref c1, .ref c2, .ref c3, .int (nI (u.2))])), (c1, .inl (cI, n, .inl (fun j => nI (tr j)))), (c2, .inl (cI, n, .inl (fun j => nI (u.1 j))))] t.heap ∧ va_K (dC, dI) vwCl [(cI, .int)] t ∧ va_D (va_A [(g0, .inr (3, [.int (nI (n)), .int (nI (q)), .ref c1, .ref c2, .ref c3, .int (nI (tt))])), (c1, .inl (cI, n, .inl (fun j => nI (tr j)))), (c2, .inl (cI, n, .inl (fun j => nI (le j))))] s.heap.size) [(g0, .inr (3, [.int (nI (n)), .int (nI (q)), .ref c1, .ref c2, .ref c3, .int (nI (u.2))])), (c1, .inl (cI, n, .inl (fun j => nI (tr j)))), (c2, .inl (cI, n, .inl (fun j => nI (u.1 j))))]) (va_A [(g0, .inr (3, [.int (nI (n)), .int (nI (q)), .ref c1, .ref c2, .ref c3, .int (nI (tt))])), (c1, .inl (cI, n, .inl (fun j => nI (tr j)))), (c2, .inl (cI, n, .inl (fun j => nI (le j))))] s.heap.size)) args s 0 0 (va_A [(g0, .inr (3, [.int (nI (n)), .int (nI (q)), .ref c1, .ref c2, .ref c3, .int (nI (tt))])), (c1, .inl (cI, n, .inl (fun j => nI (tr j)))), (c2, .inl (cI, n, .inl (fun j => nI (le j))))] s.heap.size) := ⟨_, rfl⟩
  rw [← hQ]
  have hD := hD0.self (sz := s.heap.size)
  generalize hAe : (va_A [(g0, .inr (3, [.int (nI (n)), .int (nI (q)), .ref c1, .ref c2, .ref c3, .int (nI (tt))])), (c1, .inl (cI, n, .inl (fun j => nI (tr j)))), (c2, .inl (cI, n, .inl (fun j => nI (le j))))] s.heap.size) = A at hD hQ
  have hA : ∀ q : Nat, s.heap.size ≤ q → A q := fun q h => by rw [← hAe]; exact Or.inr h
  have hS : va_S A s.heap s.heap [] := va_S.rf
  have hl := lv_entry ([.ref g0]) (n := 2) (Nat.le_of_ble_eq_true rfl)
  generalize hen : entryFrame m args 2 = fr
  rw [hargs, lg_entry_eq] at hen
  subst hen
  generalize (lg_sl ([.ref g0]) ++ List.replicate (2 - (lg_sl ([.ref g0])).length) Slot.unset).toArray = ls at hl ⊢
  have hl : lv_has ls 2 [(0, .ref g0)] := hl
  have hinX2 : ∀ w ∈ wsX20, w ∈ wsX2_keepIfLess := by decide +kernel
  have hf9 := hts (.fieldLink RX2 9 "LightRows$Search" "size" "I") (by decide +kernel)
  have hf18 := hts (.fieldLink RX2 18 "LightRows$Search" "tried" "[I") (by decide +kernel)
  have hf22 := hts (.fieldLink RX2 22 "LightRows$Search" "least" "[I") (by decide +kernel)
  have hf28 := hts (.fieldLink RX2 28 "LightRows$Search" "total" "I") (by decide +kernel)
  have bs : sumF tr n ≤ n * 100 := sumF_le n h1
  have bs2 : n * 100 ≤ 1000 * 100 := Nat.mul_le_mul_right 100 (by omega)
  refine lv_aload_n hx hb dX2_keepIfLess_0 rfl (lv_at hl 0 rfl) ?_
  have hPc := hP.sub (ws' := [(g0, .inr (3, [.int (nI (n)), .int (nI (q)), .ref c1, .ref c2, .ref c3, .int (nI (tt))])), (c1, .inl (cI, n, .inl (fun j => nI (tr j))))]) [0, 1] rfl
  have hDc := hD.sub (ws' := [(g0, .inr (3, [.int (nI (n)), .int (nI (q)), .ref c1, .ref c2, .ref c3, .int (nI (tt))])), (c1, .inl (cI, n, .inl (fun j => nI (tr j))))]) [0, 1] (by decide) rfl
  have hFc := va_free (wc := [(g0, .inr (3, [.int (nI (n)), .int (nI (q)), .ref c1, .ref c2, .ref c3, .int (nI (tt))])), (c1, .inl (cI, n, .inl (fun j => nI (tr j))))]) hD hS hA [0, 1] rfl
  have hKc := hK.sub (tys' := [(cI, .int)]) [0] rfl
  refine va_calli (va_runV (As := []) (rest := []) ⟨hx, hb, hml, hown, hts⟩ (c_X2_totalTried l dC dI s.heap.size g0 c1 c2 c3 n q (nI tt) tr cI hn) (cwV 0 hts gX2_keepIfLess_X2_totalTried rfl rfl rfl (by decide +kernel) ⟨Nat.le_of_ble_eq_true rfl, Nat.le_of_ble_eq_true rfl⟩) ⟨fun a U g mk q => by obtain ⟨q0, q1, qP, qK, qD⟩ := q; exact ⟨q0, q1, qP, va_K.moved (u := U) (U := U.calling g mk a) (Vm.Alike.refl U.vm) qK, qD⟩, va_recv hKc hPc (ci := 3) (q0 := 0) rfl rfl, fun U hU hW => ⟨rfl, by rw [hU], by rw [hU]; exact hPc, va_K.moved hW.alike hKc, hDc.weaken (fun _ _ _ _ => trivial)⟩⟩ rfl rfl hl.1 rfl (lv_room (Nat.le_of_ble_eq_true rfl)) dX2_keepIfLess_1 ⟨Nat.zero_le _, Nat.zero_le _⟩) hS (fun q _ h => hFc q h) hFc (fun r1 u t H1 locs ht hvm hw hB hz1 hk1 hS => ?_)
  obtain ⟨hP1, hK1, hD1⟩ := hB
  rw [ht] at hP1
  try dsimp only at hw
  obtain ⟨hP, hD⟩ := va_join (wr := [(c2, .inl (cI, n, .inl (fun j => nI (le j))))]) (w1 := [(g0, .inr (3, [.int (nI (n)), .int (nI (q)), .ref c1, .ref c2, .ref c3, .int (nI (tt))])), (c1, .inl (cI, n, .inl (fun j => nI (tr j))))]) hP hD [0, 1] [2] rfl rfl (by decide) (by decide) hk1 hFc hP1 hD1
  generalize H1 = H at hP hS ⊢
  have hP := hP.sub (ws' := [(g0, .inr (3, [.int (nI (n)), .int (nI (q)), .ref c1, .ref c2, .ref c3, .int (nI (tt))])), (c1, .inl (cI, n, .inl (fun j => nI (tr j)))), (c2, .inl (cI, n, .inl (fun j => nI (le j))))]) [1, 2, 0] rfl
  have hD := hD.sub (ws' := [(g0, .inr (3, [.int (nI (n)), .int (nI (q)), .ref c1, .ref c2, .ref c3, .int (nI (tt))])), (c1, .inl (cI, n, .inl (fun j => nI (tr j)))), (c2, .inl (cI, n, .inl (fun j => nI (le j))))]) [1, 2, 0] (by decide) rfl
  have hP : va_P (dC, dI) vwCl [(g0, .inr (3, [.int (nI (n)), .int (nI (q)), .ref c1, .ref c2, .ref c3, .int (nI (tt))])), (c1, .inl (cI, n, .inl (fun j => nI (tr j)))), (c2, .inl (cI, n, .inl (fun j => nI (le j))))] H := hP
  have hD : va_D A [(g0, .inr (3, [.int (nI (n)), .int (nI (q)), .ref c1, .ref c2, .ref c3, .int (nI (tt))])), (c1, .inl (cI, n, .inl (fun j => nI (tr j)))), (c2, .inl (cI, n, .inl (fun j => nI (le j))))] := hD
  subst hw
  refine lv_istore_n (lv' := [(1, .int (nI (sumF tr n))), (0, .ref g0)]) hx hb dX2_keepIfLess_4 rfl hl (by decide) rfl (fun ls hl => ?_)
  refine lv_iload_n hx hb dX2_keepIfLess_5 rfl (lv_at hl 0 rfl) ?_
  refine lv_aload_n hx hb dX2_keepIfLess_6 rfl (lv_at hl 1 rfl) ?_
  refine va_get (D := (dC, dI)) (ci := 3) (v := .int (nI (tt))) (C := RX2) (T := TX2) (N := 6) hx hb hts hinX2 hown hK hP 0 rfl rfl 5 (by decide) hf28 (fun _ h9 => h9) rfl dX2_keepIfLess_7 ?_
  refine lv_icmp_lt (tgt := 28) hx hb dX2_keepIfLess_10 (by decide) (fun c => ?_) (fun c => ?_)
  · skip
    have c : sumF tr n < tt := (nI_ltI (a := sumF tr n) (b := tt) (by omega) (by omega)).mp c
    refine lv_aload_n hx hb dX2_keepIfLess_28 rfl (lv_at hl 1 rfl) ?_
    refine lv_iload_n hx hb dX2_keepIfLess_29 rfl (lv_at hl 0 rfl) ?_
    have hPc := hP.sub (ws' := [(g0, .inr (3, [.int (nI (n)), .int (nI (q)), .ref c1, .ref c2, .ref c3, .int (nI (tt))])), (c1, .inl (cI, n, .inl (fun j => nI (tr j)))), (c2, .inl (cI, n, .inl (fun j => nI (le j))))]) [0, 1, 2] rfl
    have hDc := hD.sub (ws' := [(g0, .inr (3, [.int (nI (n)), .int (nI (q)), .ref c1, .ref c2, .ref c3, .int (nI (tt))])), (c1, .inl (cI, n, .inl (fun j => nI (tr j)))), (c2, .inl (cI, n, .inl (fun j => nI (le j))))]) [0, 1, 2] (by decide) rfl
    have hFc := va_free (wc := [(g0, .inr (3, [.int (nI (n)), .int (nI (q)), .ref c1, .ref c2, .ref c3, .int (nI (tt))])), (c1, .inl (cI, n, .inl (fun j => nI (tr j)))), (c2, .inl (cI, n, .inl (fun j => nI (le j))))]) hD hS hA [0, 1, 2] rfl
    have hKc := hK.sub (tys' := [(cI, .int)]) [0] rfl
    refine va_callv (va_runV (As := [.int (nI (sumF tr n))]) (rest := []) ⟨hx, hb, hml, hown, hts⟩ (c_X2_keep l dC dI H.size g0 c1 c2 c3 n q (sumF tr n) (nI tt) tr le cI hn) (cwV 1 hts gX2_keepIfLess_X2_keep rfl rfl rfl (by decide +kernel) ⟨Nat.le_of_ble_eq_true rfl, Nat.le_of_ble_eq_true rfl⟩) ⟨fun a U g mk q => by obtain ⟨q0, q1, qP, qK, qD⟩ := q; exact ⟨q0, q1, qP, va_K.moved (u := U) (U := U.calling g mk a) (Vm.Alike.refl U.vm) qK, qD⟩, va_recv hKc hPc (ci := 3) (q0 := 0) rfl rfl, fun U hU hW => ⟨rfl, by rw [hU], by rw [hU]; exact hPc, va_K.moved hW.alike hKc, hDc.weaken (fun _ _ _ _ => trivial)⟩⟩ rfl rfl hl.1 rfl (lv_room (Nat.le_of_ble_eq_true rfl)) dX2_keepIfLess_30 ⟨Nat.zero_le _, Nat.zero_le _⟩) hS (fun q _ h => hFc q h) hFc (fun u t H1 locs ht hvm hw hB hz1 hk1 hS => ?_)
    obtain ⟨hP1, hK1, hD1⟩ := hB
    rw [ht] at hP1
    try dsimp only at hw
    obtain ⟨hP, hD⟩ := va_join (wr := []) (w1 := [(g0, .inr (3, [.int (nI (n)), .int (nI (q)), .ref c1, .ref c2, .ref c3, .int (nI (sumF tr n))])), (c1, .inl (cI, n, .inl (fun j => nI (tr j)))), (c2, .inl (cI, n, .inl (fun j => nI ((fun j => if j < n then tr j else le j) j))))]) hP hD [0, 1, 2] [] rfl rfl (by decide) (by decide) hk1 hFc hP1 hD1
    generalize H1 = H at hP hS ⊢
    have hP := hP.sub (ws' := [(g0, .inr (3, [.int (nI (n)), .int (nI (q)), .ref c1, .ref c2, .ref c3, .int (nI (sumF tr n))])), (c1, .inl (cI, n, .inl (fun j => nI (tr j)))), (c2, .inl (cI, n, .inl (fun j => nI ((fun j => if j < n then tr j else le j) j))))]) [0, 1, 2] rfl
    have hD := hD.sub (ws' := [(g0, .inr (3, [.int (nI (n)), .int (nI (q)), .ref c1, .ref c2, .ref c3, .int (nI (sumF tr n))])), (c1, .inl (cI, n, .inl (fun j => nI (tr j)))), (c2, .inl (cI, n, .inl (fun j => nI ((fun j => if j < n then tr j else le j) j))))]) [0, 1, 2] (by decide) rfl
    have hP : va_P (dC, dI) vwCl [(g0, .inr (3, [.int (nI (n)), .int (nI (q)), .ref c1, .ref c2, .ref c3, .int (nI (sumF tr n))])), (c1, .inl (cI, n, .inl (fun j => nI (tr j)))), (c2, .inl (cI, n, .inl (fun j => nI ((fun j => if j < n then tr j else le j) j))))] H := hP
    have hD : va_D A [(g0, .inr (3, [.int (nI (n)), .int (nI (q)), .ref c1, .ref c2, .ref c3, .int (nI (sumF tr n))])), (c1, .inl (cI, n, .inl (fun j => nI (tr j)))), (c2, .inl (cI, n, .inl (fun j => nI ((fun j => if j < n then tr j else le j) j))))] := hD
    have es : srK n tr le tu tt = (tr, tr, tu, sumF tr n) := by unfold srK; rw [if_pos (Or.inl c)]
    rw [hQ]
    exact W.vret hx hb hr (fun t ht hW => ⟨⟨(fun j => if j < n then tr j else le j, sumF tr n), rfl, ⟨fun j hj => by rw [es]; simp [hj], by rw [es]⟩, by rw [ht]; exact hP, va_K.moved hW.alike hK, hD⟩, hS.F ht⟩) hS.2.2 dX2_keepIfLess_33
  · skip
    have c : tt ≤ sumF tr n := Nat.not_lt.mp (fun h => c ((nI_ltI (a := sumF tr n) (b := tt) (by omega) (by omega)).mpr h))
    refine lv_iload_n hx hb dX2_keepIfLess_13 rfl (lv_at hl 0 rfl) ?_
    refine lv_aload_n hx hb dX2_keepIfLess_14 rfl (lv_at hl 1 rfl) ?_
    refine va_get (D := (dC, dI)) (ci := 3) (v := .int (nI (tt))) (C := RX2) (T := TX2) (N := 6) hx hb hts hinX2 hown hK hP 0 rfl rfl 5 (by decide) hf28 (fun _ h9 => h9) rfl dX2_keepIfLess_15 ?_
    refine lv_icmp_ne (tgt := 33) hx hb dX2_keepIfLess_18 (by decide) (fun hc2 => ?_) (fun hc2 => ?_)
    · skip
      have hc2 : sumF tr n ≠ tt := fun h => hc2 ((nI_eq (a := sumF tr n) (b := tt) (by omega) (by omega)).mpr h)
      have es : srK n tr le tu tt = (tr, le, tu, tt) := by unfold srK; rw [if_neg (fun h => by omega)]
      rw [hQ]
      exact W.vret hx hb hr (fun t ht hW => ⟨⟨(le, tt), rfl, ⟨fun j hj => by rw [es], by rw [es]⟩, by rw [ht]; exact hP, va_K.moved hW.alike hK, hD⟩, hS.F ht⟩) hS.2.2 dX2_keepIfLess_33
    · skip
      have hc2 : sumF tr n = tt := (nI_eq (a := sumF tr n) (b := tt) (by omega) (by omega)).mp hc2
      refine lv_aload_n hx hb dX2_keepIfLess_21 rfl (lv_at hl 1 rfl) ?_
      have hPc := hP.sub (ws' := [(g0, .inr (3, [.int (nI (n)), .int (nI (q)), .ref c1, .ref c2, .ref c3, .int (nI (tt))])), (c1, .inl (cI, n, .inl (fun j => nI (tr j)))), (c2, .inl (cI, n, .inl (fun j => nI (le j))))]) [0, 1, 2] rfl
      have hDc := hD.sub (ws' := [(g0, .inr (3, [.int (nI (n)), .int (nI (q)), .ref c1, .ref c2, .ref c3, .int (nI (tt))])), (c1, .inl (cI, n, .inl (fun j => nI (tr j)))), (c2, .inl (cI, n, .inl (fun j => nI (le j))))]) [0, 1, 2] (by decide) rfl
      have hFc := va_free (wc := [(g0, .inr (3, [.int (nI (n)), .int (nI (q)), .ref c1, .ref c2, .ref c3, .int (nI (tt))])), (c1, .inl (cI, n, .inl (fun j => nI (tr j)))), (c2, .inl (cI, n, .inl (fun j => nI (le j))))]) hD hS hA [0, 1, 2] rfl
      have hKc := hK.sub (tys' := [(cI, .int)]) [0] rfl
      refine va_calli (va_runV (As := []) (rest := []) ⟨hx, hb, hml, hown, hts⟩ (c_X2_triedIsAhead l dC dI H.size g0 c1 c2 c3 n q (nI tt) tr le cI hn h1 h2) (cwV 0 hts gX2_keepIfLess_X2_triedIsAhead rfl rfl rfl (by decide +kernel) ⟨Nat.le_of_ble_eq_true rfl, Nat.le_of_ble_eq_true rfl⟩) ⟨fun a U g mk q => by obtain ⟨q0, q1, qP, qK, qD⟩ := q; exact ⟨q0, q1, qP, va_K.moved (u := U) (U := U.calling g mk a) (Vm.Alike.refl U.vm) qK, qD⟩, va_recv hKc hPc (ci := 3) (q0 := 0) rfl rfl, fun U hU hW => ⟨rfl, by rw [hU], by rw [hU]; exact hPc, va_K.moved hW.alike hKc, hDc.weaken (fun _ _ _ _ => trivial)⟩⟩ rfl rfl hl.1 rfl (lv_room (Nat.le_of_ble_eq_true rfl)) dX2_keepIfLess_22 ⟨Nat.zero_le _, Nat.zero_le _⟩) hS (fun q _ h => hFc q h) hFc (fun r3 u t H1 locs ht hvm hw hB hz1 hk1 hS => ?_)
      obtain ⟨hP1, hK1, hD1⟩ := hB
      rw [ht] at hP1
      try dsimp only at hw
      obtain ⟨hP, hD⟩ := va_join (wr := []) (w1 := [(g0, .inr (3, [.int (nI (n)), .int (nI (q)), .ref c1, .ref c2, .ref c3, .int (nI (tt))])), (c1, .inl (cI, n, .inl (fun j => nI (tr j)))), (c2, .inl (cI, n, .inl (fun j => nI (le j))))]) hP hD [0, 1, 2] [] rfl rfl (by decide) (by decide) hk1 hFc hP1 hD1
      generalize H1 = H at hP hS ⊢
      have hP := hP.sub (ws' := [(g0, .inr (3, [.int (nI (n)), .int (nI (q)), .ref c1, .ref c2, .ref c3, .int (nI (tt))])), (c1, .inl (cI, n, .inl (fun j => nI (tr j)))), (c2, .inl (cI, n, .inl (fun j => nI (le j))))]) [0, 1, 2] rfl
      have hD := hD.sub (ws' := [(g0, .inr (3, [.int (nI (n)), .int (nI (q)), .ref c1, .ref c2, .ref c3, .int (nI (tt))])), (c1, .inl (cI, n, .inl (fun j => nI (tr j)))), (c2, .inl (cI, n, .inl (fun j => nI (le j))))]) [0, 1, 2] (by decide) rfl
      have hP : va_P (dC, dI) vwCl [(g0, .inr (3, [.int (nI (n)), .int (nI (q)), .ref c1, .ref c2, .ref c3, .int (nI (tt))])), (c1, .inl (cI, n, .inl (fun j => nI (tr j)))), (c2, .inl (cI, n, .inl (fun j => nI (le j))))] H := hP
      have hD : va_D A [(g0, .inr (3, [.int (nI (n)), .int (nI (q)), .ref c1, .ref c2, .ref c3, .int (nI (tt))])), (c1, .inl (cI, n, .inl (fun j => nI (tr j)))), (c2, .inl (cI, n, .inl (fun j => nI (le j))))] := hD
      subst hw
      rcases hle : lexL tr le n 0 with _ | _
      · skip
        refine tp_i (y := nI 0) rfl ?_
        refine lv_if_eq (tgt := 33) hx hb dX2_keepIfLess_25 (by decide) (fun hc3 => ?_) (fun hc3 => ?_)
        · skip
          have hc3 : 0 = 0 := (nI_eq (a := 0) (b := 0) (by omega) (by omega)).mp hc3
          have hno : ¬ (sumF tr n < tt ∨ (sumF tr n = tt ∧ lexL tr le n 0 = true)) := fun h => h.elim (fun h => by omega) (fun h => by rw [hle] at h; exact absurd h.2 (by decide))
          have es : srK n tr le tu tt = (tr, le, tu, tt) := by unfold srK; rw [if_neg hno]
          rw [hQ]
          exact W.vret hx hb hr (fun t ht hW => ⟨⟨(le, tt), rfl, ⟨fun j hj => by rw [es], by rw [es]⟩, by rw [ht]; exact hP, va_K.moved hW.alike hK, hD⟩, hS.F ht⟩) hS.2.2 dX2_keepIfLess_33
        · skip
          have hc3 : 0 ≠ 0 := fun h => hc3 ((nI_eq (a := 0) (b := 0) (by omega) (by omega)).mpr h)
          exact absurd rfl hc3
      · skip
        refine tp_i (y := nI 1) rfl ?_
        refine lv_if_eq (tgt := 33) hx hb dX2_keepIfLess_25 (by decide) (fun hc3 => ?_) (fun hc3 => ?_)
        · skip
          have hc3 : 1 = 0 := (nI_eq (a := 1) (b := 0) (by omega) (by omega)).mp hc3
          exact absurd hc3 (by decide)
        · skip
          have hc3 : 1 ≠ 0 := fun h => hc3 ((nI_eq (a := 1) (b := 0) (by omega) (by omega)).mpr h)
          refine lv_aload_n hx hb dX2_keepIfLess_28 rfl (lv_at hl 1 rfl) ?_
          refine lv_iload_n hx hb dX2_keepIfLess_29 rfl (lv_at hl 0 rfl) ?_
          have hPc := hP.sub (ws' := [(g0, .inr (3, [.int (nI (n)), .int (nI (q)), .ref c1, .ref c2, .ref c3, .int (nI (tt))])), (c1, .inl (cI, n, .inl (fun j => nI (tr j)))), (c2, .inl (cI, n, .inl (fun j => nI (le j))))]) [0, 1, 2] rfl
          have hDc := hD.sub (ws' := [(g0, .inr (3, [.int (nI (n)), .int (nI (q)), .ref c1, .ref c2, .ref c3, .int (nI (tt))])), (c1, .inl (cI, n, .inl (fun j => nI (tr j)))), (c2, .inl (cI, n, .inl (fun j => nI (le j))))]) [0, 1, 2] (by decide) rfl
          have hFc := va_free (wc := [(g0, .inr (3, [.int (nI (n)), .int (nI (q)), .ref c1, .ref c2, .ref c3, .int (nI (tt))])), (c1, .inl (cI, n, .inl (fun j => nI (tr j)))), (c2, .inl (cI, n, .inl (fun j => nI (le j))))]) hD hS hA [0, 1, 2] rfl
          have hKc := hK.sub (tys' := [(cI, .int)]) [0] rfl
          refine va_callv (va_runV (As := [.int (nI (sumF tr n))]) (rest := []) ⟨hx, hb, hml, hown, hts⟩ (c_X2_keep l dC dI H.size g0 c1 c2 c3 n q (sumF tr n) (nI tt) tr le cI hn) (cwV 1 hts gX2_keepIfLess_X2_keep rfl rfl rfl (by decide +kernel) ⟨Nat.le_of_ble_eq_true rfl, Nat.le_of_ble_eq_true rfl⟩) ⟨fun a U g mk q => by obtain ⟨q0, q1, qP, qK, qD⟩ := q; exact ⟨q0, q1, qP, va_K.moved (u := U) (U := U.calling g mk a) (Vm.Alike.refl U.vm) qK, qD⟩, va_recv hKc hPc (ci := 3) (q0 := 0) rfl rfl, fun U hU hW => ⟨rfl, by rw [hU], by rw [hU]; exact hPc, va_K.moved hW.alike hKc, hDc.weaken (fun _ _ _ _ => trivial)⟩⟩ rfl rfl hl.1 rfl (lv_room (Nat.le_of_ble_eq_true rfl)) dX2_keepIfLess_30 ⟨Nat.zero_le _, Nat.zero_le _⟩) hS (fun q _ h => hFc q h) hFc (fun u t H1 locs ht hvm hw hB hz1 hk1 hS => ?_)
          obtain ⟨hP1, hK1, hD1⟩ := hB
          rw [ht] at hP1
          try dsimp only at hw
          obtain ⟨hP, hD⟩ := va_join (wr := []) (w1 := [(g0, .inr (3, [.int (nI (n)), .int (nI (q)), .ref c1, .ref c2, .ref c3, .int (nI (sumF tr n))])), (c1, .inl (cI, n, .inl (fun j => nI (tr j)))), (c2, .inl (cI, n, .inl (fun j => nI ((fun j => if j < n then tr j else le j) j))))]) hP hD [0, 1, 2] [] rfl rfl (by decide) (by decide) hk1 hFc hP1 hD1
          generalize H1 = H at hP hS ⊢
          have hP := hP.sub (ws' := [(g0, .inr (3, [.int (nI (n)), .int (nI (q)), .ref c1, .ref c2, .ref c3, .int (nI (sumF tr n))])), (c1, .inl (cI, n, .inl (fun j => nI (tr j)))), (c2, .inl (cI, n, .inl (fun j => nI ((fun j => if j < n then tr j else le j) j))))]) [0, 1, 2] rfl
          have hD := hD.sub (ws' := [(g0, .inr (3, [.int (nI (n)), .int (nI (q)), .ref c1, .ref c2, .ref c3, .int (nI (sumF tr n))])), (c1, .inl (cI, n, .inl (fun j => nI (tr j)))), (c2, .inl (cI, n, .inl (fun j => nI ((fun j => if j < n then tr j else le j) j))))]) [0, 1, 2] (by decide) rfl
          have hP : va_P (dC, dI) vwCl [(g0, .inr (3, [.int (nI (n)), .int (nI (q)), .ref c1, .ref c2, .ref c3, .int (nI (sumF tr n))])), (c1, .inl (cI, n, .inl (fun j => nI (tr j)))), (c2, .inl (cI, n, .inl (fun j => nI ((fun j => if j < n then tr j else le j) j))))] H := hP
          have hD : va_D A [(g0, .inr (3, [.int (nI (n)), .int (nI (q)), .ref c1, .ref c2, .ref c3, .int (nI (sumF tr n))])), (c1, .inl (cI, n, .inl (fun j => nI (tr j)))), (c2, .inl (cI, n, .inl (fun j => nI ((fun j => if j < n then tr j else le j) j))))] := hD
          have es : srK n tr le tu tt = (tr, tr, tu, sumF tr n) := by unfold srK; rw [if_pos (Or.inr ⟨hc2, hle⟩)]
          rw [hQ]
          exact W.vret hx hb hr (fun t ht hW => ⟨⟨(fun j => if j < n then tr j else le j, sumF tr n), rfl, ⟨fun j hj => by rw [es]; simp [hj], by rw [es]⟩, by rw [ht]; exact hP, va_K.moved hW.alike hK, hD⟩, hS.F ht⟩) hS.2.2 dX2_keepIfLess_33

set_option maxHeartbeats 4000000 in
set_option maxRecDepth 100000 in
theorem c_X2_begin (l : Launch) (dC : Nat → ClassId) (dI : Nat → Nat → Nat) (sz : Nat) (g0 c1 c2 c3 : Nat) (tot : Int32) (tr le tu : Nat → Nat) (h0 a1 a2 a3 n q bd fr : Nat) (gR gQ : Nat → Nat) (ro : Nat → Option Nat) (cG : ClassId) (cI : ClassId) (L : List Nat) (pl : Nat → Nat) (pr : Nat → Nat → Nat) (hn : n < 1000) (hok : eqOK n gR gQ L pl) (hro : ∀ j, j < n → ∀ r, ro j = some r → r < n) : Met l yX2_begin wsX2_begin ({ frames := 2, cells := 0, slots := 0, locals := 81 }) (va_Pc [.ref g0, .ref h0] (fun U => U.heap.size = sz ∧ va_P (dC, dI) vwCl ([(g0, .inr (3, [.int (nI (n)), .int (nI (q)), .ref c1, .ref c2, .ref c3, .int (tot)])), (c1, .inl (cI, n, .inl (fun j => nI (tr j)))), (c2, .inl (cI, n, .inl (fun j => nI (le j)))), (c3, .inl (cI, n, .inl (fun j => nI (tu j)))), (h0, .inr (2, [.int (nI (n)), .int (nI (q)), .ref a1, .ref a2, .ref a3, .int (nI (bd)), .int (nI (fr))])), (a1, .inl (cG, n, .inr (.inr (.inr (.inr (fun j => some (gR j))))))), (a2, .inl (cI, n, .inl (fun j => oI (ro j)))), (a3, .inl (cG, n, .inr (.inr (.inr (.inr (fun j => some (gQ j)))))))] ++ va_pl L (pI cI pl pr)) U.heap ∧ va_K (dC, dI) vwCl [(cI, .int), (cG, .array .int)] U ∧ va_D (fun _ => True) ([(g0, .inr (3, [.int (nI (n)), .int (nI (q)), .ref c1, .ref c2, .ref c3, .int (tot)])), (c1, .inl (cI, n, .inl (fun j => nI (tr j)))), (c2, .inl (cI, n, .inl (fun j => nI (le j)))), (c3, .inl (cI, n, .inl (fun j => nI (tu j)))), (h0, .inr (2, [.int (nI (n)), .int (nI (q)), .ref a1, .ref a2, .ref a3, .int (nI (bd)), .int (nI (fr))])), (a1, .inl (cG, n, .inr (.inr (.inr (.inr (fun j => some (gR j))))))), (a2, .inl (cI, n, .inl (fun j => oI (ro j)))), (a3, .inl (cG, n, .inr (.inr (.inr (.inr (fun j => some (gQ j)))))))] ++ va_pl L (pI cI pl pr)))) (va_Qv (fun u : (Nat → Nat) × (Nat → Nat) × (Nat → Nat) => (∀ j, j < n → u.1 j = (prs (fun i => pr (gR i)) ro n) j) ∧ (∀ j, j < n → u.2.1 j = (prs (fun i => pr (gR i)) ro n) j) ∧ (∀ j, j < n → u.2.2 j = 0)) (fun u t => va_P (dC, dI) vwCl ([(g0, .inr (3, [.int (nI (n)), .int (nI (q)), .ref c1, .ref c2, .ref c3, .int (nI (sumF (prs (fun i => pr (gR i)) ro n) n))])), (c1, .inl (cI, n, .inl (fun j => nI (u.1 j)))), (c2, .inl (cI, n, .inl (fun j => nI (u.2.1 j)))), (c3, .inl (cI, n, .inl (fun j => nI (u.2.2 j)))), (h0, .inr (2, [.int (nI (n)), .int (nI (q)), .ref a1, .ref a2, .ref a3, .int (nI (bd)), .int (nI (fr))])), (a1, .inl (cG, n, .inr (.inr (.inr (.inr (fun j => some (gR j))))))), (a2, .inl (cI, n, .inl (fun j => oI (ro j)))), (a3, .inl (cG, n, .inr (.inr (.inr (.inr (fun j => some (gQ j)))))))] ++ va_pl L (pI cI pl pr)) t.heap ∧ va_K (dC, dI) vwCl [(cI, .int), (cG, .array .int)] t ∧ va_D (va_A ([(g0, .inr (3, [.int (nI (n)), .int (nI (q)), .ref c1, .ref c2, .ref c3, .int (tot)])), (c1, .inl (cI, n, .inl (fun j => nI (tr j)))), (c2, .inl (cI, n, .inl (fun j => nI (le j)))), (c3, .inl (cI, n, .inl (fun j => nI (tu j)))), (h0, .inr (2, [.int (nI (n)), .int (nI (q)), .ref a1, .ref a2, .ref a3, .int (nI (bd)), .int (nI (fr))])), (a1, .inl (cG, n, .inr (.inr (.inr (.inr (fun j => some (gR j))))))), (a2, .inl (cI, n, .inl (fun j => oI (ro j)))), (a3, .inl (cG, n, .inr (.inr (.inr (.inr (fun j => some (gQ j)))))))] ++ va_pl L (pI cI pl pr)) sz) ([(g0, .inr (3, [.int (nI (n)), .int (nI (q)), .ref c1, .ref c2, .ref c3, .int (nI (sumF (prs (fun i => pr (gR i)) ro n) n))])), (c1, .inl (cI, n, .inl (fun j => nI (u.1 j)))), (c2, .inl (cI, n, .inl (fun j => nI (u.2.1 j)))), (c3, .inl (cI, n, .inl (fun j => nI (u.2.2 j)))), (h0, .inr (2, [.int (nI (n)), .int (nI (q)), .ref a1, .ref a2, .ref a3, .int (nI (bd)), .int (nI (fr))])), (a1, .inl (cG, n, .inr (.inr (.inr (.inr (fun j => some (gR j))))))), (a2, .inl (cI, n, .inl (fun j => oI (ro j)))), (a3, .inl (cG, n, .inr (.inr (.inr (.inr (fun j => some (gQ j)))))))] ++ va_pl L (pI cI pl pr))) (va_A ([(g0, .inr (3, [.int (nI (n)), .int (nI (q)), .ref c1, .ref c2, .ref c3, .int (tot)])), (c1, .inl (cI, n, .inl (fun j => nI (tr j)))), (c2, .inl (cI, n, .inl (fun j => nI (le j)))), (c3, .inl (cI, n, .inl (fun j => nI (tu j)))), (h0, .inr (2, [.int (nI (n)), .int (nI (q)), .ref a1, .ref a2, .ref a3, .int (nI (bd)), .int (nI (fr))])), (a1, .inl (cG, n, .inr (.inr (.inr (.inr (fun j => some (gR j))))))), (a2, .inl (cI, n, .inl (fun j => oI (ro j)))), (a3, .inl (cG, n, .inr (.inr (.inr (.inr (fun j => some (gQ j)))))))] ++ va_pl L (pI cI pl pr)) sz)) 0 0 (va_A ([(g0, .inr (3, [.int (nI (n)), .int (nI (q)), .ref c1, .ref c2, .ref c3, .int (tot)])), (c1, .inl (cI, n, .inl (fun j => nI (tr j)))), (c2, .inl (cI, n, .inl (fun j => nI (le j)))), (c3, .inl (cI, n, .inl (fun j => nI (tu j)))), (h0, .inr (2, [.int (nI (n)), .int (nI (q)), .ref a1, .ref a2, .ref a3, .int (nI (bd)), .int (nI (fr))])), (a1, .inl (cG, n, .inr (.inr (.inr (.inr (fun j => some (gR j))))))), (a2, .inl (cI, n, .inl (fun j => oI (ro j)))), (a3, .inl (cG, n, .inr (.inr (.inr (.inr (fun j => some (gQ j)))))))] ++ va_pl L (pI cI pl pr)) sz) := by
  refine Met.ofW (cc := cX2_begin) (maxL := 3) (ret := none) (by decide) rfl ?_
  intro zp ze s m args below meth zc s₁ B hml hv
  obtain ⟨hargs, hsz, hP, hK, hD0⟩ := hv
  have hx := B.exec
  have hb := B.bytes
  have hr := B.returns
  have hts := atoms_spec (ws := wsX2_begin) B.pre
  have hown : s.vm.findClass RX2 = some m.cls := findClass_of_methodNamed B.named
  have hlocks := B.notSynchronized
  subst hsz
  obtain ⟨Q, hQ⟩ : ∃ Q, Q = MQ below (va_Qv (fun u : (Nat → Nat) × (Nat → Nat) × (Nat → Nat) => (∀ j, j < n → u.1 j = (prs (fun i => pr (gR i)) ro n) j) ∧ (∀ j, j < n → u.2.1 j = (prs (fun i => pr (gR i)) ro n) j) ∧ (∀ j, j < n → u.2.2 j = 0)) (fun u t => va_P (dC, dI) vwCl ([(g0, .inr (3, [.int (nI (n)), .int (nI (q)), .ref c1, .ref c2, .ref c3, .int (nI (sumF (prs (fun i => pr (gR i)) ro n) n))])), (c1, .inl (cI, n, .inl (fun j => nI (u.1 j)))), (c2, .inl (cI, n, .inl (fun j => nI (u.2.1 j)))), (c3, .inl (cI, n, .inl (fun j => nI (u.2.2 j)))), (h0, .inr (2, [.int (nI (n)), .int (nI (q)), .ref a1, .ref a2, .ref a3, .int (nI (bd)), .int (nI (fr))])), (a1, .inl (cG, n, .inr (.inr (.inr (.inr (fun j => some (gR j))))))), (a2, .inl (cI, n, .inl (fun j => oI (ro j)))), (a3, .inl (cG, n, .inr (.inr (.inr (.inr (fun j => some (gQ j)))))))] ++ va_pl L (pI cI pl pr)) t.heap ∧ va_K (dC, dI) vwCl [(cI, .int), (cG, .array .int)] t ∧ va_D (va_A ([(g0, .inr (3, [.int (nI (n)), .int (nI (q)), .ref c1, .ref c2, .ref c3, .int (tot)])), (c1, .inl (cI, n, .inl (fun j => nI (tr j)))), (c2, .inl (cI, n, .inl (fun j => nI (le j)))), (c3, .inl (cI, n, .inl (fun j => nI (tu j)))), (h0, .inr (2, [.int (nI (n)), .int (nI (q)), .ref a1, .ref a2, .ref a3, .int (nI (bd)), .int (nI (fr))])), (a1, .inl (cG, n, .inr (.inr (.inr (.inr (fun j => some (gR j))))))), (a2, .inl (cI, n, .inl (fun j => oI (ro j)))), (a3, .inl (cG, n, .inr (.inr (.inr (.inr (fun j => some (gQ j)))))))] ++ va_pl L (pI cI pl pr)) s.heap.size) ([(g0, .inr (3, [.int (nI (n)), .int (nI (q)), .ref c1, .ref c2, .ref c3, .int (nI (sumF (prs (fun i => pr (gR i)) ro n) n))])), (c1, .inl (cI, n, .inl (fun j => nI (u.1 j)))), (c2, .inl (cI, n, .inl (fun j => nI (u.2.1 j)))), (c3, .inl (cI, n, .inl (fun j => nI (u.2.2 j)))), (h0, .inr (2, [.int (nI (n)), .int (nI (q)), .ref a1, .ref a2, .ref a3, .int (nI (bd)), .int (nI (fr))])), (a1, .inl (cG, n, .inr (.inr (.inr (.inr (fun j => some (gR j))))))), (a2, .inl (cI, n, .inl (fun j => oI (ro j)))), (a3, .inl (cG, n, .inr (.inr (.inr (.inr (fun j => some (gQ j)))))))] ++ va_pl L (pI cI pl pr))) (va_A ([(g0, .inr (3, [.int (nI (n)), .int (nI (q)), .ref c1, .ref c2, .ref c3, .int (tot)])), (c1, .inl (cI, n, .inl (fun j => nI (tr j)))), (c2, .inl (cI, n, .inl (fun j => nI (le j)))), (c3, .inl (cI, n, .inl (fun j => nI (tu j)))), (h0, .inr (2, [.int (nI (n)), .int (nI (q)), .ref a1, .ref a2, .ref a3, .int (nI (bd)), .int (nI (fr))])), (a1, .inl (cG, n, .inr (.inr (.inr (.inr (fun j => some (gR j))))))), (a2, .inl (cI, n, .inl (fun j => oI (ro j)))), (a3, .inl (cG, n, .inr (.inr (.inr (.inr (fun j => some (gQ j)))))))] ++ va_pl L (pI cI pl pr)) s.heap.size)) args s 0 0 (va_A ([(g0, .inr (3, [.int (nI (n)), .int (nI (q)), .ref c1, .ref c2, .ref c3, .int (tot)])), (c1, .inl (cI, n, .inl (fun j => nI (tr j)))), (c2, .inl (cI, n, .inl (fun j => nI (le j)))), (c3, .inl (cI, n, .inl (fun j => nI (tu j)))), (h0, .inr (2, [.int (nI (n)), .int (nI (q)), .ref a1, .ref a2, .ref a3, .int (nI (bd)), .int (nI (fr))])), (a1, .inl (cG, n, .inr (.inr (.inr (.inr (fun j => some (gR j))))))), (a2, .inl (cI, n, .inl (fun j => oI (ro j)))), (a3, .inl (cG, n, .inr (.inr (.inr (.inr (fun j => some (gQ j)))))))] ++ va_pl L (pI cI pl pr)) s.heap.size) := ⟨_, rfl⟩
  rw [← hQ]
  have hD := hD0.self (sz := s.heap.size)
  generalize hAe : (va_A ([(g0, .inr (3, [.int (nI (n)), .int (nI (q)), .ref c1, .ref c2, .ref c3, .int (tot)])), (c1, .inl (cI, n, .inl (fun j => nI (tr j)))), (c2, .inl (cI, n, .inl (fun j => nI (le j)))), (c3, .inl (cI, n, .inl (fun j => nI (tu j)))), (h0, .inr (2, [.int (nI (n)), .int (nI (q)), .ref a1, .ref a2, .ref a3, .int (nI (bd)), .int (nI (fr))])), (a1, .inl (cG, n, .inr (.inr (.inr (.inr (fun j => some (gR j))))))), (a2, .inl (cI, n, .inl (fun j => oI (ro j)))), (a3, .inl (cG, n, .inr (.inr (.inr (.inr (fun j => some (gQ j)))))))] ++ va_pl L (pI cI pl pr)) s.heap.size) = A at hD hQ
  have hA : ∀ q : Nat, s.heap.size ≤ q → A q := fun q h => by rw [← hAe]; exact Or.inr h
  have hS : va_S A s.heap s.heap [] := va_S.rf
  have hl := lv_entry ([.ref g0, .ref h0]) (n := 3) (Nat.le_of_ble_eq_true rfl)
  generalize hen : entryFrame m args 3 = fr
  rw [hargs, lg_entry_eq] at hen
  subst hen
  generalize (lg_sl ([.ref g0, .ref h0]) ++ List.replicate (3 - (lg_sl ([.ref g0, .ref h0])).length) Slot.unset).toArray = ls at hl ⊢
  have hl : lv_has ls 3 [(0, .ref g0), (1, .ref h0)] := hl
  have hinX1 : ∀ w ∈ wsX10, w ∈ wsX2_begin := by decide +kernel
  have hinX2 : ∀ w ∈ wsX20, w ∈ wsX2_begin := by decide +kernel
  have hf9 := hts (.fieldLink RX2 9 "LightRows$Search" "size" "I") (by decide +kernel)
  have hf18 := hts (.fieldLink RX2 18 "LightRows$Search" "tried" "[I") (by decide +kernel)
  have hf22 := hts (.fieldLink RX2 22 "LightRows$Search" "least" "[I") (by decide +kernel)
  have hf25 := hts (.fieldLink RX2 25 "LightRows$Search" "turns" "[I") (by decide +kernel)
  have hf28 := hts (.fieldLink RX2 28 "LightRows$Search" "total" "I") (by decide +kernel)
  refine lv_iconst (v := nI 0) hx hb dX2_begin_0 (by decide) ?_
  refine lv_istore_n (lv' := [(2, .int (nI (0))), (0, .ref g0), (1, .ref h0)]) hx hb dX2_begin_1 rfl hl (by decide) rfl (fun ls hl => ?_)
  have lp : ∀ (k : Nat) (i : Nat) (F : Nat → Nat) (T : Nat → Nat), (i + k = n) → (∀ j, j < i → F j = (prs (fun i => pr (gR i)) ro n) j) → (∀ j, j < i → T j = 0) → ∀ (H : Heap) (locs : List Loc), va_P (dC, dI) vwCl ([(g0, .inr (3, [.int (nI (n)), .int (nI (q)), .ref c1, .ref c2, .ref c3, .int (tot)])), (c1, .inl (cI, n, .inl (fun j => nI (F j)))), (c2, .inl (cI, n, .inl (fun j => nI (le j)))), (c3, .inl (cI, n, .inl (fun j => nI (T j)))), (h0, .inr (2, [.int (nI (n)), .int (nI (q)), .ref a1, .ref a2, .ref a3, .int (nI (bd)), .int (nI (fr))])), (a1, .inl (cG, n, .inr (.inr (.inr (.inr (fun j => some (gR j))))))), (a2, .inl (cI, n, .inl (fun j => oI (ro j)))), (a3, .inl (cG, n, .inr (.inr (.inr (.inr (fun j => some (gQ j)))))))] ++ va_pl L (pI cI pl pr)) H → va_D A ([(g0, .inr (3, [.int (nI (n)), .int (nI (q)), .ref c1, .ref c2, .ref c3, .int (tot)])), (c1, .inl (cI, n, .inl (fun j => nI (F j)))), (c2, .inl (cI, n, .inl (fun j => nI (le j)))), (c3, .inl (cI, n, .inl (fun j => nI (T j)))), (h0, .inr (2, [.int (nI (n)), .int (nI (q)), .ref a1, .ref a2, .ref a3, .int (nI (bd)), .int (nI (fr))])), (a1, .inl (cG, n, .inr (.inr (.inr (.inr (fun j => some (gR j))))))), (a2, .inl (cI, n, .inl (fun j => oI (ro j)))), (a3, .inl (cG, n, .inr (.inr (.inr (.inr (fun j => some (gQ j)))))))] ++ va_pl L (pI cI pl pr)) → va_S A s.heap H locs → ∀ (ls : Array Slot), lv_has ls 3 [(0, .ref g0), (1, .ref h0), (2, .int (nI (i)))] → W zp l ze (headSpec wsX2_begin ({ frames := 2, cells := 0, slots := 0, locals := 81 })).room s m args below meth zc H locs 0 0 Q (F0 m 2 ls []) := by
    intro k
    induction k with
    | zero =>
      intro i F T hi h1 h2 H locs hP hD hS ls hl
      refine lv_iload_n hx hb dX2_begin_2 rfl (lv_at hl 2 rfl) ?_
      refine lv_aload_n hx hb dX2_begin_3 rfl (lv_at hl 0 rfl) ?_
      refine va_get (D := (dC, dI)) (ci := 3) (v := .int (nI (n))) (C := RX2) (T := TX2) (N := 6) hx hb hts hinX2 hown hK hP 0 rfl rfl 0 (by decide) hf9 (fun _ h9 => h9) rfl dX2_begin_4 ?_
      refine lv_icmp_ge (tgt := 34) hx hb dX2_begin_7 (by decide) (fun c => ?_) (fun c => ?_)
      · skip
        have c : n ≤ i := (nI_leI (a := n) (b := i) (by omega) (by omega)).mp c
        obtain rfl : n = i := by omega
        have es : sumF F n = sumF (prs (fun i => pr (gR i)) ro n) n := sumF_congr n h1
        refine lv_aload_n hx hb dX2_begin_34 rfl (lv_at hl 0 rfl) ?_
        refine lv_aload_n hx hb dX2_begin_35 rfl (lv_at hl 0 rfl) ?_
        have hPc := hP.sub (ws' := [(g0, .inr (3, [.int (nI (n)), .int (nI (q)), .ref c1, .ref c2, .ref c3, .int (tot)])), (c1, .inl (cI, n, .inl (fun j => nI (F j))))]) [0, 1] rfl
        have hDc := hD.sub (ws' := [(g0, .inr (3, [.int (nI (n)), .int (nI (q)), .ref c1, .ref c2, .ref c3, .int (tot)])), (c1, .inl (cI, n, .inl (fun j => nI (F j))))]) [0, 1] (by decide) rfl
        have hFc := va_free (wc := [(g0, .inr (3, [.int (nI (n)), .int (nI (q)), .ref c1, .ref c2, .ref c3, .int (tot)])), (c1, .inl (cI, n, .inl (fun j => nI (F j))))]) hD hS hA [0, 1] rfl
        have hKc := hK.sub (tys' := [(cI, .int)]) [0] rfl
        refine va_calli (va_runV (As := []) (rest := [.ref g0]) ⟨hx, hb, hml, hown, hts⟩ (c_X2_totalTried l dC dI H.size g0 c1 c2 c3 n q tot F cI hn) (cwV 0 hts gX2_begin_X2_totalTried rfl rfl rfl (by decide +kernel) ⟨Nat.le_of_ble_eq_true rfl, Nat.le_of_ble_eq_true rfl⟩) ⟨fun a U g mk q => by obtain ⟨q0, q1, qP, qK, qD⟩ := q; exact ⟨q0, q1, qP, va_K.moved (u := U) (U := U.calling g mk a) (Vm.Alike.refl U.vm) qK, qD⟩, va_recv hKc hPc (ci := 3) (q0 := 0) rfl rfl, fun U hU hW => ⟨rfl, by rw [hU], by rw [hU]; exact hPc, va_K.moved hW.alike hKc, hDc.weaken (fun _ _ _ _ => trivial)⟩⟩ rfl rfl hl.1 rfl (lv_room (Nat.le_of_ble_eq_true rfl)) dX2_begin_36 ⟨Nat.zero_le _, Nat.zero_le _⟩) hS (fun q _ h => hFc q h) hFc (fun r1 u t H1 locs ht hvm hw hB hz1 hk1 hS => ?_)
        obtain ⟨hP1, hK1, hD1⟩ := hB
        rw [ht] at hP1
        try dsimp only at hw
        obtain ⟨hP, hD⟩ := va_joinQ (wr := [(c2, .inl (cI, n, .inl (fun j => nI (le j)))), (c3, .inl (cI, n, .inl (fun j => nI (T j)))), (h0, .inr (2, [.int (nI (n)), .int (nI (q)), .ref a1, .ref a2, .ref a3, .int (nI (bd)), .int (nI (fr))])), (a1, .inl (cG, n, .inr (.inr (.inr (.inr (fun j => some (gR j))))))), (a2, .inl (cI, n, .inl (fun j => oI (ro j)))), (a3, .inl (cG, n, .inr (.inr (.inr (.inr (fun j => some (gQ j)))))))]) (w1 := [(g0, .inr (3, [.int (nI (n)), .int (nI (q)), .ref c1, .ref c2, .ref c3, .int (tot)])), (c1, .inl (cI, n, .inl (fun j => nI (F j))))]) hP hD [0, 1] [2, 3, 4, 5, 6, 7] rfl rfl (by decide) (by decide) hk1 hFc hP1 hD1
        generalize H1 = H at hP hS ⊢
        have hP := hP.part (cx := [(g0, .inr (3, [.int (nI (n)), .int (nI (q)), .ref c1, .ref c2, .ref c3, .int (tot)])), (c1, .inl (cI, n, .inl (fun j => nI (F j)))), (c2, .inl (cI, n, .inl (fun j => nI (le j)))), (c3, .inl (cI, n, .inl (fun j => nI (T j)))), (h0, .inr (2, [.int (nI (n)), .int (nI (q)), .ref a1, .ref a2, .ref a3, .int (nI (bd)), .int (nI (fr))])), (a1, .inl (cG, n, .inr (.inr (.inr (.inr (fun j => some (gR j))))))), (a2, .inl (cI, n, .inl (fun j => oI (ro j)))), (a3, .inl (cG, n, .inr (.inr (.inr (.inr (fun j => some (gQ j)))))))]) [6, 7, 0, 1, 2, 3, 4, 5] rfl
        have hD := hD.part (cx := [(g0, .inr (3, [.int (nI (n)), .int (nI (q)), .ref c1, .ref c2, .ref c3, .int (tot)])), (c1, .inl (cI, n, .inl (fun j => nI (F j)))), (c2, .inl (cI, n, .inl (fun j => nI (le j)))), (c3, .inl (cI, n, .inl (fun j => nI (T j)))), (h0, .inr (2, [.int (nI (n)), .int (nI (q)), .ref a1, .ref a2, .ref a3, .int (nI (bd)), .int (nI (fr))])), (a1, .inl (cG, n, .inr (.inr (.inr (.inr (fun j => some (gR j))))))), (a2, .inl (cI, n, .inl (fun j => oI (ro j)))), (a3, .inl (cG, n, .inr (.inr (.inr (.inr (fun j => some (gQ j)))))))]) [6, 7, 0, 1, 2, 3, 4, 5] (by decide) rfl
        have hP : va_P (dC, dI) vwCl ([(g0, .inr (3, [.int (nI (n)), .int (nI (q)), .ref c1, .ref c2, .ref c3, .int (tot)])), (c1, .inl (cI, n, .inl (fun j => nI (F j)))), (c2, .inl (cI, n, .inl (fun j => nI (le j)))), (c3, .inl (cI, n, .inl (fun j => nI (T j)))), (h0, .inr (2, [.int (nI (n)), .int (nI (q)), .ref a1, .ref a2, .ref a3, .int (nI (bd)), .int (nI (fr))])), (a1, .inl (cG, n, .inr (.inr (.inr (.inr (fun j => some (gR j))))))), (a2, .inl (cI, n, .inl (fun j => oI (ro j)))), (a3, .inl (cG, n, .inr (.inr (.inr (.inr (fun j => some (gQ j)))))))] ++ va_pl L (pI cI pl pr)) H := hP
        have hD : va_D A ([(g0, .inr (3, [.int (nI (n)), .int (nI (q)), .ref c1, .ref c2, .ref c3, .int (tot)])), (c1, .inl (cI, n, .inl (fun j => nI (F j)))), (c2, .inl (cI, n, .inl (fun j => nI (le j)))), (c3, .inl (cI, n, .inl (fun j => nI (T j)))), (h0, .inr (2, [.int (nI (n)), .int (nI (q)), .ref a1, .ref a2, .ref a3, .int (nI (bd)), .int (nI (fr))])), (a1, .inl (cG, n, .inr (.inr (.inr (.inr (fun j => some (gR j))))))), (a2, .inl (cI, n, .inl (fun j => oI (ro j)))), (a3, .inl (cG, n, .inr (.inr (.inr (.inr (fun j => some (gQ j)))))))] ++ va_pl L (pI cI pl pr)) := hD
        subst hw
        have hPc := hP.sub (ws' := [(g0, .inr (3, [.int (nI (n)), .int (nI (q)), .ref c1, .ref c2, .ref c3, .int (tot)])), (c1, .inl (cI, n, .inl (fun j => nI (F j)))), (c2, .inl (cI, n, .inl (fun j => nI (le j))))]) [0, 1, 2] rfl
        have hDc := hD.sub (ws' := [(g0, .inr (3, [.int (nI (n)), .int (nI (q)), .ref c1, .ref c2, .ref c3, .int (tot)])), (c1, .inl (cI, n, .inl (fun j => nI (F j)))), (c2, .inl (cI, n, .inl (fun j => nI (le j))))]) [0, 1, 2] (by decide) rfl
        have hFc := va_free (wc := [(g0, .inr (3, [.int (nI (n)), .int (nI (q)), .ref c1, .ref c2, .ref c3, .int (tot)])), (c1, .inl (cI, n, .inl (fun j => nI (F j)))), (c2, .inl (cI, n, .inl (fun j => nI (le j))))]) hD hS hA [0, 1, 2] rfl
        have hKc := hK.sub (tys' := [(cI, .int)]) [0] rfl
        refine va_callv (va_runV (As := [.int (nI (sumF F n))]) (rest := []) ⟨hx, hb, hml, hown, hts⟩ (c_X2_keep l dC dI H.size g0 c1 c2 c3 n q (sumF F n) tot F le cI hn) (cwV 1 hts gX2_begin_X2_keep rfl rfl rfl (by decide +kernel) ⟨Nat.le_of_ble_eq_true rfl, Nat.le_of_ble_eq_true rfl⟩) ⟨fun a U g mk q => by obtain ⟨q0, q1, qP, qK, qD⟩ := q; exact ⟨q0, q1, qP, va_K.moved (u := U) (U := U.calling g mk a) (Vm.Alike.refl U.vm) qK, qD⟩, va_recv hKc hPc (ci := 3) (q0 := 0) rfl rfl, fun U hU hW => ⟨rfl, by rw [hU], by rw [hU]; exact hPc, va_K.moved hW.alike hKc, hDc.weaken (fun _ _ _ _ => trivial)⟩⟩ rfl rfl hl.1 rfl (lv_room (Nat.le_of_ble_eq_true rfl)) dX2_begin_39 ⟨Nat.zero_le _, Nat.zero_le _⟩) hS (fun q _ h => hFc q h) hFc (fun u t H1 locs ht hvm hw hB hz1 hk1 hS => ?_)
        obtain ⟨hP1, hK1, hD1⟩ := hB
        rw [ht] at hP1
        try dsimp only at hw
        obtain ⟨hP, hD⟩ := va_joinQ (wr := [(c3, .inl (cI, n, .inl (fun j => nI (T j)))), (h0, .inr (2, [.int (nI (n)), .int (nI (q)), .ref a1, .ref a2, .ref a3, .int (nI (bd)), .int (nI (fr))])), (a1, .inl (cG, n, .inr (.inr (.inr (.inr (fun j => some (gR j))))))), (a2, .inl (cI, n, .inl (fun j => oI (ro j)))), (a3, .inl (cG, n, .inr (.inr (.inr (.inr (fun j => some (gQ j)))))))]) (w1 := [(g0, .inr (3, [.int (nI (n)), .int (nI (q)), .ref c1, .ref c2, .ref c3, .int (nI (sumF F n))])), (c1, .inl (cI, n, .inl (fun j => nI (F j)))), (c2, .inl (cI, n, .inl (fun j => nI ((fun j => if j < n then F j else le j) j))))]) hP hD [0, 1, 2] [3, 4, 5, 6, 7] rfl rfl (by decide) (by decide) hk1 hFc hP1 hD1
        generalize H1 = H at hP hS ⊢
        have hP := hP.part (cx := [(g0, .inr (3, [.int (nI (n)), .int (nI (q)), .ref c1, .ref c2, .ref c3, .int (nI (sumF F n))])), (c1, .inl (cI, n, .inl (fun j => nI (F j)))), (c2, .inl (cI, n, .inl (fun j => nI ((fun j => if j < n then F j else le j) j)))), (c3, .inl (cI, n, .inl (fun j => nI (T j)))), (h0, .inr (2, [.int (nI (n)), .int (nI (q)), .ref a1, .ref a2, .ref a3, .int (nI (bd)), .int (nI (fr))])), (a1, .inl (cG, n, .inr (.inr (.inr (.inr (fun j => some (gR j))))))), (a2, .inl (cI, n, .inl (fun j => oI (ro j)))), (a3, .inl (cG, n, .inr (.inr (.inr (.inr (fun j => some (gQ j)))))))]) [5, 6, 7, 0, 1, 2, 3, 4] rfl
        have hD := hD.part (cx := [(g0, .inr (3, [.int (nI (n)), .int (nI (q)), .ref c1, .ref c2, .ref c3, .int (nI (sumF F n))])), (c1, .inl (cI, n, .inl (fun j => nI (F j)))), (c2, .inl (cI, n, .inl (fun j => nI ((fun j => if j < n then F j else le j) j)))), (c3, .inl (cI, n, .inl (fun j => nI (T j)))), (h0, .inr (2, [.int (nI (n)), .int (nI (q)), .ref a1, .ref a2, .ref a3, .int (nI (bd)), .int (nI (fr))])), (a1, .inl (cG, n, .inr (.inr (.inr (.inr (fun j => some (gR j))))))), (a2, .inl (cI, n, .inl (fun j => oI (ro j)))), (a3, .inl (cG, n, .inr (.inr (.inr (.inr (fun j => some (gQ j)))))))]) [5, 6, 7, 0, 1, 2, 3, 4] (by decide) rfl
        have hP : va_P (dC, dI) vwCl ([(g0, .inr (3, [.int (nI (n)), .int (nI (q)), .ref c1, .ref c2, .ref c3, .int (nI (sumF F n))])), (c1, .inl (cI, n, .inl (fun j => nI (F j)))), (c2, .inl (cI, n, .inl (fun j => nI ((fun j => if j < n then F j else le j) j)))), (c3, .inl (cI, n, .inl (fun j => nI (T j)))), (h0, .inr (2, [.int (nI (n)), .int (nI (q)), .ref a1, .ref a2, .ref a3, .int (nI (bd)), .int (nI (fr))])), (a1, .inl (cG, n, .inr (.inr (.inr (.inr (fun j => some (gR j))))))), (a2, .inl (cI, n, .inl (fun j => oI (ro j)))), (a3, .inl (cG, n, .inr (.inr (.inr (.inr (fun j => some (gQ j)))))))] ++ va_pl L (pI cI pl pr)) H := hP
        have hD : va_D A ([(g0, .inr (3, [.int (nI (n)), .int (nI (q)), .ref c1, .ref c2, .ref c3, .int (nI (sumF F n))])), (c1, .inl (cI, n, .inl (fun j => nI (F j)))), (c2, .inl (cI, n, .inl (fun j => nI ((fun j => if j < n then F j else le j) j)))), (c3, .inl (cI, n, .inl (fun j => nI (T j)))), (h0, .inr (2, [.int (nI (n)), .int (nI (q)), .ref a1, .ref a2, .ref a3, .int (nI (bd)), .int (nI (fr))])), (a1, .inl (cG, n, .inr (.inr (.inr (.inr (fun j => some (gR j))))))), (a2, .inl (cI, n, .inl (fun j => oI (ro j)))), (a3, .inl (cG, n, .inr (.inr (.inr (.inr (fun j => some (gQ j)))))))] ++ va_pl L (pI cI pl pr)) := hD
        rw [es] at hP hD
        rw [hQ]
        exact W.vret hx hb hr (fun t ht hW => ⟨⟨(F, fun j => if j < n then F j else le j, T), rfl, ⟨h1, fun j hj => by simp only [hj, if_true]; exact h1 j hj, h2⟩, by rw [ht]; exact hP, va_K.moved hW.alike hK, hD⟩, hS.F ht⟩) hS.2.2 dX2_begin_42
      · skip
        have c : i < n := Nat.not_le.mp (fun h => c ((nI_leI (a := n) (b := i) (by omega) (by omega)).mpr h))
        exact absurd c (by omega)
    | succ k ih =>
      intro i F T hi h1 h2 H locs hP hD hS ls hl
      refine lv_iload_n hx hb dX2_begin_2 rfl (lv_at hl 2 rfl) ?_
      refine lv_aload_n hx hb dX2_begin_3 rfl (lv_at hl 0 rfl) ?_
      refine va_get (D := (dC, dI)) (ci := 3) (v := .int (nI (n))) (C := RX2) (T := TX2) (N := 6) hx hb hts hinX2 hown hK hP 0 rfl rfl 0 (by decide) hf9 (fun _ h9 => h9) rfl dX2_begin_4 ?_
      refine lv_icmp_ge (tgt := 34) hx hb dX2_begin_7 (by decide) (fun c => ?_) (fun c => ?_)
      · skip
        have c : n ≤ i := (nI_leI (a := n) (b := i) (by omega) (by omega)).mp c
        exact absurd c (by omega)
      · skip
        have c : i < n := Nat.not_le.mp (fun h => c ((nI_leI (a := n) (b := i) (by omega) (by omega)).mpr h))
        refine lv_aload_n hx hb dX2_begin_10 rfl (lv_at hl 0 rfl) ?_
        refine va_get (D := (dC, dI)) (ci := 3) (v := .ref c1) (C := RX2) (T := TX2) (N := 6) hx hb hts hinX2 hown hK hP 0 rfl rfl 2 (by decide) hf18 (fun _ h9 => h9) rfl dX2_begin_11 ?_
        refine lv_iload_n hx hb dX2_begin_14 rfl (lv_at hl 2 rfl) ?_
        refine lv_aload_n hx hb dX2_begin_15 rfl (lv_at hl 1 rfl) ?_
        refine lv_iload_n hx hb dX2_begin_16 rfl (lv_at hl 2 rfl) ?_
        have hPc := hP.part (cx := [(h0, .inr (2, [.int (nI (n)), .int (nI (q)), .ref a1, .ref a2, .ref a3, .int (nI (bd)), .int (nI (fr))])), (a1, .inl (cG, n, .inr (.inr (.inr (.inr (fun j => some (gR j))))))), (a2, .inl (cI, n, .inl (fun j => oI (ro j)))), (a3, .inl (cG, n, .inr (.inr (.inr (.inr (fun j => some (gQ j)))))))]) [4, 5, 6, 7] rfl
        have hDc := hD.part (cx := [(h0, .inr (2, [.int (nI (n)), .int (nI (q)), .ref a1, .ref a2, .ref a3, .int (nI (bd)), .int (nI (fr))])), (a1, .inl (cG, n, .inr (.inr (.inr (.inr (fun j => some (gR j))))))), (a2, .inl (cI, n, .inl (fun j => oI (ro j)))), (a3, .inl (cG, n, .inr (.inr (.inr (.inr (fun j => some (gQ j)))))))]) [4, 5, 6, 7] (by decide) rfl
        have hFc := va_freeP (cx := [(h0, .inr (2, [.int (nI (n)), .int (nI (q)), .ref a1, .ref a2, .ref a3, .int (nI (bd)), .int (nI (fr))])), (a1, .inl (cG, n, .inr (.inr (.inr (.inr (fun j => some (gR j))))))), (a2, .inl (cI, n, .inl (fun j => oI (ro j)))), (a3, .inl (cG, n, .inr (.inr (.inr (.inr (fun j => some (gQ j)))))))]) hD hS hA [4, 5, 6, 7] rfl
        have hKc := hK.sub (tys' := [(cI, .int), (cG, .array .int)]) [0, 1] rfl
        refine va_calli (va_runV (As := [.int (nI (i))]) (rest := [.int (nI (i)), .ref c1]) ⟨hx, hb, hml, hown, hts⟩ (c_X1_pressesOf l dC dI H.size h0 a1 a2 a3 n q bd fr gR gQ ro cG cI L pl pr i hn hok (by omega) hro) (cwV 1 hts gX2_begin_X1_pressesOf rfl rfl rfl (by decide +kernel) ⟨Nat.le_of_ble_eq_true rfl, Nat.le_of_ble_eq_true rfl⟩) ⟨fun a U g mk q => by obtain ⟨q0, q1, qP, qK, qD⟩ := q; exact ⟨q0, q1, qP, va_K.moved (u := U) (U := U.calling g mk a) (Vm.Alike.refl U.vm) qK, qD⟩, va_recv hKc hPc (ci := 2) (q0 := 0) rfl rfl, fun U hU hW => ⟨rfl, by rw [hU], by rw [hU]; exact hPc, va_K.moved hW.alike hKc, hDc.weaken (fun _ _ _ _ => trivial)⟩⟩ rfl rfl hl.1 rfl (lv_room (Nat.le_of_ble_eq_true rfl)) dX2_begin_17 ⟨Nat.zero_le _, Nat.zero_le _⟩) hS (fun q _ h => hFc q h) hFc (fun r3 u t H1 locs ht hvm hw hB hz1 hk1 hS => ?_)
        obtain ⟨hP1, hK1, hD1⟩ := hB
        rw [ht] at hP1
        try dsimp only at hw
        obtain ⟨hP, hD⟩ := va_joinP (wr := [(g0, .inr (3, [.int (nI (n)), .int (nI (q)), .ref c1, .ref c2, .ref c3, .int (tot)])), (c1, .inl (cI, n, .inl (fun j => nI (F j)))), (c2, .inl (cI, n, .inl (fun j => nI (le j)))), (c3, .inl (cI, n, .inl (fun j => nI (T j))))]) (rx := [(h0, .inr (2, [.int (nI (n)), .int (nI (q)), .ref a1, .ref a2, .ref a3, .int (nI (bd)), .int (nI (fr))])), (a1, .inl (cG, n, .inr (.inr (.inr (.inr (fun j => some (gR j))))))), (a2, .inl (cI, n, .inl (fun j => oI (ro j)))), (a3, .inl (cG, n, .inr (.inr (.inr (.inr (fun j => some (gQ j)))))))]) (pl1 := va_pl L (pI cI pl pr)) hP hD [4, 5, 6, 7] [0, 1, 2, 3] rfl rfl (by decide) (by decide) hk1 hFc hP1 hD1
        generalize H1 = H at hP hS ⊢
        have hP := hP.part (cx := [(g0, .inr (3, [.int (nI (n)), .int (nI (q)), .ref c1, .ref c2, .ref c3, .int (tot)])), (c1, .inl (cI, n, .inl (fun j => nI (F j)))), (c2, .inl (cI, n, .inl (fun j => nI (le j)))), (c3, .inl (cI, n, .inl (fun j => nI (T j)))), (h0, .inr (2, [.int (nI (n)), .int (nI (q)), .ref a1, .ref a2, .ref a3, .int (nI (bd)), .int (nI (fr))])), (a1, .inl (cG, n, .inr (.inr (.inr (.inr (fun j => some (gR j))))))), (a2, .inl (cI, n, .inl (fun j => oI (ro j)))), (a3, .inl (cG, n, .inr (.inr (.inr (.inr (fun j => some (gQ j)))))))]) [0, 1, 2, 3, 4, 5, 6, 7] rfl
        have hD := hD.part (cx := [(g0, .inr (3, [.int (nI (n)), .int (nI (q)), .ref c1, .ref c2, .ref c3, .int (tot)])), (c1, .inl (cI, n, .inl (fun j => nI (F j)))), (c2, .inl (cI, n, .inl (fun j => nI (le j)))), (c3, .inl (cI, n, .inl (fun j => nI (T j)))), (h0, .inr (2, [.int (nI (n)), .int (nI (q)), .ref a1, .ref a2, .ref a3, .int (nI (bd)), .int (nI (fr))])), (a1, .inl (cG, n, .inr (.inr (.inr (.inr (fun j => some (gR j))))))), (a2, .inl (cI, n, .inl (fun j => oI (ro j)))), (a3, .inl (cG, n, .inr (.inr (.inr (.inr (fun j => some (gQ j)))))))]) [0, 1, 2, 3, 4, 5, 6, 7] (by decide) rfl
        have hP : va_P (dC, dI) vwCl ([(g0, .inr (3, [.int (nI (n)), .int (nI (q)), .ref c1, .ref c2, .ref c3, .int (tot)])), (c1, .inl (cI, n, .inl (fun j => nI (F j)))), (c2, .inl (cI, n, .inl (fun j => nI (le j)))), (c3, .inl (cI, n, .inl (fun j => nI (T j)))), (h0, .inr (2, [.int (nI (n)), .int (nI (q)), .ref a1, .ref a2, .ref a3, .int (nI (bd)), .int (nI (fr))])), (a1, .inl (cG, n, .inr (.inr (.inr (.inr (fun j => some (gR j))))))), (a2, .inl (cI, n, .inl (fun j => oI (ro j)))), (a3, .inl (cG, n, .inr (.inr (.inr (.inr (fun j => some (gQ j)))))))] ++ va_pl L (pI cI pl pr)) H := hP
        have hD : va_D A ([(g0, .inr (3, [.int (nI (n)), .int (nI (q)), .ref c1, .ref c2, .ref c3, .int (tot)])), (c1, .inl (cI, n, .inl (fun j => nI (F j)))), (c2, .inl (cI, n, .inl (fun j => nI (le j)))), (c3, .inl (cI, n, .inl (fun j => nI (T j)))), (h0, .inr (2, [.int (nI (n)), .int (nI (q)), .ref a1, .ref a2, .ref a3, .int (nI (bd)), .int (nI (fr))])), (a1, .inl (cG, n, .inr (.inr (.inr (.inr (fun j => some (gR j))))))), (a2, .inl (cI, n, .inl (fun j => oI (ro j)))), (a3, .inl (cG, n, .inr (.inr (.inr (.inr (fun j => some (gQ j)))))))] ++ va_pl L (pI cI pl pr)) := hD
        subst hw
        refine ra_st (g := nI) (F := F) (v := prs (fun i => pr (gR i)) ro n i) hx hb hK hP hD hS 1 0 rfl rfl (by omega) (by omega) dX2_begin_20 (fun H locs hP hD hS => ?_)
        have hP : va_P (dC, dI) vwCl ([(g0, .inr (3, [.int (nI (n)), .int (nI (q)), .ref c1, .ref c2, .ref c3, .int (tot)])), (c1, .inl (cI, n, .inl (fun j => nI ((va_up F i (prs (fun i => pr (gR i)) ro n i)) j)))), (c2, .inl (cI, n, .inl (fun j => nI (le j)))), (c3, .inl (cI, n, .inl (fun j => nI (T j)))), (h0, .inr (2, [.int (nI (n)), .int (nI (q)), .ref a1, .ref a2, .ref a3, .int (nI (bd)), .int (nI (fr))])), (a1, .inl (cG, n, .inr (.inr (.inr (.inr (fun j => some (gR j))))))), (a2, .inl (cI, n, .inl (fun j => oI (ro j)))), (a3, .inl (cG, n, .inr (.inr (.inr (.inr (fun j => some (gQ j)))))))] ++ va_pl L (pI cI pl pr)) H := hP
        have hD : va_D A ([(g0, .inr (3, [.int (nI (n)), .int (nI (q)), .ref c1, .ref c2, .ref c3, .int (tot)])), (c1, .inl (cI, n, .inl (fun j => nI ((va_up F i (prs (fun i => pr (gR i)) ro n i)) j)))), (c2, .inl (cI, n, .inl (fun j => nI (le j)))), (c3, .inl (cI, n, .inl (fun j => nI (T j)))), (h0, .inr (2, [.int (nI (n)), .int (nI (q)), .ref a1, .ref a2, .ref a3, .int (nI (bd)), .int (nI (fr))])), (a1, .inl (cG, n, .inr (.inr (.inr (.inr (fun j => some (gR j))))))), (a2, .inl (cI, n, .inl (fun j => oI (ro j)))), (a3, .inl (cG, n, .inr (.inr (.inr (.inr (fun j => some (gQ j)))))))] ++ va_pl L (pI cI pl pr)) := hD
        refine lv_aload_n hx hb dX2_begin_21 rfl (lv_at hl 0 rfl) ?_
        refine va_get (D := (dC, dI)) (ci := 3) (v := .ref c3) (C := RX2) (T := TX2) (N := 6) hx hb hts hinX2 hown hK hP 0 rfl rfl 4 (by decide) hf25 (fun _ h9 => h9) rfl dX2_begin_22 ?_
        refine lv_iload_n hx hb dX2_begin_25 rfl (lv_at hl 2 rfl) ?_
        refine lv_iconst (v := nI 0) hx hb dX2_begin_26 (by decide) ?_
        refine ra_st (g := nI) (F := T) (v := 0) hx hb hK hP hD hS 3 0 rfl rfl (by omega) (by omega) dX2_begin_27 (fun H locs hP hD hS => ?_)
        have hP : va_P (dC, dI) vwCl ([(g0, .inr (3, [.int (nI (n)), .int (nI (q)), .ref c1, .ref c2, .ref c3, .int (tot)])), (c1, .inl (cI, n, .inl (fun j => nI ((va_up F i (prs (fun i => pr (gR i)) ro n i)) j)))), (c2, .inl (cI, n, .inl (fun j => nI (le j)))), (c3, .inl (cI, n, .inl (fun j => nI ((va_up T i (0)) j)))), (h0, .inr (2, [.int (nI (n)), .int (nI (q)), .ref a1, .ref a2, .ref a3, .int (nI (bd)), .int (nI (fr))])), (a1, .inl (cG, n, .inr (.inr (.inr (.inr (fun j => some (gR j))))))), (a2, .inl (cI, n, .inl (fun j => oI (ro j)))), (a3, .inl (cG, n, .inr (.inr (.inr (.inr (fun j => some (gQ j)))))))] ++ va_pl L (pI cI pl pr)) H := hP
        have hD : va_D A ([(g0, .inr (3, [.int (nI (n)), .int (nI (q)), .ref c1, .ref c2, .ref c3, .int (tot)])), (c1, .inl (cI, n, .inl (fun j => nI ((va_up F i (prs (fun i => pr (gR i)) ro n i)) j)))), (c2, .inl (cI, n, .inl (fun j => nI (le j)))), (c3, .inl (cI, n, .inl (fun j => nI ((va_up T i (0)) j)))), (h0, .inr (2, [.int (nI (n)), .int (nI (q)), .ref a1, .ref a2, .ref a3, .int (nI (bd)), .int (nI (fr))])), (a1, .inl (cG, n, .inr (.inr (.inr (.inr (fun j => some (gR j))))))), (a2, .inl (cI, n, .inl (fun j => oI (ro j)))), (a3, .inl (cG, n, .inr (.inr (.inr (.inr (fun j => some (gQ j)))))))] ++ va_pl L (pI cI pl pr)) := hD
        refine lv_iinc (v := nI (i + 1)) (lv' := [(2, .int (nI (i + 1))), (0, .ref g0), (1, .ref h0)]) hx hb dX2_begin_28 hl (k := 2) rfl (nI_1 _) (by decide) rfl (fun ls hl => ?_)
        refine lv_goto (tgt := 2) hx hb dX2_begin_31 (by decide) ?_
        exact ih (i + 1) (va_up F i (prs (fun i => pr (gR i)) ro n i)) (va_up T i 0) (by omega) (fun j hj => by
              by_cases e : j = i
              · rw [e, up_at]
              · rw [up_of _ _ e]; exact h1 j (by omega)) (fun j hj => by
              by_cases e : j = i
              · rw [e, up_at]
              · rw [up_of _ _ e]; exact h2 j (by omega)) _ _ hP hD hS ls (lv_sub hl [1, 2, 0] rfl)
  exact lp n 0 tr tu (by omega) (fun j h => absurd h (by omega)) (fun j h => absurd h (by omega)) _ _ hP hD hS ls (lv_sub hl [1, 2, 0] rfl)

set_option maxHeartbeats 4000000 in
set_option maxRecDepth 100000 in
theorem c_X2_advance (l : Launch) (dC : Nat → ClassId) (dI : Nat → Nat → Nat) (sz : Nat) (g0 c1 c2 c3 : Nat) (tot : Int32) (tr le tu : Nat → Nat) (h0 a1 a2 a3 n q bd fr : Nat) (gR gQ : Nat → Nat) (ro : Nat → Option Nat) (cG : ClassId) (cI : ClassId) (L : List Nat) (pl : Nat → Nat) (pr : Nat → Nat → Nat) (z : (Nat → Nat) × (Nat → Nat)) (hn : n < 1000) (hok : eqOK n gR gQ L pl) (hfr : fr ≤ n) (hq : 2 ≤ q) (hq2 : q < 100) (hqp : ∀ k, k < fr → ∀ j, j < n → pr (gQ k) j < q) (hz1 : ∀ j, j < n → tr j = z.1 j) (hz2 : ∀ j, j < n → tu j = z.2 j) (hz3 : ∀ j, j < n → z.1 j < q) (hz4 : ∀ j, z.2 j < q) : Met l yX2_advance wsX2_advance ({ frames := 1, cells := 0, slots := 0, locals := 23 }) (va_Pc [.ref g0, .ref h0] (fun U => U.heap.size = sz ∧ va_P (dC, dI) vwCl ([(g0, .inr (3, [.int (nI (n)), .int (nI (q)), .ref c1, .ref c2, .ref c3, .int (tot)])), (c1, .inl (cI, n, .inl (fun j => nI (tr j)))), (c2, .inl (cI, n, .inl (fun j => nI (le j)))), (c3, .inl (cI, n, .inl (fun j => nI (tu j)))), (h0, .inr (2, [.int (nI (n)), .int (nI (q)), .ref a1, .ref a2, .ref a3, .int (nI (bd)), .int (nI (fr))])), (a1, .inl (cG, n, .inr (.inr (.inr (.inr (fun j => some (gR j))))))), (a2, .inl (cI, n, .inl (fun j => oI (ro j)))), (a3, .inl (cG, n, .inr (.inr (.inr (.inr (fun j => some (gQ j)))))))] ++ va_pl L (pI cI pl pr)) U.heap ∧ va_K (dC, dI) vwCl [(cI, .int), (cG, .array .int)] U ∧ va_D (fun _ => True) ([(g0, .inr (3, [.int (nI (n)), .int (nI (q)), .ref c1, .ref c2, .ref c3, .int (tot)])), (c1, .inl (cI, n, .inl (fun j => nI (tr j)))), (c2, .inl (cI, n, .inl (fun j => nI (le j)))), (c3, .inl (cI, n, .inl (fun j => nI (tu j)))), (h0, .inr (2, [.int (nI (n)), .int (nI (q)), .ref a1, .ref a2, .ref a3, .int (nI (bd)), .int (nI (fr))])), (a1, .inl (cG, n, .inr (.inr (.inr (.inr (fun j => some (gR j))))))), (a2, .inl (cI, n, .inl (fun j => oI (ro j)))), (a3, .inl (cG, n, .inr (.inr (.inr (.inr (fun j => some (gQ j)))))))] ++ va_pl L (pI cI pl pr)))) (va_Qv (fun u : (Nat → Nat) × (Nat → Nat) => (∀ j, j < n → u.1 j = (adv q (fun k j => pr (gQ k) j) fr 0 z).1 j) ∧ (∀ j, j < n → u.2 j = (adv q (fun k j => pr (gQ k) j) fr 0 z).2 j)) (fun u t => va_P (dC, dI) vwCl ([(g0, .inr (3, [.int (nI (n)), .int (nI (q)), .ref c1, .ref c2, .ref c3, .int (tot)])), (c1, .inl (cI, n, .inl (fun j => nI (u.1 j)))), (c2, .inl (cI, n, .inl (fun j => nI (le j)))), (c3, .inl (cI, n, .inl (fun j => nI (u.2 j)))), (h0, .inr (2, [.int (nI (n)), .int (nI (q)), .ref a1, .ref a2, .ref a3, .int (nI (bd)), .int (nI (fr))])), (a1, .inl (cG, n, .inr (.inr (.inr (.inr (fun j => some (gR j))))))), (a2, .inl (cI, n, .inl (fun j => oI (ro j)))), (a3, .inl (cG, n, .inr (.inr (.inr (.inr (fun j => some (gQ j)))))))] ++ va_pl L (pI cI pl pr)) t.heap ∧ va_K (dC, dI) vwCl [(cI, .int), (cG, .array .int)] t ∧ va_D (va_A ([(g0, .inr (3, [.int (nI (n)), .int (nI (q)), .ref c1, .ref c2, .ref c3, .int (tot)])), (c1, .inl (cI, n, .inl (fun j => nI (tr j)))), (c2, .inl (cI, n, .inl (fun j => nI (le j)))), (c3, .inl (cI, n, .inl (fun j => nI (tu j)))), (h0, .inr (2, [.int (nI (n)), .int (nI (q)), .ref a1, .ref a2, .ref a3, .int (nI (bd)), .int (nI (fr))])), (a1, .inl (cG, n, .inr (.inr (.inr (.inr (fun j => some (gR j))))))), (a2, .inl (cI, n, .inl (fun j => oI (ro j)))), (a3, .inl (cG, n, .inr (.inr (.inr (.inr (fun j => some (gQ j)))))))] ++ va_pl L (pI cI pl pr)) sz) ([(g0, .inr (3, [.int (nI (n)), .int (nI (q)), .ref c1, .ref c2, .ref c3, .int (tot)])), (c1, .inl (cI, n, .inl (fun j => nI (u.1 j)))), (c2, .inl (cI, n, .inl (fun j => nI (le j)))), (c3, .inl (cI, n, .inl (fun j => nI (u.2 j)))), (h0, .inr (2, [.int (nI (n)), .int (nI (q)), .ref a1, .ref a2, .ref a3, .int (nI (bd)), .int (nI (fr))])), (a1, .inl (cG, n, .inr (.inr (.inr (.inr (fun j => some (gR j))))))), (a2, .inl (cI, n, .inl (fun j => oI (ro j)))), (a3, .inl (cG, n, .inr (.inr (.inr (.inr (fun j => some (gQ j)))))))] ++ va_pl L (pI cI pl pr))) (va_A ([(g0, .inr (3, [.int (nI (n)), .int (nI (q)), .ref c1, .ref c2, .ref c3, .int (tot)])), (c1, .inl (cI, n, .inl (fun j => nI (tr j)))), (c2, .inl (cI, n, .inl (fun j => nI (le j)))), (c3, .inl (cI, n, .inl (fun j => nI (tu j)))), (h0, .inr (2, [.int (nI (n)), .int (nI (q)), .ref a1, .ref a2, .ref a3, .int (nI (bd)), .int (nI (fr))])), (a1, .inl (cG, n, .inr (.inr (.inr (.inr (fun j => some (gR j))))))), (a2, .inl (cI, n, .inl (fun j => oI (ro j)))), (a3, .inl (cG, n, .inr (.inr (.inr (.inr (fun j => some (gQ j)))))))] ++ va_pl L (pI cI pl pr)) sz)) 0 0 (va_A ([(g0, .inr (3, [.int (nI (n)), .int (nI (q)), .ref c1, .ref c2, .ref c3, .int (tot)])), (c1, .inl (cI, n, .inl (fun j => nI (tr j)))), (c2, .inl (cI, n, .inl (fun j => nI (le j)))), (c3, .inl (cI, n, .inl (fun j => nI (tu j)))), (h0, .inr (2, [.int (nI (n)), .int (nI (q)), .ref a1, .ref a2, .ref a3, .int (nI (bd)), .int (nI (fr))])), (a1, .inl (cG, n, .inr (.inr (.inr (.inr (fun j => some (gR j))))))), (a2, .inl (cI, n, .inl (fun j => oI (ro j)))), (a3, .inl (cG, n, .inr (.inr (.inr (.inr (fun j => some (gQ j)))))))] ++ va_pl L (pI cI pl pr)) sz) := by
  refine Met.ofW (cc := cX2_advance) (maxL := 3) (ret := none) (by decide) rfl ?_
  intro zp ze s m args below meth zc s₁ B hml hv
  obtain ⟨hargs, hsz, hP, hK, hD0⟩ := hv
  have hx := B.exec
  have hb := B.bytes
  have hr := B.returns
  have hts := atoms_spec (ws := wsX2_advance) B.pre
  have hown : s.vm.findClass RX2 = some m.cls := findClass_of_methodNamed B.named
  have hlocks := B.notSynchronized
  subst hsz
  obtain ⟨Q, hQ⟩ : ∃ Q, Q = MQ below (va_Qv (fun u : (Nat → Nat) × (Nat → Nat) => (∀ j, j < n → u.1 j = (adv q (fun k j => pr (gQ k) j) fr 0 z).1 j) ∧ (∀ j, j < n → u.2 j = (adv q (fun k j => pr (gQ k) j) fr 0 z).2 j)) (fun u t => va_P (dC, dI) vwCl ([(g0, .inr (3, [.int (nI (n)), .int (nI (q)), .ref c1, .ref c2, .ref c3, .int (tot)])), (c1, .inl (cI, n, .inl (fun j => nI (u.1 j)))), (c2, .inl (cI, n, .inl (fun j => nI (le j)))), (c3, .inl (cI, n, .inl (fun j => nI (u.2 j)))), (h0, .inr (2, [.int (nI (n)), .int (nI (q)), .ref a1, .ref a2, .ref a3, .int (nI (bd)), .int (nI (fr))])), (a1, .inl (cG, n, .inr (.inr (.inr (.inr (fun j => some (gR j))))))), (a2, .inl (cI, n, .inl (fun j => oI (ro j)))), (a3, .inl (cG, n, .inr (.inr (.inr (.inr (fun j => some (gQ j)))))))] ++ va_pl L (pI cI pl pr)) t.heap ∧ va_K (dC, dI) vwCl [(cI, .int), (cG, .array .int)] t ∧ va_D (va_A ([(g0, .inr (3, [.int (nI (n)), .int (nI (q)), .ref c1, .ref c2, .ref c3, .int (tot)])), (c1, .inl (cI, n, .inl (fun j => nI (tr j)))), (c2, .inl (cI, n, .inl (fun j => nI (le j)))), (c3, .inl (cI, n, .inl (fun j => nI (tu j)))), (h0, .inr (2, [.int (nI (n)), .int (nI (q)), .ref a1, .ref a2, .ref a3, .int (nI (bd)), .int (nI (fr))])), (a1, .inl (cG, n, .inr (.inr (.inr (.inr (fun j => some (gR j))))))), (a2, .inl (cI, n, .inl (fun j => oI (ro j)))), (a3, .inl (cG, n, .inr (.inr (.inr (.inr (fun j => some (gQ j)))))))] ++ va_pl L (pI cI pl pr)) s.heap.size) ([(g0, .inr (3, [.int (nI (n)), .int (nI (q)), .ref c1, .ref c2, .ref c3, .int (tot)])), (c1, .inl (cI, n, .inl (fun j => nI (u.1 j)))), (c2, .inl (cI, n, .inl (fun j => nI (le j)))), (c3, .inl (cI, n, .inl (fun j => nI (u.2 j)))), (h0, .inr (2, [.int (nI (n)), .int (nI (q)), .ref a1, .ref a2, .ref a3, .int (nI (bd)), .int (nI (fr))])), (a1, .inl (cG, n, .inr (.inr (.inr (.inr (fun j => some (gR j))))))), (a2, .inl (cI, n, .inl (fun j => oI (ro j)))), (a3, .inl (cG, n, .inr (.inr (.inr (.inr (fun j => some (gQ j)))))))] ++ va_pl L (pI cI pl pr))) (va_A ([(g0, .inr (3, [.int (nI (n)), .int (nI (q)), .ref c1, .ref c2, .ref c3, .int (tot)])), (c1, .inl (cI, n, .inl (fun j => nI (tr j)))), (c2, .inl (cI, n, .inl (fun j => nI (le j)))), (c3, .inl (cI, n, .inl (fun j => nI (tu j)))), (h0, .inr (2, [.int (nI (n)), .int (nI (q)), .ref a1, .ref a2, .ref a3, .int (nI (bd)), .int (nI (fr))])), (a1, .inl (cG, n, .inr (.inr (.inr (.inr (fun j => some (gR j))))))), (a2, .inl (cI, n, .inl (fun j => oI (ro j)))), (a3, .inl (cG, n, .inr (.inr (.inr (.inr (fun j => some (gQ j)))))))] ++ va_pl L (pI cI pl pr)) s.heap.size)) args s 0 0 (va_A ([(g0, .inr (3, [.int (nI (n)), .int (nI (q)), .ref c1, .ref c2, .ref c3, .int (tot)])), (c1, .inl (cI, n, .inl (fun j => nI (tr j)))), (c2, .inl (cI, n, .inl (fun j => nI (le j)))), (c3, .inl (cI, n, .inl (fun j => nI (tu j)))), (h0, .inr (2, [.int (nI (n)), .int (nI (q)), .ref a1, .ref a2, .ref a3, .int (nI (bd)), .int (nI (fr))])), (a1, .inl (cG, n, .inr (.inr (.inr (.inr (fun j => some (gR j))))))), (a2, .inl (cI, n, .inl (fun j => oI (ro j)))), (a3, .inl (cG, n, .inr (.inr (.inr (.inr (fun j => some (gQ j)))))))] ++ va_pl L (pI cI pl pr)) s.heap.size) := ⟨_, rfl⟩
  rw [← hQ]
  have hD := hD0.self (sz := s.heap.size)
  generalize hAe : (va_A ([(g0, .inr (3, [.int (nI (n)), .int (nI (q)), .ref c1, .ref c2, .ref c3, .int (tot)])), (c1, .inl (cI, n, .inl (fun j => nI (tr j)))), (c2, .inl (cI, n, .inl (fun j => nI (le j)))), (c3, .inl (cI, n, .inl (fun j => nI (tu j)))), (h0, .inr (2, [.int (nI (n)), .int (nI (q)), .ref a1, .ref a2, .ref a3, .int (nI (bd)), .int (nI (fr))])), (a1, .inl (cG, n, .inr (.inr (.inr (.inr (fun j => some (gR j))))))), (a2, .inl (cI, n, .inl (fun j => oI (ro j)))), (a3, .inl (cG, n, .inr (.inr (.inr (.inr (fun j => some (gQ j)))))))] ++ va_pl L (pI cI pl pr)) s.heap.size) = A at hD hQ
  have hA : ∀ q : Nat, s.heap.size ≤ q → A q := fun q h => by rw [← hAe]; exact Or.inr h
  have hS : va_S A s.heap s.heap [] := va_S.rf
  have hl := lv_entry ([.ref g0, .ref h0]) (n := 3) (Nat.le_of_ble_eq_true rfl)
  generalize hen : entryFrame m args 3 = fr
  rw [hargs, lg_entry_eq] at hen
  subst hen
  generalize (lg_sl ([.ref g0, .ref h0]) ++ List.replicate (3 - (lg_sl ([.ref g0, .ref h0])).length) Slot.unset).toArray = ls at hl ⊢
  have hl : lv_has ls 3 [(0, .ref g0), (1, .ref h0)] := hl
  have hinX1 : ∀ w ∈ wsX10, w ∈ wsX2_advance := by decide +kernel
  have hinX2 : ∀ w ∈ wsX20, w ∈ wsX2_advance := by decide +kernel
  have hf9 := hts (.fieldLink RX2 9 "LightRows$Search" "size" "I") (by decide +kernel)
  have hf15 := hts (.fieldLink RX2 15 "LightRows$Search" "modulus" "I") (by decide +kernel)
  have hf18 := hts (.fieldLink RX2 18 "LightRows$Search" "tried" "[I") (by decide +kernel)
  have hf25 := hts (.fieldLink RX2 25 "LightRows$Search" "turns" "[I") (by decide +kernel)
  refine lv_iconst (v := nI 0) hx hb dX2_advance_0 (by decide) ?_
  refine lv_istore_n (lv' := [(2, .int (nI (0))), (0, .ref g0), (1, .ref h0)]) hx hb dX2_advance_1 rfl hl (by decide) rfl (fun ls hl => ?_)
  have lp : ∀ (k : Nat) (i : Nat) (F : Nat → Nat) (T : Nat → Nat) (y : (Nat → Nat) × (Nat → Nat)), (i + k = fr) → (∀ j, j < n → F j = y.1 j) → (∀ j, j < n → T j = y.2 j) → (∀ j, j < n → y.1 j < q) → (∀ j, y.2 j < q) → (adv q (fun k j => pr (gQ k) j) fr 0 z = adv q (fun k j => pr (gQ k) j) k i y) → ∀ (H : Heap) (locs : List Loc), va_P (dC, dI) vwCl ([(g0, .inr (3, [.int (nI (n)), .int (nI (q)), .ref c1, .ref c2, .ref c3, .int (tot)])), (c1, .inl (cI, n, .inl (fun j => nI (F j)))), (c2, .inl (cI, n, .inl (fun j => nI (le j)))), (c3, .inl (cI, n, .inl (fun j => nI (T j)))), (h0, .inr (2, [.int (nI (n)), .int (nI (q)), .ref a1, .ref a2, .ref a3, .int (nI (bd)), .int (nI (fr))])), (a1, .inl (cG, n, .inr (.inr (.inr (.inr (fun j => some (gR j))))))), (a2, .inl (cI, n, .inl (fun j => oI (ro j)))), (a3, .inl (cG, n, .inr (.inr (.inr (.inr (fun j => some (gQ j)))))))] ++ va_pl L (pI cI pl pr)) H → va_D A ([(g0, .inr (3, [.int (nI (n)), .int (nI (q)), .ref c1, .ref c2, .ref c3, .int (tot)])), (c1, .inl (cI, n, .inl (fun j => nI (F j)))), (c2, .inl (cI, n, .inl (fun j => nI (le j)))), (c3, .inl (cI, n, .inl (fun j => nI (T j)))), (h0, .inr (2, [.int (nI (n)), .int (nI (q)), .ref a1, .ref a2, .ref a3, .int (nI (bd)), .int (nI (fr))])), (a1, .inl (cG, n, .inr (.inr (.inr (.inr (fun j => some (gR j))))))), (a2, .inl (cI, n, .inl (fun j => oI (ro j)))), (a3, .inl (cG, n, .inr (.inr (.inr (.inr (fun j => some (gQ j)))))))] ++ va_pl L (pI cI pl pr)) → va_S A s.heap H locs → ∀ (ls : Array Slot), lv_has ls 3 [(0, .ref g0), (1, .ref h0), (2, .int (nI (i)))] → W zp l ze (headSpec wsX2_advance ({ frames := 1, cells := 0, slots := 0, locals := 23 })).room s m args below meth zc H locs 0 0 Q (F0 m 2 ls []) := by
    intro k
    induction k with
    | zero =>
      intro i F T y hi h1 h2 h3 h4 hI H locs hP hD hS ls hl
      refine lv_iload_n hx hb dX2_advance_2 rfl (lv_at hl 2 rfl) ?_
      refine lv_aload_n hx hb dX2_advance_3 rfl (lv_at hl 1 rfl) ?_
      have hPc := hP.sub (ws' := [(h0, .inr (2, [.int (nI (n)), .int (nI (q)), .ref a1, .ref a2, .ref a3, .int (nI (bd)), .int (nI (fr))]))]) [4] rfl
      have hDc := hD.sub (ws' := [(h0, .inr (2, [.int (nI (n)), .int (nI (q)), .ref a1, .ref a2, .ref a3, .int (nI (bd)), .int (nI (fr))]))]) [4] (by decide) rfl
      have hFc := va_free (wc := [(h0, .inr (2, [.int (nI (n)), .int (nI (q)), .ref a1, .ref a2, .ref a3, .int (nI (bd)), .int (nI (fr))]))]) hD hS hA [4] rfl
      have hKc := hK.sub (tys' := []) [] rfl
      refine va_calli (va_runV (As := []) (rest := [.int (nI (i))]) ⟨hx, hb, hml, hown, hts⟩ (c_X1_freeLamps l dC dI H.size h0 (nI fr) (.int (nI n)) (.int (nI q)) (.ref a1) (.ref a2) (.ref a3) (.int (nI bd))) (cwV 0 hts gX2_advance_X1_freeLamps rfl rfl rfl (by decide +kernel) ⟨Nat.le_of_ble_eq_true rfl, Nat.le_of_ble_eq_true rfl⟩) ⟨fun a U g mk q => by obtain ⟨q0, q1, qP, qK, qD⟩ := q; exact ⟨q0, q1, qP, va_K.moved (u := U) (U := U.calling g mk a) (Vm.Alike.refl U.vm) qK, qD⟩, va_recv hKc hPc (ci := 2) (q0 := 0) rfl rfl, fun U hU hW => ⟨rfl, by rw [hU], by rw [hU]; exact hPc, va_K.moved hW.alike hKc, hDc.weaken (fun _ _ _ _ => trivial)⟩⟩ rfl rfl hl.1 rfl (lv_room (Nat.le_of_ble_eq_true rfl)) dX2_advance_4 ⟨Nat.zero_le _, Nat.zero_le _⟩) hS (fun q _ h => hFc q h) hFc (fun r1 u t H1 locs ht hvm hw hB hz1 hk1 hS => ?_)
      obtain ⟨hP1, hK1, hD1⟩ := hB
      rw [ht] at hP1
      try dsimp only at hw
      obtain ⟨hP, hD⟩ := va_joinQ (wr := [(g0, .inr (3, [.int (nI (n)), .int (nI (q)), .ref c1, .ref c2, .ref c3, .int (tot)])), (c1, .inl (cI, n, .inl (fun j => nI (F j)))), (c2, .inl (cI, n, .inl (fun j => nI (le j)))), (c3, .inl (cI, n, .inl (fun j => nI (T j)))), (a1, .inl (cG, n, .inr (.inr (.inr (.inr (fun j => some (gR j))))))), (a2, .inl (cI, n, .inl (fun j => oI (ro j)))), (a3, .inl (cG, n, .inr (.inr (.inr (.inr (fun j => some (gQ j)))))))]) (w1 := [(h0, .inr (2, [.int (nI (n)), .int (nI (q)), .ref a1, .ref a2, .ref a3, .int (nI (bd)), .int (nI (fr))]))]) hP hD [4] [0, 1, 2, 3, 5, 6, 7] rfl rfl (by decide) (by decide) hk1 hFc hP1 hD1
      generalize H1 = H at hP hS ⊢
      have hP := hP.part (cx := [(g0, .inr (3, [.int (nI (n)), .int (nI (q)), .ref c1, .ref c2, .ref c3, .int (tot)])), (c1, .inl (cI, n, .inl (fun j => nI (F j)))), (c2, .inl (cI, n, .inl (fun j => nI (le j)))), (c3, .inl (cI, n, .inl (fun j => nI (T j)))), (h0, .inr (2, [.int (nI (n)), .int (nI (q)), .ref a1, .ref a2, .ref a3, .int (nI (bd)), .int (nI (fr))])), (a1, .inl (cG, n, .inr (.inr (.inr (.inr (fun j => some (gR j))))))), (a2, .inl (cI, n, .inl (fun j => oI (ro j)))), (a3, .inl (cG, n, .inr (.inr (.inr (.inr (fun j => some (gQ j)))))))]) [0, 1, 2, 3, 7, 4, 5, 6] rfl
      have hD := hD.part (cx := [(g0, .inr (3, [.int (nI (n)), .int (nI (q)), .ref c1, .ref c2, .ref c3, .int (tot)])), (c1, .inl (cI, n, .inl (fun j => nI (F j)))), (c2, .inl (cI, n, .inl (fun j => nI (le j)))), (c3, .inl (cI, n, .inl (fun j => nI (T j)))), (h0, .inr (2, [.int (nI (n)), .int (nI (q)), .ref a1, .ref a2, .ref a3, .int (nI (bd)), .int (nI (fr))])), (a1, .inl (cG, n, .inr (.inr (.inr (.inr (fun j => some (gR j))))))), (a2, .inl (cI, n, .inl (fun j => oI (ro j)))), (a3, .inl (cG, n, .inr (.inr (.inr (.inr (fun j => some (gQ j)))))))]) [0, 1, 2, 3, 7, 4, 5, 6] (by decide) rfl
      have hP : va_P (dC, dI) vwCl ([(g0, .inr (3, [.int (nI (n)), .int (nI (q)), .ref c1, .ref c2, .ref c3, .int (tot)])), (c1, .inl (cI, n, .inl (fun j => nI (F j)))), (c2, .inl (cI, n, .inl (fun j => nI (le j)))), (c3, .inl (cI, n, .inl (fun j => nI (T j)))), (h0, .inr (2, [.int (nI (n)), .int (nI (q)), .ref a1, .ref a2, .ref a3, .int (nI (bd)), .int (nI (fr))])), (a1, .inl (cG, n, .inr (.inr (.inr (.inr (fun j => some (gR j))))))), (a2, .inl (cI, n, .inl (fun j => oI (ro j)))), (a3, .inl (cG, n, .inr (.inr (.inr (.inr (fun j => some (gQ j)))))))] ++ va_pl L (pI cI pl pr)) H := hP
      have hD : va_D A ([(g0, .inr (3, [.int (nI (n)), .int (nI (q)), .ref c1, .ref c2, .ref c3, .int (tot)])), (c1, .inl (cI, n, .inl (fun j => nI (F j)))), (c2, .inl (cI, n, .inl (fun j => nI (le j)))), (c3, .inl (cI, n, .inl (fun j => nI (T j)))), (h0, .inr (2, [.int (nI (n)), .int (nI (q)), .ref a1, .ref a2, .ref a3, .int (nI (bd)), .int (nI (fr))])), (a1, .inl (cG, n, .inr (.inr (.inr (.inr (fun j => some (gR j))))))), (a2, .inl (cI, n, .inl (fun j => oI (ro j)))), (a3, .inl (cG, n, .inr (.inr (.inr (.inr (fun j => some (gQ j)))))))] ++ va_pl L (pI cI pl pr)) := hD
      subst hw
      refine lv_icmp_ge (tgt := 56) hx hb dX2_advance_7 (by decide) (fun c => ?_) (fun c => ?_)
      · skip
        have c : fr ≤ i := (nI_leI (a := fr) (b := i) (by omega) (by omega)).mp c
        rw [hQ]
        exact W.vret hx hb hr (fun t ht hW => ⟨⟨(F, T), rfl, ⟨fun j hj => by rw [hI]; exact h1 j hj, fun j hj => by rw [hI]; exact h2 j hj⟩, by rw [ht]; exact hP, va_K.moved hW.alike hK, hD⟩, hS.F ht⟩) hS.2.2 dX2_advance_56
      · skip
        have c : i < fr := Nat.not_le.mp (fun h => c ((nI_leI (a := fr) (b := i) (by omega) (by omega)).mpr h))
        exact absurd c (by omega)
    | succ k ih =>
      intro i F T y hi h1 h2 h3 h4 hI H locs hP hD hS ls hl
      refine lv_iload_n hx hb dX2_advance_2 rfl (lv_at hl 2 rfl) ?_
      refine lv_aload_n hx hb dX2_advance_3 rfl (lv_at hl 1 rfl) ?_
      have hPc := hP.sub (ws' := [(h0, .inr (2, [.int (nI (n)), .int (nI (q)), .ref a1, .ref a2, .ref a3, .int (nI (bd)), .int (nI (fr))]))]) [4] rfl
      have hDc := hD.sub (ws' := [(h0, .inr (2, [.int (nI (n)), .int (nI (q)), .ref a1, .ref a2, .ref a3, .int (nI (bd)), .int (nI (fr))]))]) [4] (by decide) rfl
      have hFc := va_free (wc := [(h0, .inr (2, [.int (nI (n)), .int (nI (q)), .ref a1, .ref a2, .ref a3, .int (nI (bd)), .int (nI (fr))]))]) hD hS hA [4] rfl
      have hKc := hK.sub (tys' := []) [] rfl
      refine va_calli (va_runV (As := []) (rest := [.int (nI (i))]) ⟨hx, hb, hml, hown, hts⟩ (c_X1_freeLamps l dC dI H.size h0 (nI fr) (.int (nI n)) (.int (nI q)) (.ref a1) (.ref a2) (.ref a3) (.int (nI bd))) (cwV 0 hts gX2_advance_X1_freeLamps rfl rfl rfl (by decide +kernel) ⟨Nat.le_of_ble_eq_true rfl, Nat.le_of_ble_eq_true rfl⟩) ⟨fun a U g mk q => by obtain ⟨q0, q1, qP, qK, qD⟩ := q; exact ⟨q0, q1, qP, va_K.moved (u := U) (U := U.calling g mk a) (Vm.Alike.refl U.vm) qK, qD⟩, va_recv hKc hPc (ci := 2) (q0 := 0) rfl rfl, fun U hU hW => ⟨rfl, by rw [hU], by rw [hU]; exact hPc, va_K.moved hW.alike hKc, hDc.weaken (fun _ _ _ _ => trivial)⟩⟩ rfl rfl hl.1 rfl (lv_room (Nat.le_of_ble_eq_true rfl)) dX2_advance_4 ⟨Nat.zero_le _, Nat.zero_le _⟩) hS (fun q _ h => hFc q h) hFc (fun r2 u t H1 locs ht hvm hw hB hz1 hk1 hS => ?_)
      obtain ⟨hP1, hK1, hD1⟩ := hB
      rw [ht] at hP1
      try dsimp only at hw
      obtain ⟨hP, hD⟩ := va_joinQ (wr := [(g0, .inr (3, [.int (nI (n)), .int (nI (q)), .ref c1, .ref c2, .ref c3, .int (tot)])), (c1, .inl (cI, n, .inl (fun j => nI (F j)))), (c2, .inl (cI, n, .inl (fun j => nI (le j)))), (c3, .inl (cI, n, .inl (fun j => nI (T j)))), (a1, .inl (cG, n, .inr (.inr (.inr (.inr (fun j => some (gR j))))))), (a2, .inl (cI, n, .inl (fun j => oI (ro j)))), (a3, .inl (cG, n, .inr (.inr (.inr (.inr (fun j => some (gQ j)))))))]) (w1 := [(h0, .inr (2, [.int (nI (n)), .int (nI (q)), .ref a1, .ref a2, .ref a3, .int (nI (bd)), .int (nI (fr))]))]) hP hD [4] [0, 1, 2, 3, 5, 6, 7] rfl rfl (by decide) (by decide) hk1 hFc hP1 hD1
      generalize H1 = H at hP hS ⊢
      have hP := hP.part (cx := [(g0, .inr (3, [.int (nI (n)), .int (nI (q)), .ref c1, .ref c2, .ref c3, .int (tot)])), (c1, .inl (cI, n, .inl (fun j => nI (F j)))), (c2, .inl (cI, n, .inl (fun j => nI (le j)))), (c3, .inl (cI, n, .inl (fun j => nI (T j)))), (h0, .inr (2, [.int (nI (n)), .int (nI (q)), .ref a1, .ref a2, .ref a3, .int (nI (bd)), .int (nI (fr))])), (a1, .inl (cG, n, .inr (.inr (.inr (.inr (fun j => some (gR j))))))), (a2, .inl (cI, n, .inl (fun j => oI (ro j)))), (a3, .inl (cG, n, .inr (.inr (.inr (.inr (fun j => some (gQ j)))))))]) [0, 1, 2, 3, 7, 4, 5, 6] rfl
      have hD := hD.part (cx := [(g0, .inr (3, [.int (nI (n)), .int (nI (q)), .ref c1, .ref c2, .ref c3, .int (tot)])), (c1, .inl (cI, n, .inl (fun j => nI (F j)))), (c2, .inl (cI, n, .inl (fun j => nI (le j)))), (c3, .inl (cI, n, .inl (fun j => nI (T j)))), (h0, .inr (2, [.int (nI (n)), .int (nI (q)), .ref a1, .ref a2, .ref a3, .int (nI (bd)), .int (nI (fr))])), (a1, .inl (cG, n, .inr (.inr (.inr (.inr (fun j => some (gR j))))))), (a2, .inl (cI, n, .inl (fun j => oI (ro j)))), (a3, .inl (cG, n, .inr (.inr (.inr (.inr (fun j => some (gQ j)))))))]) [0, 1, 2, 3, 7, 4, 5, 6] (by decide) rfl
      have hP : va_P (dC, dI) vwCl ([(g0, .inr (3, [.int (nI (n)), .int (nI (q)), .ref c1, .ref c2, .ref c3, .int (tot)])), (c1, .inl (cI, n, .inl (fun j => nI (F j)))), (c2, .inl (cI, n, .inl (fun j => nI (le j)))), (c3, .inl (cI, n, .inl (fun j => nI (T j)))), (h0, .inr (2, [.int (nI (n)), .int (nI (q)), .ref a1, .ref a2, .ref a3, .int (nI (bd)), .int (nI (fr))])), (a1, .inl (cG, n, .inr (.inr (.inr (.inr (fun j => some (gR j))))))), (a2, .inl (cI, n, .inl (fun j => oI (ro j)))), (a3, .inl (cG, n, .inr (.inr (.inr (.inr (fun j => some (gQ j)))))))] ++ va_pl L (pI cI pl pr)) H := hP
      have hD : va_D A ([(g0, .inr (3, [.int (nI (n)), .int (nI (q)), .ref c1, .ref c2, .ref c3, .int (tot)])), (c1, .inl (cI, n, .inl (fun j => nI (F j)))), (c2, .inl (cI, n, .inl (fun j => nI (le j)))), (c3, .inl (cI, n, .inl (fun j => nI (T j)))), (h0, .inr (2, [.int (nI (n)), .int (nI (q)), .ref a1, .ref a2, .ref a3, .int (nI (bd)), .int (nI (fr))])), (a1, .inl (cG, n, .inr (.inr (.inr (.inr (fun j => some (gR j))))))), (a2, .inl (cI, n, .inl (fun j => oI (ro j)))), (a3, .inl (cG, n, .inr (.inr (.inr (.inr (fun j => some (gQ j)))))))] ++ va_pl L (pI cI pl pr)) := hD
      subst hw
      refine lv_icmp_ge (tgt := 56) hx hb dX2_advance_7 (by decide) (fun c => ?_) (fun c => ?_)
      · skip
        have c : fr ≤ i := (nI_leI (a := fr) (b := i) (by omega) (by omega)).mp c
        exact absurd c (by omega)
      · skip
        have c : i < fr := Nat.not_le.mp (fun h => c ((nI_leI (a := fr) (b := i) (by omega) (by omega)).mpr h))
        have g2 := hok.2.1 i (by omega)
        have b4 := h4 i
        have e2 := h2 i (by omega)
        refine lv_aload_n hx hb dX2_advance_10 rfl (lv_at hl 0 rfl) ?_
        refine lv_aload_n hx hb dX2_advance_11 rfl (lv_at hl 1 rfl) ?_
        refine lv_iload_n hx hb dX2_advance_12 rfl (lv_at hl 2 rfl) ?_
        have hPc := hP.part (cx := [(h0, .inr (2, [.int (nI (n)), .int (nI (q)), .ref a1, .ref a2, .ref a3, .int (nI (bd)), .int (nI (fr))])), (a1, .inl (cG, n, .inr (.inr (.inr (.inr (fun j => some (gR j))))))), (a2, .inl (cI, n, .inl (fun j => oI (ro j)))), (a3, .inl (cG, n, .inr (.inr (.inr (.inr (fun j => some (gQ j)))))))]) [4, 5, 6, 7] rfl
        have hDc := hD.part (cx := [(h0, .inr (2, [.int (nI (n)), .int (nI (q)), .ref a1, .ref a2, .ref a3, .int (nI (bd)), .int (nI (fr))])), (a1, .inl (cG, n, .inr (.inr (.inr (.inr (fun j => some (gR j))))))), (a2, .inl (cI, n, .inl (fun j => oI (ro j)))), (a3, .inl (cG, n, .inr (.inr (.inr (.inr (fun j => some (gQ j)))))))]) [4, 5, 6, 7] (by decide) rfl
        have hFc := va_freeP (cx := [(h0, .inr (2, [.int (nI (n)), .int (nI (q)), .ref a1, .ref a2, .ref a3, .int (nI (bd)), .int (nI (fr))])), (a1, .inl (cG, n, .inr (.inr (.inr (.inr (fun j => some (gR j))))))), (a2, .inl (cI, n, .inl (fun j => oI (ro j)))), (a3, .inl (cG, n, .inr (.inr (.inr (.inr (fun j => some (gQ j)))))))]) hD hS hA [4, 5, 6, 7] rfl
        have hKc := hK.sub (tys' := [(cI, .int), (cG, .array .int)]) [0, 1] rfl
        refine va_callr (va_runV (As := [.int (nI (i))]) (rest := [.ref g0]) ⟨hx, hb, hml, hown, hts⟩ (c_X1_quietPattern l dC dI H.size h0 a1 a2 a3 n q bd fr gR gQ ro cG cI L pl pr i hn (by omega)) (cwV 1 hts gX2_advance_X1_quietPattern rfl rfl rfl (by decide +kernel) ⟨Nat.le_of_ble_eq_true rfl, Nat.le_of_ble_eq_true rfl⟩) ⟨fun a U g mk q => by obtain ⟨q0, q1, qP, qK, qD⟩ := q; exact ⟨q0, q1, qP, va_K.moved (u := U) (U := U.calling g mk a) (Vm.Alike.refl U.vm) qK, qD⟩, va_recv hKc hPc (ci := 2) (q0 := 0) rfl rfl, fun U hU hW => ⟨rfl, by rw [hU], by rw [hU]; exact hPc, va_K.moved hW.alike hKc, hDc.weaken (fun _ _ _ _ => trivial)⟩⟩ rfl rfl hl.1 rfl (lv_room (Nat.le_of_ble_eq_true rfl)) dX2_advance_13 ⟨Nat.zero_le _, Nat.zero_le _⟩) hS (fun q _ h => hFc q h) hFc (fun u r3 t H1 locs ht hvm hw hB hz1 hk1 hS => ?_)
        obtain ⟨hra, hP1, hK1, hD1⟩ := hB
        rw [ht] at hP1
        try dsimp only at hw
        obtain ⟨hP, hD⟩ := va_joinP (wr := [(g0, .inr (3, [.int (nI (n)), .int (nI (q)), .ref c1, .ref c2, .ref c3, .int (tot)])), (c1, .inl (cI, n, .inl (fun j => nI (F j)))), (c2, .inl (cI, n, .inl (fun j => nI (le j)))), (c3, .inl (cI, n, .inl (fun j => nI (T j))))]) (rx := [(h0, .inr (2, [.int (nI (n)), .int (nI (q)), .ref a1, .ref a2, .ref a3, .int (nI (bd)), .int (nI (fr))])), (a1, .inl (cG, n, .inr (.inr (.inr (.inr (fun j => some (gR j))))))), (a2, .inl (cI, n, .inl (fun j => oI (ro j)))), (a3, .inl (cG, n, .inr (.inr (.inr (.inr (fun j => some (gQ j)))))))]) (pl1 := va_pl L (pI cI pl pr)) hP hD [4, 5, 6, 7] [0, 1, 2, 3] rfl rfl (by decide) (by decide) hk1 hFc hP1 hD1
        generalize H1 = H at hP hS ⊢
        have hP := hP.part (cx := [(g0, .inr (3, [.int (nI (n)), .int (nI (q)), .ref c1, .ref c2, .ref c3, .int (tot)])), (c1, .inl (cI, n, .inl (fun j => nI (F j)))), (c2, .inl (cI, n, .inl (fun j => nI (le j)))), (c3, .inl (cI, n, .inl (fun j => nI (T j)))), (h0, .inr (2, [.int (nI (n)), .int (nI (q)), .ref a1, .ref a2, .ref a3, .int (nI (bd)), .int (nI (fr))])), (a1, .inl (cG, n, .inr (.inr (.inr (.inr (fun j => some (gR j))))))), (a2, .inl (cI, n, .inl (fun j => oI (ro j)))), (a3, .inl (cG, n, .inr (.inr (.inr (.inr (fun j => some (gQ j)))))))]) [0, 1, 2, 3, 4, 5, 6, 7] rfl
        have hD := hD.part (cx := [(g0, .inr (3, [.int (nI (n)), .int (nI (q)), .ref c1, .ref c2, .ref c3, .int (tot)])), (c1, .inl (cI, n, .inl (fun j => nI (F j)))), (c2, .inl (cI, n, .inl (fun j => nI (le j)))), (c3, .inl (cI, n, .inl (fun j => nI (T j)))), (h0, .inr (2, [.int (nI (n)), .int (nI (q)), .ref a1, .ref a2, .ref a3, .int (nI (bd)), .int (nI (fr))])), (a1, .inl (cG, n, .inr (.inr (.inr (.inr (fun j => some (gR j))))))), (a2, .inl (cI, n, .inl (fun j => oI (ro j)))), (a3, .inl (cG, n, .inr (.inr (.inr (.inr (fun j => some (gQ j)))))))]) [0, 1, 2, 3, 4, 5, 6, 7] (by decide) rfl
        have hP : va_P (dC, dI) vwCl ([(g0, .inr (3, [.int (nI (n)), .int (nI (q)), .ref c1, .ref c2, .ref c3, .int (tot)])), (c1, .inl (cI, n, .inl (fun j => nI (F j)))), (c2, .inl (cI, n, .inl (fun j => nI (le j)))), (c3, .inl (cI, n, .inl (fun j => nI (T j)))), (h0, .inr (2, [.int (nI (n)), .int (nI (q)), .ref a1, .ref a2, .ref a3, .int (nI (bd)), .int (nI (fr))])), (a1, .inl (cG, n, .inr (.inr (.inr (.inr (fun j => some (gR j))))))), (a2, .inl (cI, n, .inl (fun j => oI (ro j)))), (a3, .inl (cG, n, .inr (.inr (.inr (.inr (fun j => some (gQ j)))))))] ++ va_pl L (pI cI pl pr)) H := hP
        have hD : va_D A ([(g0, .inr (3, [.int (nI (n)), .int (nI (q)), .ref c1, .ref c2, .ref c3, .int (tot)])), (c1, .inl (cI, n, .inl (fun j => nI (F j)))), (c2, .inl (cI, n, .inl (fun j => nI (le j)))), (c3, .inl (cI, n, .inl (fun j => nI (T j)))), (h0, .inr (2, [.int (nI (n)), .int (nI (q)), .ref a1, .ref a2, .ref a3, .int (nI (bd)), .int (nI (fr))])), (a1, .inl (cG, n, .inr (.inr (.inr (.inr (fun j => some (gR j))))))), (a2, .inl (cI, n, .inl (fun j => oI (ro j)))), (a3, .inl (cG, n, .inr (.inr (.inr (.inr (fun j => some (gQ j)))))))] ++ va_pl L (pI cI pl pr)) := hD
        subst hra
        have hPc := hP.part (cx := [(g0, .inr (3, [.int (nI (n)), .int (nI (q)), .ref c1, .ref c2, .ref c3, .int (tot)])), (c1, .inl (cI, n, .inl (fun j => nI (F j))))]) [0, 1] rfl
        have hDc := hD.part (cx := [(g0, .inr (3, [.int (nI (n)), .int (nI (q)), .ref c1, .ref c2, .ref c3, .int (tot)])), (c1, .inl (cI, n, .inl (fun j => nI (F j))))]) [0, 1] (by decide) rfl
        have hFc := va_freeP (cx := [(g0, .inr (3, [.int (nI (n)), .int (nI (q)), .ref c1, .ref c2, .ref c3, .int (tot)])), (c1, .inl (cI, n, .inl (fun j => nI (F j))))]) hD hS hA [0, 1] rfl
        have hKc := hK.sub (tys' := [(cI, .int)]) [0] rfl
        refine va_callv (va_runV (As := [.ref (gQ i)]) (rest := []) ⟨hx, hb, hml, hown, hts⟩ (c_X2_addToTried l dC dI H.size g0 c1 c2 c3 n q (gQ i) tot F cI L pl pr hn hq2 g2.1 g2.2 (fun j hj => by rw [h1 j hj]; have := h3 j hj; omega) (fun j hj => by have := hqp i (by omega) j hj; omega)) (cwV 1 hts gX2_advance_X2_addToTried rfl rfl rfl (by decide +kernel) ⟨Nat.le_of_ble_eq_true rfl, Nat.le_of_ble_eq_true rfl⟩) ⟨fun a U g mk q => by obtain ⟨q0, q1, qP, qK, qD⟩ := q; exact ⟨q0, q1, qP, va_K.moved (u := U) (U := U.calling g mk a) (Vm.Alike.refl U.vm) qK, qD⟩, va_recv hKc hPc (ci := 3) (q0 := 0) rfl rfl, fun U hU hW => ⟨rfl, by rw [hU], by rw [hU]; exact hPc, va_K.moved hW.alike hKc, hDc.weaken (fun _ _ _ _ => trivial)⟩⟩ rfl rfl hl.1 rfl (lv_room (Nat.le_of_ble_eq_true rfl)) dX2_advance_16 ⟨Nat.zero_le _, Nat.zero_le _⟩) hS (fun q _ h => hFc q h) hFc (fun u t H1 locs ht hvm hw hB hz1 hk1 hS => ?_)
        obtain ⟨hP1, hK1, hD1⟩ := hB
        rw [ht] at hP1
        try dsimp only at hw
        obtain ⟨hP, hD⟩ := va_joinP (wr := [(c2, .inl (cI, n, .inl (fun j => nI (le j)))), (c3, .inl (cI, n, .inl (fun j => nI (T j)))), (h0, .inr (2, [.int (nI (n)), .int (nI (q)), .ref a1, .ref a2, .ref a3, .int (nI (bd)), .int (nI (fr))])), (a1, .inl (cG, n, .inr (.inr (.inr (.inr (fun j => some (gR j))))))), (a2, .inl (cI, n, .inl (fun j => oI (ro j)))), (a3, .inl (cG, n, .inr (.inr (.inr (.inr (fun j => some (gQ j)))))))]) (rx := [(g0, .inr (3, [.int (nI (n)), .int (nI (q)), .ref c1, .ref c2, .ref c3, .int (tot)])), (c1, .inl (cI, n, .inl (fun j => nI (((fun j => if j < n then adq q (F j) (pr (gQ i) j) else F j)) j))))]) (pl1 := va_pl L (pI cI pl pr)) hP hD [0, 1] [2, 3, 4, 5, 6, 7] rfl rfl (by decide) (by decide) hk1 hFc hP1 hD1
        generalize H1 = H at hP hS ⊢
        have hP := hP.part (cx := [(g0, .inr (3, [.int (nI (n)), .int (nI (q)), .ref c1, .ref c2, .ref c3, .int (tot)])), (c1, .inl (cI, n, .inl (fun j => nI (((fun j => if j < n then adq q (F j) (pr (gQ i) j) else F j)) j)))), (c2, .inl (cI, n, .inl (fun j => nI (le j)))), (c3, .inl (cI, n, .inl (fun j => nI (T j)))), (h0, .inr (2, [.int (nI (n)), .int (nI (q)), .ref a1, .ref a2, .ref a3, .int (nI (bd)), .int (nI (fr))])), (a1, .inl (cG, n, .inr (.inr (.inr (.inr (fun j => some (gR j))))))), (a2, .inl (cI, n, .inl (fun j => oI (ro j)))), (a3, .inl (cG, n, .inr (.inr (.inr (.inr (fun j => some (gQ j)))))))]) [6, 7, 0, 1, 2, 3, 4, 5] rfl
        have hD := hD.part (cx := [(g0, .inr (3, [.int (nI (n)), .int (nI (q)), .ref c1, .ref c2, .ref c3, .int (tot)])), (c1, .inl (cI, n, .inl (fun j => nI (((fun j => if j < n then adq q (F j) (pr (gQ i) j) else F j)) j)))), (c2, .inl (cI, n, .inl (fun j => nI (le j)))), (c3, .inl (cI, n, .inl (fun j => nI (T j)))), (h0, .inr (2, [.int (nI (n)), .int (nI (q)), .ref a1, .ref a2, .ref a3, .int (nI (bd)), .int (nI (fr))])), (a1, .inl (cG, n, .inr (.inr (.inr (.inr (fun j => some (gR j))))))), (a2, .inl (cI, n, .inl (fun j => oI (ro j)))), (a3, .inl (cG, n, .inr (.inr (.inr (.inr (fun j => some (gQ j)))))))]) [6, 7, 0, 1, 2, 3, 4, 5] (by decide) rfl
        have hP : va_P (dC, dI) vwCl ([(g0, .inr (3, [.int (nI (n)), .int (nI (q)), .ref c1, .ref c2, .ref c3, .int (tot)])), (c1, .inl (cI, n, .inl (fun j => nI (((fun j => if j < n then adq q (F j) (pr (gQ i) j) else F j)) j)))), (c2, .inl (cI, n, .inl (fun j => nI (le j)))), (c3, .inl (cI, n, .inl (fun j => nI (T j)))), (h0, .inr (2, [.int (nI (n)), .int (nI (q)), .ref a1, .ref a2, .ref a3, .int (nI (bd)), .int (nI (fr))])), (a1, .inl (cG, n, .inr (.inr (.inr (.inr (fun j => some (gR j))))))), (a2, .inl (cI, n, .inl (fun j => oI (ro j)))), (a3, .inl (cG, n, .inr (.inr (.inr (.inr (fun j => some (gQ j)))))))] ++ va_pl L (pI cI pl pr)) H := hP
        have hD : va_D A ([(g0, .inr (3, [.int (nI (n)), .int (nI (q)), .ref c1, .ref c2, .ref c3, .int (tot)])), (c1, .inl (cI, n, .inl (fun j => nI (((fun j => if j < n then adq q (F j) (pr (gQ i) j) else F j)) j)))), (c2, .inl (cI, n, .inl (fun j => nI (le j)))), (c3, .inl (cI, n, .inl (fun j => nI (T j)))), (h0, .inr (2, [.int (nI (n)), .int (nI (q)), .ref a1, .ref a2, .ref a3, .int (nI (bd)), .int (nI (fr))])), (a1, .inl (cG, n, .inr (.inr (.inr (.inr (fun j => some (gR j))))))), (a2, .inl (cI, n, .inl (fun j => oI (ro j)))), (a3, .inl (cG, n, .inr (.inr (.inr (.inr (fun j => some (gQ j)))))))] ++ va_pl L (pI cI pl pr)) := hD
        refine lv_aload_n hx hb dX2_advance_19 rfl (lv_at hl 0 rfl) ?_
        refine va_get (D := (dC, dI)) (ci := 3) (v := .ref c3) (C := RX2) (T := TX2) (N := 6) hx hb hts hinX2 hown hK hP 0 rfl rfl 4 (by decide) hf25 (fun _ h9 => h9) rfl dX2_advance_20 ?_
        refine lv_iload_n hx hb dX2_advance_23 rfl (lv_at hl 2 rfl) ?_
        refine lv_dup2_11 hx hb dX2_advance_24 rfl rfl ?_
        refine ra_ld (g := nI) (F := T) hx hb hK hP 3 0 rfl rfl (by omega) (by omega) dX2_advance_25 ?_
        refine lv_iconst (v := nI 1) hx hb dX2_advance_26 (by decide) ?_
        refine lv_iadd hx hb dX2_advance_27 ?_
        refine tp_i (y := nI ((T i) + 1)) (nI_add _ _) ?_
        refine ra_st (g := nI) (F := T) (v := (T i) + 1) hx hb hK hP hD hS 3 0 rfl rfl (by omega) (by omega) dX2_advance_28 (fun H locs hP hD hS => ?_)
        have hP : va_P (dC, dI) vwCl ([(g0, .inr (3, [.int (nI (n)), .int (nI (q)), .ref c1, .ref c2, .ref c3, .int (tot)])), (c1, .inl (cI, n, .inl (fun j => nI (((fun j => if j < n then adq q (F j) (pr (gQ i) j) else F j)) j)))), (c2, .inl (cI, n, .inl (fun j => nI (le j)))), (c3, .inl (cI, n, .inl (fun j => nI ((va_up T i ((T i) + 1)) j)))), (h0, .inr (2, [.int (nI (n)), .int (nI (q)), .ref a1, .ref a2, .ref a3, .int (nI (bd)), .int (nI (fr))])), (a1, .inl (cG, n, .inr (.inr (.inr (.inr (fun j => some (gR j))))))), (a2, .inl (cI, n, .inl (fun j => oI (ro j)))), (a3, .inl (cG, n, .inr (.inr (.inr (.inr (fun j => some (gQ j)))))))] ++ va_pl L (pI cI pl pr)) H := hP
        have hD : va_D A ([(g0, .inr (3, [.int (nI (n)), .int (nI (q)), .ref c1, .ref c2, .ref c3, .int (tot)])), (c1, .inl (cI, n, .inl (fun j => nI (((fun j => if j < n then adq q (F j) (pr (gQ i) j) else F j)) j)))), (c2, .inl (cI, n, .inl (fun j => nI (le j)))), (c3, .inl (cI, n, .inl (fun j => nI ((va_up T i ((T i) + 1)) j)))), (h0, .inr (2, [.int (nI (n)), .int (nI (q)), .ref a1, .ref a2, .ref a3, .int (nI (bd)), .int (nI (fr))])), (a1, .inl (cG, n, .inr (.inr (.inr (.inr (fun j => some (gR j))))))), (a2, .inl (cI, n, .inl (fun j => oI (ro j)))), (a3, .inl (cG, n, .inr (.inr (.inr (.inr (fun j => some (gQ j)))))))] ++ va_pl L (pI cI pl pr)) := hD
        refine lv_aload_n hx hb dX2_advance_29 rfl (lv_at hl 0 rfl) ?_
        refine va_get (D := (dC, dI)) (ci := 3) (v := .ref c3) (C := RX2) (T := TX2) (N := 6) hx hb hts hinX2 hown hK hP 0 rfl rfl 4 (by decide) hf25 (fun _ h9 => h9) rfl dX2_advance_30 ?_
        refine lv_iload_n hx hb dX2_advance_33 rfl (lv_at hl 2 rfl) ?_
        refine ra_ld (g := nI) (F := (va_up T i ((T i) + 1))) hx hb hK hP 3 0 rfl rfl (by omega) (by omega) dX2_advance_34 ?_
        refine tp_i (y := nI (T i + 1)) (by rw [up_at]) ?_
        refine lv_aload_n hx hb dX2_advance_35 rfl (lv_at hl 0 rfl) ?_
        refine va_get (D := (dC, dI)) (ci := 3) (v := .int (nI (q))) (C := RX2) (T := TX2) (N := 6) hx hb hts hinX2 hown hK hP 0 rfl rfl 1 (by decide) hf15 (fun _ h9 => h9) rfl dX2_advance_36 ?_
        refine lv_icmp_ge (tgt := 43) hx hb dX2_advance_39 (by decide) (fun hc2 => ?_) (fun hc2 => ?_)
        · skip
          have hc2 : q ≤ T i + 1 := (nI_leI (a := q) (b := T i + 1) (by omega) (by omega)).mp hc2
          refine lv_aload_n hx hb dX2_advance_43 rfl (lv_at hl 0 rfl) ?_
          refine va_get (D := (dC, dI)) (ci := 3) (v := .ref c3) (C := RX2) (T := TX2) (N := 6) hx hb hts hinX2 hown hK hP 0 rfl rfl 4 (by decide) hf25 (fun _ h9 => h9) rfl dX2_advance_44 ?_
          refine lv_iload_n hx hb dX2_advance_47 rfl (lv_at hl 2 rfl) ?_
          refine lv_iconst (v := nI 0) hx hb dX2_advance_48 (by decide) ?_
          refine ra_st (g := nI) (F := (va_up T i ((T i) + 1))) (v := 0) hx hb hK hP hD hS 3 0 rfl rfl (by omega) (by omega) dX2_advance_49 (fun H locs hP hD hS => ?_)
          have hP : va_P (dC, dI) vwCl ([(g0, .inr (3, [.int (nI (n)), .int (nI (q)), .ref c1, .ref c2, .ref c3, .int (tot)])), (c1, .inl (cI, n, .inl (fun j => nI (((fun j => if j < n then adq q (F j) (pr (gQ i) j) else F j)) j)))), (c2, .inl (cI, n, .inl (fun j => nI (le j)))), (c3, .inl (cI, n, .inl (fun j => nI ((va_up (va_up T i ((T i) + 1)) i (0)) j)))), (h0, .inr (2, [.int (nI (n)), .int (nI (q)), .ref a1, .ref a2, .ref a3, .int (nI (bd)), .int (nI (fr))])), (a1, .inl (cG, n, .inr (.inr (.inr (.inr (fun j => some (gR j))))))), (a2, .inl (cI, n, .inl (fun j => oI (ro j)))), (a3, .inl (cG, n, .inr (.inr (.inr (.inr (fun j => some (gQ j)))))))] ++ va_pl L (pI cI pl pr)) H := hP
          have hD : va_D A ([(g0, .inr (3, [.int (nI (n)), .int (nI (q)), .ref c1, .ref c2, .ref c3, .int (tot)])), (c1, .inl (cI, n, .inl (fun j => nI (((fun j => if j < n then adq q (F j) (pr (gQ i) j) else F j)) j)))), (c2, .inl (cI, n, .inl (fun j => nI (le j)))), (c3, .inl (cI, n, .inl (fun j => nI ((va_up (va_up T i ((T i) + 1)) i (0)) j)))), (h0, .inr (2, [.int (nI (n)), .int (nI (q)), .ref a1, .ref a2, .ref a3, .int (nI (bd)), .int (nI (fr))])), (a1, .inl (cG, n, .inr (.inr (.inr (.inr (fun j => some (gR j))))))), (a2, .inl (cI, n, .inl (fun j => oI (ro j)))), (a3, .inl (cG, n, .inr (.inr (.inr (.inr (fun j => some (gQ j)))))))] ++ va_pl L (pI cI pl pr)) := hD
          refine lv_iinc (v := nI (i + 1)) (lv' := [(2, .int (nI (i + 1))), (0, .ref g0), (1, .ref h0)]) hx hb dX2_advance_50 hl (k := 2) rfl (nI_1 _) (by decide) rfl (fun ls hl => ?_)
          refine lv_goto (tgt := 2) hx hb dX2_advance_53 (by decide) ?_
          have eu : va_up (va_up T i (T i + 1)) i 0 = va_up T i 0 := up_up _ _ _ _
          rw [eu] at hP hD
          have hP : va_P (dC, dI) vwCl ([(g0, .inr (3, [.int (nI (n)), .int (nI (q)), .ref c1, .ref c2, .ref c3, .int (tot)])), (c1, .inl (cI, n, .inl (fun j => nI (((fun j => if j < n then adq q (F j) (pr (gQ i) j) else F j)) j)))), (c2, .inl (cI, n, .inl (fun j => nI (le j)))), (c3, .inl (cI, n, .inl (fun j => nI ((va_up T i 0) j)))), (h0, .inr (2, [.int (nI (n)), .int (nI (q)), .ref a1, .ref a2, .ref a3, .int (nI (bd)), .int (nI (fr))])), (a1, .inl (cG, n, .inr (.inr (.inr (.inr (fun j => some (gR j))))))), (a2, .inl (cI, n, .inl (fun j => oI (ro j)))), (a3, .inl (cG, n, .inr (.inr (.inr (.inr (fun j => some (gQ j)))))))] ++ va_pl L (pI cI pl pr)) H := hP
          have hD : va_D A ([(g0, .inr (3, [.int (nI (n)), .int (nI (q)), .ref c1, .ref c2, .ref c3, .int (tot)])), (c1, .inl (cI, n, .inl (fun j => nI (((fun j => if j < n then adq q (F j) (pr (gQ i) j) else F j)) j)))), (c2, .inl (cI, n, .inl (fun j => nI (le j)))), (c3, .inl (cI, n, .inl (fun j => nI ((va_up T i 0) j)))), (h0, .inr (2, [.int (nI (n)), .int (nI (q)), .ref a1, .ref a2, .ref a3, .int (nI (bd)), .int (nI (fr))])), (a1, .inl (cG, n, .inr (.inr (.inr (.inr (fun j => some (gR j))))))), (a2, .inl (cI, n, .inl (fun j => oI (ro j)))), (a3, .inl (cG, n, .inr (.inr (.inr (.inr (fun j => some (gQ j)))))))] ++ va_pl L (pI cI pl pr)) := hD
          exact ih (i + 1) (fun j => if j < n then adq q (F j) (pr (gQ i) j) else F j) (va_up T i 0) (fun j => adq q (y.1 j) (pr (gQ i) j), va_up y.2 i 0) (by omega) (fun j hj => by
                simp only [hj, if_true]; rw [h1 j hj]) (fun j hj => by
                dsimp only
                by_cases e : j = i
                · rw [e, up_at, up_at]
                · rw [up_of _ _ e, up_of _ _ e]; exact h2 j hj) (fun j hj => adq_lt (h3 j hj) (hqp i (by omega) j hj)) (fun j => by
                dsimp only
                by_cases e : j = i
                · rw [e, up_at]; omega
                · rw [up_of _ _ e]; exact h4 j) (by rw [hI, adv_next (by omega)]) _ _ hP hD hS ls (lv_sub hl [1, 2, 0] rfl)
        · skip
          have hc2 : T i + 1 < q := Nat.not_le.mp (fun h => hc2 ((nI_leI (a := q) (b := T i + 1) (by omega) (by omega)).mpr h))
          have ea := adv_step (f := k) (qp := (fun k j => pr (gQ k) j)) (show y.2 i + 1 < q by omega)
          rw [hQ]
          exact W.vret hx hb hr (fun t ht hW => ⟨⟨((fun j => if j < n then adq q (F j) (pr (gQ i) j) else F j), va_up T i (T i + 1)), rfl, ⟨fun j hj => by rw [hI, ea]; simp only [hj, if_true]; rw [h1 j hj], fun j hj => by
                rw [hI, ea]; dsimp only
                by_cases e : j = i
                · rw [e, up_at, up_at, e2]
                · rw [up_of _ _ e, up_of _ _ e]; exact h2 j hj⟩, by rw [ht]; exact hP, va_K.moved hW.alike hK, hD⟩, hS.F ht⟩) hS.2.2 dX2_advance_42
  exact lp fr 0 tr tu z (by omega) hz1 hz2 hz3 hz4 rfl _ _ hP hD hS ls (lv_sub hl [1, 2, 0] rfl)
end
section
theorem aut_le {q lim : Nat} (hq : q ≤ 100) : ∀ f a, a ≤ 100 * (lim + 1) → aut q lim f a ≤ 100 * (lim + 1)
  | 0, _, h => h
  | f + 1, a, h => by
    simp only [aut]
    split
    · exact h
    · refine aut_le hq f (a * q) ?_
      have := Nat.mul_le_mul (show a ≤ lim + 1 by omega) hq
      omega
theorem srK_1 (n : Nat) (t l u : Nat → Nat) (z : Nat) : (srK n t l u z).1 = t := by
  unfold srK; split <;> rfl
theorem srK_3 (n : Nat) (t l u : Nat → Nat) (z : Nat) : (srK n t l u z).2.2.1 = u := by
  unfold srK; split <;> rfl
end
section
set_option maxHeartbeats 4000000 in
set_option maxRecDepth 100000 in
theorem c_X2_run (l : Launch) (dC : Nat → ClassId) (dI : Nat → Nat → Nat) (sz : Nat) (g0 c1 c2 c3 : Nat) (tot : Int32) (tr le tu : Nat → Nat) (h0 a1 a2 a3 n q bd fr : Nat) (gR gQ : Nat → Nat) (ro : Nat → Option Nat) (cG : ClassId) (cI : ClassId) (L : List Nat) (pl : Nat → Nat) (pr : Nat → Nat → Nat) (hn : n < 1000) (hok : eqOK n gR gQ L pl) (hbd : bd ≤ n) (hfr : fr ≤ n) (hq : 2 ≤ q) (hq2 : q < 100) (hro : ∀ j, j < n → ∀ r, ro j = some r → r < n) (bx : ∀ i, i < n → pr (gR i) n < q) (hqp : ∀ k, k < fr → ∀ j, j < n → pr (gQ k) j < q) : Met l yX2_run wsX2_run ({ frames := 3, cells := 0, slots := 0, locals := 103 }) (va_Pc [.ref g0, .ref h0] (fun U => U.heap.size = sz ∧ va_P (dC, dI) vwCl ([(g0, .inr (3, [.int (nI (n)), .int (nI (q)), .ref c1, .ref c2, .ref c3, .int (tot)])), (c1, .inl (cI, n, .inl (fun j => nI (tr j)))), (c2, .inl (cI, n, .inl (fun j => nI (le j)))), (c3, .inl (cI, n, .inl (fun j => nI (tu j)))), (h0, .inr (2, [.int (nI (n)), .int (nI (q)), .ref a1, .ref a2, .ref a3, .int (nI (bd)), .int (nI (fr))])), (a1, .inl (cG, n, .inr (.inr (.inr (.inr (fun j => some (gR j))))))), (a2, .inl (cI, n, .inl (fun j => oI (ro j)))), (a3, .inl (cG, n, .inr (.inr (.inr (.inr (fun j => some (gQ j)))))))] ++ va_pl L (pI cI pl pr)) U.heap ∧ va_K (dC, dI) vwCl [(cI, .int), (cG, .array .int)] U ∧ va_D (fun _ => True) ([(g0, .inr (3, [.int (nI (n)), .int (nI (q)), .ref c1, .ref c2, .ref c3, .int (tot)])), (c1, .inl (cI, n, .inl (fun j => nI (tr j)))), (c2, .inl (cI, n, .inl (fun j => nI (le j)))), (c3, .inl (cI, n, .inl (fun j => nI (tu j)))), (h0, .inr (2, [.int (nI (n)), .int (nI (q)), .ref a1, .ref a2, .ref a3, .int (nI (bd)), .int (nI (fr))])), (a1, .inl (cG, n, .inr (.inr (.inr (.inr (fun j => some (gR j))))))), (a2, .inl (cI, n, .inl (fun j => oI (ro j)))), (a3, .inl (cG, n, .inr (.inr (.inr (.inr (fun j => some (gQ j)))))))] ++ va_pl L (pI cI pl pr)))) (va_Qv (fun u : (Nat → Nat) × (Nat → Nat) × (Nat → Nat) × Int32 => u.2.2.2 = rTot (if agr (fun i => pr (gR i)) n (n - bd) bd = true then aut q 20000 fr 1 else 0) (srN n q fr (fun k j => pr (gQ k) j) (prs (fun i => pr (gR i)) ro n) ((if agr (fun i => pr (gR i)) n (n - bd) bd = true then aut q 20000 fr 1 else 0) - 1)).2.2.2 ∧ (0 < (if agr (fun i => pr (gR i)) n (n - bd) bd = true then aut q 20000 fr 1 else 0) → (if agr (fun i => pr (gR i)) n (n - bd) bd = true then aut q 20000 fr 1 else 0) ≤ 20000 → ∀ j, j < n → u.2.1 j = (srN n q fr (fun k j => pr (gQ k) j) (prs (fun i => pr (gR i)) ro n) ((if agr (fun i => pr (gR i)) n (n - bd) bd = true then aut q 20000 fr 1 else 0) - 1)).2.1 j)) (fun u t => va_P (dC, dI) vwCl ([(g0, .inr (3, [.int (nI (n)), .int (nI (q)), .ref c1, .ref c2, .ref c3, .int ((u.2.2.2))])), (c1, .inl (cI, n, .inl (fun j => nI (u.1 j)))), (c2, .inl (cI, n, .inl (fun j => nI (u.2.1 j)))), (c3, .inl (cI, n, .inl (fun j => nI (u.2.2.1 j)))), (h0, .inr (2, [.int (nI (n)), .int (nI (q)), .ref a1, .ref a2, .ref a3, .int (nI (bd)), .int (nI (fr))])), (a1, .inl (cG, n, .inr (.inr (.inr (.inr (fun j => some (gR j))))))), (a2, .inl (cI, n, .inl (fun j => oI (ro j)))), (a3, .inl (cG, n, .inr (.inr (.inr (.inr (fun j => some (gQ j)))))))] ++ va_pl L (pI cI pl pr)) t.heap ∧ va_K (dC, dI) vwCl [(cI, .int), (cG, .array .int)] t ∧ va_D (va_A ([(g0, .inr (3, [.int (nI (n)), .int (nI (q)), .ref c1, .ref c2, .ref c3, .int (tot)])), (c1, .inl (cI, n, .inl (fun j => nI (tr j)))), (c2, .inl (cI, n, .inl (fun j => nI (le j)))), (c3, .inl (cI, n, .inl (fun j => nI (tu j)))), (h0, .inr (2, [.int (nI (n)), .int (nI (q)), .ref a1, .ref a2, .ref a3, .int (nI (bd)), .int (nI (fr))])), (a1, .inl (cG, n, .inr (.inr (.inr (.inr (fun j => some (gR j))))))), (a2, .inl (cI, n, .inl (fun j => oI (ro j)))), (a3, .inl (cG, n, .inr (.inr (.inr (.inr (fun j => some (gQ j)))))))] ++ va_pl L (pI cI pl pr)) sz) ([(g0, .inr (3, [.int (nI (n)), .int (nI (q)), .ref c1, .ref c2, .ref c3, .int ((u.2.2.2))])), (c1, .inl (cI, n, .inl (fun j => nI (u.1 j)))), (c2, .inl (cI, n, .inl (fun j => nI (u.2.1 j)))), (c3, .inl (cI, n, .inl (fun j => nI (u.2.2.1 j)))), (h0, .inr (2, [.int (nI (n)), .int (nI (q)), .ref a1, .ref a2, .ref a3, .int (nI (bd)), .int (nI (fr))])), (a1, .inl (cG, n, .inr (.inr (.inr (.inr (fun j => some (gR j))))))), (a2, .inl (cI, n, .inl (fun j => oI (ro j)))), (a3, .inl (cG, n, .inr (.inr (.inr (.inr (fun j => some (gQ j)))))))] ++ va_pl L (pI cI pl pr))) (va_A ([(g0, .inr (3, [.int (nI (n)), .int (nI (q)), .ref c1, .ref c2, .ref c3, .int (tot)])), (c1, .inl (cI, n, .inl (fun j => nI (tr j)))), (c2, .inl (cI, n, .inl (fun j => nI (le j)))), (c3, .inl (cI, n, .inl (fun j => nI (tu j)))), (h0, .inr (2, [.int (nI (n)), .int (nI (q)), .ref a1, .ref a2, .ref a3, .int (nI (bd)), .int (nI (fr))])), (a1, .inl (cG, n, .inr (.inr (.inr (.inr (fun j => some (gR j))))))), (a2, .inl (cI, n, .inl (fun j => oI (ro j)))), (a3, .inl (cG, n, .inr (.inr (.inr (.inr (fun j => some (gQ j)))))))] ++ va_pl L (pI cI pl pr)) sz)) 0 0 (va_A ([(g0, .inr (3, [.int (nI (n)), .int (nI (q)), .ref c1, .ref c2, .ref c3, .int (tot)])), (c1, .inl (cI, n, .inl (fun j => nI (tr j)))), (c2, .inl (cI, n, .inl (fun j => nI (le j)))), (c3, .inl (cI, n, .inl (fun j => nI (tu j)))), (h0, .inr (2, [.int (nI (n)), .int (nI (q)), .ref a1, .ref a2, .ref a3, .int (nI (bd)), .int (nI (fr))])), (a1, .inl (cG, n, .inr (.inr (.inr (.inr (fun j => some (gR j))))))), (a2, .inl (cI, n, .inl (fun j => oI (ro j)))), (a3, .inl (cG, n, .inr (.inr (.inr (.inr (fun j => some (gQ j)))))))] ++ va_pl L (pI cI pl pr)) sz) := by
  refine Met.ofW (cc := cX2_run) (maxL := 4) (ret := none) (by decide) rfl ?_
  intro zp ze s m args below meth zc s₁ B hml hv
  obtain ⟨hargs, hsz, hP, hK, hD0⟩ := hv
  have hx := B.exec
  have hb := B.bytes
  have hr := B.returns
  have hts := atoms_spec (ws := wsX2_run) B.pre
  have hown : s.vm.findClass RX2 = some m.cls := findClass_of_methodNamed B.named
  have hlocks := B.notSynchronized
  subst hsz
  obtain ⟨Q, hQ⟩ : ∃ Q, Q = MQ below (va_Qv (fun u : (Nat → Nat) × (Nat → Nat) × (Nat → Nat) × Int32 => u.2.2.2 = rTot (if agr (fun i => pr (gR i)) n (n - bd) bd = true then aut q 20000 fr 1 else 0) (srN n q fr (fun k j => pr (gQ k) j) (prs (fun i => pr (gR i)) ro n) ((if agr (fun i => pr (gR i)) n (n - bd) bd = true then aut q 20000 fr 1 else 0) - 1)).2.2.2 ∧ (0 < (if agr (fun i => pr (gR i)) n (n - bd) bd = true then aut q 20000 fr 1 else 0) → (if agr (fun i => pr (gR i)) n (n - bd) bd = true then aut q 20000 fr 1 else 0) ≤ 20000 → ∀ j, j < n → u.2.1 j = (srN n q fr (fun k j => pr (gQ k) j) (prs (fun i => pr (gR i)) ro n) ((if agr (fun i => pr (gR i)) n (n - bd) bd = true then aut q 20000 fr 1 else 0) - 1)).2.1 j)) (fun u t => va_P (dC, dI) vwCl ([(g0, .inr (3, [.int (nI (n)), .int (nI (q)), .ref c1, .ref c2, .ref c3, .int ((u.2.2.2))])), (c1, .inl (cI, n, .inl (fun j => nI (u.1 j)))), (c2, .inl (cI, n, .inl (fun j => nI (u.2.1 j)))), (c3, .inl (cI, n, .inl (fun j => nI (u.2.2.1 j)))), (h0, .inr (2, [.int (nI (n)), .int (nI (q)), .ref a1, .ref a2, .ref a3, .int (nI (bd)), .int (nI (fr))])), (a1, .inl (cG, n, .inr (.inr (.inr (.inr (fun j => some (gR j))))))), (a2, .inl (cI, n, .inl (fun j => oI (ro j)))), (a3, .inl (cG, n, .inr (.inr (.inr (.inr (fun j => some (gQ j)))))))] ++ va_pl L (pI cI pl pr)) t.heap ∧ va_K (dC, dI) vwCl [(cI, .int), (cG, .array .int)] t ∧ va_D (va_A ([(g0, .inr (3, [.int (nI (n)), .int (nI (q)), .ref c1, .ref c2, .ref c3, .int (tot)])), (c1, .inl (cI, n, .inl (fun j => nI (tr j)))), (c2, .inl (cI, n, .inl (fun j => nI (le j)))), (c3, .inl (cI, n, .inl (fun j => nI (tu j)))), (h0, .inr (2, [.int (nI (n)), .int (nI (q)), .ref a1, .ref a2, .ref a3, .int (nI (bd)), .int (nI (fr))])), (a1, .inl (cG, n, .inr (.inr (.inr (.inr (fun j => some (gR j))))))), (a2, .inl (cI, n, .inl (fun j => oI (ro j)))), (a3, .inl (cG, n, .inr (.inr (.inr (.inr (fun j => some (gQ j)))))))] ++ va_pl L (pI cI pl pr)) s.heap.size) ([(g0, .inr (3, [.int (nI (n)), .int (nI (q)), .ref c1, .ref c2, .ref c3, .int ((u.2.2.2))])), (c1, .inl (cI, n, .inl (fun j => nI (u.1 j)))), (c2, .inl (cI, n, .inl (fun j => nI (u.2.1 j)))), (c3, .inl (cI, n, .inl (fun j => nI (u.2.2.1 j)))), (h0, .inr (2, [.int (nI (n)), .int (nI (q)), .ref a1, .ref a2, .ref a3, .int (nI (bd)), .int (nI (fr))])), (a1, .inl (cG, n, .inr (.inr (.inr (.inr (fun j => some (gR j))))))), (a2, .inl (cI, n, .inl (fun j => oI (ro j)))), (a3, .inl (cG, n, .inr (.inr (.inr (.inr (fun j => some (gQ j)))))))] ++ va_pl L (pI cI pl pr))) (va_A ([(g0, .inr (3, [.int (nI (n)), .int (nI (q)), .ref c1, .ref c2, .ref c3, .int (tot)])), (c1, .inl (cI, n, .inl (fun j => nI (tr j)))), (c2, .inl (cI, n, .inl (fun j => nI (le j)))), (c3, .inl (cI, n, .inl (fun j => nI (tu j)))), (h0, .inr (2, [.int (nI (n)), .int (nI (q)), .ref a1, .ref a2, .ref a3, .int (nI (bd)), .int (nI (fr))])), (a1, .inl (cG, n, .inr (.inr (.inr (.inr (fun j => some (gR j))))))), (a2, .inl (cI, n, .inl (fun j => oI (ro j)))), (a3, .inl (cG, n, .inr (.inr (.inr (.inr (fun j => some (gQ j)))))))] ++ va_pl L (pI cI pl pr)) s.heap.size)) args s 0 0 (va_A ([(g0, .inr (3, [.int (nI (n)), .int (nI (q)), .ref c1, .ref c2, .ref c3, .int (tot)])), (c1, .inl (cI, n, .inl (fun j => nI (tr j)))), (c2, .inl (cI, n, .inl (fun j => nI (le j)))), (c3, .inl (cI, n, .inl (fun j => nI (tu j)))), (h0, .inr (2, [.int (nI (n)), .int (nI (q)), .ref a1, .ref a2, .ref a3, .int (nI (bd)), .int (nI (fr))])), (a1, .inl (cG, n, .inr (.inr (.inr (.inr (fun j => some (gR j))))))), (a2, .inl (cI, n, .inl (fun j => oI (ro j)))), (a3, .inl (cG, n, .inr (.inr (.inr (.inr (fun j => some (gQ j)))))))] ++ va_pl L (pI cI pl pr)) s.heap.size) := ⟨_, rfl⟩
  rw [← hQ]
  have hD := hD0.self (sz := s.heap.size)
  generalize hAe : (va_A ([(g0, .inr (3, [.int (nI (n)), .int (nI (q)), .ref c1, .ref c2, .ref c3, .int (tot)])), (c1, .inl (cI, n, .inl (fun j => nI (tr j)))), (c2, .inl (cI, n, .inl (fun j => nI (le j)))), (c3, .inl (cI, n, .inl (fun j => nI (tu j)))), (h0, .inr (2, [.int (nI (n)), .int (nI (q)), .ref a1, .ref a2, .ref a3, .int (nI (bd)), .int (nI (fr))])), (a1, .inl (cG, n, .inr (.inr (.inr (.inr (fun j => some (gR j))))))), (a2, .inl (cI, n, .inl (fun j => oI (ro j)))), (a3, .inl (cG, n, .inr (.inr (.inr (.inr (fun j => some (gQ j)))))))] ++ va_pl L (pI cI pl pr)) s.heap.size) = A at hD hQ
  have hA : ∀ q : Nat, s.heap.size ≤ q → A q := fun q h => by rw [← hAe]; exact Or.inr h
  have hS : va_S A s.heap s.heap [] := va_S.rf
  have hl := lv_entry ([.ref g0, .ref h0]) (n := 4) (Nat.le_of_ble_eq_true rfl)
  generalize hen : entryFrame m args 4 = fr
  rw [hargs, lg_entry_eq] at hen
  subst hen
  generalize (lg_sl ([.ref g0, .ref h0]) ++ List.replicate (4 - (lg_sl ([.ref g0, .ref h0])).length) Slot.unset).toArray = ls at hl ⊢
  have hl : lv_has ls 4 [(0, .ref g0), (1, .ref h0)] := hl
  have hinX1 : ∀ w ∈ wsX10, w ∈ wsX2_run := by decide +kernel
  have hinX2 : ∀ w ∈ wsX20, w ∈ wsX2_run := by decide +kernel
  have hf9 := hts (.fieldLink RX2 9 "LightRows$Search" "size" "I") (by decide +kernel)
  have hf15 := hts (.fieldLink RX2 15 "LightRows$Search" "modulus" "I") (by decide +kernel)
  have hf18 := hts (.fieldLink RX2 18 "LightRows$Search" "tried" "[I") (by decide +kernel)
  have hf22 := hts (.fieldLink RX2 22 "LightRows$Search" "least" "[I") (by decide +kernel)
  have hf25 := hts (.fieldLink RX2 25 "LightRows$Search" "turns" "[I") (by decide +kernel)
  have hf28 := hts (.fieldLink RX2 28 "LightRows$Search" "total" "I") (by decide +kernel)
  have han : ∀ j, j < n → (prs (fun i => pr (gR i)) ro n) j < q := fun j hj => by
    unfold prs
    rcases h : ro j with _ | r
    · dsimp only; omega
    · exact bx r (hro j hj r h)
  have hlt := srN_lt (n := n) (fr := fr) (qp := (fun k j => pr (gQ k) j)) (an := (prs (fun i => pr (gR i)) ro n)) (show 0 < q by omega) hqp han
  have nq : n * q ≤ 999 * 100 := Nat.mul_le_mul (by omega) (by omega)
  refine lv_aload_n hx hb dX2_run_0 rfl (lv_at hl 1 rfl) ?_
  refine lv_sipush (v := nI 20000) hx hb dX2_run_1 (by decide) ?_
  have hPc := hP.part (cx := [(h0, .inr (2, [.int (nI (n)), .int (nI (q)), .ref a1, .ref a2, .ref a3, .int (nI (bd)), .int (nI (fr))])), (a1, .inl (cG, n, .inr (.inr (.inr (.inr (fun j => some (gR j))))))), (a2, .inl (cI, n, .inl (fun j => oI (ro j)))), (a3, .inl (cG, n, .inr (.inr (.inr (.inr (fun j => some (gQ j)))))))]) [4, 5, 6, 7] rfl
  have hDc := hD.part (cx := [(h0, .inr (2, [.int (nI (n)), .int (nI (q)), .ref a1, .ref a2, .ref a3, .int (nI (bd)), .int (nI (fr))])), (a1, .inl (cG, n, .inr (.inr (.inr (.inr (fun j => some (gR j))))))), (a2, .inl (cI, n, .inl (fun j => oI (ro j)))), (a3, .inl (cG, n, .inr (.inr (.inr (.inr (fun j => some (gQ j)))))))]) [4, 5, 6, 7] (by decide) rfl
  have hFc := va_freeP (cx := [(h0, .inr (2, [.int (nI (n)), .int (nI (q)), .ref a1, .ref a2, .ref a3, .int (nI (bd)), .int (nI (fr))])), (a1, .inl (cG, n, .inr (.inr (.inr (.inr (fun j => some (gR j))))))), (a2, .inl (cI, n, .inl (fun j => oI (ro j)))), (a3, .inl (cG, n, .inr (.inr (.inr (.inr (fun j => some (gQ j)))))))]) hD hS hA [4, 5, 6, 7] rfl
  have hKc := hK.sub (tys' := [(cI, .int), (cG, .array .int)]) [0, 1] rfl
  refine va_calli (va_runV (As := [.int (nI (20000))]) (rest := []) ⟨hx, hb, hml, hown, hts⟩ (c_X1_answersUpTo l dC dI s.heap.size h0 a1 a2 a3 n q bd fr gR gQ ro cG cI L pl pr 20000 hn hok hbd hfr (fun i hi => by have := bx i hi; omega) (by omega) hq2 (by omega)) (cwV 1 hts gX2_run_X1_answersUpTo rfl rfl rfl (by decide +kernel) ⟨Nat.le_of_ble_eq_true rfl, Nat.le_of_ble_eq_true rfl⟩) ⟨fun a U g mk q => by obtain ⟨q0, q1, qP, qK, qD⟩ := q; exact ⟨q0, q1, qP, va_K.moved (u := U) (U := U.calling g mk a) (Vm.Alike.refl U.vm) qK, qD⟩, va_recv hKc hPc (ci := 2) (q0 := 0) rfl rfl, fun U hU hW => ⟨rfl, by rw [hU], by rw [hU]; exact hPc, va_K.moved hW.alike hKc, hDc.weaken (fun _ _ _ _ => trivial)⟩⟩ rfl rfl hl.1 rfl (lv_room (Nat.le_of_ble_eq_true rfl)) dX2_run_4 ⟨Nat.zero_le _, Nat.zero_le _⟩) hS (fun q _ h => hFc q h) hFc (fun r1 u t H1 locs ht hvm hw hB hz1 hk1 hS => ?_)
  obtain ⟨hP1, hK1, hD1⟩ := hB
  rw [ht] at hP1
  try dsimp only at hw
  obtain ⟨hP, hD⟩ := va_joinP (wr := [(g0, .inr (3, [.int (nI (n)), .int (nI (q)), .ref c1, .ref c2, .ref c3, .int (tot)])), (c1, .inl (cI, n, .inl (fun j => nI (tr j)))), (c2, .inl (cI, n, .inl (fun j => nI (le j)))), (c3, .inl (cI, n, .inl (fun j => nI (tu j))))]) (rx := [(h0, .inr (2, [.int (nI (n)), .int (nI (q)), .ref a1, .ref a2, .ref a3, .int (nI (bd)), .int (nI (fr))])), (a1, .inl (cG, n, .inr (.inr (.inr (.inr (fun j => some (gR j))))))), (a2, .inl (cI, n, .inl (fun j => oI (ro j)))), (a3, .inl (cG, n, .inr (.inr (.inr (.inr (fun j => some (gQ j)))))))]) (pl1 := va_pl L (pI cI pl pr)) hP hD [4, 5, 6, 7] [0, 1, 2, 3] rfl rfl (by decide) (by decide) hk1 hFc hP1 hD1
  generalize H1 = H at hP hS ⊢
  have hP := hP.part (cx := [(g0, .inr (3, [.int (nI (n)), .int (nI (q)), .ref c1, .ref c2, .ref c3, .int (tot)])), (c1, .inl (cI, n, .inl (fun j => nI (tr j)))), (c2, .inl (cI, n, .inl (fun j => nI (le j)))), (c3, .inl (cI, n, .inl (fun j => nI (tu j)))), (h0, .inr (2, [.int (nI (n)), .int (nI (q)), .ref a1, .ref a2, .ref a3, .int (nI (bd)), .int (nI (fr))])), (a1, .inl (cG, n, .inr (.inr (.inr (.inr (fun j => some (gR j))))))), (a2, .inl (cI, n, .inl (fun j => oI (ro j)))), (a3, .inl (cG, n, .inr (.inr (.inr (.inr (fun j => some (gQ j)))))))]) [0, 1, 2, 3, 4, 5, 6, 7] rfl
  have hD := hD.part (cx := [(g0, .inr (3, [.int (nI (n)), .int (nI (q)), .ref c1, .ref c2, .ref c3, .int (tot)])), (c1, .inl (cI, n, .inl (fun j => nI (tr j)))), (c2, .inl (cI, n, .inl (fun j => nI (le j)))), (c3, .inl (cI, n, .inl (fun j => nI (tu j)))), (h0, .inr (2, [.int (nI (n)), .int (nI (q)), .ref a1, .ref a2, .ref a3, .int (nI (bd)), .int (nI (fr))])), (a1, .inl (cG, n, .inr (.inr (.inr (.inr (fun j => some (gR j))))))), (a2, .inl (cI, n, .inl (fun j => oI (ro j)))), (a3, .inl (cG, n, .inr (.inr (.inr (.inr (fun j => some (gQ j)))))))]) [0, 1, 2, 3, 4, 5, 6, 7] (by decide) rfl
  have hP : va_P (dC, dI) vwCl ([(g0, .inr (3, [.int (nI (n)), .int (nI (q)), .ref c1, .ref c2, .ref c3, .int (tot)])), (c1, .inl (cI, n, .inl (fun j => nI (tr j)))), (c2, .inl (cI, n, .inl (fun j => nI (le j)))), (c3, .inl (cI, n, .inl (fun j => nI (tu j)))), (h0, .inr (2, [.int (nI (n)), .int (nI (q)), .ref a1, .ref a2, .ref a3, .int (nI (bd)), .int (nI (fr))])), (a1, .inl (cG, n, .inr (.inr (.inr (.inr (fun j => some (gR j))))))), (a2, .inl (cI, n, .inl (fun j => oI (ro j)))), (a3, .inl (cG, n, .inr (.inr (.inr (.inr (fun j => some (gQ j)))))))] ++ va_pl L (pI cI pl pr)) H := hP
  have hD : va_D A ([(g0, .inr (3, [.int (nI (n)), .int (nI (q)), .ref c1, .ref c2, .ref c3, .int (tot)])), (c1, .inl (cI, n, .inl (fun j => nI (tr j)))), (c2, .inl (cI, n, .inl (fun j => nI (le j)))), (c3, .inl (cI, n, .inl (fun j => nI (tu j)))), (h0, .inr (2, [.int (nI (n)), .int (nI (q)), .ref a1, .ref a2, .ref a3, .int (nI (bd)), .int (nI (fr))])), (a1, .inl (cG, n, .inr (.inr (.inr (.inr (fun j => some (gR j))))))), (a2, .inl (cI, n, .inl (fun j => oI (ro j)))), (a3, .inl (cG, n, .inr (.inr (.inr (.inr (fun j => some (gQ j)))))))] ++ va_pl L (pI cI pl pr)) := hD
  subst hw
  have hav : (if agr (fun i => pr (gR i)) n (n - bd) bd = true then aut q 20000 fr 1 else 0) ≤ 100 * 20001 := by
    split
    · exact aut_le (by omega) fr 1 (by omega)
    · omega
  generalize eav : (if agr (fun i => pr (gR i)) n (n - bd) bd = true then aut q 20000 fr 1 else 0) = av at hQ hav ⊢
  refine lv_istore_n (lv' := [(2, .int (nI (av))), (0, .ref g0), (1, .ref h0)]) hx hb dX2_run_7 rfl hl (by decide) rfl (fun ls hl => ?_)
  refine lv_iload_n hx hb dX2_run_8 rfl (lv_at hl 0 rfl) ?_
  refine lv_if_ne (tgt := 20) hx hb dX2_run_9 (by decide) (fun c => ?_) (fun c => ?_)
  · skip
    have c : av ≠ 0 := fun h => c ((nI_eq (a := av) (b := 0) (by omega) (by omega)).mpr h)
    refine lv_iload_n hx hb dX2_run_20 rfl (lv_at hl 0 rfl) ?_
    refine lv_sipush (v := nI 20000) hx hb dX2_run_21 (by decide) ?_
    refine lv_icmp_le (tgt := 36) hx hb dX2_run_24 (by decide) (fun hc2 => ?_) (fun hc2 => ?_)
    · skip
      have hc2 : av ≤ 20000 := (nI_leI (a := av) (b := 20000) (by omega) (by omega)).mp hc2
      refine lv_aload_n hx hb dX2_run_36 rfl (lv_at hl 1 rfl) ?_
      refine lv_aload_n hx hb dX2_run_37 rfl (lv_at hl 2 rfl) ?_
      have hPc := hP.part (cx := [(g0, .inr (3, [.int (nI (n)), .int (nI (q)), .ref c1, .ref c2, .ref c3, .int (tot)])), (c1, .inl (cI, n, .inl (fun j => nI (tr j)))), (c2, .inl (cI, n, .inl (fun j => nI (le j)))), (c3, .inl (cI, n, .inl (fun j => nI (tu j)))), (h0, .inr (2, [.int (nI (n)), .int (nI (q)), .ref a1, .ref a2, .ref a3, .int (nI (bd)), .int (nI (fr))])), (a1, .inl (cG, n, .inr (.inr (.inr (.inr (fun j => some (gR j))))))), (a2, .inl (cI, n, .inl (fun j => oI (ro j)))), (a3, .inl (cG, n, .inr (.inr (.inr (.inr (fun j => some (gQ j)))))))]) [0, 1, 2, 3, 4, 5, 6, 7] rfl
      have hDc := hD.part (cx := [(g0, .inr (3, [.int (nI (n)), .int (nI (q)), .ref c1, .ref c2, .ref c3, .int (tot)])), (c1, .inl (cI, n, .inl (fun j => nI (tr j)))), (c2, .inl (cI, n, .inl (fun j => nI (le j)))), (c3, .inl (cI, n, .inl (fun j => nI (tu j)))), (h0, .inr (2, [.int (nI (n)), .int (nI (q)), .ref a1, .ref a2, .ref a3, .int (nI (bd)), .int (nI (fr))])), (a1, .inl (cG, n, .inr (.inr (.inr (.inr (fun j => some (gR j))))))), (a2, .inl (cI, n, .inl (fun j => oI (ro j)))), (a3, .inl (cG, n, .inr (.inr (.inr (.inr (fun j => some (gQ j)))))))]) [0, 1, 2, 3, 4, 5, 6, 7] (by decide) rfl
      have hFc := va_freeP (cx := [(g0, .inr (3, [.int (nI (n)), .int (nI (q)), .ref c1, .ref c2, .ref c3, .int (tot)])), (c1, .inl (cI, n, .inl (fun j => nI (tr j)))), (c2, .inl (cI, n, .inl (fun j => nI (le j)))), (c3, .inl (cI, n, .inl (fun j => nI (tu j)))), (h0, .inr (2, [.int (nI (n)), .int (nI (q)), .ref a1, .ref a2, .ref a3, .int (nI (bd)), .int (nI (fr))])), (a1, .inl (cG, n, .inr (.inr (.inr (.inr (fun j => some (gR j))))))), (a2, .inl (cI, n, .inl (fun j => oI (ro j)))), (a3, .inl (cG, n, .inr (.inr (.inr (.inr (fun j => some (gQ j)))))))]) hD hS hA [0, 1, 2, 3, 4, 5, 6, 7] rfl
      have hKc := hK.sub (tys' := [(cI, .int), (cG, .array .int)]) [0, 1] rfl
      refine va_callv (va_runV (As := [.ref h0]) (rest := []) ⟨hx, hb, hml, hown, hts⟩ (c_X2_begin l dC dI H.size g0 c1 c2 c3 tot tr le tu h0 a1 a2 a3 n q bd fr gR gQ ro cG cI L pl pr hn hok hro) (cwV 1 hts gX2_run_X2_begin rfl rfl rfl (by decide +kernel) ⟨Nat.le_of_ble_eq_true rfl, Nat.le_of_ble_eq_true rfl⟩) ⟨fun a U g mk q => by obtain ⟨q0, q1, qP, qK, qD⟩ := q; exact ⟨q0, q1, qP, va_K.moved (u := U) (U := U.calling g mk a) (Vm.Alike.refl U.vm) qK, qD⟩, va_recv hKc hPc (ci := 3) (q0 := 0) rfl rfl, fun U hU hW => ⟨rfl, by rw [hU], by rw [hU]; exact hPc, va_K.moved hW.alike hKc, hDc.weaken (fun _ _ _ _ => trivial)⟩⟩ rfl rfl hl.1 rfl (lv_room (Nat.le_of_ble_eq_true rfl)) dX2_run_38 ⟨Nat.zero_le _, Nat.zero_le _⟩) hS (fun q _ h => hFc q h) hFc (fun u t H1 locs ht hvm hw hB hz1 hk1 hS => ?_)
      obtain ⟨f1, f2, f3⟩ := u
      obtain ⟨hP1, hK1, hD1⟩ := hB
      rw [ht] at hP1
      try dsimp only at hw
      obtain ⟨hP, hD⟩ := va_joinP (wr := []) (rx := [(g0, .inr (3, [.int (nI (n)), .int (nI (q)), .ref c1, .ref c2, .ref c3, .int (nI (sumF (prs (fun i => pr (gR i)) ro n) n))])), (c1, .inl (cI, n, .inl (fun j => nI (f1 j)))), (c2, .inl (cI, n, .inl (fun j => nI (f2 j)))), (c3, .inl (cI, n, .inl (fun j => nI (f3 j)))), (h0, .inr (2, [.int (nI (n)), .int (nI (q)), .ref a1, .ref a2, .ref a3, .int (nI (bd)), .int (nI (fr))])), (a1, .inl (cG, n, .inr (.inr (.inr (.inr (fun j => some (gR j))))))), (a2, .inl (cI, n, .inl (fun j => oI (ro j)))), (a3, .inl (cG, n, .inr (.inr (.inr (.inr (fun j => some (gQ j)))))))]) (pl1 := va_pl L (pI cI pl pr)) hP hD [0, 1, 2, 3, 4, 5, 6, 7] [] rfl rfl (by decide) (by decide) hk1 hFc hP1 hD1
      generalize H1 = H at hP hS ⊢
      have hP := hP.part (cx := [(g0, .inr (3, [.int (nI (n)), .int (nI (q)), .ref c1, .ref c2, .ref c3, .int (nI (sumF (prs (fun i => pr (gR i)) ro n) n))])), (c1, .inl (cI, n, .inl (fun j => nI (f1 j)))), (c2, .inl (cI, n, .inl (fun j => nI (f2 j)))), (c3, .inl (cI, n, .inl (fun j => nI (f3 j)))), (h0, .inr (2, [.int (nI (n)), .int (nI (q)), .ref a1, .ref a2, .ref a3, .int (nI (bd)), .int (nI (fr))])), (a1, .inl (cG, n, .inr (.inr (.inr (.inr (fun j => some (gR j))))))), (a2, .inl (cI, n, .inl (fun j => oI (ro j)))), (a3, .inl (cG, n, .inr (.inr (.inr (.inr (fun j => some (gQ j)))))))]) [0, 1, 2, 3, 4, 5, 6, 7] rfl
      have hD := hD.part (cx := [(g0, .inr (3, [.int (nI (n)), .int (nI (q)), .ref c1, .ref c2, .ref c3, .int (nI (sumF (prs (fun i => pr (gR i)) ro n) n))])), (c1, .inl (cI, n, .inl (fun j => nI (f1 j)))), (c2, .inl (cI, n, .inl (fun j => nI (f2 j)))), (c3, .inl (cI, n, .inl (fun j => nI (f3 j)))), (h0, .inr (2, [.int (nI (n)), .int (nI (q)), .ref a1, .ref a2, .ref a3, .int (nI (bd)), .int (nI (fr))])), (a1, .inl (cG, n, .inr (.inr (.inr (.inr (fun j => some (gR j))))))), (a2, .inl (cI, n, .inl (fun j => oI (ro j)))), (a3, .inl (cG, n, .inr (.inr (.inr (.inr (fun j => some (gQ j)))))))]) [0, 1, 2, 3, 4, 5, 6, 7] (by decide) rfl
      have hP : va_P (dC, dI) vwCl ([(g0, .inr (3, [.int (nI (n)), .int (nI (q)), .ref c1, .ref c2, .ref c3, .int (nI (sumF (prs (fun i => pr (gR i)) ro n) n))])), (c1, .inl (cI, n, .inl (fun j => nI (f1 j)))), (c2, .inl (cI, n, .inl (fun j => nI (f2 j)))), (c3, .inl (cI, n, .inl (fun j => nI (f3 j)))), (h0, .inr (2, [.int (nI (n)), .int (nI (q)), .ref a1, .ref a2, .ref a3, .int (nI (bd)), .int (nI (fr))])), (a1, .inl (cG, n, .inr (.inr (.inr (.inr (fun j => some (gR j))))))), (a2, .inl (cI, n, .inl (fun j => oI (ro j)))), (a3, .inl (cG, n, .inr (.inr (.inr (.inr (fun j => some (gQ j)))))))] ++ va_pl L (pI cI pl pr)) H := hP
      have hD : va_D A ([(g0, .inr (3, [.int (nI (n)), .int (nI (q)), .ref c1, .ref c2, .ref c3, .int (nI (sumF (prs (fun i => pr (gR i)) ro n) n))])), (c1, .inl (cI, n, .inl (fun j => nI (f1 j)))), (c2, .inl (cI, n, .inl (fun j => nI (f2 j)))), (c3, .inl (cI, n, .inl (fun j => nI (f3 j)))), (h0, .inr (2, [.int (nI (n)), .int (nI (q)), .ref a1, .ref a2, .ref a3, .int (nI (bd)), .int (nI (fr))])), (a1, .inl (cG, n, .inr (.inr (.inr (.inr (fun j => some (gR j))))))), (a2, .inl (cI, n, .inl (fun j => oI (ro j)))), (a3, .inl (cG, n, .inr (.inr (.inr (.inr (fun j => some (gQ j)))))))] ++ va_pl L (pI cI pl pr)) := hD
      refine lv_iconst (v := nI 1) hx hb dX2_run_41 (by decide) ?_
      refine lv_istore_n (lv' := [(3, .int (nI (1))), (2, .int (nI (av))), (0, .ref g0), (1, .ref h0)]) hx hb dX2_run_42 rfl hl (by decide) rfl (fun ls hl => ?_)
      have lp : ∀ (k : Nat) (i : Nat) (f1 : Nat → Nat) (f2 : Nat → Nat) (f3 : Nat → Nat) (y : srT), (i + 1 + k = av) → (y = srN n q fr (fun k j => pr (gQ k) j) (prs (fun i => pr (gR i)) ro n) i) → (∀ j, j < n → f1 j = y.1 j) → (∀ j, j < n → f2 j = y.2.1 j) → (∀ j, j < n → f3 j = y.2.2.1 j) → ∀ (H : Heap) (locs : List Loc), va_P (dC, dI) vwCl ([(g0, .inr (3, [.int (nI (n)), .int (nI (q)), .ref c1, .ref c2, .ref c3, .int (nI (y.2.2.2))])), (c1, .inl (cI, n, .inl (fun j => nI (f1 j)))), (c2, .inl (cI, n, .inl (fun j => nI (f2 j)))), (c3, .inl (cI, n, .inl (fun j => nI (f3 j)))), (h0, .inr (2, [.int (nI (n)), .int (nI (q)), .ref a1, .ref a2, .ref a3, .int (nI (bd)), .int (nI (fr))])), (a1, .inl (cG, n, .inr (.inr (.inr (.inr (fun j => some (gR j))))))), (a2, .inl (cI, n, .inl (fun j => oI (ro j)))), (a3, .inl (cG, n, .inr (.inr (.inr (.inr (fun j => some (gQ j)))))))] ++ va_pl L (pI cI pl pr)) H → va_D A ([(g0, .inr (3, [.int (nI (n)), .int (nI (q)), .ref c1, .ref c2, .ref c3, .int (nI (y.2.2.2))])), (c1, .inl (cI, n, .inl (fun j => nI (f1 j)))), (c2, .inl (cI, n, .inl (fun j => nI (f2 j)))), (c3, .inl (cI, n, .inl (fun j => nI (f3 j)))), (h0, .inr (2, [.int (nI (n)), .int (nI (q)), .ref a1, .ref a2, .ref a3, .int (nI (bd)), .int (nI (fr))])), (a1, .inl (cG, n, .inr (.inr (.inr (.inr (fun j => some (gR j))))))), (a2, .inl (cI, n, .inl (fun j => oI (ro j)))), (a3, .inl (cG, n, .inr (.inr (.inr (.inr (fun j => some (gQ j)))))))] ++ va_pl L (pI cI pl pr)) → va_S A s.heap H locs → ∀ (ls : Array Slot), lv_has ls 4 [(0, .ref g0), (1, .ref h0), (2, .int (nI (av))), (3, .int (nI (i + 1)))] → W zp l ze (headSpec wsX2_run ({ frames := 3, cells := 0, slots := 0, locals := 103 })).room s m args below meth zc H locs 0 0 Q (F0 m 43 ls []) := by
        intro k
        induction k with
        | zero =>
          intro i f1 f2 f3 y hi hy h1 h2 h3 H locs hP hD hS ls hl
          obtain ⟨l1, l2, l3, l4⟩ := hlt i
          rw [← hy] at l1 l2 l3 l4
          refine lv_iload_n hx hb dX2_run_43 rfl (lv_at hl 3 rfl) ?_
          refine lv_iload_n hx hb dX2_run_44 rfl (lv_at hl 2 rfl) ?_
          refine lv_icmp_ge (tgt := 63) hx hb dX2_run_45 (by decide) (fun hc3 => ?_) (fun hc3 => ?_)
          · skip
            have hc3 : av ≤ i + 1 := (nI_leI (a := av) (b := i + 1) (by omega) (by omega)).mp hc3
            have ei : av - 1 = i := by omega
            rw [hQ]
            exact W.vret hx hb hr (fun t ht hW => ⟨⟨(f1, f2, f3, nI y.2.2.2), rfl, ⟨by show _ = rTot _ _; unfold rTot; rw [if_neg (by omega), if_neg (by omega), ei, hy], fun _ _ j hj => by rw [ei, ← hy]; exact h2 j hj⟩, by rw [ht]; exact hP, va_K.moved hW.alike hK, hD⟩, hS.F ht⟩) hS.2.2 dX2_run_63
          · skip
            have hc3 : i + 1 < av := Nat.not_le.mp (fun h => hc3 ((nI_leI (a := av) (b := i + 1) (by omega) (by omega)).mpr h))
            exact absurd hc3 (by omega)
        | succ k ih =>
          intro i f1 f2 f3 y hi hy h1 h2 h3 H locs hP hD hS ls hl
          obtain ⟨l1, l2, l3, l4⟩ := hlt i
          rw [← hy] at l1 l2 l3 l4
          refine lv_iload_n hx hb dX2_run_43 rfl (lv_at hl 3 rfl) ?_
          refine lv_iload_n hx hb dX2_run_44 rfl (lv_at hl 2 rfl) ?_
          refine lv_icmp_ge (tgt := 63) hx hb dX2_run_45 (by decide) (fun hc3 => ?_) (fun hc3 => ?_)
          · skip
            have hc3 : av ≤ i + 1 := (nI_leI (a := av) (b := i + 1) (by omega) (by omega)).mp hc3
            exact absurd hc3 (by omega)
          · skip
            have hc3 : i + 1 < av := Nat.not_le.mp (fun h => hc3 ((nI_leI (a := av) (b := i + 1) (by omega) (by omega)).mpr h))
            refine lv_aload_n hx hb dX2_run_48 rfl (lv_at hl 0 rfl) ?_
            refine lv_aload_n hx hb dX2_run_49 rfl (lv_at hl 1 rfl) ?_
            have hPc := hP.part (cx := [(g0, .inr (3, [.int (nI (n)), .int (nI (q)), .ref c1, .ref c2, .ref c3, .int (nI (y.2.2.2))])), (c1, .inl (cI, n, .inl (fun j => nI (f1 j)))), (c2, .inl (cI, n, .inl (fun j => nI (f2 j)))), (c3, .inl (cI, n, .inl (fun j => nI (f3 j)))), (h0, .inr (2, [.int (nI (n)), .int (nI (q)), .ref a1, .ref a2, .ref a3, .int (nI (bd)), .int (nI (fr))])), (a1, .inl (cG, n, .inr (.inr (.inr (.inr (fun j => some (gR j))))))), (a2, .inl (cI, n, .inl (fun j => oI (ro j)))), (a3, .inl (cG, n, .inr (.inr (.inr (.inr (fun j => some (gQ j)))))))]) [0, 1, 2, 3, 4, 5, 6, 7] rfl
            have hDc := hD.part (cx := [(g0, .inr (3, [.int (nI (n)), .int (nI (q)), .ref c1, .ref c2, .ref c3, .int (nI (y.2.2.2))])), (c1, .inl (cI, n, .inl (fun j => nI (f1 j)))), (c2, .inl (cI, n, .inl (fun j => nI (f2 j)))), (c3, .inl (cI, n, .inl (fun j => nI (f3 j)))), (h0, .inr (2, [.int (nI (n)), .int (nI (q)), .ref a1, .ref a2, .ref a3, .int (nI (bd)), .int (nI (fr))])), (a1, .inl (cG, n, .inr (.inr (.inr (.inr (fun j => some (gR j))))))), (a2, .inl (cI, n, .inl (fun j => oI (ro j)))), (a3, .inl (cG, n, .inr (.inr (.inr (.inr (fun j => some (gQ j)))))))]) [0, 1, 2, 3, 4, 5, 6, 7] (by decide) rfl
            have hFc := va_freeP (cx := [(g0, .inr (3, [.int (nI (n)), .int (nI (q)), .ref c1, .ref c2, .ref c3, .int (nI (y.2.2.2))])), (c1, .inl (cI, n, .inl (fun j => nI (f1 j)))), (c2, .inl (cI, n, .inl (fun j => nI (f2 j)))), (c3, .inl (cI, n, .inl (fun j => nI (f3 j)))), (h0, .inr (2, [.int (nI (n)), .int (nI (q)), .ref a1, .ref a2, .ref a3, .int (nI (bd)), .int (nI (fr))])), (a1, .inl (cG, n, .inr (.inr (.inr (.inr (fun j => some (gR j))))))), (a2, .inl (cI, n, .inl (fun j => oI (ro j)))), (a3, .inl (cG, n, .inr (.inr (.inr (.inr (fun j => some (gQ j)))))))]) hD hS hA [0, 1, 2, 3, 4, 5, 6, 7] rfl
            have hKc := hK.sub (tys' := [(cI, .int), (cG, .array .int)]) [0, 1] rfl
            refine va_callv (va_runV (As := [.ref h0]) (rest := []) ⟨hx, hb, hml, hown, hts⟩ (c_X2_advance l dC dI H.size g0 c1 c2 c3 (nI y.2.2.2) f1 f2 f3 h0 a1 a2 a3 n q bd fr gR gQ ro cG cI L pl pr (y.1, y.2.2.1) hn hok hfr hq hq2 hqp h1 h3 l1 l3) (cwV 1 hts gX2_run_X2_advance rfl rfl rfl (by decide +kernel) ⟨Nat.le_of_ble_eq_true rfl, Nat.le_of_ble_eq_true rfl⟩) ⟨fun a U g mk q => by obtain ⟨q0, q1, qP, qK, qD⟩ := q; exact ⟨q0, q1, qP, va_K.moved (u := U) (U := U.calling g mk a) (Vm.Alike.refl U.vm) qK, qD⟩, va_recv hKc hPc (ci := 3) (q0 := 0) rfl rfl, fun U hU hW => ⟨rfl, by rw [hU], by rw [hU]; exact hPc, va_K.moved hW.alike hKc, hDc.weaken (fun _ _ _ _ => trivial)⟩⟩ rfl rfl hl.1 rfl (lv_room (Nat.le_of_ble_eq_true rfl)) dX2_run_50 ⟨Nat.zero_le _, Nat.zero_le _⟩) hS (fun q _ h => hFc q h) hFc (fun u t H1 locs ht hvm hw1 hB hz1 hk1 hS => ?_)
            obtain ⟨e1, e3⟩ := u
            obtain ⟨hP1, hK1, hD1⟩ := hB
            rw [ht] at hP1
            try dsimp only at hw1
            obtain ⟨hP, hD⟩ := va_joinP (wr := []) (rx := [(g0, .inr (3, [.int (nI (n)), .int (nI (q)), .ref c1, .ref c2, .ref c3, .int (nI (y.2.2.2))])), (c1, .inl (cI, n, .inl (fun j => nI (e1 j)))), (c2, .inl (cI, n, .inl (fun j => nI (f2 j)))), (c3, .inl (cI, n, .inl (fun j => nI (e3 j)))), (h0, .inr (2, [.int (nI (n)), .int (nI (q)), .ref a1, .ref a2, .ref a3, .int (nI (bd)), .int (nI (fr))])), (a1, .inl (cG, n, .inr (.inr (.inr (.inr (fun j => some (gR j))))))), (a2, .inl (cI, n, .inl (fun j => oI (ro j)))), (a3, .inl (cG, n, .inr (.inr (.inr (.inr (fun j => some (gQ j)))))))]) (pl1 := va_pl L (pI cI pl pr)) hP hD [0, 1, 2, 3, 4, 5, 6, 7] [] rfl rfl (by decide) (by decide) hk1 hFc hP1 hD1
            generalize H1 = H at hP hS ⊢
            have hP := hP.part (cx := [(g0, .inr (3, [.int (nI (n)), .int (nI (q)), .ref c1, .ref c2, .ref c3, .int (nI (y.2.2.2))])), (c1, .inl (cI, n, .inl (fun j => nI (e1 j)))), (c2, .inl (cI, n, .inl (fun j => nI (f2 j)))), (c3, .inl (cI, n, .inl (fun j => nI (e3 j)))), (h0, .inr (2, [.int (nI (n)), .int (nI (q)), .ref a1, .ref a2, .ref a3, .int (nI (bd)), .int (nI (fr))])), (a1, .inl (cG, n, .inr (.inr (.inr (.inr (fun j => some (gR j))))))), (a2, .inl (cI, n, .inl (fun j => oI (ro j)))), (a3, .inl (cG, n, .inr (.inr (.inr (.inr (fun j => some (gQ j)))))))]) [0, 1, 2, 3, 4, 5, 6, 7] rfl
            have hD := hD.part (cx := [(g0, .inr (3, [.int (nI (n)), .int (nI (q)), .ref c1, .ref c2, .ref c3, .int (nI (y.2.2.2))])), (c1, .inl (cI, n, .inl (fun j => nI (e1 j)))), (c2, .inl (cI, n, .inl (fun j => nI (f2 j)))), (c3, .inl (cI, n, .inl (fun j => nI (e3 j)))), (h0, .inr (2, [.int (nI (n)), .int (nI (q)), .ref a1, .ref a2, .ref a3, .int (nI (bd)), .int (nI (fr))])), (a1, .inl (cG, n, .inr (.inr (.inr (.inr (fun j => some (gR j))))))), (a2, .inl (cI, n, .inl (fun j => oI (ro j)))), (a3, .inl (cG, n, .inr (.inr (.inr (.inr (fun j => some (gQ j)))))))]) [0, 1, 2, 3, 4, 5, 6, 7] (by decide) rfl
            have hP : va_P (dC, dI) vwCl ([(g0, .inr (3, [.int (nI (n)), .int (nI (q)), .ref c1, .ref c2, .ref c3, .int (nI (y.2.2.2))])), (c1, .inl (cI, n, .inl (fun j => nI (e1 j)))), (c2, .inl (cI, n, .inl (fun j => nI (f2 j)))), (c3, .inl (cI, n, .inl (fun j => nI (e3 j)))), (h0, .inr (2, [.int (nI (n)), .int (nI (q)), .ref a1, .ref a2, .ref a3, .int (nI (bd)), .int (nI (fr))])), (a1, .inl (cG, n, .inr (.inr (.inr (.inr (fun j => some (gR j))))))), (a2, .inl (cI, n, .inl (fun j => oI (ro j)))), (a3, .inl (cG, n, .inr (.inr (.inr (.inr (fun j => some (gQ j)))))))] ++ va_pl L (pI cI pl pr)) H := hP
            have hD : va_D A ([(g0, .inr (3, [.int (nI (n)), .int (nI (q)), .ref c1, .ref c2, .ref c3, .int (nI (y.2.2.2))])), (c1, .inl (cI, n, .inl (fun j => nI (e1 j)))), (c2, .inl (cI, n, .inl (fun j => nI (f2 j)))), (c3, .inl (cI, n, .inl (fun j => nI (e3 j)))), (h0, .inr (2, [.int (nI (n)), .int (nI (q)), .ref a1, .ref a2, .ref a3, .int (nI (bd)), .int (nI (fr))])), (a1, .inl (cG, n, .inr (.inr (.inr (.inr (fun j => some (gR j))))))), (a2, .inl (cI, n, .inl (fun j => oI (ro j)))), (a3, .inl (cG, n, .inr (.inr (.inr (.inr (fun j => some (gQ j)))))))] ++ va_pl L (pI cI pl pr)) := hD
            have la := adv_lt (show 0 < q by omega) hqp fr 0 (y.1, y.2.2.1) (by omega) l1 l3
            refine lv_aload_n hx hb dX2_run_53 rfl (lv_at hl 0 rfl) ?_
            have hPc := hP.sub (ws' := [(g0, .inr (3, [.int (nI (n)), .int (nI (q)), .ref c1, .ref c2, .ref c3, .int (nI (y.2.2.2))])), (c1, .inl (cI, n, .inl (fun j => nI (e1 j)))), (c2, .inl (cI, n, .inl (fun j => nI (f2 j))))]) [0, 1, 2] rfl
            have hDc := hD.sub (ws' := [(g0, .inr (3, [.int (nI (n)), .int (nI (q)), .ref c1, .ref c2, .ref c3, .int (nI (y.2.2.2))])), (c1, .inl (cI, n, .inl (fun j => nI (e1 j)))), (c2, .inl (cI, n, .inl (fun j => nI (f2 j))))]) [0, 1, 2] (by decide) rfl
            have hFc := va_free (wc := [(g0, .inr (3, [.int (nI (n)), .int (nI (q)), .ref c1, .ref c2, .ref c3, .int (nI (y.2.2.2))])), (c1, .inl (cI, n, .inl (fun j => nI (e1 j)))), (c2, .inl (cI, n, .inl (fun j => nI (f2 j))))]) hD hS hA [0, 1, 2] rfl
            have hKc := hK.sub (tys' := [(cI, .int)]) [0] rfl
            refine va_callv (va_runV (As := []) (rest := []) ⟨hx, hb, hml, hown, hts⟩ (c_X2_keepIfLess l dC dI H.size g0 c1 c2 c3 n q y.2.2.2 e1 f2 (adv q (fun k j => pr (gQ k) j) fr 0 (y.1, y.2.2.1)).2 cI hn (by omega) (fun j hj => by rw [hw1.1 j hj]; exact Nat.lt_trans (la.1 j hj) hq2) (fun j hj => by rw [h2 j hj]; have := l2 j hj; omega)) (cwV 0 hts gX2_run_X2_keepIfLess rfl rfl rfl (by decide +kernel) ⟨Nat.le_of_ble_eq_true rfl, Nat.le_of_ble_eq_true rfl⟩) ⟨fun a U g mk q => by obtain ⟨q0, q1, qP, qK, qD⟩ := q; exact ⟨q0, q1, qP, va_K.moved (u := U) (U := U.calling g mk a) (Vm.Alike.refl U.vm) qK, qD⟩, va_recv hKc hPc (ci := 3) (q0 := 0) rfl rfl, fun U hU hW => ⟨rfl, by rw [hU], by rw [hU]; exact hPc, va_K.moved hW.alike hKc, hDc.weaken (fun _ _ _ _ => trivial)⟩⟩ rfl rfl hl.1 rfl (lv_room (Nat.le_of_ble_eq_true rfl)) dX2_run_54 ⟨Nat.zero_le _, Nat.zero_le _⟩) hS (fun q _ h => hFc q h) hFc (fun u t H1 locs ht hvm hw2 hB hz1 hk1 hS => ?_)
            obtain ⟨e2, e4⟩ := u
            obtain ⟨hP1, hK1, hD1⟩ := hB
            rw [ht] at hP1
            try dsimp only at hw2
            obtain ⟨hP, hD⟩ := va_joinQ (wr := [(c3, .inl (cI, n, .inl (fun j => nI (e3 j)))), (h0, .inr (2, [.int (nI (n)), .int (nI (q)), .ref a1, .ref a2, .ref a3, .int (nI (bd)), .int (nI (fr))])), (a1, .inl (cG, n, .inr (.inr (.inr (.inr (fun j => some (gR j))))))), (a2, .inl (cI, n, .inl (fun j => oI (ro j)))), (a3, .inl (cG, n, .inr (.inr (.inr (.inr (fun j => some (gQ j)))))))]) (w1 := [(g0, .inr (3, [.int (nI (n)), .int (nI (q)), .ref c1, .ref c2, .ref c3, .int (nI (e4))])), (c1, .inl (cI, n, .inl (fun j => nI (e1 j)))), (c2, .inl (cI, n, .inl (fun j => nI (e2 j))))]) hP hD [0, 1, 2] [3, 4, 5, 6, 7] rfl rfl (by decide) (by decide) hk1 hFc hP1 hD1
            generalize H1 = H at hP hS ⊢
            have hP := hP.part (cx := [(g0, .inr (3, [.int (nI (n)), .int (nI (q)), .ref c1, .ref c2, .ref c3, .int (nI (e4))])), (c1, .inl (cI, n, .inl (fun j => nI (e1 j)))), (c2, .inl (cI, n, .inl (fun j => nI (e2 j)))), (c3, .inl (cI, n, .inl (fun j => nI (e3 j)))), (h0, .inr (2, [.int (nI (n)), .int (nI (q)), .ref a1, .ref a2, .ref a3, .int (nI (bd)), .int (nI (fr))])), (a1, .inl (cG, n, .inr (.inr (.inr (.inr (fun j => some (gR j))))))), (a2, .inl (cI, n, .inl (fun j => oI (ro j)))), (a3, .inl (cG, n, .inr (.inr (.inr (.inr (fun j => some (gQ j)))))))]) [5, 6, 7, 0, 1, 2, 3, 4] rfl
            have hD := hD.part (cx := [(g0, .inr (3, [.int (nI (n)), .int (nI (q)), .ref c1, .ref c2, .ref c3, .int (nI (e4))])), (c1, .inl (cI, n, .inl (fun j => nI (e1 j)))), (c2, .inl (cI, n, .inl (fun j => nI (e2 j)))), (c3, .inl (cI, n, .inl (fun j => nI (e3 j)))), (h0, .inr (2, [.int (nI (n)), .int (nI (q)), .ref a1, .ref a2, .ref a3, .int (nI (bd)), .int (nI (fr))])), (a1, .inl (cG, n, .inr (.inr (.inr (.inr (fun j => some (gR j))))))), (a2, .inl (cI, n, .inl (fun j => oI (ro j)))), (a3, .inl (cG, n, .inr (.inr (.inr (.inr (fun j => some (gQ j)))))))]) [5, 6, 7, 0, 1, 2, 3, 4] (by decide) rfl
            have hP : va_P (dC, dI) vwCl ([(g0, .inr (3, [.int (nI (n)), .int (nI (q)), .ref c1, .ref c2, .ref c3, .int (nI (e4))])), (c1, .inl (cI, n, .inl (fun j => nI (e1 j)))), (c2, .inl (cI, n, .inl (fun j => nI (e2 j)))), (c3, .inl (cI, n, .inl (fun j => nI (e3 j)))), (h0, .inr (2, [.int (nI (n)), .int (nI (q)), .ref a1, .ref a2, .ref a3, .int (nI (bd)), .int (nI (fr))])), (a1, .inl (cG, n, .inr (.inr (.inr (.inr (fun j => some (gR j))))))), (a2, .inl (cI, n, .inl (fun j => oI (ro j)))), (a3, .inl (cG, n, .inr (.inr (.inr (.inr (fun j => some (gQ j)))))))] ++ va_pl L (pI cI pl pr)) H := hP
            have hD : va_D A ([(g0, .inr (3, [.int (nI (n)), .int (nI (q)), .ref c1, .ref c2, .ref c3, .int (nI (e4))])), (c1, .inl (cI, n, .inl (fun j => nI (e1 j)))), (c2, .inl (cI, n, .inl (fun j => nI (e2 j)))), (c3, .inl (cI, n, .inl (fun j => nI (e3 j)))), (h0, .inr (2, [.int (nI (n)), .int (nI (q)), .ref a1, .ref a2, .ref a3, .int (nI (bd)), .int (nI (fr))])), (a1, .inl (cG, n, .inr (.inr (.inr (.inr (fun j => some (gR j))))))), (a2, .inl (cI, n, .inl (fun j => oI (ro j)))), (a3, .inl (cG, n, .inr (.inr (.inr (.inr (fun j => some (gQ j)))))))] ++ va_pl L (pI cI pl pr)) := hD
            refine lv_iinc (v := nI (i + 1 + 1)) (lv' := [(3, .int (nI (i + 1 + 1))), (0, .ref g0), (1, .ref h0), (2, .int (nI (av)))]) hx hb dX2_run_57 hl (k := 3) rfl (nI_1 _) (by decide) rfl (fun ls hl => ?_)
            refine lv_goto (tgt := 43) hx hb dX2_run_60 (by decide) ?_
            have hk := srK_congr (n := n) (u := (adv q (fun k j => pr (gQ k) j) fr 0 (y.1, y.2.2.1)).2) (z := y.2.2.2) hw1.1 h2
            have es : srS n q fr (fun k j => pr (gQ k) j) y = srK n (adv q (fun k j => pr (gQ k) j) fr 0 (y.1, y.2.2.1)).1 y.2.1 (adv q (fun k j => pr (gQ k) j) fr 0 (y.1, y.2.2.1)).2 y.2.2.2 := rfl
            have e4e : e4 = (srS n q fr (fun k j => pr (gQ k) j) y).2.2.2 := by rw [es, ← hk.2]; exact hw2.2
            rw [e4e] at hP hD
            have hP : va_P (dC, dI) vwCl ([(g0, .inr (3, [.int (nI (n)), .int (nI (q)), .ref c1, .ref c2, .ref c3, .int (nI ((srS n q fr (fun k j => pr (gQ k) j) y).2.2.2))])), (c1, .inl (cI, n, .inl (fun j => nI (e1 j)))), (c2, .inl (cI, n, .inl (fun j => nI (e2 j)))), (c3, .inl (cI, n, .inl (fun j => nI (e3 j)))), (h0, .inr (2, [.int (nI (n)), .int (nI (q)), .ref a1, .ref a2, .ref a3, .int (nI (bd)), .int (nI (fr))])), (a1, .inl (cG, n, .inr (.inr (.inr (.inr (fun j => some (gR j))))))), (a2, .inl (cI, n, .inl (fun j => oI (ro j)))), (a3, .inl (cG, n, .inr (.inr (.inr (.inr (fun j => some (gQ j)))))))] ++ va_pl L (pI cI pl pr)) H := hP
            have hD : va_D A ([(g0, .inr (3, [.int (nI (n)), .int (nI (q)), .ref c1, .ref c2, .ref c3, .int (nI ((srS n q fr (fun k j => pr (gQ k) j) y).2.2.2))])), (c1, .inl (cI, n, .inl (fun j => nI (e1 j)))), (c2, .inl (cI, n, .inl (fun j => nI (e2 j)))), (c3, .inl (cI, n, .inl (fun j => nI (e3 j)))), (h0, .inr (2, [.int (nI (n)), .int (nI (q)), .ref a1, .ref a2, .ref a3, .int (nI (bd)), .int (nI (fr))])), (a1, .inl (cG, n, .inr (.inr (.inr (.inr (fun j => some (gR j))))))), (a2, .inl (cI, n, .inl (fun j => oI (ro j)))), (a3, .inl (cG, n, .inr (.inr (.inr (.inr (fun j => some (gQ j)))))))] ++ va_pl L (pI cI pl pr)) := hD
            exact ih (i + 1) e1 e2 e3 (srS n q fr (fun k j => pr (gQ k) j) y) (by omega) (by rw [hy]; rfl) (fun j hj => by rw [es]; rw [srK_1]; exact hw1.1 j hj) (fun j hj => by rw [es, ← hk.1 j hj]; exact hw2.1 j hj) (fun j hj => by rw [es]; rw [srK_3]; exact hw1.2 j hj) _ _ hP hD hS ls (lv_sub hl [1, 2, 3, 0] rfl)
      exact lp (av - 1) 0 f1 f2 f3 (srB n (prs (fun i => pr (gR i)) ro n)) (by omega) rfl hw.1 hw.2.1 hw.2.2 _ _ hP hD hS ls (lv_sub hl [2, 3, 1, 0] rfl)
    · skip
      have hc2 : 20000 < av := Nat.not_le.mp (fun h => hc2 ((nI_leI (a := av) (b := 20000) (by omega) (by omega)).mpr h))
      refine lv_aload_n hx hb dX2_run_27 rfl (lv_at hl 1 rfl) ?_
      refine lv_bipush (v := (-2)) hx hb dX2_run_28 (by decide) ?_
      refine va_put (D := (dC, dI)) (ci := 3) (v := .int ((-2))) (ty := .int) (C := RX2) (T := TX2) (N := 6) hx hb hts hinX2 tyX2 tyX2_ok nmX2 hown hK hP hD hS 0 rfl rfl 5 (by decide) hf28 (fun _ h9 => h9) rfl (by decide +kernel) rfl rfl (Nat.le_of_ble_eq_true rfl) dX2_run_30 (fun H locs hP hD hS => ?_)
      have hP : va_P (dC, dI) vwCl ([(g0, .inr (3, [.int (nI (n)), .int (nI (q)), .ref c1, .ref c2, .ref c3, .int ((-2))])), (c1, .inl (cI, n, .inl (fun j => nI (tr j)))), (c2, .inl (cI, n, .inl (fun j => nI (le j)))), (c3, .inl (cI, n, .inl (fun j => nI (tu j)))), (h0, .inr (2, [.int (nI (n)), .int (nI (q)), .ref a1, .ref a2, .ref a3, .int (nI (bd)), .int (nI (fr))])), (a1, .inl (cG, n, .inr (.inr (.inr (.inr (fun j => some (gR j))))))), (a2, .inl (cI, n, .inl (fun j => oI (ro j)))), (a3, .inl (cG, n, .inr (.inr (.inr (.inr (fun j => some (gQ j)))))))] ++ va_pl L (pI cI pl pr)) H := hP
      have hD : va_D A ([(g0, .inr (3, [.int (nI (n)), .int (nI (q)), .ref c1, .ref c2, .ref c3, .int ((-2))])), (c1, .inl (cI, n, .inl (fun j => nI (tr j)))), (c2, .inl (cI, n, .inl (fun j => nI (le j)))), (c3, .inl (cI, n, .inl (fun j => nI (tu j)))), (h0, .inr (2, [.int (nI (n)), .int (nI (q)), .ref a1, .ref a2, .ref a3, .int (nI (bd)), .int (nI (fr))])), (a1, .inl (cG, n, .inr (.inr (.inr (.inr (fun j => some (gR j))))))), (a2, .inl (cI, n, .inl (fun j => oI (ro j)))), (a3, .inl (cG, n, .inr (.inr (.inr (.inr (fun j => some (gQ j)))))))] ++ va_pl L (pI cI pl pr)) := hD
      refine lv_goto (tgt := 63) hx hb dX2_run_33 (by decide) ?_
      rw [hQ]
      exact W.vret hx hb hr (fun t ht hW => ⟨⟨(tr, le, tu, -2), rfl, ⟨by show _ = rTot _ _; unfold rTot; rw [if_neg (by omega), if_pos (by omega)], fun h3 h4 => absurd h4 (by omega)⟩, by rw [ht]; exact hP, va_K.moved hW.alike hK, hD⟩, hS.F ht⟩) hS.2.2 dX2_run_63
  · skip
    have c : av = 0 := (nI_eq (a := av) (b := 0) (by omega) (by omega)).mp c
    subst c
    refine lv_aload_n hx hb dX2_run_12 rfl (lv_at hl 1 rfl) ?_
    refine lv_iconst (v := (-1)) hx hb dX2_run_13 (by decide) ?_
    refine va_put (D := (dC, dI)) (ci := 3) (v := .int ((-1))) (ty := .int) (C := RX2) (T := TX2) (N := 6) hx hb hts hinX2 tyX2 tyX2_ok nmX2 hown hK hP hD hS 0 rfl rfl 5 (by decide) hf28 (fun _ h9 => h9) rfl (by decide +kernel) rfl rfl (Nat.le_of_ble_eq_true rfl) dX2_run_14 (fun H locs hP hD hS => ?_)
    have hP : va_P (dC, dI) vwCl ([(g0, .inr (3, [.int (nI (n)), .int (nI (q)), .ref c1, .ref c2, .ref c3, .int ((-1))])), (c1, .inl (cI, n, .inl (fun j => nI (tr j)))), (c2, .inl (cI, n, .inl (fun j => nI (le j)))), (c3, .inl (cI, n, .inl (fun j => nI (tu j)))), (h0, .inr (2, [.int (nI (n)), .int (nI (q)), .ref a1, .ref a2, .ref a3, .int (nI (bd)), .int (nI (fr))])), (a1, .inl (cG, n, .inr (.inr (.inr (.inr (fun j => some (gR j))))))), (a2, .inl (cI, n, .inl (fun j => oI (ro j)))), (a3, .inl (cG, n, .inr (.inr (.inr (.inr (fun j => some (gQ j)))))))] ++ va_pl L (pI cI pl pr)) H := hP
    have hD : va_D A ([(g0, .inr (3, [.int (nI (n)), .int (nI (q)), .ref c1, .ref c2, .ref c3, .int ((-1))])), (c1, .inl (cI, n, .inl (fun j => nI (tr j)))), (c2, .inl (cI, n, .inl (fun j => nI (le j)))), (c3, .inl (cI, n, .inl (fun j => nI (tu j)))), (h0, .inr (2, [.int (nI (n)), .int (nI (q)), .ref a1, .ref a2, .ref a3, .int (nI (bd)), .int (nI (fr))])), (a1, .inl (cG, n, .inr (.inr (.inr (.inr (fun j => some (gR j))))))), (a2, .inl (cI, n, .inl (fun j => oI (ro j)))), (a3, .inl (cG, n, .inr (.inr (.inr (.inr (fun j => some (gQ j)))))))] ++ va_pl L (pI cI pl pr)) := hD
    refine lv_goto (tgt := 63) hx hb dX2_run_17 (by decide) ?_
    rw [hQ]
    exact W.vret hx hb hr (fun t ht hW => ⟨⟨(tr, le, tu, -1), rfl, ⟨by show _ = rTot _ _; unfold rTot; rw [if_pos rfl], fun h3 h4 => absurd h3 (by omega)⟩, by rw [ht]; exact hP, va_K.moved hW.alike hK, hD⟩, hS.F ht⟩) hS.2.2 dX2_run_63
end
section
/-! Throwing: the class's own exception, calls that may throw -/
abbrev ttX : String := "java/lang/ArrayIndexOutOfBoundsException"
def tt_at : List Cond := Bundle.ownAtoms RX3 127 ttX ["java/lang/IndexOutOfBoundsException", "java/lang/RuntimeException", "java/lang/Exception"]
def tt_r1 : Cond := .isRef (.static "java/lang/Throwable" "UNASSIGNED_STACK" "[Ljava/lang/StackTraceElement;")
def tt_r2 : Cond := .isRef (.static "java/lang/Throwable" "SUPPRESSED_SENTINEL" "Ljava/util/List;")
def tt_s1 : Cond := .laysStatic "java/lang/Throwable" "UNASSIGNED_STACK" "[Ljava/lang/StackTraceElement;"
def tt_s2 : Cond := .laysStatic "java/lang/Throwable" "SUPPRESSED_SENTINEL" "Ljava/util/List;"
set_option maxRecDepth 100000 in
theorem tt_at_good : tt_at.all (fun w => goodWord w || (w.onTables && w.faceAtom) || decide (w = tt_r1) || decide (w = tt_r2) || decide (w = tt_s1) || decide (w = tt_s2)) = true := by decide +kernel
set_option maxRecDepth 100000 in
theorem tt_at_in : tt_at.all (fun w => decide (w ∈ tables_1) || decide (w = tt_r1) || decide (w = tt_r2)) = true := by decide +kernel
/-- U is a later state of s0: warmer tables, and every cell that was there is as it was -/
def tt_F (s0 U : State) : Prop := s0.WarmedH U.vm ∧ s0.heap.size ≤ U.heap.size ∧ ∀ q, q < s0.heap.size → U.heap[q]? = s0.heap[q]?
theorem tt_ls {s0 U : State} {A B : Array Value} {C n d : String} (hF : tt_F s0 U) (h : (Cond.laysStatic C n d).before A s0 = true) : (Cond.laysStatic C n d).before B U = true := by
  have h1 : (Cond.laysStatic C n d).before A (s0.setVm U.vm) = true := Cond.holds_shifted (State.Shifted.of_warmed hF.1) _ [] rfl h
  obtain ⟨c, k, i, f, a, cell, e1, e2, e3, e4, e5, e6, e7, e8, e9⟩ := Cond.laysStatic_spec h1
  have e1' : U.vm.findClass C = some c := e1
  have e2' : U.fieldFound? C n d = some (c, k, i, f) := e2
  have e0 : s0.heap[a]? = some cell := e5
  have e5' : U.heap[a]? = some cell := by rw [hF.2.2 a (Array.getElem?_eq_some_iff.mp e0).1]; exact e0
  simp [Cond.before, Cond.holds, Cond.value, e1', e2', e3, e4, e5', e6, e7, e8, e9]
theorem tt_is {s0 U : State} {A B : Array Value} {C n d : String} (hF : tt_F s0 U) (h : (Cond.isRef (.static C n d)).before A s0 = true) : (Cond.isRef (.static C n d)).before B U = true := by
  have h1 : (Cond.isRef (.static C n d)).before A (s0.setVm U.vm) = true := Cond.holds_shifted (State.Shifted.of_warmed hF.1) _ [] rfl h
  cases hv : (Term.static C n d).eval A (s0.setVm U.vm) none [] (s0.setVm U.vm) with
  | none => simp [Cond.before, Cond.holds, Cond.value, hv] at h1
  | some v =>
    cases hi : (s0.setVm U.vm).fieldFound? C n d with
    | none => simp [Term.eval, State.fieldNamed?, hi] at hv
    | some x =>
      obtain ⟨c, k, i, f⟩ := x
      obtain ⟨hst, a, cell, ha, hcell, his, hslot⟩ := Term.static_spec hi hv
      have hi' : U.fieldFound? C n d = some (c, k, i, f) := hi
      have e0 : s0.heap[a]? = some cell := hcell
      have hc' : U.heap[a]? = some cell := by rw [hF.2.2 a (Array.getElem?_eq_some_iff.mp e0).1]; exact e0
      have his2 : cell.vm.isStatics = true := by
        cases hz : cell.vm.isStatics with
        | true => rfl
        | false => simp [Term.eval, State.fieldNamed?, hi, hst, ha, e0, hz] at hv
      have hv' : (Term.static C n d).eval B U none [] U = some v := by simp [Term.eval, State.fieldNamed?, hi', hst, ha, hc', his2, hslot]
      simp only [Cond.before, Cond.holds, Cond.value, hv] at h1
      simp only [Cond.before, Cond.holds, Cond.value, hv']
      exact h1
theorem tt_face {s U : State} {A B : Array Value} {w : Cond} (hW : s.WarmedH U.vm) (h1 : w.onTables = true) (h2 : w.faceAtom = true) (h : w.before A s = true) : w.before B U = true :=
  va_tabs h1 (rfl : (s.setVm U.vm).vm = U.vm) (Cond.faceAtom_setVm hW.alike w h2 h)
theorem tt_all {s0 U : State} {A B : Array Value} (hF : tt_F s0 U) (h : ∀ w ∈ tt_at, w.before A s0 = true) : ∀ w ∈ tt_at, w.before B U = true := by
  intro w hw
  have h1 := List.all_eq_true.mp tt_at_good w hw
  have h2 := h w hw
  simp only [Bool.or_eq_true, Bool.and_eq_true, decide_eq_true_eq] at h1
  rcases h1 with ((((h1 | h1) | h1) | h1) | h1) | h1
  · exact word_at hF.1 (good_of_word h1) h2
  · exact tt_face hF.1 h1.1 h1.2 h2
  · rw [h1] at h2 ⊢; exact tt_is hF h2
  · rw [h1] at h2 ⊢; exact tt_is hF h2
  · rw [h1] at h2 ⊢; exact tt_ls hF h2
  · rw [h1] at h2 ⊢; exact tt_ls hF h2
/-- what a method that may throw needs of its start: all of it was so at the law's own start s0 -/
def tt_B (s0 : State) (A0 : Array Value) (str : Nat) (U : State) : Prop := (∀ w ∈ tt_at, w.before A0 s0 = true) ∧ vk_R RX3 125 "there is no such lamp" str s0 ∧ tt_F s0 U
theorem tt_B.blind {s0 : State} {A0 : Array Value} {str : Nat} {U : State} (h : tt_B s0 A0 str U) {V : State} (hv : V.vm = U.vm) (hh : V.heap = U.heap) : tt_B s0 A0 str V := by
  obtain ⟨h1, h2, h3, h4, h5⟩ := h
  exact ⟨h1, h2, by rw [hv]; exact h3, by rw [hh]; exact h4, by rw [hh]; exact h5⟩
/-- the exception x, made since st; all that was there is as it was -/
def tt_E (st t : State) (x : Nat) : Prop := ∃ ce : Cell, t.heap[x]? = some ce ∧ st.vm.findClass ttX = some ce.cls ∧ ce.vm = .none ∧ st.heap.size ≤ x ∧ st.heap.size ≤ t.heap.size ∧ ∀ q, q < st.heap.size → t.heap[q]? = st.heap[q]?
def tt_Fr (st t : State) (L : List Loc) (k n : Nat) : Prop := st.WarmedH t.vm ∧ st.sameButNew ({ t with vm := st.vm } : State) L k n
def tt_MQ (below : List Frame) (Qc : Array Value → State → Outcome → State → Prop) (a : Array Value) (s : State) (mc ms : Nat) (free : Addr → Prop) : State → Prop := fun t =>
  ∃ o, t.status = .running ∧ Ended t below o ∧ Qc a s o t ∧ ∃ L, tt_Fr s t L mc ms ∧ ∀ q ∈ L, free q.base
def tt_Met (l : Launch) (y : MethodName) (ws : List Cond) (rm : Room) (Pc : Array Value → State → Prop) (Qc : Array Value → State → Outcome → State → Prop) (mc ms : Nat) (free : Addr → Prop) : Prop :=
  MetFree l y (headSpec ws rm) Pc (fun _ _ _ _ _ => True) (fun a st o t => Qc a st o t ∧ ∃ L, tt_Fr st t L mc ms ∧ ∀ q ∈ L, free q.base)
/-- an end: either the answer, where ok; or the exception -/
def tt_Q (ok : Prop) (Qr : Array Value → State → Outcome → State → Prop) : Array Value → State → Outcome → State → Prop := fun a st o t => (ok ∧ (∃ v, o = .returned v) ∧ Qr a st o t) ∨ (¬ ok ∧ ∃ x, o = .threw x ∧ tt_E st t x)
theorem tt_same {s U : State} {k n : Nat} (h : s.sameButNew ({ U with vm := s.vm } : State) [] k n) : s.heap.size ≤ U.heap.size ∧ ∀ q, q < s.heap.size → U.heap[q]? = s.heap[q]? := by
  obtain ⟨-, h1, -, -, -, h2⟩ := h
  refine ⟨h1, fun q hq => ?_⟩
  have hc : s.heap[q]? = some s.heap[q] := Array.getElem?_eq_getElem hq
  obtain ⟨c', e1, e2, e3, e4⟩ := h2 q _ hc
  have e5 : c'.slots = s.heap[q].slots := by
    apply Array.ext_getElem?
    intro i
    exact e4 i (by simp)
  have e6 : c' = s.heap[q] := by rw [e2, e5]
  rw [hc, ← e6]
  exact e1
section TT
variable {p : Program} {l : Launch} {e : Env} {R : Room} {s : State} {m : MethodId} {args : Array Value} {below : List Frame} {meth : Method} {c : Code} {H : Heap} {locs : List Loc} {cells slots : Nat} {Q Q' : State → Prop}
theorem tt_weak {g : JFrame} (h : ∀ t, Q t → Q' t) (k : W p l e R s m args below meth c H locs cells slots Q g) : W p l e R s m args below meth c H locs cells slots Q' g := fun T hT X => by
  obtain ⟨t, a, b⟩ := k T hT X
  exact ⟨t, a, h t b⟩
/-- a return in a method that may throw -/
theorem tt_ret {g : JFrame} {ok : Prop} {Qr : Array Value → State → Outcome → State → Prop} {mc ms : Nat} {free : Addr → Prop} (hok : ok) (k : W p l e R s m args below meth c H locs cells slots (MQ below Qr args s mc ms free) g) : W p l e R s m args below meth c H locs cells slots (tt_MQ below (tt_Q ok Qr) args s mc ms free) g :=
  tt_weak (fun t ⟨o, h1, h2, h3, L, h4, h5⟩ => ⟨o, h1, h2, Or.inl ⟨hok, h4.1, h3⟩, L, ⟨h4.2.1, h4.2.2⟩, h5⟩) k
theorem tt_ofW {y : MethodName} {ws ws' : List Cond} {rm : Room} {Pc : Array Value → State → Prop} {Qc : Array Value → State → Outcome → State → Prop} {mc ms : Nat} {free : Addr → Prop} {cc : ByteArray} {maxL : Nat} {ret : Option FieldType}
    (hy : plainName y.cls = true) (hw : ws = Cond.code y cc maxL ret :: ws')
    (body : ∀ p e s m args below meth c s₁, BodyLoose p l y (headSpec ws rm) cc maxL ret e s m args below meth c s₁ → c.maxLocals = maxL → Pc args s →
      W p l e (headSpec ws rm).room s m args below meth c s.heap [] 0 0 (tt_MQ below Qc args s mc ms free) (entryFrame m args maxL)) : tt_Met l y ws rm Pc Qc mc ms free := by
  refine MetFree.of_bodyS (code := cc) (maxLocals := maxL) (ret := ret) hy ?_ ?_
  · intro args s m h hn
    obtain ⟨meth, c, h1, h2, h3, h4, h5, h6, -, -⟩ := Cond.code_spec hn (atoms_spec (ws := ws) h _ (by rw [hw]; exact List.mem_cons_self))
    exact ⟨meth, c, h1, h2, h3, h4, h5, h6⟩
  · intro p e s m args below meth c s₁ B hml hP _
    have hh0 : s₁.heap = s.heap := by rw [B.state]; rfl
    obtain ⟨t, a1, o, b1, b2, b3⟩ := body p e s m args below meth c s₁ B hml hP s₁ hh0 (Stand.of_body B)
    exact ⟨t, o, a1, b1, b2, ⟨b3.1, b3.2⟩⟩
/-- the throw itself: the constructor's call and athrow, in a method that has written nothing -/
theorem tt_throw {cc : ByteArray} (hexec : p.tables.exec = Jvm.exec) (hb : c.code = cc) (hfl : l.flags = pinnedFlags ++ [noTraceFlag]) (hown : s.vm.findClass RX3 = some m.cls) (hat : ∀ w ∈ tt_at, w.before args s = true)
    {a : Nat} {cX : ClassId} {kX : Class} (hfX : s.vm.findClass ttX = some cX) (hkX : s.vm.classes[cX]? = some kX) (hcell : H[a]? = some { cls := cX, slots := kX.instanceTypes.map defaultValue, vm := .none }) (hnew : s.heap.size ≤ a)
    {str pc : Nat} {ls : Array Slot} (hsize : ls.size = c.maxLocals) (hemp : c.exceptionTable.isEmpty = true) (hd6 : decode cc pc = .ok (.invokespecial 127, 3)) (hd9 : decode cc (pc + 3) = .ok (.athrow, 1)) (hRf : 6 < R.frames) (hRl : 95 ≤ R.locals) (hlocks : meth.locks = false)
    {ok : Prop} (hok : ¬ ok) {Qr : Array Value → State → Outcome → State → Prop} {free : Addr → Prop} : W p l e R s m args below meth c H [] cells slots (tt_MQ below (tt_Q ok Qr) args s cells slots free) (F0 m pc ls [.ref str, .ref a, .ref a]) := by
  intro T hT X
  have hout : ∀ x ∈ c.exceptionTable.toList, covers x (pc + 3) = false := by
    have h0 : c.exceptionTable.size = 0 := by simpa [Array.isEmpty] using hemp
    have h1 : c.exceptionTable.toList = [] := List.eq_nil_of_length_eq_zero (by simpa using h0)
    intro y hy
    rw [h1] at hy
    cases hy
  obtain ⟨U, h1, h2, h3, h4, h5, ce, h6, h7⟩ := X.ctorThrowS hexec (Launch.traces_off hfl X.admits) (own := RX3) (cls := ttX) (names := ["java/lang/IndexOutOfBoundsException", "java/lang/RuntimeException", "java/lang/Exception"]) (ic := 127) hown (by decide) (by decide) hat (fun x hx => by cases hx)
    (a := a) (cX := cX) (kX := kX) hfX hkX (by rw [hT]; exact hcell) hnew (msg := .ref str) rfl (g := F0 m pc ls [.ref str, .ref a, .ref a]) rfl hsize rfl rfl (rest := []) rfl (by rw [hb]; exact hd6) (by rw [hb]; exact hd9) hout (by show 3 + 3 < R.frames; omega) (by show 2 * 0 + 1 + (13 * (3 + 1) + 42) ≤ R.locals; omega) hlocks
  have h8 := tt_same h5
  exact ⟨U, h1, .threw a, h2, h3, Or.inr ⟨hok, a, rfl, ce, h6, h7.cls, h7.vm, hnew, h8⟩, [], ⟨h4, h5⟩, fun q hq => by cases hq⟩
/-- a call that may throw: where it returns, the caller goes on; where it throws, the note lies over the caller's frame -/
def tt_Run (p : Program) (l : Launch) (e : Env) (R : Room) (s : State) (m : MethodId) (args : Array Value) (below : List Frame) (meth : Method) (c : Code) (H : Heap) (locs : List Loc) (cells slots mc ms : Nat) (g : JFrame) (rest : List Value) (Qa : State → Outcome → State → Prop) (free : Addr → Prop) : Prop :=
  ∀ T : State, T.heap = H → Stand p l e R s m args below meth c T locs cells slots → ∃ (o : Outcome) (st₀ t T' : State) (L : List Loc), st₀.heap = H ∧ s.WarmedH st₀.vm ∧ Stand p l e R s m args below meth c T' (locs ++ L) (cells + mc) (slots + ms) ∧ (∀ q ∈ L, free q.base) ∧ T'.heap = t.heap ∧ T'.vm = t.vm ∧ Qa st₀ o t ∧
    ∀ tg, Steps p.tables e below (match o with
      | .returned v => T'.setTop { g with pc := g.pc + 3, stack := v.toList ++ rest }
      | .threw x => (T'.setTop { g with stack := rest }).pushFrame (.throwing x)) tg → Steps p.tables e below (T.setTop g) tg
theorem tt_runV {y : MethodName} {bytes cc : ByteArray} {maxL nL mc ms n index : Nat} {ret : Option FieldType} {ws : List Cond} {rm : Room} {Pc : Array Value → State → Prop} {Qc : Array Value → State → Outcome → State → Prop} {free : Addr → Prop} {Ts : List Cond} {own C : String} {b : Addr} {As rest : List Value} {g : JFrame}
    (S : CallFix p m c cc nL s args Ts own) (hM : tt_Met l y ws rm Pc Qc mc ms free) (cw : CallW R s args own C index y bytes maxL ret ws rm mc ms n) (hp : PreV s H C b Pc As)
    (hg : g.method = m) (hn : As.length = n) (hsize : g.locals.size = nL) (hstack : g.stack = As.reverse ++ .ref b :: rest) (hW : 2 * g.monitorRoom + (rest.map fun v => v.category).sum ≤ 8) (hdg : decode cc g.pc = .ok (.invokevirtual index, 3)) (hf : cells + mc ≤ R.cells ∧ slots + ms ≤ R.slots) :
    tt_Run p l e R s m args below meth c H locs cells slots mc ms g rest (Qc (Value.ref b :: As).toArray) free := by
  obtain ⟨⟨hrc, hrs, hfr, hlo, hws, hcw, hcode, hini, hy, hlen, hl⟩, hin, hse⟩ := cw
  obtain ⟨hx, hb, hml, ho, -⟩ := S
  obtain ⟨hbl, ⟨cellB, hcB, hoB, hclB⟩, hPc⟩ := hp
  intro T hT X
  subst hb
  obtain ⟨mk, methM, hnamed, hmethM, hstM, habM⟩ := Cond.instanceMethod_spec hin
  obtain ⟨methM', cM, hmethM', hcM, -, hlM, -, -, -, hsigM⟩ := Cond.code_spec hnamed hcode
  cases hmethM.symm.trans hmethM'
  obtain ⟨c2, r2, m2, q1, q2, q3, q4, kP, hkP, hkPi⟩ := Cond.selects_spec hse
  cases hclB.symm.trans q1
  cases (State.methodFound?_of_named hnamed hy).symm.trans q2
  cases hnamed.symm.trans q3
  have hselP : selectMethod e.platform s.vm cellB.cls mk = .method mk := by rw [Launch.admits_selectMethod X.admits]; exact q4
  obtain ⟨vm₁, X₁, hstep₁⟩ := X.invokevirtual hx ho hl hnamed hmethM hstM hkP hkPi hy (a := b) (cell := cellB) (by rw [hT]; exact hcB)
    (fun z h => by rw [h] at hoB; cases hoB) hselP hmethM habM hkP hkPi (g := g) hg (argsL := As) (rest := rest) (hn.trans (hlen _ hsigM)) hstack hdg
  -- the callee, from the caller's frame without the arguments
  have hnU : (T.setVm vm₁).methodNamed? y = some mk := X₁.named hnamed
  have h2 : (Cond.code y bytes maxL ret).before (Value.ref b :: As).toArray (T.setVm vm₁) = true := hws _ hcw _ _ X₁.warmed
  obtain ⟨methY, cY, hmY, hcY, -, hlY, -, -, -, -⟩ := Cond.code_spec hnU h2
  obtain ⟨kY, hkY, -⟩ := className_of_methodNamed hnU
  have hinitY : kY.init = .initialized := Cond.initialized_spec (findClass_of_methodNamed hnU) hkY (word_at (a' := (Value.ref b :: As).toArray) X₁.warmed (Or.inl (by first | rfl | simp [Cond.onTables, Cond.keeps, Cond.steady])) hini)
  have hg' : ({ g with stack := rest } : JFrame).method = m := hg
  have h : At (T.setVm vm₁) ({ g with stack := rest } : JFrame).method c below := by rw [hg']; exact X₁.here
  have hroom := X₁.room_calling (g := { g with stack := rest }) (R' := rm) (args' := (Value.ref b :: As).toArray) (hsize.trans hml.symm) hmY hcY hfr (by rw [hlY]; show 2 * g.monitorRoom + (rest.map fun v => v.category).sum + _ + _ ≤ _; omega) (by rw [hrc]; exact hf.1) (by rw [hrs]; exact hf.2)
  have happ : (headSpec ws rm).appliesLoose y e.platform ((T.setVm vm₁).calling { g with stack := rest } mk (Value.ref b :: As).toArray) = true :=
    Spec.appliesLoose_calling (g := { g with stack := rest }) h hdg hnU hkY hinitY hroom (atoms_intro fun w hw => hws w hw _ _ X₁.warmed)
  obtain ⟨mid, hmid⟩ := h.above
  have hfr2 : ((T.setVm vm₁).setTop { g with stack := rest }).frames = (.java { g with stack := rest } :: mid) ++ below := by rw [State.frames_setTop' _ h.top, hmid]; rfl
  obtain ⟨o, s₂, hsteps, -, hend, hq, L, hFr, hL⟩ := Steps.callFree hM p X₁.admits X₁.cas X₁.clock (acts := []) hfr2 happ (hbl _ _ _ _ (hPc (T.setVm vm₁) hT X₁.warmed)) trivial
  rw [State.frames_setTop' _ h.top, X₁.tail] at hend
  cases o with
  | returned v =>
    obtain ⟨T', X', hW', hsame', ht'⟩ := X₁.outOf (g := { g with stack := rest }) hg' hdg hend hFr.1 hFr.2
    refine ⟨.returned v, _, s₂, T', L, ?_, ?_, X', hL, by rw [ht']; rfl, by rw [ht']; rfl, hq, fun tg k => ?_⟩
    · exact hT
    · exact X₁.warmed
    · refine hstep₁ _ fun acts => ?_
      rw [doInvoke_state]
      refine hsteps.trans ?_
      rw [ht']
      exact k
  | threw x =>
    obtain ⟨T', X', hW', hsame', ht'⟩ := X₁.outOfThrown (g := { g with stack := rest }) hg' hend hFr.1 hFr.2
    refine ⟨.threw x, _, s₂, T', L, ?_, ?_, X', hL, by rw [ht']; rfl, by rw [ht']; rfl, hq, fun tg k => ?_⟩
    · exact hT
    · exact X₁.warmed
    · refine hstep₁ _ fun acts => ?_
      rw [doInvoke_state]
      refine hsteps.trans ?_
      rw [ht']
      exact k
end TT
end
section
/-- the answer of mustExist where the lamp is there: nothing, and nothing has changed -/
def tt_U : Array Value → State → Outcome → State → Prop := fun _ st o t => o = .returned none ∧ t.heap = st.heap
theorem tt_E.moved {s st t t2 : State} {x : Nat} (h : tt_E st t x) (hh : st.heap = s.heap) (hv : s.WarmedH st.vm) (ht : t2.heap = t.heap) : tt_E s t2 x := by
  obtain ⟨ce, h1, h2, h3, h4, h5, h6⟩ := h
  rw [hh] at h4 h5 h6
  exact ⟨ce, by rw [ht]; exact h1, by rw [← hv.alike.findClass]; exact h2, h3, h4, by rw [ht]; exact h5, fun q hq => by rw [ht]; exact h6 q hq⟩
section TT2
variable {p : Program} {l : Launch} {e : Env} {R : Room} {s : State} {m : MethodId} {args : Array Value} {below : List Frame} {meth : Method} {c : Code} {cells slots : Nat}
/-- mustExist, called from a method that has written nothing yet and catches nothing -/
theorem tt_must {mc ms mc2 ms2 pc : Nat} {ls : Array Slot} {st0 rest : List Value} {ok ok2 : Prop} {a : Array Value} {Qr : Array Value → State → Outcome → State → Prop} {free2 : Addr → Prop}
    (hr : tt_Run p l e R s m args below meth c s.heap [] cells slots mc ms (F0 m pc ls st0) rest (tt_Q ok tt_U a) (fun _ => False)) (hemp : c.exceptionTable.isEmpty = true) (hlocks : meth.locks = false) (h1 : cells + mc ≤ mc2) (h2 : slots + ms ≤ ms2) (kt : ¬ ok → ¬ ok2)
    (kr : ok → W p l e R s m args below meth c s.heap [] (cells + mc) (slots + ms) (tt_MQ below (tt_Q ok2 Qr) args s mc2 ms2 free2) (F0 m (pc + 3) ls rest)) : W p l e R s m args below meth c s.heap [] cells slots (tt_MQ below (tt_Q ok2 Qr) args s mc2 ms2 free2) (F0 m pc ls st0) := by
  intro T hT X
  obtain ⟨o, st₀, t, T', L, g1, g2, X', hL, e1, e2, hq, hst⟩ := hr T hT X
  have hL0 : L = [] := by
    cases L with
    | nil => rfl
    | cons q L => exact (hL q (by simp)).elim
  subst hL0
  rcases hq with ⟨hok, -, ho, hh⟩ | ⟨hok, x, ho, hE⟩
  · subst ho
    obtain ⟨t2, a1, b1⟩ := kr hok T' (by rw [e1, hh, g1]) X'
    exact ⟨t2, hst t2 a1, b1⟩
  · subst ho
    have X2 := stand_widen X' h1 h2
    have hout : ∀ y ∈ c.exceptionTable.toList, covers y pc = false := by
      have h0 : c.exceptionTable.size = 0 := by simpa [Array.isEmpty] using hemp
      have h3 : c.exceptionTable.toList = [] := List.eq_nil_of_length_eq_zero (by simpa using h0)
      intro y hy
      rw [h3] at hy
      cases hy
    obtain ⟨k1, k2, k3, k4, k5⟩ := X2.leaveThrown x (g := { F0 m pc ls st0 with stack := rest }) rfl rfl rfl hout hlocks
    exact ⟨_, hst _ k1, .threw x, k2, k3, Or.inr ⟨kt hok, x, rfl, hE.moved g1 g2 e1⟩, [], ⟨k4, k5⟩, fun q hq => by cases hq⟩
end TT2
end
section
theorem tt_B.later {s0 : State} {A0 : Array Value} {str : Nat} {s U : State} (h : tt_B s0 A0 str s) (hU : U.heap = s.heap) (hW : s.WarmedH U.vm) : tt_B s0 A0 str U := by
  obtain ⟨h1, h2, h3, h4, h5⟩ := h
  exact ⟨h1, h2, State.WarmedH.trans h3 hW, by rw [hU]; exact h4, by rw [hU]; exact h5⟩
set_option maxHeartbeats 4000000 in
set_option maxRecDepth 100000 in
/-- mustExist(x): nothing, where x is a lamp; else the exception -/
theorem c_X3_mustExist (l : Launch) (dC : Nat → ClassId) (dI : Nat → Nat → Nat) (hfl : l.flags = pinnedFlags ++ [noTraceFlag]) (s0 : State) (A0 : Array Value) (str : Nat) (sz : Nat) (h0 n : Nat) (v1 v2 v3 v4 v5 v6 v7 v8 v9 : Value) (x : Int32) (hn : n < 1000) :
    tt_Met l yX3_mustExist wsX3_mustExist ({ frames := 7, cells := 1, slots := 6, locals := 95 }) (va_Pc [.ref h0, .int x] (fun U => U.heap.size = sz ∧ va_P (dC, dI) vwCl [(h0, .inr (4, [.int (nI n), v1, v2, v3, v4, v5, v6, v7, v8, v9]))] U.heap ∧ va_K (dC, dI) vwCl [] U ∧ va_D (fun _ => True) [(h0, .inr (4, [.int (nI n), v1, v2, v3, v4, v5, v6, v7, v8, v9]))] ∧ tt_B s0 A0 str U)) (tt_Q (∃ j : Nat, j < n ∧ x = nI j) tt_U) 1 6 (fun _ => False) := by
  refine tt_ofW (cc := cX3_mustExist) (maxL := 2) (ret := none) (by decide) rfl ?_
  intro zp ze s m args below meth zc s₁ B hml hv
  obtain ⟨hargs, hsz, hP, hK, hD0, hB⟩ := hv
  have hx := B.exec
  have hb := B.bytes
  have hr := B.returns
  have hts := atoms_spec (ws := wsX3_mustExist) B.pre
  have hown : s.vm.findClass RX3 = some m.cls := findClass_of_methodNamed B.named
  have hlocks := B.notSynchronized
  have hemp := B.noHandlers (hts _ List.mem_cons_self)
  have hl := lv_entry ([.ref h0, .int x]) (n := 2) (Nat.le_of_ble_eq_true rfl)
  generalize hen : entryFrame m args 2 = fr
  rw [hargs, lg_entry_eq] at hen
  subst hen
  generalize (lg_sl ([.ref h0, .int x]) ++ List.replicate (2 - (lg_sl ([.ref h0, .int x])).length) Slot.unset).toArray = ls at hl ⊢
  have hl : lv_has ls 2 [(0, .ref h0), (1, .int x)] := hl
  have hinX3 : ∀ w ∈ wsX30, w ∈ wsX3_mustExist := by decide +kernel
  have hf18 := hts (.fieldLink RX3 18 "LightRows" "lamps" "I") (by decide +kernel)
  have hthrow : ¬ (∃ j : Nat, j < n ∧ x = nI j) → W zp l ze (headSpec wsX3_mustExist ({ frames := 7, cells := 1, slots := 6, locals := 95 })).room s m args below meth zc s.heap [] 0 0 (tt_MQ below (tt_Q (∃ j : Nat, j < n ∧ x = nI j) tt_U) args s 1 6 (fun _ => False)) (F0 m 12 ls []) := by
    intro hno
    refine W.newc (C := ttX) (n := 6) hx hb hown (hts (.classLink RX3 123 RJx00060) (by decide +kernel)) (hts (.instantiable RJx00060 6) (by decide +kernel)) (hts (.initialized RJx00060) (by decide +kernel)) rfl dX3_mustExist_12 (Nat.le_of_ble_eq_true rfl) (Nat.le_of_ble_eq_true rfl) (fun cX kX h1 h2 h3 h4 => ?_)
    refine lv_dup hx hb dX3_mustExist_15 rfl ?_
    refine va_ldcS hx hb hown (hB.2.1.warm hB.2.2.1) dX3_mustExist_16 ?_
    exact tt_throw hx hb hfl hown (tt_all hB.2.2 hB.1) h1 h2 (by simp) (Nat.le_refl _) (hl.1.trans hml.symm) hemp dX3_mustExist_18 dX3_mustExist_21 (Nat.le_of_ble_eq_true rfl) (Nat.le_of_ble_eq_true rfl) hlocks hno
  refine lv_iload_n hx hb dX3_mustExist_0 rfl (lv_at hl 1 rfl) ?_
  refine lv_if_lt (tgt := 12) hx hb dX3_mustExist_1 (by decide) (fun c => ?_) (fun c => ?_)
  · exact hthrow (fun ⟨j, hj, e⟩ => nI_pos (by omega) (e ▸ c))
  · refine lv_iload_n hx hb dX3_mustExist_4 rfl (lv_at hl 1 rfl) ?_
    refine lv_aload_n hx hb dX3_mustExist_5 rfl (lv_at hl 0 rfl) ?_
    refine va_get (D := (dC, dI)) (ci := 4) (v := .int (nI n)) (C := RX3) (T := TX3) (N := 10) hx hb hts hinX3 hown hK hP 0 rfl rfl 0 (by decide) hf18 (fun _ h9 => h9) rfl dX3_mustExist_6 ?_
    refine lv_icmp_lt (tgt := 22) hx hb dX3_mustExist_9 (by decide) (fun c2 => ?_) (fun c2 => ?_)
    · refine W.widen (k := 1) (n := 6) (by omega) (by omega) ?_
      refine tt_ret (by
        rcases pk_ix x (n := n) (by omega) with h | h | h
        · exact absurd h c
        · exact absurd c2 (by rw [Int32.not_lt]; exact h)
        · exact h) ?_
      exact W.vret hx hb hr (fun t ht hW => ⟨rfl, ht⟩) (fun q hq => by cases hq) dX3_mustExist_22
    · exact hthrow (fun ⟨j, hj, e⟩ => c2 (by rw [e]; exact nI_lt hj (by omega)))
end
section
set_option maxRecDepth 20000 in
theorem ggX3_init_X3_primeFor : GoodIn wsX3_init wsX3_primeFor := goodIn_r _ [34] (by decide +kernel) (by decide +kernel)
set_option maxRecDepth 20000 in
theorem gX3_init_X3_primeFor : GoodIn wsX3_init (va_wsS RX3 22 yX3_primeFor wsX3_primeFor) := goodIn_app (goodIn_of _ (by decide +kernel)) ggX3_init_X3_primeFor
set_option maxRecDepth 20000 in
theorem ggX3_init_X1_init : GoodIn wsX3_init wsX1_init := goodIn_r _ [37, 38, 2, 3, 39, 40, 41, 13, 42, 43, 44, 45, 46, 73, 74, 75, 76, 77, 78, 79] (by decide +kernel) (by decide +kernel)
set_option maxRecDepth 20000 in
theorem gX3_init_X1_init : GoodIn wsX3_init (wsX1_init) := ggX3_init_X1_init
set_option maxRecDepth 20000 in
theorem ggX3_init_X2_init : GoodIn wsX3_init wsX2_init := goodIn_r _ [49, 50, 2, 3, 51, 52, 13, 53, 54, 55, 56, 80, 81, 82, 83, 84, 85] (by decide +kernel) (by decide +kernel)
set_option maxRecDepth 20000 in
theorem gX3_init_X2_init : GoodIn wsX3_init (wsX2_init) := ggX3_init_X2_init
set_option maxRecDepth 20000 in
theorem ggX3_init_X0_init : GoodIn wsX3_init wsX0_init := goodIn_r _ [59, 60, 2, 3, 13, 61, 62, 86, 87] (by decide +kernel) (by decide +kernel)
set_option maxRecDepth 20000 in
theorem gX3_init_X0_init : GoodIn wsX3_init (wsX0_init) := ggX3_init_X0_init
set_option maxRecDepth 20000 in
theorem ggX3_join_X3_mustExist : GoodIn wsX3_join wsX3_mustExist := goodIn_r _ [6, 7, 8, 9, 10, 21, 22, 23, 24, 25, 26, 27, 28, 29, 30, 31, 32, 33, 34, 35, 36] (by decide +kernel) (by decide +kernel)
set_option maxRecDepth 20000 in
theorem gX3_join_X3_mustExist : GoodIn wsX3_join (wsV RX3 69 RX3 yX3_mustExist wsX3_mustExist) := goodIn_app (goodIn_of _ (by decide +kernel)) ggX3_join_X3_mustExist
set_option maxRecDepth 20000 in
theorem ggX3_join_X3_touches : GoodIn wsX3_join wsX3_touches := goodIn_r _ [14, 1, 21, 22, 23, 24, 25, 26, 27, 28, 29, 30] (by decide +kernel) (by decide +kernel)
set_option maxRecDepth 20000 in
theorem gX3_join_X3_touches : GoodIn wsX3_join (wsV RX3 73 RX3 yX3_touches wsX3_touches) := goodIn_app (goodIn_of _ (by decide +kernel)) ggX3_join_X3_touches
set_option maxRecDepth 20000 in
theorem ggX3_join_X3_forget : GoodIn wsX3_join wsX3_forget := goodIn_r _ [18, 19, 20, 21, 22, 23, 24, 25, 26, 27, 28, 29, 30] (by decide +kernel) (by decide +kernel)
set_option maxRecDepth 20000 in
theorem gX3_join_X3_forget : GoodIn wsX3_join (wsV RX3 77 RX3 yX3_forget wsX3_forget) := goodIn_app (goodIn_of _ (by decide +kernel)) ggX3_join_X3_forget
set_option maxRecDepth 20000 in
theorem ggX3_self_X3_mustExist : GoodIn wsX3_self wsX3_mustExist := goodIn_r _ [6, 7, 8, 9, 10, 21, 22, 23, 24, 25, 26, 27, 28, 29, 30, 31, 32, 33, 34, 35, 36] (by decide +kernel) (by decide +kernel)
set_option maxRecDepth 20000 in
theorem gX3_self_X3_mustExist : GoodIn wsX3_self (wsV RX3 69 RX3 yX3_mustExist wsX3_mustExist) := goodIn_app (goodIn_of _ (by decide +kernel)) ggX3_self_X3_mustExist
set_option maxRecDepth 20000 in
theorem ggX3_self_X3_touches : GoodIn wsX3_self wsX3_touches := goodIn_r _ [14, 1, 21, 22, 23, 24, 25, 26, 27, 28, 29, 30] (by decide +kernel) (by decide +kernel)
set_option maxRecDepth 20000 in
theorem gX3_self_X3_touches : GoodIn wsX3_self (wsV RX3 73 RX3 yX3_touches wsX3_touches) := goodIn_app (goodIn_of _ (by decide +kernel)) ggX3_self_X3_touches
set_option maxRecDepth 20000 in
theorem ggX3_self_X3_forget : GoodIn wsX3_self wsX3_forget := goodIn_r _ [18, 19, 20, 21, 22, 23, 24, 25, 26, 27, 28, 29, 30] (by decide +kernel) (by decide +kernel)
set_option maxRecDepth 20000 in
theorem gX3_self_X3_forget : GoodIn wsX3_self (wsV RX3 77 RX3 yX3_forget wsX3_forget) := goodIn_app (goodIn_of _ (by decide +kernel)) ggX3_self_X3_forget
set_option maxRecDepth 20000 in
theorem ggX3_set_X3_mustExist : GoodIn wsX3_set wsX3_mustExist := goodIn_r _ [6, 7, 8, 9, 10, 22, 23, 24, 25, 26, 27, 28, 29, 30, 31, 32, 33, 34, 35, 36, 37] (by decide +kernel) (by decide +kernel)
set_option maxRecDepth 20000 in
theorem gX3_set_X3_mustExist : GoodIn wsX3_set (wsV RX3 69 RX3 yX3_mustExist wsX3_mustExist) := goodIn_app (goodIn_of _ (by decide +kernel)) ggX3_set_X3_mustExist
set_option maxRecDepth 20000 in
theorem ggX3_set_X3_isState : GoodIn wsX3_set wsX3_isState := goodIn_r _ [14, 15, 22, 23, 24, 25, 26, 27, 28, 29, 30, 31] (by decide +kernel) (by decide +kernel)
set_option maxRecDepth 20000 in
theorem gX3_set_X3_isState : GoodIn wsX3_set (wsV RX3 80 RX3 yX3_isState wsX3_isState) := goodIn_app (goodIn_of _ (by decide +kernel)) ggX3_set_X3_isState
set_option maxRecDepth 20000 in
theorem ggX3_set_X3_forget : GoodIn wsX3_set wsX3_forget := goodIn_r _ [19, 20, 21, 22, 23, 24, 25, 26, 27, 28, 29, 30, 31] (by decide +kernel) (by decide +kernel)
set_option maxRecDepth 20000 in
theorem gX3_set_X3_forget : GoodIn wsX3_set (wsV RX3 77 RX3 yX3_forget wsX3_forget) := goodIn_app (goodIn_of _ (by decide +kernel)) ggX3_set_X3_forget
set_option maxRecDepth 20000 in
theorem ggX3_want_X3_mustExist : GoodIn wsX3_want wsX3_mustExist := goodIn_r _ [6, 7, 8, 9, 10, 22, 23, 24, 25, 26, 27, 28, 29, 30, 31, 32, 33, 34, 35, 36, 37] (by decide +kernel) (by decide +kernel)
set_option maxRecDepth 20000 in
theorem gX3_want_X3_mustExist : GoodIn wsX3_want (wsV RX3 69 RX3 yX3_mustExist wsX3_mustExist) := goodIn_app (goodIn_of _ (by decide +kernel)) ggX3_want_X3_mustExist
set_option maxRecDepth 20000 in
theorem ggX3_want_X3_isState : GoodIn wsX3_want wsX3_isState := goodIn_r _ [14, 15, 22, 23, 24, 25, 26, 27, 28, 29, 30, 31] (by decide +kernel) (by decide +kernel)
set_option maxRecDepth 20000 in
theorem gX3_want_X3_isState : GoodIn wsX3_want (wsV RX3 80 RX3 yX3_isState wsX3_isState) := goodIn_app (goodIn_of _ (by decide +kernel)) ggX3_want_X3_isState
set_option maxRecDepth 20000 in
theorem ggX3_want_X3_forget : GoodIn wsX3_want wsX3_forget := goodIn_r _ [19, 20, 21, 22, 23, 24, 25, 26, 27, 28, 29, 30, 31] (by decide +kernel) (by decide +kernel)
set_option maxRecDepth 20000 in
theorem gX3_want_X3_forget : GoodIn wsX3_want (wsV RX3 77 RX3 yX3_forget wsX3_forget) := goodIn_app (goodIn_of _ (by decide +kernel)) ggX3_want_X3_forget
set_option maxRecDepth 20000 in
theorem ggX3_press_X3_mustExist : GoodIn wsX3_press wsX3_mustExist := goodIn_r _ [8, 1, 9, 10, 11, 23, 24, 25, 26, 27, 28, 29, 30, 31, 32, 33, 34, 35, 36, 37, 38] (by decide +kernel) (by decide +kernel)
set_option maxRecDepth 20000 in
theorem gX3_press_X3_mustExist : GoodIn wsX3_press (wsV RX3 69 RX3 yX3_mustExist wsX3_mustExist) := goodIn_app (goodIn_of _ (by decide +kernel)) ggX3_press_X3_mustExist
set_option maxRecDepth 20000 in
theorem ggX3_press_X3_touches : GoodIn wsX3_press wsX3_touches := goodIn_r _ [15, 16, 23, 24, 25, 26, 27, 28, 29, 30, 31, 32] (by decide +kernel) (by decide +kernel)
set_option maxRecDepth 20000 in
theorem gX3_press_X3_touches : GoodIn wsX3_press (wsV RX3 73 RX3 yX3_touches wsX3_touches) := goodIn_app (goodIn_of _ (by decide +kernel)) ggX3_press_X3_touches
set_option maxRecDepth 20000 in
theorem ggX3_press_X3_forget : GoodIn wsX3_press wsX3_forget := goodIn_r _ [20, 21, 22, 23, 24, 25, 26, 27, 28, 29, 30, 31, 32] (by decide +kernel) (by decide +kernel)
set_option maxRecDepth 20000 in
theorem gX3_press_X3_forget : GoodIn wsX3_press (wsV RX3 77 RX3 yX3_forget wsX3_forget) := goodIn_app (goodIn_of _ (by decide +kernel)) ggX3_press_X3_forget
set_option maxRecDepth 20000 in
theorem ggX3_at_X3_mustExist : GoodIn wsX3_at wsX3_mustExist := goodIn_r _ [6, 7, 8, 9, 10, 11, 12, 13, 14, 15, 16, 17, 18, 19, 20, 21, 22, 23, 24, 25, 26] (by decide +kernel) (by decide +kernel)
set_option maxRecDepth 20000 in
theorem gX3_at_X3_mustExist : GoodIn wsX3_at (wsV RX3 69 RX3 yX3_mustExist wsX3_mustExist) := goodIn_app (goodIn_of _ (by decide +kernel)) ggX3_at_X3_mustExist
set_option maxRecDepth 20000 in
theorem ggX3_rank_X3_work : GoodIn wsX3_rank wsX3_work := goodIn_r _ [6, 7, 1, 8, 9, 10, 11, 12, 13, 14, 15, 16, 17, 18, 19, 20, 21, 22, 23, 24, 25, 26, 27, 28, 29, 30, 31, 32, 33, 34, 35, 36, 37, 38, 39, 40, 41, 42, 43, 44, 45, 46, 47, 48, 49, 50, 51, 52, 53, 54, 55, 56, 57, 58, 63, 64, 65, 66, 67, 68, 69, 70, 71, 72, 73, 74, 75, 76, 77, 78, 79] (by decide +kernel) (by decide +kernel)
set_option maxRecDepth 20000 in
theorem gX3_rank_X3_work : GoodIn wsX3_rank (wsV RX3 84 RX3 yX3_work wsX3_work) := goodIn_app (goodIn_of _ (by decide +kernel)) ggX3_rank_X3_work
set_option maxRecDepth 20000 in
theorem ggX3_rank_X1_boundLamps : GoodIn wsX3_rank wsX1_boundLamps := goodIn_r _ [62, 23, 73, 74, 75, 76, 77, 78, 79] (by decide +kernel) (by decide +kernel)
set_option maxRecDepth 20000 in
theorem gX3_rank_X1_boundLamps : GoodIn wsX3_rank (wsV RX3 87 RX1 yX1_boundLamps wsX1_boundLamps) := goodIn_app (goodIn_of _ (by decide +kernel)) ggX3_rank_X1_boundLamps
set_option maxRecDepth 20000 in
theorem ggX3_solvable_X3_work : GoodIn wsX3_solvable wsX3_work := goodIn_r _ [6, 7, 1, 8, 9, 10, 11, 12, 13, 14, 15, 16, 17, 18, 19, 20, 21, 22, 23, 24, 25, 26, 27, 28, 29, 30, 31, 32, 33, 34, 35, 36, 37, 38, 39, 40, 41, 42, 43, 44, 45, 46, 47, 48, 49, 50, 51, 52, 53, 54, 55, 56, 57, 58, 63, 64, 65, 66, 67, 68, 69, 70, 71, 72, 73, 74, 75, 76, 77, 78, 79] (by decide +kernel) (by decide +kernel)
set_option maxRecDepth 20000 in
theorem gX3_solvable_X3_work : GoodIn wsX3_solvable (wsV RX3 84 RX3 yX3_work wsX3_work) := goodIn_app (goodIn_of _ (by decide +kernel)) ggX3_solvable_X3_work
set_option maxRecDepth 20000 in
theorem ggX3_solvable_X1_agree : GoodIn wsX3_solvable wsX1_agree := goodIn_r _ [62, 23, 16, 17, 73, 74, 75, 76, 77, 78, 79] (by decide +kernel) (by decide +kernel)
set_option maxRecDepth 20000 in
theorem gX3_solvable_X1_agree : GoodIn wsX3_solvable (wsV RX3 91 RX1 yX1_agree wsX1_agree) := goodIn_app (goodIn_of _ (by decide +kernel)) ggX3_solvable_X1_agree
set_option maxRecDepth 20000 in
theorem ggX3_answer_X3_mustExist : GoodIn wsX3_answer wsX3_mustExist := goodIn_r _ [6, 7, 8, 9, 10, 75, 76, 77, 78, 79, 80, 81, 82, 83, 84, 85, 86, 87, 88, 89, 90] (by decide +kernel) (by decide +kernel)
set_option maxRecDepth 20000 in
theorem gX3_answer_X3_mustExist : GoodIn wsX3_answer (wsV RX3 69 RX3 yX3_mustExist wsX3_mustExist) := goodIn_app (goodIn_of _ (by decide +kernel)) ggX3_answer_X3_mustExist
set_option maxRecDepth 20000 in
theorem ggX3_answer_X3_work : GoodIn wsX3_answer wsX3_work := goodIn_r _ [14, 15, 1, 16, 17, 18, 19, 20, 21, 22, 23, 24, 25, 26, 27, 28, 29, 30, 31, 32, 33, 34, 35, 36, 37, 38, 39, 40, 41, 42, 43, 44, 45, 46, 47, 48, 49, 50, 51, 52, 53, 54, 55, 56, 57, 58, 59, 60, 61, 62, 63, 64, 65, 66, 75, 76, 77, 78, 79, 80, 81, 82, 83, 84, 91, 92, 93, 94, 95, 96, 97] (by decide +kernel) (by decide +kernel)
set_option maxRecDepth 20000 in
theorem gX3_answer_X3_work : GoodIn wsX3_answer (wsV RX3 84 RX3 yX3_work wsX3_work) := goodIn_app (goodIn_of _ (by decide +kernel)) ggX3_answer_X3_work
set_option maxRecDepth 20000 in
theorem ggX3_answer_X1_agree : GoodIn wsX3_answer wsX1_agree := goodIn_r _ [70, 31, 24, 25, 91, 92, 93, 94, 95, 96, 97] (by decide +kernel) (by decide +kernel)
set_option maxRecDepth 20000 in
theorem gX3_answer_X1_agree : GoodIn wsX3_answer (wsV RX3 91 RX1 yX1_agree wsX1_agree) := goodIn_app (goodIn_of _ (by decide +kernel)) ggX3_answer_X1_agree
set_option maxRecDepth 20000 in
theorem ggX3_answer_X1_pressesOf : GoodIn wsX3_answer wsX1_pressesOf := goodIn_r _ [74, 32, 25, 24, 91, 92, 93, 94, 95, 96, 97] (by decide +kernel) (by decide +kernel)
set_option maxRecDepth 20000 in
theorem gX3_answer_X1_pressesOf : GoodIn wsX3_answer (wsV RX3 95 RX1 yX1_pressesOf wsX1_pressesOf) := goodIn_app (goodIn_of _ (by decide +kernel)) ggX3_answer_X1_pressesOf
set_option maxRecDepth 20000 in
theorem ggX3_quiet_X3_mustExist : GoodIn wsX3_quiet wsX3_mustExist := goodIn_r _ [6, 7, 8, 9, 10, 75, 76, 77, 78, 79, 80, 81, 82, 83, 84, 85, 86, 87, 88, 89, 90] (by decide +kernel) (by decide +kernel)
set_option maxRecDepth 20000 in
theorem gX3_quiet_X3_mustExist : GoodIn wsX3_quiet (wsV RX3 69 RX3 yX3_mustExist wsX3_mustExist) := goodIn_app (goodIn_of _ (by decide +kernel)) ggX3_quiet_X3_mustExist
set_option maxRecDepth 20000 in
theorem ggX3_quiet_X3_work : GoodIn wsX3_quiet wsX3_work := goodIn_r _ [14, 15, 1, 16, 17, 18, 19, 20, 21, 22, 23, 24, 25, 26, 27, 28, 29, 30, 31, 32, 33, 34, 35, 36, 37, 38, 39, 40, 41, 42, 43, 44, 45, 46, 47, 48, 49, 50, 51, 52, 53, 54, 55, 56, 57, 58, 59, 60, 61, 62, 63, 64, 65, 66, 75, 76, 77, 78, 79, 80, 81, 82, 83, 84, 91, 92, 93, 94, 95, 96, 97] (by decide +kernel) (by decide +kernel)
set_option maxRecDepth 20000 in
theorem gX3_quiet_X3_work : GoodIn wsX3_quiet (wsV RX3 84 RX3 yX3_work wsX3_work) := goodIn_app (goodIn_of _ (by decide +kernel)) ggX3_quiet_X3_work
set_option maxRecDepth 20000 in
theorem ggX3_quiet_X1_freeLamps : GoodIn wsX3_quiet wsX1_freeLamps := goodIn_r _ [70, 61, 91, 92, 93, 94, 95, 96, 97] (by decide +kernel) (by decide +kernel)
set_option maxRecDepth 20000 in
theorem gX3_quiet_X1_freeLamps : GoodIn wsX3_quiet (wsV RX3 98 RX1 yX1_freeLamps wsX1_freeLamps) := goodIn_app (goodIn_of _ (by decide +kernel)) ggX3_quiet_X1_freeLamps
set_option maxRecDepth 20000 in
theorem ggX3_quiet_X1_quietPattern : GoodIn wsX3_quiet wsX1_quietPattern := goodIn_r _ [74, 62, 91, 92, 93, 94, 95, 96, 97] (by decide +kernel) (by decide +kernel)
set_option maxRecDepth 20000 in
theorem gX3_quiet_X1_quietPattern : GoodIn wsX3_quiet (wsV RX3 101 RX1 yX1_quietPattern wsX1_quietPattern) := goodIn_app (goodIn_of _ (by decide +kernel)) ggX3_quiet_X1_quietPattern
set_option maxRecDepth 20000 in
theorem ggX3_count_X3_work : GoodIn wsX3_count wsX3_work := goodIn_r _ [8, 9, 2, 10, 11, 12, 13, 14, 15, 16, 17, 18, 19, 20, 21, 22, 23, 24, 25, 26, 27, 28, 29, 30, 31, 32, 33, 34, 35, 36, 37, 38, 39, 40, 41, 42, 43, 44, 45, 46, 47, 48, 49, 50, 51, 52, 53, 54, 55, 56, 57, 58, 59, 60, 84, 85, 86, 87, 88, 89, 90, 91, 92, 93, 94, 95, 96, 97, 98, 99, 100] (by decide +kernel) (by decide +kernel)
set_option maxRecDepth 20000 in
theorem gX3_count_X3_work : GoodIn wsX3_count (wsV RX3 84 RX3 yX3_work wsX3_work) := goodIn_app (goodIn_of _ (by decide +kernel)) ggX3_count_X3_work
set_option maxRecDepth 20000 in
theorem ggX3_count_X1_agree : GoodIn wsX3_count wsX1_agree := goodIn_r _ [64, 25, 18, 19, 94, 95, 96, 97, 98, 99, 100] (by decide +kernel) (by decide +kernel)
set_option maxRecDepth 20000 in
theorem gX3_count_X1_agree : GoodIn wsX3_count (wsV RX3 91 RX1 yX1_agree wsX1_agree) := goodIn_app (goodIn_of _ (by decide +kernel)) ggX3_count_X1_agree
set_option maxRecDepth 20000 in
theorem ggX3_count_X0_become : GoodIn wsX3_count wsX0_become := goodIn_r _ [69, 70, 71, 101, 102] (by decide +kernel) (by decide +kernel)
set_option maxRecDepth 20000 in
theorem gX3_count_X0_become : GoodIn wsX3_count (wsV RX3 105 RX0 yX0_become wsX0_become) := goodIn_app (goodIn_of _ (by decide +kernel)) ggX3_count_X0_become
set_option maxRecDepth 20000 in
theorem ggX3_count_X1_freeLamps : GoodIn wsX3_count wsX1_freeLamps := goodIn_r _ [75, 55, 94, 95, 96, 97, 98, 99, 100] (by decide +kernel) (by decide +kernel)
set_option maxRecDepth 20000 in
theorem gX3_count_X1_freeLamps : GoodIn wsX3_count (wsV RX3 98 RX1 yX1_freeLamps wsX1_freeLamps) := goodIn_app (goodIn_of _ (by decide +kernel)) ggX3_count_X1_freeLamps
set_option maxRecDepth 20000 in
theorem ggX3_count_X0_multiply : GoodIn wsX3_count wsX0_multiply := goodIn_r _ [79, 71, 70, 101, 102] (by decide +kernel) (by decide +kernel)
set_option maxRecDepth 20000 in
theorem gX3_count_X0_multiply : GoodIn wsX3_count (wsV RX3 108 RX0 yX0_multiply wsX0_multiply) := goodIn_app (goodIn_of _ (by decide +kernel)) ggX3_count_X0_multiply
set_option maxRecDepth 20000 in
theorem ggX3_count_X0_digit : GoodIn wsX3_count wsX0_digit := goodIn_r _ [83, 71, 70, 101, 102] (by decide +kernel) (by decide +kernel)
set_option maxRecDepth 20000 in
theorem gX3_count_X0_digit : GoodIn wsX3_count (wsV RX3 111 RX0 yX0_digit wsX0_digit) := goodIn_app (goodIn_of _ (by decide +kernel)) ggX3_count_X0_digit
set_option maxRecDepth 20000 in
theorem ggX3_fewest_X3_seek : GoodIn wsX3_fewest wsX3_seek := goodIn_r _ [6, 7, 1, 8, 9, 10, 11, 5, 12, 13, 14, 15, 16, 17, 18, 19, 20, 21, 22, 23, 24, 25, 26, 27, 28, 29, 30, 31, 32, 33, 34, 35, 36, 37, 38, 39, 40, 41, 42, 43, 44, 45, 46, 47, 48, 49, 50, 51, 52, 53, 54, 55, 56, 57, 58, 59, 60, 61, 62, 63, 64, 65, 66, 67, 68, 69, 70, 71, 72, 73, 74, 75, 76, 77, 78, 79, 80, 81, 82, 83, 84, 85, 86, 87, 88, 89, 90, 91, 92, 93, 94, 95, 96, 97, 98, 99, 100, 101, 102, 103, 104, 105, 106, 107, 108, 109, 110, 111, 112, 113, 114, 115, 116, 117, 118, 119, 120, 121, 122, 123, 124, 125, 126, 127, 132, 133, 134, 135, 136, 137, 138, 139, 140, 141, 142, 143, 144, 145, 146, 147, 148, 149, 150, 151, 152, 153, 154] (by decide +kernel) (by decide +kernel)
set_option maxRecDepth 20000 in
theorem gX3_fewest_X3_seek : GoodIn wsX3_fewest (wsV RX3 114 RX3 yX3_seek wsX3_seek) := goodIn_app (goodIn_of _ (by decide +kernel)) ggX3_fewest_X3_seek
set_option maxRecDepth 20000 in
theorem ggX3_fewest_X2_leastTotal : GoodIn wsX3_fewest wsX2_leastTotal := goodIn_r _ [131, 70, 149, 150, 151, 152, 153, 154] (by decide +kernel) (by decide +kernel)
set_option maxRecDepth 20000 in
theorem gX3_fewest_X2_leastTotal : GoodIn wsX3_fewest (wsV RX3 117 RX2 yX2_leastTotal wsX2_leastTotal) := goodIn_app (goodIn_of _ (by decide +kernel)) ggX3_fewest_X2_leastTotal
set_option maxRecDepth 20000 in
theorem ggX3_best_X3_mustExist : GoodIn wsX3_best wsX3_mustExist := goodIn_r _ [6, 7, 8, 9, 10, 144, 145, 146, 147, 148, 149, 150, 151, 152, 153, 154, 155, 156, 157, 158, 159] (by decide +kernel) (by decide +kernel)
set_option maxRecDepth 20000 in
theorem gX3_best_X3_mustExist : GoodIn wsX3_best (wsV RX3 69 RX3 yX3_mustExist wsX3_mustExist) := goodIn_app (goodIn_of _ (by decide +kernel)) ggX3_best_X3_mustExist
set_option maxRecDepth 20000 in
theorem ggX3_best_X3_seek : GoodIn wsX3_best wsX3_seek := goodIn_r _ [14, 15, 1, 16, 17, 18, 19, 5, 20, 21, 22, 23, 24, 25, 26, 27, 28, 29, 30, 31, 32, 33, 34, 35, 36, 37, 38, 39, 40, 41, 42, 43, 44, 45, 46, 47, 48, 49, 50, 51, 52, 53, 54, 55, 56, 57, 58, 59, 60, 61, 62, 63, 64, 65, 66, 67, 68, 69, 70, 71, 72, 73, 74, 75, 76, 77, 78, 79, 80, 81, 82, 83, 84, 85, 86, 87, 88, 89, 90, 91, 92, 93, 94, 95, 96, 97, 98, 99, 100, 101, 102, 103, 104, 105, 106, 107, 108, 109, 110, 111, 112, 113, 114, 115, 116, 117, 118, 119, 120, 121, 122, 123, 124, 125, 126, 127, 128, 129, 130, 131, 132, 133, 134, 135, 144, 145, 146, 147, 148, 149, 150, 151, 152, 153, 160, 161, 162, 163, 164, 165, 166, 167, 168, 169, 170, 171, 172] (by decide +kernel) (by decide +kernel)
set_option maxRecDepth 20000 in
theorem gX3_best_X3_seek : GoodIn wsX3_best (wsV RX3 114 RX3 yX3_seek wsX3_seek) := goodIn_app (goodIn_of _ (by decide +kernel)) ggX3_best_X3_seek
set_option maxRecDepth 20000 in
theorem ggX3_best_X2_leastTotal : GoodIn wsX3_best wsX2_leastTotal := goodIn_r _ [139, 78, 167, 168, 169, 170, 171, 172] (by decide +kernel) (by decide +kernel)
set_option maxRecDepth 20000 in
theorem gX3_best_X2_leastTotal : GoodIn wsX3_best (wsV RX3 117 RX2 yX2_leastTotal wsX2_leastTotal) := goodIn_app (goodIn_of _ (by decide +kernel)) ggX3_best_X2_leastTotal
set_option maxRecDepth 20000 in
theorem ggX3_best_X2_leastPresses : GoodIn wsX3_best wsX2_leastPresses := goodIn_r _ [143, 106, 167, 168, 169, 170, 171, 172] (by decide +kernel) (by decide +kernel)
set_option maxRecDepth 20000 in
theorem gX3_best_X2_leastPresses : GoodIn wsX3_best (wsV RX3 120 RX2 yX2_leastPresses wsX2_leastPresses) := goodIn_app (goodIn_of _ (by decide +kernel)) ggX3_best_X2_leastPresses
set_option maxRecDepth 20000 in
theorem ggX3_alone_X3_mustExist : GoodIn wsX3_alone wsX3_mustExist := goodIn_r _ [6, 7, 8, 9, 10, 75, 76, 77, 78, 79, 80, 81, 82, 83, 84, 85, 86, 87, 88, 89, 90] (by decide +kernel) (by decide +kernel)
set_option maxRecDepth 20000 in
theorem gX3_alone_X3_mustExist : GoodIn wsX3_alone (wsV RX3 69 RX3 yX3_mustExist wsX3_mustExist) := goodIn_app (goodIn_of _ (by decide +kernel)) ggX3_alone_X3_mustExist
set_option maxRecDepth 20000 in
theorem ggX3_alone_X3_work : GoodIn wsX3_alone wsX3_work := goodIn_r _ [14, 15, 1, 16, 17, 18, 19, 20, 21, 22, 23, 24, 25, 26, 27, 28, 29, 30, 31, 32, 33, 34, 35, 36, 37, 38, 39, 40, 41, 42, 43, 44, 45, 46, 47, 48, 49, 50, 51, 52, 53, 54, 55, 56, 57, 58, 59, 60, 61, 62, 63, 64, 65, 66, 75, 76, 77, 78, 79, 80, 81, 82, 83, 84, 91, 92, 93, 94, 95, 96, 97] (by decide +kernel) (by decide +kernel)
set_option maxRecDepth 20000 in
theorem gX3_alone_X3_work : GoodIn wsX3_alone (wsV RX3 84 RX3 yX3_work wsX3_work) := goodIn_app (goodIn_of _ (by decide +kernel)) ggX3_alone_X3_work
set_option maxRecDepth 20000 in
theorem ggX3_alone_X1_freeLamps : GoodIn wsX3_alone wsX1_freeLamps := goodIn_r _ [70, 61, 91, 92, 93, 94, 95, 96, 97] (by decide +kernel) (by decide +kernel)
set_option maxRecDepth 20000 in
theorem gX3_alone_X1_freeLamps : GoodIn wsX3_alone (wsV RX3 98 RX1 yX1_freeLamps wsX1_freeLamps) := goodIn_app (goodIn_of _ (by decide +kernel)) ggX3_alone_X1_freeLamps
set_option maxRecDepth 20000 in
theorem ggX3_alone_X1_quietPattern : GoodIn wsX3_alone wsX1_quietPattern := goodIn_r _ [74, 62, 91, 92, 93, 94, 95, 96, 97] (by decide +kernel) (by decide +kernel)
set_option maxRecDepth 20000 in
theorem gX3_alone_X1_quietPattern : GoodIn wsX3_alone (wsV RX3 101 RX1 yX1_quietPattern wsX1_quietPattern) := goodIn_app (goodIn_of _ (by decide +kernel)) ggX3_alone_X1_quietPattern
set_option maxRecDepth 20000 in
theorem ggX3_clear_X3_forget : GoodIn wsX3_clear wsX3_forget := goodIn_r _ [8, 9, 10, 11, 12, 13, 14, 15, 16, 17, 18, 19, 20] (by decide +kernel) (by decide +kernel)
set_option maxRecDepth 20000 in
theorem gX3_clear_X3_forget : GoodIn wsX3_clear (wsV RX3 77 RX3 yX3_forget wsX3_forget) := goodIn_app (goodIn_of _ (by decide +kernel)) ggX3_clear_X3_forget
set_option maxRecDepth 20000 in
theorem ggX3_work_X1_take : GoodIn wsX3_work wsX1_take := goodIn_r _ [10, 11, 12, 13, 64, 65, 66, 67, 68, 69, 70] (by decide +kernel) (by decide +kernel)
set_option maxRecDepth 20000 in
theorem gX3_work_X1_take : GoodIn wsX3_work (wsV RX3 130 RX1 yX1_take wsX1_take) := goodIn_app (goodIn_of _ (by decide +kernel)) ggX3_work_X1_take
set_option maxRecDepth 20000 in
theorem ggX3_work_X1_reduce : GoodIn wsX3_work wsX1_reduce := goodIn_r _ [17, 18, 11, 19, 12, 20, 21, 22, 9, 23, 24, 25, 26, 27, 28, 29, 30, 31, 13, 32, 33, 34, 35, 36, 37, 38, 39, 40, 41, 42, 43, 44, 45, 46, 47, 48, 49, 50, 51, 52, 53, 64, 65, 66, 67, 68, 69, 70] (by decide +kernel) (by decide +kernel)
set_option maxRecDepth 20000 in
theorem gX3_work_X1_reduce : GoodIn wsX3_work (wsV RX3 134 RX1 yX1_reduce wsX1_reduce) := goodIn_app (goodIn_of _ (by decide +kernel)) ggX3_work_X1_reduce
set_option maxRecDepth 20000 in
theorem ggX3_seek_X3_work : GoodIn wsX3_seek wsX3_work := goodIn_r _ [8, 9, 3, 10, 11, 12, 13, 14, 15, 16, 17, 18, 19, 20, 21, 22, 23, 24, 25, 26, 27, 28, 29, 30, 31, 32, 33, 34, 35, 36, 37, 38, 39, 40, 41, 42, 43, 44, 45, 46, 47, 48, 49, 50, 51, 52, 53, 54, 55, 56, 57, 58, 59, 60, 124, 125, 126, 127, 128, 129, 130, 131, 132, 133, 134, 135, 136, 137, 138, 139, 140] (by decide +kernel) (by decide +kernel)
set_option maxRecDepth 20000 in
theorem gX3_seek_X3_work : GoodIn wsX3_seek (wsV RX3 84 RX3 yX3_work wsX3_work) := goodIn_app (goodIn_of _ (by decide +kernel)) ggX3_seek_X3_work
set_option maxRecDepth 20000 in
theorem ggX3_seek_X2_run : GoodIn wsX3_seek wsX2_run := goodIn_r _ [65, 66, 67, 68, 69, 16, 70, 55, 20, 71, 72, 73, 74, 25, 18, 19, 75, 76, 77, 64, 78, 79, 80, 81, 82, 83, 84, 85, 26, 86, 87, 88, 89, 90, 91, 92, 93, 94, 95, 96, 97, 98, 99, 100, 101, 102, 103, 104, 105, 106, 107, 108, 109, 110, 111, 56, 112, 113, 114, 115, 116, 117, 118, 119, 120, 121, 122, 123, 141, 142, 143, 144, 145, 146, 134, 135, 136, 137, 138, 139, 140] (by decide +kernel) (by decide +kernel)
set_option maxRecDepth 20000 in
theorem gX3_seek_X2_run : GoodIn wsX3_seek (wsV RX3 137 RX2 yX2_run wsX2_run) := goodIn_app (goodIn_of _ (by decide +kernel)) ggX3_seek_X2_run
end
section
theorem nI_or (a b : Nat) : nI a ||| nI b = nI (a ||| b) := by
  apply Int32.toBitVec_inj.mp
  show (Int32.ofNat a ||| Int32.ofNat b).toBitVec = (Int32.ofNat (a ||| b)).toBitVec
  apply BitVec.eq_of_toNat_eq
  simp [Int32.toBitVec_or, Int32.toBitVec_ofNat']
theorem nI_xor (a b : Nat) : nI a ^^^ nI b = nI (a ^^^ b) := by
  apply Int32.toBitVec_inj.mp
  show (Int32.ofNat a ^^^ Int32.ofNat b).toBitVec = (Int32.ofNat (a ^^^ b)).toBitVec
  apply BitVec.eq_of_toNat_eq
  simp [Int32.toBitVec_xor, Int32.toBitVec_ofNat']
theorem nI_shl1 {b : Nat} (hb : b < 31) : nI 1 <<< (nI b &&& 31) = nI (2 ^ b) := by
  have h : 2 ^ b < 2 ^ 31 := Nat.pow_lt_pow_right (by omega) hb
  have := pk_shlN (n := 1) (nI b &&& 31) b (s_l b (by omega)) (by omega)
  rw [Nat.one_mul] at this
  exact this
theorem bit_or {x a i : Nat} : (x ||| 2 ^ a) / 2 ^ i % 2 = if i = a then 1 else x / 2 ^ i % 2 := by
  have h1 : ((x ||| 2 ^ a).testBit i) = (x.testBit i || decide (a = i)) := by rw [Nat.testBit_or, Nat.testBit_two_pow]
  rw [Nat.testBit_eq_decide_div_mod_eq, Nat.testBit_eq_decide_div_mod_eq] at h1
  have h2 := Nat.mod_two_eq_zero_or_one ((x ||| 2 ^ a) / 2 ^ i)
  have h3 := Nat.mod_two_eq_zero_or_one (x / 2 ^ i)
  by_cases e : i = a
  · subst e
    rw [if_pos rfl]
    simp at h1
    exact h1
  · rw [if_neg e]
    simp [Ne.symm e] at h1
    rcases h2 with h2 | h2 <;> rcases h3 with h3 | h3 <;> simp [h2, h3] at h1 ⊢
theorem bit_xor {x a i : Nat} : (x ^^^ 2 ^ a) / 2 ^ i % 2 = if i = a then 1 - x / 2 ^ i % 2 else x / 2 ^ i % 2 := by
  have h1 : ((x ^^^ 2 ^ a).testBit i) = (x.testBit i ^^ decide (a = i)) := by rw [Nat.testBit_xor, Nat.testBit_two_pow]
  rw [Nat.testBit_eq_decide_div_mod_eq, Nat.testBit_eq_decide_div_mod_eq] at h1
  have h2 := Nat.mod_two_eq_zero_or_one ((x ^^^ 2 ^ a) / 2 ^ i)
  have h3 := Nat.mod_two_eq_zero_or_one (x / 2 ^ i)
  by_cases e : i = a
  · subst e
    rw [if_pos rfl]
    rcases h2 with h2 | h2 <;> rcases h3 with h3 | h3 <;> simp [h2, h3] at h1 ⊢
  · rw [if_neg e]
    simp [Ne.symm e] at h1
    rcases h2 with h2 | h2 <;> rcases h3 with h3 | h3 <;> simp [h2, h3] at h1 ⊢
theorem or_lt {x a : Nat} (hx : x < 2 ^ 30) (ha : a < 30) : x ||| 2 ^ a < 2 ^ 30 := Nat.or_lt_two_pow hx (Nat.pow_lt_pow_right (by omega) ha)
theorem xor_lt {x a : Nat} (hx : x < 2 ^ 30) (ha : a < 30) : x ^^^ 2 ^ a < 2 ^ 30 := Nat.xor_lt_two_pow hx (Nat.pow_lt_pow_right (by omega) ha)
/-- how many of the first n lamps differ -/
def apt (f g : Nat → Nat) : Nat → Nat
  | 0 => 0
  | i + 1 => if f i = g i then apt f g i else apt f g i + 1
theorem apt_le (f g : Nat → Nat) : ∀ n, apt f g n ≤ n
  | 0 => Nat.le_refl 0
  | n + 1 => by
    have := apt_le f g n
    simp only [apt]
    split <;> omega
/-- the equations are worked out for the graph tm, the states st and what is wanted -/
def eqS (n q : Nat) (tm st wt : Nat → Nat) (gR gQ : Nat → Nat) (pr : Nat → Nat → Nat) (ro : Nat → Option Nat) (bd fr : Nat) : Prop :=
  ∃ (M : Nat → Nat → Nat) (r0 : Nat → Option Nat), (∀ i, i < n → ∀ j, j < n → M i j = tm j / 2 ^ i % 2) ∧ (∀ i, i < n → M i n = (wt i + q - st i) % q) ∧ (∀ i, i < n → pr (gR i) = (rds n q M r0 n).1 i) ∧ ro = (rds n q M r0 n).2.1 ∧ bd = (rds n q M r0 n).2.2 ∧ fr = cF ro n ∧ ∀ j, j < n → ro j = none → ∀ i, i < n → pr (gQ (cF ro j)) i = qv q (rds n q M r0 n).1 ro j i
theorem eqS.lt {n q : Nat} {tm st wt gR gQ : Nat → Nat} {pr : Nat → Nat → Nat} {ro : Nat → Option Nat} {bd fr : Nat} (h : eqS n q tm st wt gR gQ pr ro bd fr) (hq : 2 ≤ q) : (∀ i, i < n → ∀ j, j < n + 1 → pr (gR i) j < q) ∧ (∀ j, j < n → ∀ r, ro j = some r → r < bd) ∧ bd ≤ n ∧ fr ≤ n := by
  obtain ⟨M, r0, h1, h2, h3, h4, h5, h6, -⟩ := h
  have hM : ∀ i, i < n → ∀ j, j < n + 1 → M i j < q := by
    intro i hi j hj
    by_cases e : j = n
    · subst e; rw [h2 i hi]; exact Nat.mod_lt _ (by omega)
    · rw [h1 i hi j (by omega)]
      have := Nat.mod_lt (tm j / 2 ^ i) (show 0 < 2 by omega)
      omega
  refine ⟨fun i hi j hj => ?_, fun j hj r hr => ?_, ?_, ?_⟩
  · rw [h3 i hi]; exact rds_lt (by omega) hM n (Nat.le_refl n) i hi j hj
  · rw [h4] at hr; rw [h5]; exact rds_ro n j hj r hr
  · rw [h5]; exact rds_bd n
  · rw [h6]; exact cF_le ro n
/-- each QUIET pattern is that of a FREE lamp -/
theorem cF_ex (ro : Nat → Option Nat) : ∀ (n k : Nat), k < cF ro n → ∃ j, j < n ∧ ro j = none ∧ cF ro j = k
  | 0, k, h => absurd h (Nat.not_lt_zero k)
  | n + 1, k, h => by
    rcases hr : ro n with _ | r
    · rw [cF_none hr] at h
      by_cases e : k = cF ro n
      · exact ⟨n, by omega, hr, e.symm⟩
      · obtain ⟨j, h1, h2, h3⟩ := cF_ex ro n k (by omega)
        exact ⟨j, by omega, h2, h3⟩
    · rw [cF_some hr] at h
      obtain ⟨j, h1, h2, h3⟩ := cF_ex ro n k h
      exact ⟨j, by omega, h2, h3⟩
theorem qv_lt {q : Nat} {M : Nat → Nat → Nat} {ro : Nat → Option Nat} {f i : Nat} (hq : 2 ≤ q) : qv q M ro f i < q := by
  unfold qv
  split
  · omega
  · rcases ro i with _ | r
    · dsimp only; omega
    · exact Nat.mod_lt _ (by omega)
theorem eqS.qlt {n q : Nat} {tm st wt gR gQ : Nat → Nat} {pr : Nat → Nat → Nat} {ro : Nat → Option Nat} {bd fr : Nat} (h : eqS n q tm st wt gR gQ pr ro bd fr) (hq : 2 ≤ q) : ∀ k, k < fr → ∀ j, j < n → pr (gQ k) j < q := by
  obtain ⟨M, r0, -, -, -, h4, h5, h6, h7⟩ := h
  intro k hk j hj
  rw [h6] at hk
  obtain ⟨f, e1, e2, e3⟩ := cF_ex ro n k hk
  rw [← e3, h7 f e1 e2 j hj]
  exact qv_lt hq
end
section
set_option maxHeartbeats 4000000 in
set_option maxRecDepth 100000 in
theorem c_X3_forget (l : Launch) (dC : Nat → ClassId) (dI : Nat → Nat → Nat) (sz : Nat) (o0 n q : Nat) (aw as : Int32) (v2 v3 v4 v5 v6 v7 : Value)  : Met l yX3_forget wsX3_forget ({ frames := 0, cells := 0, slots := 0, locals := 0 }) (va_Pc [.ref o0] (fun U => U.heap.size = sz ∧ va_P (dC, dI) vwCl [(o0, .inr (4, [.int (nI (n)), .int (nI (q)), v2, v3, v4, v5, v6, v7, .int (aw), .int (as)]))] U.heap ∧ va_K (dC, dI) vwCl [] U ∧ va_D (fun _ => True) [(o0, .inr (4, [.int (nI (n)), .int (nI (q)), v2, v3, v4, v5, v6, v7, .int (aw), .int (as)]))])) (va_Qv (fun _ : Unit => True) (fun _ t => va_P (dC, dI) vwCl [(o0, .inr (4, [.int (nI (n)), .int (nI (q)), v2, v3, v4, v5, v6, v7, .int (bI false), .int (bI false)]))] t.heap ∧ va_K (dC, dI) vwCl [] t ∧ va_D (va_A [(o0, .inr (4, [.int (nI (n)), .int (nI (q)), v2, v3, v4, v5, v6, v7, .int (aw), .int (as)]))] sz) [(o0, .inr (4, [.int (nI (n)), .int (nI (q)), v2, v3, v4, v5, v6, v7, .int (bI false), .int (bI false)]))]) (va_A [(o0, .inr (4, [.int (nI (n)), .int (nI (q)), v2, v3, v4, v5, v6, v7, .int (aw), .int (as)]))] sz)) 0 0 (va_A [(o0, .inr (4, [.int (nI (n)), .int (nI (q)), v2, v3, v4, v5, v6, v7, .int (aw), .int (as)]))] sz) := by
  refine Met.ofW (cc := cX3_forget) (maxL := 1) (ret := none) (by decide) rfl ?_
  intro zp ze s m args below meth zc s₁ B hml hv
  obtain ⟨hargs, hsz, hP, hK, hD0⟩ := hv
  have hx := B.exec
  have hb := B.bytes
  have hr := B.returns
  have hts := atoms_spec (ws := wsX3_forget) B.pre
  have hown : s.vm.findClass RX3 = some m.cls := findClass_of_methodNamed B.named
  have hlocks := B.notSynchronized
  subst hsz
  obtain ⟨Q, hQ⟩ : ∃ Q, Q = MQ below (va_Qv (fun _ : Unit => True) (fun _ t => va_P (dC, dI) vwCl [(o0, .inr (4, [.int (nI (n)), .int (nI (q)), v2, v3, v4, v5, v6, v7, .int (bI false), .int (bI false)]))] t.heap ∧ va_K (dC, dI) vwCl [] t ∧ va_D (va_A [(o0, .inr (4, [.int (nI (n)), .int (nI (q)), v2, v3, v4, v5, v6, v7, .int (aw), .int (as)]))] s.heap.size) [(o0, .inr (4, [.int (nI (n)), .int (nI (q)), v2, v3, v4, v5, v6, v7, .int (bI false), .int (bI false)]))]) (va_A [(o0, .inr (4, [.int (nI (n)), .int (nI (q)), v2, v3, v4, v5, v6, v7, .int (aw), .int (as)]))] s.heap.size)) args s 0 0 (va_A [(o0, .inr (4, [.int (nI (n)), .int (nI (q)), v2, v3, v4, v5, v6, v7, .int (aw), .int (as)]))] s.heap.size) := ⟨_, rfl⟩
  rw [← hQ]
  have hD := hD0.self (sz := s.heap.size)
  generalize hAe : (va_A [(o0, .inr (4, [.int (nI (n)), .int (nI (q)), v2, v3, v4, v5, v6, v7, .int (aw), .int (as)]))] s.heap.size) = A at hD hQ
  have hA : ∀ q : Nat, s.heap.size ≤ q → A q := fun q h => by rw [← hAe]; exact Or.inr h
  have hS : va_S A s.heap s.heap [] := va_S.rf
  have hl := lv_entry ([.ref o0]) (n := 1) (Nat.le_of_ble_eq_true rfl)
  generalize hen : entryFrame m args 1 = fr
  rw [hargs, lg_entry_eq] at hen
  subst hen
  generalize (lg_sl ([.ref o0]) ++ List.replicate (1 - (lg_sl ([.ref o0])).length) Slot.unset).toArray = ls at hl ⊢
  have hl : lv_has ls 1 [(0, .ref o0)] := hl
  have hinX3 : ∀ w ∈ wsX30, w ∈ wsX3_forget := by decide +kernel
  have hf62 := hts (.fieldLink RX3 62 "LightRows" "worked" "Z") (by decide +kernel)
  have hf66 := hts (.fieldLink RX3 66 "LightRows" "searched" "Z") (by decide +kernel)
  refine lv_aload_n hx hb dX3_forget_0 rfl (lv_at hl 0 rfl) ?_
  refine lv_iconst (v := nI 0) hx hb dX3_forget_1 (by decide) ?_
  refine va_put (D := (dC, dI)) (ci := 4) (v := .int (nI (0))) (ty := .boolean) (C := RX3) (T := TX3) (N := 10) hx hb hts hinX3 tyX3 tyX3_ok nmX3 hown hK hP hD hS 0 rfl rfl 8 (by decide) hf62 (fun _ h9 => h9) rfl (by decide +kernel) rfl rfl (Nat.le_of_ble_eq_true rfl) dX3_forget_2 (fun H locs hP hD hS => ?_)
  have hP : va_P (dC, dI) vwCl [(o0, .inr (4, [.int (nI (n)), .int (nI (q)), v2, v3, v4, v5, v6, v7, .int (nI (0)), .int (as)]))] H := hP
  have hD : va_D A [(o0, .inr (4, [.int (nI (n)), .int (nI (q)), v2, v3, v4, v5, v6, v7, .int (nI (0)), .int (as)]))] := hD
  refine lv_aload_n hx hb dX3_forget_5 rfl (lv_at hl 0 rfl) ?_
  refine lv_iconst (v := nI 0) hx hb dX3_forget_6 (by decide) ?_
  refine va_put (D := (dC, dI)) (ci := 4) (v := .int (nI (0))) (ty := .boolean) (C := RX3) (T := TX3) (N := 10) hx hb hts hinX3 tyX3 tyX3_ok nmX3 hown hK hP hD hS 0 rfl rfl 9 (by decide) hf66 (fun _ h9 => h9) rfl (by decide +kernel) rfl rfl (Nat.le_of_ble_eq_true rfl) dX3_forget_7 (fun H locs hP hD hS => ?_)
  have hP : va_P (dC, dI) vwCl [(o0, .inr (4, [.int (nI (n)), .int (nI (q)), v2, v3, v4, v5, v6, v7, .int (nI (0)), .int (nI (0))]))] H := hP
  have hD : va_D A [(o0, .inr (4, [.int (nI (n)), .int (nI (q)), v2, v3, v4, v5, v6, v7, .int (nI (0)), .int (nI (0))]))] := hD
  rw [hQ]
  exact W.vret hx hb hr (fun t ht hW => ⟨⟨(), rfl, trivial, by rw [ht]; exact hP, va_K.moved hW.alike hK, hD⟩, hS.F ht⟩) hS.2.2 dX3_forget_10

set_option maxHeartbeats 4000000 in
set_option maxRecDepth 100000 in
theorem c_X3_touches (l : Launch) (dC : Nat → ClassId) (dI : Nat → Nat → Nat) (sz : Nat) (o0 b1 n q a b : Nat) (tm : Nat → Nat) (wk sd : Bool) (cI : ClassId) (v2 v3 v5 v6 v7 : Value) (hn : n < 31) (ha : a < n) (hb0 : b < n) (ht0 : tm a < 2 ^ 31) : Met l yX3_touches wsX3_touches ({ frames := 0, cells := 0, slots := 0, locals := 0 }) (va_Pc [.ref o0, .int (nI (a)), .int (nI (b))] (fun U => U.heap.size = sz ∧ va_P (dC, dI) vwCl [(o0, .inr (4, [.int (nI (n)), .int (nI (q)), v2, v3, .ref b1, v5, v6, v7, .int (bI wk), .int (bI sd)])), (b1, .inl (cI, n, .inl (fun j => nI (tm j))))] U.heap ∧ va_K (dC, dI) vwCl [(cI, .int)] U ∧ va_D (fun _ => True) [(o0, .inr (4, [.int (nI (n)), .int (nI (q)), v2, v3, .ref b1, v5, v6, v7, .int (bI wk), .int (bI sd)])), (b1, .inl (cI, n, .inl (fun j => nI (tm j))))])) (va_Qi (fun (z : Int32) (_ : Unit) => z = bI (decide (tm a / 2 ^ b % 2 = 1))) (fun _ t => va_P (dC, dI) vwCl [(o0, .inr (4, [.int (nI (n)), .int (nI (q)), v2, v3, .ref b1, v5, v6, v7, .int (bI wk), .int (bI sd)])), (b1, .inl (cI, n, .inl (fun j => nI (tm j))))] t.heap ∧ va_K (dC, dI) vwCl [(cI, .int)] t ∧ va_D (va_A [(o0, .inr (4, [.int (nI (n)), .int (nI (q)), v2, v3, .ref b1, v5, v6, v7, .int (bI wk), .int (bI sd)])), (b1, .inl (cI, n, .inl (fun j => nI (tm j))))] sz) [(o0, .inr (4, [.int (nI (n)), .int (nI (q)), v2, v3, .ref b1, v5, v6, v7, .int (bI wk), .int (bI sd)])), (b1, .inl (cI, n, .inl (fun j => nI (tm j))))]) (va_A [(o0, .inr (4, [.int (nI (n)), .int (nI (q)), v2, v3, .ref b1, v5, v6, v7, .int (bI wk), .int (bI sd)])), (b1, .inl (cI, n, .inl (fun j => nI (tm j))))] sz)) 0 0 (va_A [(o0, .inr (4, [.int (nI (n)), .int (nI (q)), v2, v3, .ref b1, v5, v6, v7, .int (bI wk), .int (bI sd)])), (b1, .inl (cI, n, .inl (fun j => nI (tm j))))] sz) := by
  refine Met.ofW (cc := cX3_touches) (maxL := 3) (ret := (some .boolean)) (by decide) rfl ?_
  intro zp ze s m args below meth zc s₁ B hml hv
  obtain ⟨hargs, hsz, hP, hK, hD0⟩ := hv
  have hx := B.exec
  have hb := B.bytes
  have hr := B.returns
  have hts := atoms_spec (ws := wsX3_touches) B.pre
  have hown : s.vm.findClass RX3 = some m.cls := findClass_of_methodNamed B.named
  have hlocks := B.notSynchronized
  subst hsz
  obtain ⟨Q, hQ⟩ : ∃ Q, Q = MQ below (va_Qi (fun (z : Int32) (_ : Unit) => z = bI (decide (tm a / 2 ^ b % 2 = 1))) (fun _ t => va_P (dC, dI) vwCl [(o0, .inr (4, [.int (nI (n)), .int (nI (q)), v2, v3, .ref b1, v5, v6, v7, .int (bI wk), .int (bI sd)])), (b1, .inl (cI, n, .inl (fun j => nI (tm j))))] t.heap ∧ va_K (dC, dI) vwCl [(cI, .int)] t ∧ va_D (va_A [(o0, .inr (4, [.int (nI (n)), .int (nI (q)), v2, v3, .ref b1, v5, v6, v7, .int (bI wk), .int (bI sd)])), (b1, .inl (cI, n, .inl (fun j => nI (tm j))))] s.heap.size) [(o0, .inr (4, [.int (nI (n)), .int (nI (q)), v2, v3, .ref b1, v5, v6, v7, .int (bI wk), .int (bI sd)])), (b1, .inl (cI, n, .inl (fun j => nI (tm j))))]) (va_A [(o0, .inr (4, [.int (nI (n)), .int (nI (q)), v2, v3, .ref b1, v5, v6, v7, .int (bI wk), .int (bI sd)])), (b1, .inl (cI, n, .inl (fun j => nI (tm j))))] s.heap.size)) args s 0 0 (va_A [(o0, .inr (4, [.int (nI (n)), .int (nI (q)), v2, v3, .ref b1, v5, v6, v7, .int (bI wk), .int (bI sd)])), (b1, .inl (cI, n, .inl (fun j => nI (tm j))))] s.heap.size) := ⟨_, rfl⟩
  rw [← hQ]
  have hD := hD0.self (sz := s.heap.size)
  generalize hAe : (va_A [(o0, .inr (4, [.int (nI (n)), .int (nI (q)), v2, v3, .ref b1, v5, v6, v7, .int (bI wk), .int (bI sd)])), (b1, .inl (cI, n, .inl (fun j => nI (tm j))))] s.heap.size) = A at hD hQ
  have hA : ∀ q : Nat, s.heap.size ≤ q → A q := fun q h => by rw [← hAe]; exact Or.inr h
  have hS : va_S A s.heap s.heap [] := va_S.rf
  have hl := lv_entry ([.ref o0, .int (nI (a)), .int (nI (b))]) (n := 3) (Nat.le_of_ble_eq_true rfl)
  generalize hen : entryFrame m args 3 = fr
  rw [hargs, lg_entry_eq] at hen
  subst hen
  generalize (lg_sl ([.ref o0, .int (nI (a)), .int (nI (b))]) ++ List.replicate (3 - (lg_sl ([.ref o0, .int (nI (a)), .int (nI (b))])).length) Slot.unset).toArray = ls at hl ⊢
  have hl : lv_has ls 3 [(0, .ref o0), (1, .int (nI (a))), (2, .int (nI (b)))] := hl
  have hinX3 : ∀ w ∈ wsX30, w ∈ wsX3_touches := by decide +kernel
  have hf36 := hts (.fieldLink RX3 36 "LightRows" "touched" "[I") (by decide +kernel)
  have e4 : tm a / 2 ^ b ≤ tm a := Nat.div_le_self _ _
  refine lv_aload_n hx hb dX3_touches_0 rfl (lv_at hl 0 rfl) ?_
  refine va_get (D := (dC, dI)) (ci := 4) (v := .ref b1) (C := RX3) (T := TX3) (N := 10) hx hb hts hinX3 hown hK hP 0 rfl rfl 4 (by decide) hf36 (fun _ h9 => h9) rfl dX3_touches_1 ?_
  refine lv_iload_n hx hb dX3_touches_4 rfl (lv_at hl 1 rfl) ?_
  refine ra_ld (g := nI) (F := tm) hx hb hK hP 1 0 rfl rfl (by omega) (by omega) dX3_touches_5 ?_
  refine lv_iload_n hx hb dX3_touches_6 rfl (lv_at hl 2 rfl) ?_
  refine lv_ishr hx hb dX3_touches_7 ?_
  refine tp_i (y := nI ((tm a) / 2 ^ b)) (pk_shrN (by omega) _ _ (s_l _ (by omega))) ?_
  refine lv_iconst (v := nI 1) hx hb dX3_touches_8 (by decide) ?_
  refine lv_iand hx hb dX3_touches_9 ?_
  refine tp_i (y := nI (((tm a) / 2 ^ b) % 2)) (pk_andN (by omega) 1 (by decide)) ?_
  refine lv_iconst (v := nI 1) hx hb dX3_touches_10 (by decide) ?_
  refine lv_icmp_ne (tgt := 18) hx hb dX3_touches_11 (by decide) (fun c => ?_) (fun c => ?_)
  · skip
    have c : ((tm a) / 2 ^ b) % 2 ≠ 1 := fun h => c ((nI_eq (a := ((tm a) / 2 ^ b) % 2) (b := 1) (by omega) (by omega)).mpr h)
    refine lv_iconst (v := nI 0) hx hb dX3_touches_18 (by decide) ?_
    rw [hQ]
    exact W.zret (v := nI (0)) (ty := .boolean) hx hb hr rfl (fun t ht hW => ⟨⟨_, (), rfl, by rw [decide_eq_false c]; rfl, by rw [ht]; exact hP, va_K.moved hW.alike hK, hD⟩, hS.F ht⟩) hS.2.2 dX3_touches_19
  · skip
    have c : ((tm a) / 2 ^ b) % 2 = 1 := (nI_eq (a := ((tm a) / 2 ^ b) % 2) (b := 1) (by omega) (by omega)).mp c
    refine lv_iconst (v := nI 1) hx hb dX3_touches_14 (by decide) ?_
    refine lv_goto (tgt := 19) hx hb dX3_touches_15 (by decide) ?_
    rw [hQ]
    exact W.zret (v := nI (1)) (ty := .boolean) hx hb hr rfl (fun t ht hW => ⟨⟨_, (), rfl, by rw [decide_eq_true c]; rfl, by rw [ht]; exact hP, va_K.moved hW.alike hK, hD⟩, hS.F ht⟩) hS.2.2 dX3_touches_19

set_option maxHeartbeats 4000000 in
set_option maxRecDepth 100000 in
theorem c_X3_isState (l : Launch) (dC : Nat → ClassId) (dI : Nat → Nat → Nat) (sz : Nat) (o0 n q : Nat) (v : Int32) (wk sd : Bool) (v2 v3 v4 v5 v6 v7 : Value) (hq : q < 100) : Met l yX3_isState wsX3_isState ({ frames := 0, cells := 0, slots := 0, locals := 0 }) (va_Pc [.ref o0, .int (v)] (fun U => U.heap.size = sz ∧ va_P (dC, dI) vwCl [(o0, .inr (4, [.int (nI (n)), .int (nI (q)), v2, v3, v4, v5, v6, v7, .int (bI wk), .int (bI sd)]))] U.heap ∧ va_K (dC, dI) vwCl [] U ∧ va_D (fun _ => True) [(o0, .inr (4, [.int (nI (n)), .int (nI (q)), v2, v3, v4, v5, v6, v7, .int (bI wk), .int (bI sd)]))])) (va_Qi (fun (z : Int32) (_ : Unit) => (z = nI 1 ∧ ∃ k : Nat, k < q ∧ v = nI k) ∨ (z = nI 0 ∧ ∀ k : Nat, k < q → v ≠ nI k)) (fun _ t => va_P (dC, dI) vwCl [(o0, .inr (4, [.int (nI (n)), .int (nI (q)), v2, v3, v4, v5, v6, v7, .int (bI wk), .int (bI sd)]))] t.heap ∧ va_K (dC, dI) vwCl [] t ∧ va_D (va_A [(o0, .inr (4, [.int (nI (n)), .int (nI (q)), v2, v3, v4, v5, v6, v7, .int (bI wk), .int (bI sd)]))] sz) [(o0, .inr (4, [.int (nI (n)), .int (nI (q)), v2, v3, v4, v5, v6, v7, .int (bI wk), .int (bI sd)]))]) (va_A [(o0, .inr (4, [.int (nI (n)), .int (nI (q)), v2, v3, v4, v5, v6, v7, .int (bI wk), .int (bI sd)]))] sz)) 0 0 (va_A [(o0, .inr (4, [.int (nI (n)), .int (nI (q)), v2, v3, v4, v5, v6, v7, .int (bI wk), .int (bI sd)]))] sz) := by
  refine Met.ofW (cc := cX3_isState) (maxL := 2) (ret := (some .boolean)) (by decide) rfl ?_
  intro zp ze s m args below meth zc s₁ B hml hv
  obtain ⟨hargs, hsz, hP, hK, hD0⟩ := hv
  have hx := B.exec
  have hb := B.bytes
  have hr := B.returns
  have hts := atoms_spec (ws := wsX3_isState) B.pre
  have hown : s.vm.findClass RX3 = some m.cls := findClass_of_methodNamed B.named
  have hlocks := B.notSynchronized
  subst hsz
  obtain ⟨Q, hQ⟩ : ∃ Q, Q = MQ below (va_Qi (fun (z : Int32) (_ : Unit) => (z = nI 1 ∧ ∃ k : Nat, k < q ∧ v = nI k) ∨ (z = nI 0 ∧ ∀ k : Nat, k < q → v ≠ nI k)) (fun _ t => va_P (dC, dI) vwCl [(o0, .inr (4, [.int (nI (n)), .int (nI (q)), v2, v3, v4, v5, v6, v7, .int (bI wk), .int (bI sd)]))] t.heap ∧ va_K (dC, dI) vwCl [] t ∧ va_D (va_A [(o0, .inr (4, [.int (nI (n)), .int (nI (q)), v2, v3, v4, v5, v6, v7, .int (bI wk), .int (bI sd)]))] s.heap.size) [(o0, .inr (4, [.int (nI (n)), .int (nI (q)), v2, v3, v4, v5, v6, v7, .int (bI wk), .int (bI sd)]))]) (va_A [(o0, .inr (4, [.int (nI (n)), .int (nI (q)), v2, v3, v4, v5, v6, v7, .int (bI wk), .int (bI sd)]))] s.heap.size)) args s 0 0 (va_A [(o0, .inr (4, [.int (nI (n)), .int (nI (q)), v2, v3, v4, v5, v6, v7, .int (bI wk), .int (bI sd)]))] s.heap.size) := ⟨_, rfl⟩
  rw [← hQ]
  have hD := hD0.self (sz := s.heap.size)
  generalize hAe : (va_A [(o0, .inr (4, [.int (nI (n)), .int (nI (q)), v2, v3, v4, v5, v6, v7, .int (bI wk), .int (bI sd)]))] s.heap.size) = A at hD hQ
  have hA : ∀ q : Nat, s.heap.size ≤ q → A q := fun q h => by rw [← hAe]; exact Or.inr h
  have hS : va_S A s.heap s.heap [] := va_S.rf
  have hl := lv_entry ([.ref o0, .int (v)]) (n := 2) (Nat.le_of_ble_eq_true rfl)
  generalize hen : entryFrame m args 2 = fr
  rw [hargs, lg_entry_eq] at hen
  subst hen
  generalize (lg_sl ([.ref o0, .int (v)]) ++ List.replicate (2 - (lg_sl ([.ref o0, .int (v)])).length) Slot.unset).toArray = ls at hl ⊢
  have hl : lv_has ls 2 [(0, .ref o0), (1, .int (v))] := hl
  have hinX3 : ∀ w ∈ wsX30, w ∈ wsX3_isState := by decide +kernel
  have hf26 := hts (.fieldLink RX3 26 "LightRows" "states" "I") (by decide +kernel)
  refine lv_iload_n hx hb dX3_isState_0 rfl (lv_at hl 1 rfl) ?_
  refine lv_if_lt (tgt := 16) hx hb dX3_isState_1 (by decide) (fun c => ?_) (fun c => ?_)
  · skip
    refine lv_iconst (v := nI 0) hx hb dX3_isState_16 (by decide) ?_
    rw [hQ]
    exact W.zret (v := nI (0)) (ty := .boolean) hx hb hr rfl (fun t ht hW => ⟨⟨_, (), rfl, Or.inr ⟨rfl, fun k hk e => nI_pos (by omega) (e ▸ c)⟩, by rw [ht]; exact hP, va_K.moved hW.alike hK, hD⟩, hS.F ht⟩) hS.2.2 dX3_isState_17
  · skip
    refine lv_iload_n hx hb dX3_isState_4 rfl (lv_at hl 1 rfl) ?_
    refine lv_aload_n hx hb dX3_isState_5 rfl (lv_at hl 0 rfl) ?_
    refine va_get (D := (dC, dI)) (ci := 4) (v := .int (nI (q))) (C := RX3) (T := TX3) (N := 10) hx hb hts hinX3 hown hK hP 0 rfl rfl 1 (by decide) hf26 (fun _ h9 => h9) rfl dX3_isState_6 ?_
    refine lv_icmp_ge (tgt := 16) hx hb dX3_isState_9 (by decide) (fun c2 => ?_) (fun c2 => ?_)
    · skip
      refine lv_iconst (v := nI 0) hx hb dX3_isState_16 (by decide) ?_
      rw [hQ]
      exact W.zret (v := nI (0)) (ty := .boolean) hx hb hr rfl (fun t ht hW => ⟨⟨_, (), rfl, Or.inr ⟨rfl, fun k hk e => by rw [e, nI_leI (by omega) (by omega)] at c2; omega⟩, by rw [ht]; exact hP, va_K.moved hW.alike hK, hD⟩, hS.F ht⟩) hS.2.2 dX3_isState_17
    · skip
      refine lv_iconst (v := nI 1) hx hb dX3_isState_12 (by decide) ?_
      refine lv_goto (tgt := 17) hx hb dX3_isState_13 (by decide) ?_
      rw [hQ]
      exact W.zret (v := nI (1)) (ty := .boolean) hx hb hr rfl (fun t ht hW => ⟨⟨_, (), rfl, Or.inl ⟨rfl, by
            rcases pk_ix v (n := q) (by omega) with h | h | h
            · exact absurd h c
            · exact absurd h c2
            · exact h⟩, by rw [ht]; exact hP, va_K.moved hW.alike hK, hD⟩, hS.F ht⟩) hS.2.2 dX3_isState_17

set_option maxHeartbeats 4000000 in
set_option maxRecDepth 100000 in
theorem c_X3_at (l : Launch) (dC : Nat → ClassId) (dI : Nat → Nat → Nat) (hfl : l.flags = pinnedFlags ++ [noTraceFlag]) (s0 : State) (A0 : Array Value) (str : Nat) (sz : Nat) (o0 b2 n q : Nat) (x : Int32) (st : Nat → Nat) (wk sd : Bool) (cI : ClassId) (v3 v4 v5 v6 v7 : Value) (hn : n < 1000) : tt_Met l yX3_at wsX3_at ({ frames := 8, cells := 1, slots := 6, locals := 116 }) (va_Pc [.ref o0, .int (x)] (fun U => U.heap.size = sz ∧ va_P (dC, dI) vwCl [(o0, .inr (4, [.int (nI (n)), .int (nI (q)), .ref b2, v3, v4, v5, v6, v7, .int (bI wk), .int (bI sd)])), (b2, .inl (cI, n, .inl (fun j => nI (st j))))] U.heap ∧ va_K (dC, dI) vwCl [(cI, .int)] U ∧ va_D (fun _ => True) [(o0, .inr (4, [.int (nI (n)), .int (nI (q)), .ref b2, v3, v4, v5, v6, v7, .int (bI wk), .int (bI sd)])), (b2, .inl (cI, n, .inl (fun j => nI (st j))))] ∧ tt_B s0 A0 str U)) (tt_Q (∃ j : Nat, j < n ∧ x = nI j) (va_Qi (fun (z : Int32) (_ : Unit) => ∃ j : Nat, j < n ∧ x = nI j ∧ z = nI (st j)) (fun _ t => va_P (dC, dI) vwCl [(o0, .inr (4, [.int (nI (n)), .int (nI (q)), .ref b2, v3, v4, v5, v6, v7, .int (bI wk), .int (bI sd)])), (b2, .inl (cI, n, .inl (fun j => nI (st j))))] t.heap ∧ va_K (dC, dI) vwCl [(cI, .int)] t ∧ va_D (va_A [(o0, .inr (4, [.int (nI (n)), .int (nI (q)), .ref b2, v3, v4, v5, v6, v7, .int (bI wk), .int (bI sd)])), (b2, .inl (cI, n, .inl (fun j => nI (st j))))] sz) [(o0, .inr (4, [.int (nI (n)), .int (nI (q)), .ref b2, v3, v4, v5, v6, v7, .int (bI wk), .int (bI sd)])), (b2, .inl (cI, n, .inl (fun j => nI (st j))))]) (va_A [(o0, .inr (4, [.int (nI (n)), .int (nI (q)), .ref b2, v3, v4, v5, v6, v7, .int (bI wk), .int (bI sd)])), (b2, .inl (cI, n, .inl (fun j => nI (st j))))] sz))) 1 6 (va_A [(o0, .inr (4, [.int (nI (n)), .int (nI (q)), .ref b2, v3, v4, v5, v6, v7, .int (bI wk), .int (bI sd)])), (b2, .inl (cI, n, .inl (fun j => nI (st j))))] sz) := by
  refine tt_ofW (cc := cX3_at) (maxL := 2) (ret := (some .int)) (by decide) rfl ?_
  intro zp ze s m args below meth zc s₁ B hml hv
  obtain ⟨hargs, hsz, hP, hK, hD0, hB⟩ := hv
  have hx := B.exec
  have hb := B.bytes
  have hr := B.returns
  have hts := atoms_spec (ws := wsX3_at) B.pre
  have hown : s.vm.findClass RX3 = some m.cls := findClass_of_methodNamed B.named
  have hlocks := B.notSynchronized
  have hemp := B.noHandlers (hts _ List.mem_cons_self)
  subst hsz
  obtain ⟨Q, hQ⟩ : ∃ Q, Q = tt_MQ below (tt_Q (∃ j : Nat, j < n ∧ x = nI j) (va_Qi (fun (z : Int32) (_ : Unit) => ∃ j : Nat, j < n ∧ x = nI j ∧ z = nI (st j)) (fun _ t => va_P (dC, dI) vwCl [(o0, .inr (4, [.int (nI (n)), .int (nI (q)), .ref b2, v3, v4, v5, v6, v7, .int (bI wk), .int (bI sd)])), (b2, .inl (cI, n, .inl (fun j => nI (st j))))] t.heap ∧ va_K (dC, dI) vwCl [(cI, .int)] t ∧ va_D (va_A [(o0, .inr (4, [.int (nI (n)), .int (nI (q)), .ref b2, v3, v4, v5, v6, v7, .int (bI wk), .int (bI sd)])), (b2, .inl (cI, n, .inl (fun j => nI (st j))))] s.heap.size) [(o0, .inr (4, [.int (nI (n)), .int (nI (q)), .ref b2, v3, v4, v5, v6, v7, .int (bI wk), .int (bI sd)])), (b2, .inl (cI, n, .inl (fun j => nI (st j))))]) (va_A [(o0, .inr (4, [.int (nI (n)), .int (nI (q)), .ref b2, v3, v4, v5, v6, v7, .int (bI wk), .int (bI sd)])), (b2, .inl (cI, n, .inl (fun j => nI (st j))))] s.heap.size))) args s 1 6 (va_A [(o0, .inr (4, [.int (nI (n)), .int (nI (q)), .ref b2, v3, v4, v5, v6, v7, .int (bI wk), .int (bI sd)])), (b2, .inl (cI, n, .inl (fun j => nI (st j))))] s.heap.size) := ⟨_, rfl⟩
  rw [← hQ]
  have hD := hD0.self (sz := s.heap.size)
  generalize hAe : (va_A [(o0, .inr (4, [.int (nI (n)), .int (nI (q)), .ref b2, v3, v4, v5, v6, v7, .int (bI wk), .int (bI sd)])), (b2, .inl (cI, n, .inl (fun j => nI (st j))))] s.heap.size) = A at hD hQ
  have hA : ∀ q : Nat, s.heap.size ≤ q → A q := fun q h => by rw [← hAe]; exact Or.inr h
  have hS : va_S A s.heap s.heap [] := va_S.rf
  have hl := lv_entry ([.ref o0, .int (x)]) (n := 2) (Nat.le_of_ble_eq_true rfl)
  generalize hen : entryFrame m args 2 = fr
  rw [hargs, lg_entry_eq] at hen
  subst hen
  generalize (lg_sl ([.ref o0, .int (x)]) ++ List.replicate (2 - (lg_sl ([.ref o0, .int (x)])).length) Slot.unset).toArray = ls at hl ⊢
  have hl : lv_has ls 2 [(0, .ref o0), (1, .int (x))] := hl
  have hinX3 : ∀ w ∈ wsX30, w ∈ wsX3_at := by decide +kernel
  have hf18 := hts (.fieldLink RX3 18 "LightRows" "lamps" "I") (by decide +kernel)
  have hf29 := hts (.fieldLink RX3 29 "LightRows" "now" "[I") (by decide +kernel)
  refine lv_aload_n hx hb dX3_at_0 rfl (lv_at hl 0 rfl) ?_
  refine lv_iload_n hx hb dX3_at_1 rfl (lv_at hl 1 rfl) ?_
  have hPc := hP.sub (ws' := [(o0, .inr (4, [.int (nI (n)), .int (nI (q)), .ref b2, v3, v4, v5, v6, v7, .int (bI wk), .int (bI sd)]))]) [0] rfl
  have hDc := hD.sub (ws' := [(o0, .inr (4, [.int (nI (n)), .int (nI (q)), .ref b2, v3, v4, v5, v6, v7, .int (bI wk), .int (bI sd)]))]) [0] (by decide) rfl
  have hKc := hK.sub (tys' := []) [] rfl
  rw [hQ]
  refine tt_must (mc := 1) (ms := 6) (tt_runV (As := [.int (x)]) (rest := []) ⟨hx, hb, hml, hown, hts⟩ (c_X3_mustExist l dC dI hfl s0 A0 str s.heap.size o0 n (.int (nI (q))) (.ref b2) (v3) (v4) (v5) (v6) (v7) (.int (bI wk)) (.int (bI sd)) (x) hn) (cwV 1 hts gX3_at_X3_mustExist rfl rfl rfl (by decide +kernel) ⟨Nat.le_of_ble_eq_true rfl, Nat.le_of_ble_eq_true rfl⟩) ⟨fun a U g mk q => by obtain ⟨q0, q1, qP, qK, qD, qB⟩ := q; exact ⟨q0, q1, qP, va_K.moved (u := U) (U := U.calling g mk a) (Vm.Alike.refl U.vm) qK, qD, qB.blind rfl rfl⟩, va_recv hKc hPc (ci := 4) (q0 := 0) rfl rfl, fun U hU hW => ⟨rfl, by rw [hU], by rw [hU]; exact hPc, va_K.moved hW.alike hKc, hDc.weaken (fun _ _ _ _ => trivial), hB.later hU hW⟩⟩ rfl rfl hl.1 rfl (lv_room (Nat.le_of_ble_eq_true rfl)) dX3_at_2 ⟨Nat.le_of_ble_eq_true rfl, Nat.le_of_ble_eq_true rfl⟩) hemp hlocks (Nat.le_of_ble_eq_true rfl) (Nat.le_of_ble_eq_true rfl) (id) (fun hin => ?_)
  rw [← hQ]
  obtain ⟨ja, hja, eja⟩ := id hin
  subst eja
  refine lv_aload_n hx hb dX3_at_5 rfl (lv_at hl 0 rfl) ?_
  refine va_get (D := (dC, dI)) (ci := 4) (v := .ref b2) (C := RX3) (T := TX3) (N := 10) hx hb hts hinX3 hown hK hP 0 rfl rfl 2 (by decide) hf29 (fun _ h9 => h9) rfl dX3_at_6 ?_
  refine lv_iload_n hx hb dX3_at_9 rfl (lv_at hl 1 rfl) ?_
  refine ra_ld (g := nI) (F := st) hx hb hK hP 1 0 rfl rfl (by omega) (by omega) dX3_at_10 ?_
  rw [hQ]
  refine tt_ret (⟨ja, hja, rfl⟩) ?_
  exact W.iret (v := nI (st ja)) hx hb hr (fun t ht hW => ⟨⟨_, (), rfl, ⟨ja, hja, rfl, rfl⟩, by rw [ht]; exact hP, va_K.moved hW.alike hK, hD⟩, hS.F ht⟩) hS.2.2 dX3_at_11

set_option maxHeartbeats 4000000 in
set_option maxRecDepth 100000 in
theorem c_X3_set (l : Launch) (dC : Nat → ClassId) (dI : Nat → Nat → Nat) (hfl : l.flags = pinnedFlags ++ [noTraceFlag]) (s0 : State) (A0 : Array Value) (str : Nat) (sz : Nat) (o0 b2 n q : Nat) (x v : Int32) (st : Nat → Nat) (wk sd : Bool) (cI : ClassId) (v3 v4 v5 v6 v7 : Value) (hn : n < 1000) (hq : q < 100) : tt_Met l yX3_set wsX3_set ({ frames := 8, cells := 1, slots := 6, locals := 116 }) (va_Pc [.ref o0, .int (x), .int (v)] (fun U => U.heap.size = sz ∧ va_P (dC, dI) vwCl [(o0, .inr (4, [.int (nI (n)), .int (nI (q)), .ref b2, v3, v4, v5, v6, v7, .int (bI wk), .int (bI sd)])), (b2, .inl (cI, n, .inl (fun j => nI (st j))))] U.heap ∧ va_K (dC, dI) vwCl [(cI, .int)] U ∧ va_D (fun _ => True) [(o0, .inr (4, [.int (nI (n)), .int (nI (q)), .ref b2, v3, v4, v5, v6, v7, .int (bI wk), .int (bI sd)])), (b2, .inl (cI, n, .inl (fun j => nI (st j))))] ∧ tt_B s0 A0 str U)) (tt_Q (∃ j : Nat, j < n ∧ x = nI j) (va_Qi (fun (z : Int32) (u : (Nat → Nat) × Bool × Bool) => (z = nI 1 ∧ ∃ j k : Nat, j < n ∧ k < q ∧ x = nI j ∧ v = nI k ∧ u = (va_up st j k, false, false)) ∨ (z = nI 0 ∧ (∀ k : Nat, k < q → v ≠ nI k) ∧ u = (st, wk, sd))) (fun u t => va_P (dC, dI) vwCl [(o0, .inr (4, [.int (nI (n)), .int (nI (q)), .ref b2, v3, v4, v5, v6, v7, .int (bI u.2.1), .int (bI u.2.2)])), (b2, .inl (cI, n, .inl (fun j => nI (u.1 j))))] t.heap ∧ va_K (dC, dI) vwCl [(cI, .int)] t ∧ va_D (va_A [(o0, .inr (4, [.int (nI (n)), .int (nI (q)), .ref b2, v3, v4, v5, v6, v7, .int (bI wk), .int (bI sd)])), (b2, .inl (cI, n, .inl (fun j => nI (st j))))] sz) [(o0, .inr (4, [.int (nI (n)), .int (nI (q)), .ref b2, v3, v4, v5, v6, v7, .int (bI u.2.1), .int (bI u.2.2)])), (b2, .inl (cI, n, .inl (fun j => nI (u.1 j))))]) (va_A [(o0, .inr (4, [.int (nI (n)), .int (nI (q)), .ref b2, v3, v4, v5, v6, v7, .int (bI wk), .int (bI sd)])), (b2, .inl (cI, n, .inl (fun j => nI (st j))))] sz))) 1 6 (va_A [(o0, .inr (4, [.int (nI (n)), .int (nI (q)), .ref b2, v3, v4, v5, v6, v7, .int (bI wk), .int (bI sd)])), (b2, .inl (cI, n, .inl (fun j => nI (st j))))] sz) := by
  refine tt_ofW (cc := cX3_set) (maxL := 3) (ret := (some .boolean)) (by decide) rfl ?_
  intro zp ze s m args below meth zc s₁ B hml hv
  obtain ⟨hargs, hsz, hP, hK, hD0, hB⟩ := hv
  have hx := B.exec
  have hb := B.bytes
  have hr := B.returns
  have hts := atoms_spec (ws := wsX3_set) B.pre
  have hown : s.vm.findClass RX3 = some m.cls := findClass_of_methodNamed B.named
  have hlocks := B.notSynchronized
  have hemp := B.noHandlers (hts _ List.mem_cons_self)
  subst hsz
  obtain ⟨Q, hQ⟩ : ∃ Q, Q = tt_MQ below (tt_Q (∃ j : Nat, j < n ∧ x = nI j) (va_Qi (fun (z : Int32) (u : (Nat → Nat) × Bool × Bool) => (z = nI 1 ∧ ∃ j k : Nat, j < n ∧ k < q ∧ x = nI j ∧ v = nI k ∧ u = (va_up st j k, false, false)) ∨ (z = nI 0 ∧ (∀ k : Nat, k < q → v ≠ nI k) ∧ u = (st, wk, sd))) (fun u t => va_P (dC, dI) vwCl [(o0, .inr (4, [.int (nI (n)), .int (nI (q)), .ref b2, v3, v4, v5, v6, v7, .int (bI u.2.1), .int (bI u.2.2)])), (b2, .inl (cI, n, .inl (fun j => nI (u.1 j))))] t.heap ∧ va_K (dC, dI) vwCl [(cI, .int)] t ∧ va_D (va_A [(o0, .inr (4, [.int (nI (n)), .int (nI (q)), .ref b2, v3, v4, v5, v6, v7, .int (bI wk), .int (bI sd)])), (b2, .inl (cI, n, .inl (fun j => nI (st j))))] s.heap.size) [(o0, .inr (4, [.int (nI (n)), .int (nI (q)), .ref b2, v3, v4, v5, v6, v7, .int (bI u.2.1), .int (bI u.2.2)])), (b2, .inl (cI, n, .inl (fun j => nI (u.1 j))))]) (va_A [(o0, .inr (4, [.int (nI (n)), .int (nI (q)), .ref b2, v3, v4, v5, v6, v7, .int (bI wk), .int (bI sd)])), (b2, .inl (cI, n, .inl (fun j => nI (st j))))] s.heap.size))) args s 1 6 (va_A [(o0, .inr (4, [.int (nI (n)), .int (nI (q)), .ref b2, v3, v4, v5, v6, v7, .int (bI wk), .int (bI sd)])), (b2, .inl (cI, n, .inl (fun j => nI (st j))))] s.heap.size) := ⟨_, rfl⟩
  rw [← hQ]
  have hD := hD0.self (sz := s.heap.size)
  generalize hAe : (va_A [(o0, .inr (4, [.int (nI (n)), .int (nI (q)), .ref b2, v3, v4, v5, v6, v7, .int (bI wk), .int (bI sd)])), (b2, .inl (cI, n, .inl (fun j => nI (st j))))] s.heap.size) = A at hD hQ
  have hA : ∀ q : Nat, s.heap.size ≤ q → A q := fun q h => by rw [← hAe]; exact Or.inr h
  have hS : va_S A s.heap s.heap [] := va_S.rf
  have hl := lv_entry ([.ref o0, .int (x), .int (v)]) (n := 3) (Nat.le_of_ble_eq_true rfl)
  generalize hen : entryFrame m args 3 = fr
  rw [hargs, lg_entry_eq] at hen
  subst hen
  generalize (lg_sl ([.ref o0, .int (x), .int (v)]) ++ List.replicate (3 - (lg_sl ([.ref o0, .int (x), .int (v)])).length) Slot.unset).toArray = ls at hl ⊢
  have hl : lv_has ls 3 [(0, .ref o0), (1, .int (x)), (2, .int (v))] := hl
  have hinX3 : ∀ w ∈ wsX30, w ∈ wsX3_set := by decide +kernel
  have hf18 := hts (.fieldLink RX3 18 "LightRows" "lamps" "I") (by decide +kernel)
  have hf26 := hts (.fieldLink RX3 26 "LightRows" "states" "I") (by decide +kernel)
  have hf29 := hts (.fieldLink RX3 29 "LightRows" "now" "[I") (by decide +kernel)
  have hf62 := hts (.fieldLink RX3 62 "LightRows" "worked" "Z") (by decide +kernel)
  have hf66 := hts (.fieldLink RX3 66 "LightRows" "searched" "Z") (by decide +kernel)
  refine lv_aload_n hx hb dX3_set_0 rfl (lv_at hl 0 rfl) ?_
  refine lv_iload_n hx hb dX3_set_1 rfl (lv_at hl 1 rfl) ?_
  have hPc := hP.sub (ws' := [(o0, .inr (4, [.int (nI (n)), .int (nI (q)), .ref b2, v3, v4, v5, v6, v7, .int (bI wk), .int (bI sd)]))]) [0] rfl
  have hDc := hD.sub (ws' := [(o0, .inr (4, [.int (nI (n)), .int (nI (q)), .ref b2, v3, v4, v5, v6, v7, .int (bI wk), .int (bI sd)]))]) [0] (by decide) rfl
  have hKc := hK.sub (tys' := []) [] rfl
  rw [hQ]
  refine tt_must (mc := 1) (ms := 6) (tt_runV (As := [.int (x)]) (rest := []) ⟨hx, hb, hml, hown, hts⟩ (c_X3_mustExist l dC dI hfl s0 A0 str s.heap.size o0 n (.int (nI (q))) (.ref b2) (v3) (v4) (v5) (v6) (v7) (.int (bI wk)) (.int (bI sd)) (x) hn) (cwV 1 hts gX3_set_X3_mustExist rfl rfl rfl (by decide +kernel) ⟨Nat.le_of_ble_eq_true rfl, Nat.le_of_ble_eq_true rfl⟩) ⟨fun a U g mk q => by obtain ⟨q0, q1, qP, qK, qD, qB⟩ := q; exact ⟨q0, q1, qP, va_K.moved (u := U) (U := U.calling g mk a) (Vm.Alike.refl U.vm) qK, qD, qB.blind rfl rfl⟩, va_recv hKc hPc (ci := 4) (q0 := 0) rfl rfl, fun U hU hW => ⟨rfl, by rw [hU], by rw [hU]; exact hPc, va_K.moved hW.alike hKc, hDc.weaken (fun _ _ _ _ => trivial), hB.later hU hW⟩⟩ rfl rfl hl.1 rfl (lv_room (Nat.le_of_ble_eq_true rfl)) dX3_set_2 ⟨Nat.le_of_ble_eq_true rfl, Nat.le_of_ble_eq_true rfl⟩) hemp hlocks (Nat.le_of_ble_eq_true rfl) (Nat.le_of_ble_eq_true rfl) (id) (fun hin => ?_)
  rw [← hQ]
  obtain ⟨ja, hja, eja⟩ := id hin
  subst eja
  refine lv_aload_n hx hb dX3_set_5 rfl (lv_at hl 0 rfl) ?_
  refine lv_iload_n hx hb dX3_set_6 rfl (lv_at hl 2 rfl) ?_
  have hPc := hP.sub (ws' := [(o0, .inr (4, [.int (nI (n)), .int (nI (q)), .ref b2, v3, v4, v5, v6, v7, .int (bI wk), .int (bI sd)]))]) [0] rfl
  have hDc := hD.sub (ws' := [(o0, .inr (4, [.int (nI (n)), .int (nI (q)), .ref b2, v3, v4, v5, v6, v7, .int (bI wk), .int (bI sd)]))]) [0] (by decide) rfl
  have hFc := va_free (wc := [(o0, .inr (4, [.int (nI (n)), .int (nI (q)), .ref b2, v3, v4, v5, v6, v7, .int (bI wk), .int (bI sd)]))]) hD hS hA [0] rfl
  have hKc := hK.sub (tys' := []) [] rfl
  refine va_calli (va_runV (As := [.int (v)]) (rest := []) ⟨hx, hb, hml, hown, hts⟩ (c_X3_isState l dC dI s.heap.size o0 n q v wk sd (.ref b2) v3 v4 v5 v6 v7 hq) (cwV 1 hts gX3_set_X3_isState rfl rfl rfl (by decide +kernel) ⟨Nat.le_of_ble_eq_true rfl, Nat.le_of_ble_eq_true rfl⟩) ⟨fun a U g mk q => by obtain ⟨q0, q1, qP, qK, qD⟩ := q; exact ⟨q0, q1, qP, va_K.moved (u := U) (U := U.calling g mk a) (Vm.Alike.refl U.vm) qK, qD⟩, va_recv hKc hPc (ci := 4) (q0 := 0) rfl rfl, fun U hU hW => ⟨rfl, by rw [hU], by rw [hU]; exact hPc, va_K.moved hW.alike hKc, hDc.weaken (fun _ _ _ _ => trivial)⟩⟩ rfl rfl hl.1 rfl (lv_room (Nat.le_of_ble_eq_true rfl)) dX3_set_7 ⟨Nat.le_of_ble_eq_true rfl, Nat.le_of_ble_eq_true rfl⟩) hS (fun q _ h => hFc q h) hFc (fun r1 u t H1 locs ht hvm hw hB hz1 hk1 hS => ?_)
  obtain ⟨hP1, hK1, hD1⟩ := hB
  rw [ht] at hP1
  try dsimp only at hw
  obtain ⟨hP, hD⟩ := va_join (wr := [(b2, .inl (cI, n, .inl (fun j => nI (st j))))]) (w1 := [(o0, .inr (4, [.int (nI (n)), .int (nI (q)), .ref b2, v3, v4, v5, v6, v7, .int (bI wk), .int (bI sd)]))]) hP hD [0] [1] rfl rfl (by decide) (by decide) hk1 hFc hP1 hD1
  generalize H1 = H at hP hS ⊢
  have hP := hP.sub (ws' := [(o0, .inr (4, [.int (nI (n)), .int (nI (q)), .ref b2, v3, v4, v5, v6, v7, .int (bI wk), .int (bI sd)])), (b2, .inl (cI, n, .inl (fun j => nI (st j))))]) [1, 0] rfl
  have hD := hD.sub (ws' := [(o0, .inr (4, [.int (nI (n)), .int (nI (q)), .ref b2, v3, v4, v5, v6, v7, .int (bI wk), .int (bI sd)])), (b2, .inl (cI, n, .inl (fun j => nI (st j))))]) [1, 0] (by decide) rfl
  have hP : va_P (dC, dI) vwCl [(o0, .inr (4, [.int (nI (n)), .int (nI (q)), .ref b2, v3, v4, v5, v6, v7, .int (bI wk), .int (bI sd)])), (b2, .inl (cI, n, .inl (fun j => nI (st j))))] H := hP
  have hD : va_D A [(o0, .inr (4, [.int (nI (n)), .int (nI (q)), .ref b2, v3, v4, v5, v6, v7, .int (bI wk), .int (bI sd)])), (b2, .inl (cI, n, .inl (fun j => nI (st j))))] := hD
  rcases hw with ⟨rfl, k, hk, rfl⟩ | ⟨rfl, hno⟩
  · skip
    refine lv_if_ne (tgt := 15) hx hb dX3_set_10 (by decide) (fun c => ?_) (fun c => ?_)
    · skip
      have c : 1 ≠ 0 := fun h => c ((nI_eq (a := 1) (b := 0) (by omega) (by omega)).mpr h)
      refine lv_aload_n hx hb dX3_set_15 rfl (lv_at hl 0 rfl) ?_
      refine va_get (D := (dC, dI)) (ci := 4) (v := .ref b2) (C := RX3) (T := TX3) (N := 10) hx hb hts hinX3 hown hK hP 0 rfl rfl 2 (by decide) hf29 (fun _ h9 => h9) rfl dX3_set_16 ?_
      refine lv_iload_n hx hb dX3_set_19 rfl (lv_at hl 1 rfl) ?_
      refine lv_iload_n hx hb dX3_set_20 rfl (lv_at hl 2 rfl) ?_
      refine ra_st (g := nI) (F := st) (v := k) hx hb hK hP hD hS 1 0 rfl rfl (by omega) (by omega) dX3_set_21 (fun H locs hP hD hS => ?_)
      have hP : va_P (dC, dI) vwCl [(o0, .inr (4, [.int (nI (n)), .int (nI (q)), .ref b2, v3, v4, v5, v6, v7, .int (bI wk), .int (bI sd)])), (b2, .inl (cI, n, .inl (fun j => nI ((va_up st ja (k)) j))))] H := hP
      have hD : va_D A [(o0, .inr (4, [.int (nI (n)), .int (nI (q)), .ref b2, v3, v4, v5, v6, v7, .int (bI wk), .int (bI sd)])), (b2, .inl (cI, n, .inl (fun j => nI ((va_up st ja (k)) j))))] := hD
      refine lv_aload_n hx hb dX3_set_22 rfl (lv_at hl 0 rfl) ?_
      have hPc := hP.sub (ws' := [(o0, .inr (4, [.int (nI (n)), .int (nI (q)), .ref b2, v3, v4, v5, v6, v7, .int (bI wk), .int (bI sd)]))]) [0] rfl
      have hDc := hD.sub (ws' := [(o0, .inr (4, [.int (nI (n)), .int (nI (q)), .ref b2, v3, v4, v5, v6, v7, .int (bI wk), .int (bI sd)]))]) [0] (by decide) rfl
      have hFc := va_free (wc := [(o0, .inr (4, [.int (nI (n)), .int (nI (q)), .ref b2, v3, v4, v5, v6, v7, .int (bI wk), .int (bI sd)]))]) hD hS hA [0] rfl
      have hKc := hK.sub (tys' := []) [] rfl
      refine va_callv (va_runV (As := []) (rest := []) ⟨hx, hb, hml, hown, hts⟩ (c_X3_forget l dC dI H.size o0 n q (bI wk) (bI sd) (.ref b2) v3 v4 v5 v6 v7) (cwV 0 hts gX3_set_X3_forget rfl rfl rfl (by decide +kernel) ⟨Nat.le_of_ble_eq_true rfl, Nat.le_of_ble_eq_true rfl⟩) ⟨fun a U g mk q => by obtain ⟨q0, q1, qP, qK, qD⟩ := q; exact ⟨q0, q1, qP, va_K.moved (u := U) (U := U.calling g mk a) (Vm.Alike.refl U.vm) qK, qD⟩, va_recv hKc hPc (ci := 4) (q0 := 0) rfl rfl, fun U hU hW => ⟨rfl, by rw [hU], by rw [hU]; exact hPc, va_K.moved hW.alike hKc, hDc.weaken (fun _ _ _ _ => trivial)⟩⟩ rfl rfl hl.1 rfl (lv_room (Nat.le_of_ble_eq_true rfl)) dX3_set_23 ⟨Nat.le_of_ble_eq_true rfl, Nat.le_of_ble_eq_true rfl⟩) hS (fun q _ h => hFc q h) hFc (fun u t H1 locs ht hvm hw hB hz1 hk1 hS => ?_)
      obtain ⟨hP1, hK1, hD1⟩ := hB
      rw [ht] at hP1
      try dsimp only at hw
      obtain ⟨hP, hD⟩ := va_join (wr := [(b2, .inl (cI, n, .inl (fun j => nI ((va_up st ja (k)) j))))]) (w1 := [(o0, .inr (4, [.int (nI (n)), .int (nI (q)), .ref b2, v3, v4, v5, v6, v7, .int (bI false), .int (bI false)]))]) hP hD [0] [1] rfl rfl (by decide) (by decide) hk1 hFc hP1 hD1
      generalize H1 = H at hP hS ⊢
      have hP := hP.sub (ws' := [(o0, .inr (4, [.int (nI (n)), .int (nI (q)), .ref b2, v3, v4, v5, v6, v7, .int (bI false), .int (bI false)])), (b2, .inl (cI, n, .inl (fun j => nI ((va_up st ja (k)) j))))]) [1, 0] rfl
      have hD := hD.sub (ws' := [(o0, .inr (4, [.int (nI (n)), .int (nI (q)), .ref b2, v3, v4, v5, v6, v7, .int (bI false), .int (bI false)])), (b2, .inl (cI, n, .inl (fun j => nI ((va_up st ja (k)) j))))]) [1, 0] (by decide) rfl
      have hP : va_P (dC, dI) vwCl [(o0, .inr (4, [.int (nI (n)), .int (nI (q)), .ref b2, v3, v4, v5, v6, v7, .int (bI false), .int (bI false)])), (b2, .inl (cI, n, .inl (fun j => nI ((va_up st ja (k)) j))))] H := hP
      have hD : va_D A [(o0, .inr (4, [.int (nI (n)), .int (nI (q)), .ref b2, v3, v4, v5, v6, v7, .int (bI false), .int (bI false)])), (b2, .inl (cI, n, .inl (fun j => nI ((va_up st ja (k)) j))))] := hD
      refine lv_iconst (v := nI 1) hx hb dX3_set_26 (by decide) ?_
      rw [hQ]
      refine tt_ret (⟨ja, hja, rfl⟩) ?_
      exact W.zret (v := nI (1)) (ty := .boolean) hx hb hr rfl (fun t ht hW => ⟨⟨_, (va_up st ja k, false, false), rfl, Or.inl ⟨rfl, ja, k, hja, hk, rfl, rfl, rfl⟩, by rw [ht]; exact hP, va_K.moved hW.alike hK, hD⟩, hS.F ht⟩) hS.2.2 dX3_set_27
    · skip
      have c : 1 = 0 := (nI_eq (a := 1) (b := 0) (by omega) (by omega)).mp c
      exact absurd c (by decide)
  · skip
    refine lv_if_ne (tgt := 15) hx hb dX3_set_10 (by decide) (fun c => ?_) (fun c => ?_)
    · skip
      have c : 0 ≠ 0 := fun h => c ((nI_eq (a := 0) (b := 0) (by omega) (by omega)).mpr h)
      exact absurd rfl c
    · skip
      have c : 0 = 0 := (nI_eq (a := 0) (b := 0) (by omega) (by omega)).mp c
      refine lv_iconst (v := nI 0) hx hb dX3_set_13 (by decide) ?_
      rw [hQ]
      refine tt_ret (⟨ja, hja, rfl⟩) ?_
      exact W.zret (v := nI (0)) (ty := .boolean) hx hb hr rfl (fun t ht hW => ⟨⟨_, (st, wk, sd), rfl, Or.inr ⟨rfl, hno, rfl⟩, by rw [ht]; exact hP, va_K.moved hW.alike hK, hD⟩, hS.F ht⟩) hS.2.2 dX3_set_14

set_option maxHeartbeats 4000000 in
set_option maxRecDepth 100000 in
theorem c_X3_want (l : Launch) (dC : Nat → ClassId) (dI : Nat → Nat → Nat) (hfl : l.flags = pinnedFlags ++ [noTraceFlag]) (s0 : State) (A0 : Array Value) (str : Nat) (sz : Nat) (o0 b2 n q : Nat) (x v : Int32) (st : Nat → Nat) (wk sd : Bool) (cI : ClassId) (v2 v4 v5 v6 v7 : Value) (hn : n < 1000) (hq : q < 100) : tt_Met l yX3_want wsX3_want ({ frames := 8, cells := 1, slots := 6, locals := 116 }) (va_Pc [.ref o0, .int (x), .int (v)] (fun U => U.heap.size = sz ∧ va_P (dC, dI) vwCl [(o0, .inr (4, [.int (nI (n)), .int (nI (q)), v2, .ref b2, v4, v5, v6, v7, .int (bI wk), .int (bI sd)])), (b2, .inl (cI, n, .inl (fun j => nI (st j))))] U.heap ∧ va_K (dC, dI) vwCl [(cI, .int)] U ∧ va_D (fun _ => True) [(o0, .inr (4, [.int (nI (n)), .int (nI (q)), v2, .ref b2, v4, v5, v6, v7, .int (bI wk), .int (bI sd)])), (b2, .inl (cI, n, .inl (fun j => nI (st j))))] ∧ tt_B s0 A0 str U)) (tt_Q (∃ j : Nat, j < n ∧ x = nI j) (va_Qi (fun (z : Int32) (u : (Nat → Nat) × Bool × Bool) => (z = nI 1 ∧ ∃ j k : Nat, j < n ∧ k < q ∧ x = nI j ∧ v = nI k ∧ u = (va_up st j k, false, false)) ∨ (z = nI 0 ∧ (∀ k : Nat, k < q → v ≠ nI k) ∧ u = (st, wk, sd))) (fun u t => va_P (dC, dI) vwCl [(o0, .inr (4, [.int (nI (n)), .int (nI (q)), v2, .ref b2, v4, v5, v6, v7, .int (bI u.2.1), .int (bI u.2.2)])), (b2, .inl (cI, n, .inl (fun j => nI (u.1 j))))] t.heap ∧ va_K (dC, dI) vwCl [(cI, .int)] t ∧ va_D (va_A [(o0, .inr (4, [.int (nI (n)), .int (nI (q)), v2, .ref b2, v4, v5, v6, v7, .int (bI wk), .int (bI sd)])), (b2, .inl (cI, n, .inl (fun j => nI (st j))))] sz) [(o0, .inr (4, [.int (nI (n)), .int (nI (q)), v2, .ref b2, v4, v5, v6, v7, .int (bI u.2.1), .int (bI u.2.2)])), (b2, .inl (cI, n, .inl (fun j => nI (u.1 j))))]) (va_A [(o0, .inr (4, [.int (nI (n)), .int (nI (q)), v2, .ref b2, v4, v5, v6, v7, .int (bI wk), .int (bI sd)])), (b2, .inl (cI, n, .inl (fun j => nI (st j))))] sz))) 1 6 (va_A [(o0, .inr (4, [.int (nI (n)), .int (nI (q)), v2, .ref b2, v4, v5, v6, v7, .int (bI wk), .int (bI sd)])), (b2, .inl (cI, n, .inl (fun j => nI (st j))))] sz) := by
  refine tt_ofW (cc := cX3_want) (maxL := 3) (ret := (some .boolean)) (by decide) rfl ?_
  intro zp ze s m args below meth zc s₁ B hml hv
  obtain ⟨hargs, hsz, hP, hK, hD0, hB⟩ := hv
  have hx := B.exec
  have hb := B.bytes
  have hr := B.returns
  have hts := atoms_spec (ws := wsX3_want) B.pre
  have hown : s.vm.findClass RX3 = some m.cls := findClass_of_methodNamed B.named
  have hlocks := B.notSynchronized
  have hemp := B.noHandlers (hts _ List.mem_cons_self)
  subst hsz
  obtain ⟨Q, hQ⟩ : ∃ Q, Q = tt_MQ below (tt_Q (∃ j : Nat, j < n ∧ x = nI j) (va_Qi (fun (z : Int32) (u : (Nat → Nat) × Bool × Bool) => (z = nI 1 ∧ ∃ j k : Nat, j < n ∧ k < q ∧ x = nI j ∧ v = nI k ∧ u = (va_up st j k, false, false)) ∨ (z = nI 0 ∧ (∀ k : Nat, k < q → v ≠ nI k) ∧ u = (st, wk, sd))) (fun u t => va_P (dC, dI) vwCl [(o0, .inr (4, [.int (nI (n)), .int (nI (q)), v2, .ref b2, v4, v5, v6, v7, .int (bI u.2.1), .int (bI u.2.2)])), (b2, .inl (cI, n, .inl (fun j => nI (u.1 j))))] t.heap ∧ va_K (dC, dI) vwCl [(cI, .int)] t ∧ va_D (va_A [(o0, .inr (4, [.int (nI (n)), .int (nI (q)), v2, .ref b2, v4, v5, v6, v7, .int (bI wk), .int (bI sd)])), (b2, .inl (cI, n, .inl (fun j => nI (st j))))] s.heap.size) [(o0, .inr (4, [.int (nI (n)), .int (nI (q)), v2, .ref b2, v4, v5, v6, v7, .int (bI u.2.1), .int (bI u.2.2)])), (b2, .inl (cI, n, .inl (fun j => nI (u.1 j))))]) (va_A [(o0, .inr (4, [.int (nI (n)), .int (nI (q)), v2, .ref b2, v4, v5, v6, v7, .int (bI wk), .int (bI sd)])), (b2, .inl (cI, n, .inl (fun j => nI (st j))))] s.heap.size))) args s 1 6 (va_A [(o0, .inr (4, [.int (nI (n)), .int (nI (q)), v2, .ref b2, v4, v5, v6, v7, .int (bI wk), .int (bI sd)])), (b2, .inl (cI, n, .inl (fun j => nI (st j))))] s.heap.size) := ⟨_, rfl⟩
  rw [← hQ]
  have hD := hD0.self (sz := s.heap.size)
  generalize hAe : (va_A [(o0, .inr (4, [.int (nI (n)), .int (nI (q)), v2, .ref b2, v4, v5, v6, v7, .int (bI wk), .int (bI sd)])), (b2, .inl (cI, n, .inl (fun j => nI (st j))))] s.heap.size) = A at hD hQ
  have hA : ∀ q : Nat, s.heap.size ≤ q → A q := fun q h => by rw [← hAe]; exact Or.inr h
  have hS : va_S A s.heap s.heap [] := va_S.rf
  have hl := lv_entry ([.ref o0, .int (x), .int (v)]) (n := 3) (Nat.le_of_ble_eq_true rfl)
  generalize hen : entryFrame m args 3 = fr
  rw [hargs, lg_entry_eq] at hen
  subst hen
  generalize (lg_sl ([.ref o0, .int (x), .int (v)]) ++ List.replicate (3 - (lg_sl ([.ref o0, .int (x), .int (v)])).length) Slot.unset).toArray = ls at hl ⊢
  have hl : lv_has ls 3 [(0, .ref o0), (1, .int (x)), (2, .int (v))] := hl
  have hinX3 : ∀ w ∈ wsX30, w ∈ wsX3_want := by decide +kernel
  have hf18 := hts (.fieldLink RX3 18 "LightRows" "lamps" "I") (by decide +kernel)
  have hf26 := hts (.fieldLink RX3 26 "LightRows" "states" "I") (by decide +kernel)
  have hf33 := hts (.fieldLink RX3 33 "LightRows" "wanted" "[I") (by decide +kernel)
  have hf62 := hts (.fieldLink RX3 62 "LightRows" "worked" "Z") (by decide +kernel)
  have hf66 := hts (.fieldLink RX3 66 "LightRows" "searched" "Z") (by decide +kernel)
  refine lv_aload_n hx hb dX3_want_0 rfl (lv_at hl 0 rfl) ?_
  refine lv_iload_n hx hb dX3_want_1 rfl (lv_at hl 1 rfl) ?_
  have hPc := hP.sub (ws' := [(o0, .inr (4, [.int (nI (n)), .int (nI (q)), v2, .ref b2, v4, v5, v6, v7, .int (bI wk), .int (bI sd)]))]) [0] rfl
  have hDc := hD.sub (ws' := [(o0, .inr (4, [.int (nI (n)), .int (nI (q)), v2, .ref b2, v4, v5, v6, v7, .int (bI wk), .int (bI sd)]))]) [0] (by decide) rfl
  have hKc := hK.sub (tys' := []) [] rfl
  rw [hQ]
  refine tt_must (mc := 1) (ms := 6) (tt_runV (As := [.int (x)]) (rest := []) ⟨hx, hb, hml, hown, hts⟩ (c_X3_mustExist l dC dI hfl s0 A0 str s.heap.size o0 n (.int (nI (q))) (v2) (.ref b2) (v4) (v5) (v6) (v7) (.int (bI wk)) (.int (bI sd)) (x) hn) (cwV 1 hts gX3_want_X3_mustExist rfl rfl rfl (by decide +kernel) ⟨Nat.le_of_ble_eq_true rfl, Nat.le_of_ble_eq_true rfl⟩) ⟨fun a U g mk q => by obtain ⟨q0, q1, qP, qK, qD, qB⟩ := q; exact ⟨q0, q1, qP, va_K.moved (u := U) (U := U.calling g mk a) (Vm.Alike.refl U.vm) qK, qD, qB.blind rfl rfl⟩, va_recv hKc hPc (ci := 4) (q0 := 0) rfl rfl, fun U hU hW => ⟨rfl, by rw [hU], by rw [hU]; exact hPc, va_K.moved hW.alike hKc, hDc.weaken (fun _ _ _ _ => trivial), hB.later hU hW⟩⟩ rfl rfl hl.1 rfl (lv_room (Nat.le_of_ble_eq_true rfl)) dX3_want_2 ⟨Nat.le_of_ble_eq_true rfl, Nat.le_of_ble_eq_true rfl⟩) hemp hlocks (Nat.le_of_ble_eq_true rfl) (Nat.le_of_ble_eq_true rfl) (id) (fun hin => ?_)
  rw [← hQ]
  obtain ⟨ja, hja, eja⟩ := id hin
  subst eja
  refine lv_aload_n hx hb dX3_want_5 rfl (lv_at hl 0 rfl) ?_
  refine lv_iload_n hx hb dX3_want_6 rfl (lv_at hl 2 rfl) ?_
  have hPc := hP.sub (ws' := [(o0, .inr (4, [.int (nI (n)), .int (nI (q)), v2, .ref b2, v4, v5, v6, v7, .int (bI wk), .int (bI sd)]))]) [0] rfl
  have hDc := hD.sub (ws' := [(o0, .inr (4, [.int (nI (n)), .int (nI (q)), v2, .ref b2, v4, v5, v6, v7, .int (bI wk), .int (bI sd)]))]) [0] (by decide) rfl
  have hFc := va_free (wc := [(o0, .inr (4, [.int (nI (n)), .int (nI (q)), v2, .ref b2, v4, v5, v6, v7, .int (bI wk), .int (bI sd)]))]) hD hS hA [0] rfl
  have hKc := hK.sub (tys' := []) [] rfl
  refine va_calli (va_runV (As := [.int (v)]) (rest := []) ⟨hx, hb, hml, hown, hts⟩ (c_X3_isState l dC dI s.heap.size o0 n q v wk sd v2 (.ref b2) v4 v5 v6 v7 hq) (cwV 1 hts gX3_want_X3_isState rfl rfl rfl (by decide +kernel) ⟨Nat.le_of_ble_eq_true rfl, Nat.le_of_ble_eq_true rfl⟩) ⟨fun a U g mk q => by obtain ⟨q0, q1, qP, qK, qD⟩ := q; exact ⟨q0, q1, qP, va_K.moved (u := U) (U := U.calling g mk a) (Vm.Alike.refl U.vm) qK, qD⟩, va_recv hKc hPc (ci := 4) (q0 := 0) rfl rfl, fun U hU hW => ⟨rfl, by rw [hU], by rw [hU]; exact hPc, va_K.moved hW.alike hKc, hDc.weaken (fun _ _ _ _ => trivial)⟩⟩ rfl rfl hl.1 rfl (lv_room (Nat.le_of_ble_eq_true rfl)) dX3_want_7 ⟨Nat.le_of_ble_eq_true rfl, Nat.le_of_ble_eq_true rfl⟩) hS (fun q _ h => hFc q h) hFc (fun r1 u t H1 locs ht hvm hw hB hz1 hk1 hS => ?_)
  obtain ⟨hP1, hK1, hD1⟩ := hB
  rw [ht] at hP1
  try dsimp only at hw
  obtain ⟨hP, hD⟩ := va_join (wr := [(b2, .inl (cI, n, .inl (fun j => nI (st j))))]) (w1 := [(o0, .inr (4, [.int (nI (n)), .int (nI (q)), v2, .ref b2, v4, v5, v6, v7, .int (bI wk), .int (bI sd)]))]) hP hD [0] [1] rfl rfl (by decide) (by decide) hk1 hFc hP1 hD1
  generalize H1 = H at hP hS ⊢
  have hP := hP.sub (ws' := [(o0, .inr (4, [.int (nI (n)), .int (nI (q)), v2, .ref b2, v4, v5, v6, v7, .int (bI wk), .int (bI sd)])), (b2, .inl (cI, n, .inl (fun j => nI (st j))))]) [1, 0] rfl
  have hD := hD.sub (ws' := [(o0, .inr (4, [.int (nI (n)), .int (nI (q)), v2, .ref b2, v4, v5, v6, v7, .int (bI wk), .int (bI sd)])), (b2, .inl (cI, n, .inl (fun j => nI (st j))))]) [1, 0] (by decide) rfl
  have hP : va_P (dC, dI) vwCl [(o0, .inr (4, [.int (nI (n)), .int (nI (q)), v2, .ref b2, v4, v5, v6, v7, .int (bI wk), .int (bI sd)])), (b2, .inl (cI, n, .inl (fun j => nI (st j))))] H := hP
  have hD : va_D A [(o0, .inr (4, [.int (nI (n)), .int (nI (q)), v2, .ref b2, v4, v5, v6, v7, .int (bI wk), .int (bI sd)])), (b2, .inl (cI, n, .inl (fun j => nI (st j))))] := hD
  rcases hw with ⟨rfl, k, hk, rfl⟩ | ⟨rfl, hno⟩
  · skip
    refine lv_if_ne (tgt := 15) hx hb dX3_want_10 (by decide) (fun c => ?_) (fun c => ?_)
    · skip
      have c : 1 ≠ 0 := fun h => c ((nI_eq (a := 1) (b := 0) (by omega) (by omega)).mpr h)
      refine lv_aload_n hx hb dX3_want_15 rfl (lv_at hl 0 rfl) ?_
      refine va_get (D := (dC, dI)) (ci := 4) (v := .ref b2) (C := RX3) (T := TX3) (N := 10) hx hb hts hinX3 hown hK hP 0 rfl rfl 3 (by decide) hf33 (fun _ h9 => h9) rfl dX3_want_16 ?_
      refine lv_iload_n hx hb dX3_want_19 rfl (lv_at hl 1 rfl) ?_
      refine lv_iload_n hx hb dX3_want_20 rfl (lv_at hl 2 rfl) ?_
      refine ra_st (g := nI) (F := st) (v := k) hx hb hK hP hD hS 1 0 rfl rfl (by omega) (by omega) dX3_want_21 (fun H locs hP hD hS => ?_)
      have hP : va_P (dC, dI) vwCl [(o0, .inr (4, [.int (nI (n)), .int (nI (q)), v2, .ref b2, v4, v5, v6, v7, .int (bI wk), .int (bI sd)])), (b2, .inl (cI, n, .inl (fun j => nI ((va_up st ja (k)) j))))] H := hP
      have hD : va_D A [(o0, .inr (4, [.int (nI (n)), .int (nI (q)), v2, .ref b2, v4, v5, v6, v7, .int (bI wk), .int (bI sd)])), (b2, .inl (cI, n, .inl (fun j => nI ((va_up st ja (k)) j))))] := hD
      refine lv_aload_n hx hb dX3_want_22 rfl (lv_at hl 0 rfl) ?_
      have hPc := hP.sub (ws' := [(o0, .inr (4, [.int (nI (n)), .int (nI (q)), v2, .ref b2, v4, v5, v6, v7, .int (bI wk), .int (bI sd)]))]) [0] rfl
      have hDc := hD.sub (ws' := [(o0, .inr (4, [.int (nI (n)), .int (nI (q)), v2, .ref b2, v4, v5, v6, v7, .int (bI wk), .int (bI sd)]))]) [0] (by decide) rfl
      have hFc := va_free (wc := [(o0, .inr (4, [.int (nI (n)), .int (nI (q)), v2, .ref b2, v4, v5, v6, v7, .int (bI wk), .int (bI sd)]))]) hD hS hA [0] rfl
      have hKc := hK.sub (tys' := []) [] rfl
      refine va_callv (va_runV (As := []) (rest := []) ⟨hx, hb, hml, hown, hts⟩ (c_X3_forget l dC dI H.size o0 n q (bI wk) (bI sd) v2 (.ref b2) v4 v5 v6 v7) (cwV 0 hts gX3_want_X3_forget rfl rfl rfl (by decide +kernel) ⟨Nat.le_of_ble_eq_true rfl, Nat.le_of_ble_eq_true rfl⟩) ⟨fun a U g mk q => by obtain ⟨q0, q1, qP, qK, qD⟩ := q; exact ⟨q0, q1, qP, va_K.moved (u := U) (U := U.calling g mk a) (Vm.Alike.refl U.vm) qK, qD⟩, va_recv hKc hPc (ci := 4) (q0 := 0) rfl rfl, fun U hU hW => ⟨rfl, by rw [hU], by rw [hU]; exact hPc, va_K.moved hW.alike hKc, hDc.weaken (fun _ _ _ _ => trivial)⟩⟩ rfl rfl hl.1 rfl (lv_room (Nat.le_of_ble_eq_true rfl)) dX3_want_23 ⟨Nat.le_of_ble_eq_true rfl, Nat.le_of_ble_eq_true rfl⟩) hS (fun q _ h => hFc q h) hFc (fun u t H1 locs ht hvm hw hB hz1 hk1 hS => ?_)
      obtain ⟨hP1, hK1, hD1⟩ := hB
      rw [ht] at hP1
      try dsimp only at hw
      obtain ⟨hP, hD⟩ := va_join (wr := [(b2, .inl (cI, n, .inl (fun j => nI ((va_up st ja (k)) j))))]) (w1 := [(o0, .inr (4, [.int (nI (n)), .int (nI (q)), v2, .ref b2, v4, v5, v6, v7, .int (bI false), .int (bI false)]))]) hP hD [0] [1] rfl rfl (by decide) (by decide) hk1 hFc hP1 hD1
      generalize H1 = H at hP hS ⊢
      have hP := hP.sub (ws' := [(o0, .inr (4, [.int (nI (n)), .int (nI (q)), v2, .ref b2, v4, v5, v6, v7, .int (bI false), .int (bI false)])), (b2, .inl (cI, n, .inl (fun j => nI ((va_up st ja (k)) j))))]) [1, 0] rfl
      have hD := hD.sub (ws' := [(o0, .inr (4, [.int (nI (n)), .int (nI (q)), v2, .ref b2, v4, v5, v6, v7, .int (bI false), .int (bI false)])), (b2, .inl (cI, n, .inl (fun j => nI ((va_up st ja (k)) j))))]) [1, 0] (by decide) rfl
      have hP : va_P (dC, dI) vwCl [(o0, .inr (4, [.int (nI (n)), .int (nI (q)), v2, .ref b2, v4, v5, v6, v7, .int (bI false), .int (bI false)])), (b2, .inl (cI, n, .inl (fun j => nI ((va_up st ja (k)) j))))] H := hP
      have hD : va_D A [(o0, .inr (4, [.int (nI (n)), .int (nI (q)), v2, .ref b2, v4, v5, v6, v7, .int (bI false), .int (bI false)])), (b2, .inl (cI, n, .inl (fun j => nI ((va_up st ja (k)) j))))] := hD
      refine lv_iconst (v := nI 1) hx hb dX3_want_26 (by decide) ?_
      rw [hQ]
      refine tt_ret (⟨ja, hja, rfl⟩) ?_
      exact W.zret (v := nI (1)) (ty := .boolean) hx hb hr rfl (fun t ht hW => ⟨⟨_, (va_up st ja k, false, false), rfl, Or.inl ⟨rfl, ja, k, hja, hk, rfl, rfl, rfl⟩, by rw [ht]; exact hP, va_K.moved hW.alike hK, hD⟩, hS.F ht⟩) hS.2.2 dX3_want_27
    · skip
      have c : 1 = 0 := (nI_eq (a := 1) (b := 0) (by omega) (by omega)).mp c
      exact absurd c (by decide)
  · skip
    refine lv_if_ne (tgt := 15) hx hb dX3_want_10 (by decide) (fun c => ?_) (fun c => ?_)
    · skip
      have c : 0 ≠ 0 := fun h => c ((nI_eq (a := 0) (b := 0) (by omega) (by omega)).mpr h)
      exact absurd rfl c
    · skip
      have c : 0 = 0 := (nI_eq (a := 0) (b := 0) (by omega) (by omega)).mp c
      refine lv_iconst (v := nI 0) hx hb dX3_want_13 (by decide) ?_
      rw [hQ]
      refine tt_ret (⟨ja, hja, rfl⟩) ?_
      exact W.zret (v := nI (0)) (ty := .boolean) hx hb hr rfl (fun t ht hW => ⟨⟨_, (st, wk, sd), rfl, Or.inr ⟨rfl, hno, rfl⟩, by rw [ht]; exact hP, va_K.moved hW.alike hK, hD⟩, hS.F ht⟩) hS.2.2 dX3_want_14

set_option maxHeartbeats 4000000 in
set_option maxRecDepth 100000 in
theorem c_X3_apart (l : Launch) (dC : Nat → ClassId) (dI : Nat → Nat → Nat) (sz : Nat) (o0 b2 b3 n q : Nat) (st wt : Nat → Nat) (wk sd : Bool) (cI : ClassId) (v4 v5 v6 v7 : Value) (hn : n < 1000) (hs0 : ∀ j, j < n → st j < 100) (hw0 : ∀ j, j < n → wt j < 100) : Met l yX3_apart wsX3_apart ({ frames := 0, cells := 0, slots := 0, locals := 0 }) (va_Pc [.ref o0] (fun U => U.heap.size = sz ∧ va_P (dC, dI) vwCl [(o0, .inr (4, [.int (nI (n)), .int (nI (q)), .ref b2, .ref b3, v4, v5, v6, v7, .int (bI wk), .int (bI sd)])), (b2, .inl (cI, n, .inl (fun j => nI (st j)))), (b3, .inl (cI, n, .inl (fun j => nI (wt j))))] U.heap ∧ va_K (dC, dI) vwCl [(cI, .int)] U ∧ va_D (fun _ => True) [(o0, .inr (4, [.int (nI (n)), .int (nI (q)), .ref b2, .ref b3, v4, v5, v6, v7, .int (bI wk), .int (bI sd)])), (b2, .inl (cI, n, .inl (fun j => nI (st j)))), (b3, .inl (cI, n, .inl (fun j => nI (wt j))))])) (va_Qi (fun (z : Int32) (_ : Unit) => z = nI (apt st wt n)) (fun _ t => va_P (dC, dI) vwCl [(o0, .inr (4, [.int (nI (n)), .int (nI (q)), .ref b2, .ref b3, v4, v5, v6, v7, .int (bI wk), .int (bI sd)])), (b2, .inl (cI, n, .inl (fun j => nI (st j)))), (b3, .inl (cI, n, .inl (fun j => nI (wt j))))] t.heap ∧ va_K (dC, dI) vwCl [(cI, .int)] t ∧ va_D (va_A [(o0, .inr (4, [.int (nI (n)), .int (nI (q)), .ref b2, .ref b3, v4, v5, v6, v7, .int (bI wk), .int (bI sd)])), (b2, .inl (cI, n, .inl (fun j => nI (st j)))), (b3, .inl (cI, n, .inl (fun j => nI (wt j))))] sz) [(o0, .inr (4, [.int (nI (n)), .int (nI (q)), .ref b2, .ref b3, v4, v5, v6, v7, .int (bI wk), .int (bI sd)])), (b2, .inl (cI, n, .inl (fun j => nI (st j)))), (b3, .inl (cI, n, .inl (fun j => nI (wt j))))]) (va_A [(o0, .inr (4, [.int (nI (n)), .int (nI (q)), .ref b2, .ref b3, v4, v5, v6, v7, .int (bI wk), .int (bI sd)])), (b2, .inl (cI, n, .inl (fun j => nI (st j)))), (b3, .inl (cI, n, .inl (fun j => nI (wt j))))] sz)) 0 0 (va_A [(o0, .inr (4, [.int (nI (n)), .int (nI (q)), .ref b2, .ref b3, v4, v5, v6, v7, .int (bI wk), .int (bI sd)])), (b2, .inl (cI, n, .inl (fun j => nI (st j)))), (b3, .inl (cI, n, .inl (fun j => nI (wt j))))] sz) := by
  refine Met.ofW (cc := cX3_apart) (maxL := 3) (ret := (some .int)) (by decide) rfl ?_
  intro zp ze s m args below meth zc s₁ B hml hv
  obtain ⟨hargs, hsz, hP, hK, hD0⟩ := hv
  have hx := B.exec
  have hb := B.bytes
  have hr := B.returns
  have hts := atoms_spec (ws := wsX3_apart) B.pre
  have hown : s.vm.findClass RX3 = some m.cls := findClass_of_methodNamed B.named
  have hlocks := B.notSynchronized
  subst hsz
  obtain ⟨Q, hQ⟩ : ∃ Q, Q = MQ below (va_Qi (fun (z : Int32) (_ : Unit) => z = nI (apt st wt n)) (fun _ t => va_P (dC, dI) vwCl [(o0, .inr (4, [.int (nI (n)), .int (nI (q)), .ref b2, .ref b3, v4, v5, v6, v7, .int (bI wk), .int (bI sd)])), (b2, .inl (cI, n, .inl (fun j => nI (st j)))), (b3, .inl (cI, n, .inl (fun j => nI (wt j))))] t.heap ∧ va_K (dC, dI) vwCl [(cI, .int)] t ∧ va_D (va_A [(o0, .inr (4, [.int (nI (n)), .int (nI (q)), .ref b2, .ref b3, v4, v5, v6, v7, .int (bI wk), .int (bI sd)])), (b2, .inl (cI, n, .inl (fun j => nI (st j)))), (b3, .inl (cI, n, .inl (fun j => nI (wt j))))] s.heap.size) [(o0, .inr (4, [.int (nI (n)), .int (nI (q)), .ref b2, .ref b3, v4, v5, v6, v7, .int (bI wk), .int (bI sd)])), (b2, .inl (cI, n, .inl (fun j => nI (st j)))), (b3, .inl (cI, n, .inl (fun j => nI (wt j))))]) (va_A [(o0, .inr (4, [.int (nI (n)), .int (nI (q)), .ref b2, .ref b3, v4, v5, v6, v7, .int (bI wk), .int (bI sd)])), (b2, .inl (cI, n, .inl (fun j => nI (st j)))), (b3, .inl (cI, n, .inl (fun j => nI (wt j))))] s.heap.size)) args s 0 0 (va_A [(o0, .inr (4, [.int (nI (n)), .int (nI (q)), .ref b2, .ref b3, v4, v5, v6, v7, .int (bI wk), .int (bI sd)])), (b2, .inl (cI, n, .inl (fun j => nI (st j)))), (b3, .inl (cI, n, .inl (fun j => nI (wt j))))] s.heap.size) := ⟨_, rfl⟩
  rw [← hQ]
  have hD := hD0.self (sz := s.heap.size)
  generalize hAe : (va_A [(o0, .inr (4, [.int (nI (n)), .int (nI (q)), .ref b2, .ref b3, v4, v5, v6, v7, .int (bI wk), .int (bI sd)])), (b2, .inl (cI, n, .inl (fun j => nI (st j)))), (b3, .inl (cI, n, .inl (fun j => nI (wt j))))] s.heap.size) = A at hD hQ
  have hA : ∀ q : Nat, s.heap.size ≤ q → A q := fun q h => by rw [← hAe]; exact Or.inr h
  have hS : va_S A s.heap s.heap [] := va_S.rf
  have hl := lv_entry ([.ref o0]) (n := 3) (Nat.le_of_ble_eq_true rfl)
  generalize hen : entryFrame m args 3 = fr
  rw [hargs, lg_entry_eq] at hen
  subst hen
  generalize (lg_sl ([.ref o0]) ++ List.replicate (3 - (lg_sl ([.ref o0])).length) Slot.unset).toArray = ls at hl ⊢
  have hl : lv_has ls 3 [(0, .ref o0)] := hl
  have hinX3 : ∀ w ∈ wsX30, w ∈ wsX3_apart := by decide +kernel
  have hf18 := hts (.fieldLink RX3 18 "LightRows" "lamps" "I") (by decide +kernel)
  have hf29 := hts (.fieldLink RX3 29 "LightRows" "now" "[I") (by decide +kernel)
  have hf33 := hts (.fieldLink RX3 33 "LightRows" "wanted" "[I") (by decide +kernel)
  refine lv_iconst (v := nI 0) hx hb dX3_apart_0 (by decide) ?_
  refine lv_istore_n (lv' := [(1, .int (nI (0))), (0, .ref o0)]) hx hb dX3_apart_1 rfl hl (by decide) rfl (fun ls hl => ?_)
  refine lv_iconst (v := nI 0) hx hb dX3_apart_2 (by decide) ?_
  refine lv_istore_n (lv' := [(2, .int (nI (0))), (1, .int (nI (0))), (0, .ref o0)]) hx hb dX3_apart_3 rfl hl (by decide) rfl (fun ls hl => ?_)
  have lp : ∀ (k : Nat) (i : Nat) (y : Nat), (i + k = n) → (y = apt st wt i) → ∀ (H : Heap) (locs : List Loc), va_P (dC, dI) vwCl [(o0, .inr (4, [.int (nI (n)), .int (nI (q)), .ref b2, .ref b3, v4, v5, v6, v7, .int (bI wk), .int (bI sd)])), (b2, .inl (cI, n, .inl (fun j => nI (st j)))), (b3, .inl (cI, n, .inl (fun j => nI (wt j))))] H → va_D A [(o0, .inr (4, [.int (nI (n)), .int (nI (q)), .ref b2, .ref b3, v4, v5, v6, v7, .int (bI wk), .int (bI sd)])), (b2, .inl (cI, n, .inl (fun j => nI (st j)))), (b3, .inl (cI, n, .inl (fun j => nI (wt j))))] → va_S A s.heap H locs → ∀ (ls : Array Slot), lv_has ls 3 [(0, .ref o0), (1, .int (nI (y))), (2, .int (nI (i)))] → W zp l ze (headSpec wsX3_apart ({ frames := 0, cells := 0, slots := 0, locals := 0 })).room s m args below meth zc H locs 0 0 Q (F0 m 4 ls []) := by
    intro k
    induction k with
    | zero =>
      intro i y hi hy H locs hP hD hS ls hl
      refine lv_iload_n hx hb dX3_apart_4 rfl (lv_at hl 2 rfl) ?_
      refine lv_aload_n hx hb dX3_apart_5 rfl (lv_at hl 0 rfl) ?_
      refine va_get (D := (dC, dI)) (ci := 4) (v := .int (nI (n))) (C := RX3) (T := TX3) (N := 10) hx hb hts hinX3 hown hK hP 0 rfl rfl 0 (by decide) hf18 (fun _ h9 => h9) rfl dX3_apart_6 ?_
      refine lv_icmp_ge (tgt := 36) hx hb dX3_apart_9 (by decide) (fun c => ?_) (fun c => ?_)
      · skip
        have c : n ≤ i := (nI_leI (a := n) (b := i) (by omega) (by omega)).mp c
        obtain rfl : n = i := by omega
        refine lv_iload_n hx hb dX3_apart_36 rfl (lv_at hl 1 rfl) ?_
        rw [hQ]
        exact W.iret (v := nI (y)) hx hb hr (fun t ht hW => ⟨⟨_, (), rfl, by rw [hy], by rw [ht]; exact hP, va_K.moved hW.alike hK, hD⟩, hS.F ht⟩) hS.2.2 dX3_apart_37
      · skip
        have c : i < n := Nat.not_le.mp (fun h => c ((nI_leI (a := n) (b := i) (by omega) (by omega)).mpr h))
        exact absurd c (by omega)
    | succ k ih =>
      intro i y hi hy H locs hP hD hS ls hl
      refine lv_iload_n hx hb dX3_apart_4 rfl (lv_at hl 2 rfl) ?_
      refine lv_aload_n hx hb dX3_apart_5 rfl (lv_at hl 0 rfl) ?_
      refine va_get (D := (dC, dI)) (ci := 4) (v := .int (nI (n))) (C := RX3) (T := TX3) (N := 10) hx hb hts hinX3 hown hK hP 0 rfl rfl 0 (by decide) hf18 (fun _ h9 => h9) rfl dX3_apart_6 ?_
      refine lv_icmp_ge (tgt := 36) hx hb dX3_apart_9 (by decide) (fun c => ?_) (fun c => ?_)
      · skip
        have c : n ≤ i := (nI_leI (a := n) (b := i) (by omega) (by omega)).mp c
        exact absurd c (by omega)
      · skip
        have c : i < n := Nat.not_le.mp (fun h => c ((nI_leI (a := n) (b := i) (by omega) (by omega)).mpr h))
        have e1 := hs0 i (by omega)
        have e2 := hw0 i (by omega)
        refine lv_aload_n hx hb dX3_apart_12 rfl (lv_at hl 0 rfl) ?_
        refine va_get (D := (dC, dI)) (ci := 4) (v := .ref b2) (C := RX3) (T := TX3) (N := 10) hx hb hts hinX3 hown hK hP 0 rfl rfl 2 (by decide) hf29 (fun _ h9 => h9) rfl dX3_apart_13 ?_
        refine lv_iload_n hx hb dX3_apart_16 rfl (lv_at hl 2 rfl) ?_
        refine ra_ld (g := nI) (F := st) hx hb hK hP 1 0 rfl rfl (by omega) (by omega) dX3_apart_17 ?_
        refine lv_aload_n hx hb dX3_apart_18 rfl (lv_at hl 0 rfl) ?_
        refine va_get (D := (dC, dI)) (ci := 4) (v := .ref b3) (C := RX3) (T := TX3) (N := 10) hx hb hts hinX3 hown hK hP 0 rfl rfl 3 (by decide) hf33 (fun _ h9 => h9) rfl dX3_apart_19 ?_
        refine lv_iload_n hx hb dX3_apart_22 rfl (lv_at hl 2 rfl) ?_
        refine ra_ld (g := nI) (F := wt) hx hb hK hP 2 0 rfl rfl (by omega) (by omega) dX3_apart_23 ?_
        refine lv_icmp_eq (tgt := 30) hx hb dX3_apart_24 (by decide) (fun c2 => ?_) (fun c2 => ?_)
        · skip
          have c2 : st i = wt i := (nI_eq (a := st i) (b := wt i) (by omega) (by omega)).mp c2
          refine lv_iinc (v := nI (i + 1)) (lv' := [(2, .int (nI (i + 1))), (0, .ref o0), (1, .int (nI (y)))]) hx hb dX3_apart_30 hl (k := 2) rfl (nI_1 _) (by decide) rfl (fun ls hl => ?_)
          refine lv_goto (tgt := 4) hx hb dX3_apart_33 (by decide) ?_
          exact ih (i + 1) y (by omega) (by simp only [apt]; rw [if_pos c2, hy]) _ _ hP hD hS ls (lv_sub hl [1, 2, 0] rfl)
        · skip
          have c2 : st i ≠ wt i := fun h => c2 ((nI_eq (a := st i) (b := wt i) (by omega) (by omega)).mpr h)
          refine lv_iinc (v := nI (y + 1)) (lv' := [(1, .int (nI (y + 1))), (0, .ref o0), (2, .int (nI (i)))]) hx hb dX3_apart_27 hl (k := 1) rfl (nI_1 _) (by decide) rfl (fun ls hl => ?_)
          refine lv_iinc (v := nI (i + 1)) (lv' := [(2, .int (nI (i + 1))), (1, .int (nI (y + 1))), (0, .ref o0)]) hx hb dX3_apart_30 hl (k := 2) rfl (nI_1 _) (by decide) rfl (fun ls hl => ?_)
          refine lv_goto (tgt := 4) hx hb dX3_apart_33 (by decide) ?_
          exact ih (i + 1) (y + 1) (by omega) (by simp only [apt]; rw [if_neg c2, hy]) _ _ hP hD hS ls (lv_sub hl [2, 1, 0] rfl)
  exact lp n 0 0 (by omega) rfl _ _ hP hD hS ls (lv_sub hl [2, 1, 0] rfl)

set_option maxHeartbeats 4000000 in
set_option maxRecDepth 100000 in
theorem c_X3_clear (l : Launch) (dC : Nat → ClassId) (dI : Nat → Nat → Nat) (sz : Nat) (o0 b2 b3 n q : Nat) (st wt : Nat → Nat) (wk sd : Bool) (cI : ClassId) (v4 v5 v6 v7 : Value) (hn : n < 1000) : Met l yX3_clear wsX3_clear ({ frames := 1, cells := 0, slots := 0, locals := 20 }) (va_Pc [.ref o0] (fun U => U.heap.size = sz ∧ va_P (dC, dI) vwCl [(o0, .inr (4, [.int (nI (n)), .int (nI (q)), .ref b2, .ref b3, v4, v5, v6, v7, .int (bI wk), .int (bI sd)])), (b2, .inl (cI, n, .inl (fun j => nI (st j)))), (b3, .inl (cI, n, .inl (fun j => nI (wt j))))] U.heap ∧ va_K (dC, dI) vwCl [(cI, .int)] U ∧ va_D (fun _ => True) [(o0, .inr (4, [.int (nI (n)), .int (nI (q)), .ref b2, .ref b3, v4, v5, v6, v7, .int (bI wk), .int (bI sd)])), (b2, .inl (cI, n, .inl (fun j => nI (st j)))), (b3, .inl (cI, n, .inl (fun j => nI (wt j))))])) (va_Qv (fun u : (Nat → Nat) × (Nat → Nat) => (∀ j, j < n → u.1 j = 0) ∧ ∀ j, j < n → u.2 j = 0) (fun u t => va_P (dC, dI) vwCl [(o0, .inr (4, [.int (nI (n)), .int (nI (q)), .ref b2, .ref b3, v4, v5, v6, v7, .int (bI false), .int (bI false)])), (b2, .inl (cI, n, .inl (fun j => nI (u.1 j)))), (b3, .inl (cI, n, .inl (fun j => nI (u.2 j))))] t.heap ∧ va_K (dC, dI) vwCl [(cI, .int)] t ∧ va_D (va_A [(o0, .inr (4, [.int (nI (n)), .int (nI (q)), .ref b2, .ref b3, v4, v5, v6, v7, .int (bI wk), .int (bI sd)])), (b2, .inl (cI, n, .inl (fun j => nI (st j)))), (b3, .inl (cI, n, .inl (fun j => nI (wt j))))] sz) [(o0, .inr (4, [.int (nI (n)), .int (nI (q)), .ref b2, .ref b3, v4, v5, v6, v7, .int (bI false), .int (bI false)])), (b2, .inl (cI, n, .inl (fun j => nI (u.1 j)))), (b3, .inl (cI, n, .inl (fun j => nI (u.2 j))))]) (va_A [(o0, .inr (4, [.int (nI (n)), .int (nI (q)), .ref b2, .ref b3, v4, v5, v6, v7, .int (bI wk), .int (bI sd)])), (b2, .inl (cI, n, .inl (fun j => nI (st j)))), (b3, .inl (cI, n, .inl (fun j => nI (wt j))))] sz)) 0 0 (va_A [(o0, .inr (4, [.int (nI (n)), .int (nI (q)), .ref b2, .ref b3, v4, v5, v6, v7, .int (bI wk), .int (bI sd)])), (b2, .inl (cI, n, .inl (fun j => nI (st j)))), (b3, .inl (cI, n, .inl (fun j => nI (wt j))))] sz) := by
  refine Met.ofW (cc := cX3_clear) (maxL := 2) (ret := none) (by decide) rfl ?_
  intro zp ze s m args below meth zc s₁ B hml hv
  obtain ⟨hargs, hsz, hP, hK, hD0⟩ := hv
  have hx := B.exec
  have hb := B.bytes
  have hr := B.returns
  have hts := atoms_spec (ws := wsX3_clear) B.pre
  have hown : s.vm.findClass RX3 = some m.cls := findClass_of_methodNamed B.named
  have hlocks := B.notSynchronized
  subst hsz
  obtain ⟨Q, hQ⟩ : ∃ Q, Q = MQ below (va_Qv (fun u : (Nat → Nat) × (Nat → Nat) => (∀ j, j < n → u.1 j = 0) ∧ ∀ j, j < n → u.2 j = 0) (fun u t => va_P (dC, dI) vwCl [(o0, .inr (4, [.int (nI (n)), .int (nI (q)), .ref b2, .ref b3, v4, v5, v6, v7, .int (bI false), .int (bI false)])), (b2, .inl (cI, n, .inl (fun j => nI (u.1 j)))), (b3, .inl (cI, n, .inl (fun j => nI (u.2 j))))] t.heap ∧ va_K (dC, dI) vwCl [(cI, .int)] t ∧ va_D (va_A [(o0, .inr (4, [.int (nI (n)), .int (nI (q)), .ref b2, .ref b3, v4, v5, v6, v7, .int (bI wk), .int (bI sd)])), (b2, .inl (cI, n, .inl (fun j => nI (st j)))), (b3, .inl (cI, n, .inl (fun j => nI (wt j))))] s.heap.size) [(o0, .inr (4, [.int (nI (n)), .int (nI (q)), .ref b2, .ref b3, v4, v5, v6, v7, .int (bI false), .int (bI false)])), (b2, .inl (cI, n, .inl (fun j => nI (u.1 j)))), (b3, .inl (cI, n, .inl (fun j => nI (u.2 j))))]) (va_A [(o0, .inr (4, [.int (nI (n)), .int (nI (q)), .ref b2, .ref b3, v4, v5, v6, v7, .int (bI wk), .int (bI sd)])), (b2, .inl (cI, n, .inl (fun j => nI (st j)))), (b3, .inl (cI, n, .inl (fun j => nI (wt j))))] s.heap.size)) args s 0 0 (va_A [(o0, .inr (4, [.int (nI (n)), .int (nI (q)), .ref b2, .ref b3, v4, v5, v6, v7, .int (bI wk), .int (bI sd)])), (b2, .inl (cI, n, .inl (fun j => nI (st j)))), (b3, .inl (cI, n, .inl (fun j => nI (wt j))))] s.heap.size) := ⟨_, rfl⟩
  rw [← hQ]
  have hD := hD0.self (sz := s.heap.size)
  generalize hAe : (va_A [(o0, .inr (4, [.int (nI (n)), .int (nI (q)), .ref b2, .ref b3, v4, v5, v6, v7, .int (bI wk), .int (bI sd)])), (b2, .inl (cI, n, .inl (fun j => nI (st j)))), (b3, .inl (cI, n, .inl (fun j => nI (wt j))))] s.heap.size) = A at hD hQ
  have hA : ∀ q : Nat, s.heap.size ≤ q → A q := fun q h => by rw [← hAe]; exact Or.inr h
  have hS : va_S A s.heap s.heap [] := va_S.rf
  have hl := lv_entry ([.ref o0]) (n := 2) (Nat.le_of_ble_eq_true rfl)
  generalize hen : entryFrame m args 2 = fr
  rw [hargs, lg_entry_eq] at hen
  subst hen
  generalize (lg_sl ([.ref o0]) ++ List.replicate (2 - (lg_sl ([.ref o0])).length) Slot.unset).toArray = ls at hl ⊢
  have hl : lv_has ls 2 [(0, .ref o0)] := hl
  have hinX3 : ∀ w ∈ wsX30, w ∈ wsX3_clear := by decide +kernel
  have hf18 := hts (.fieldLink RX3 18 "LightRows" "lamps" "I") (by decide +kernel)
  have hf29 := hts (.fieldLink RX3 29 "LightRows" "now" "[I") (by decide +kernel)
  have hf33 := hts (.fieldLink RX3 33 "LightRows" "wanted" "[I") (by decide +kernel)
  have hf62 := hts (.fieldLink RX3 62 "LightRows" "worked" "Z") (by decide +kernel)
  have hf66 := hts (.fieldLink RX3 66 "LightRows" "searched" "Z") (by decide +kernel)
  refine lv_iconst (v := nI 0) hx hb dX3_clear_0 (by decide) ?_
  refine lv_istore_n (lv' := [(1, .int (nI (0))), (0, .ref o0)]) hx hb dX3_clear_1 rfl hl (by decide) rfl (fun ls hl => ?_)
  have lp : ∀ (k : Nat) (i : Nat) (F : Nat → Nat) (G : Nat → Nat), (i + k = n) → (∀ j, j < i → F j = 0) → (∀ j, j < i → G j = 0) → ∀ (H : Heap) (locs : List Loc), va_P (dC, dI) vwCl [(o0, .inr (4, [.int (nI (n)), .int (nI (q)), .ref b2, .ref b3, v4, v5, v6, v7, .int (bI wk), .int (bI sd)])), (b2, .inl (cI, n, .inl (fun j => nI (F j)))), (b3, .inl (cI, n, .inl (fun j => nI (G j))))] H → va_D A [(o0, .inr (4, [.int (nI (n)), .int (nI (q)), .ref b2, .ref b3, v4, v5, v6, v7, .int (bI wk), .int (bI sd)])), (b2, .inl (cI, n, .inl (fun j => nI (F j)))), (b3, .inl (cI, n, .inl (fun j => nI (G j))))] → va_S A s.heap H locs → ∀ (ls : Array Slot), lv_has ls 2 [(0, .ref o0), (1, .int (nI (i)))] → W zp l ze (headSpec wsX3_clear ({ frames := 1, cells := 0, slots := 0, locals := 20 })).room s m args below meth zc H locs 0 0 Q (F0 m 2 ls []) := by
    intro k
    induction k with
    | zero =>
      intro i F G hi h1 h2 H locs hP hD hS ls hl
      refine lv_iload_n hx hb dX3_clear_2 rfl (lv_at hl 1 rfl) ?_
      refine lv_aload_n hx hb dX3_clear_3 rfl (lv_at hl 0 rfl) ?_
      refine va_get (D := (dC, dI)) (ci := 4) (v := .int (nI (n))) (C := RX3) (T := TX3) (N := 10) hx hb hts hinX3 hown hK hP 0 rfl rfl 0 (by decide) hf18 (fun _ h9 => h9) rfl dX3_clear_4 ?_
      refine lv_icmp_ge (tgt := 30) hx hb dX3_clear_7 (by decide) (fun c => ?_) (fun c => ?_)
      · skip
        have c : n ≤ i := (nI_leI (a := n) (b := i) (by omega) (by omega)).mp c
        obtain rfl : n = i := by omega
        refine lv_aload_n hx hb dX3_clear_30 rfl (lv_at hl 0 rfl) ?_
        have hPc := hP.sub (ws' := [(o0, .inr (4, [.int (nI (n)), .int (nI (q)), .ref b2, .ref b3, v4, v5, v6, v7, .int (bI wk), .int (bI sd)]))]) [0] rfl
        have hDc := hD.sub (ws' := [(o0, .inr (4, [.int (nI (n)), .int (nI (q)), .ref b2, .ref b3, v4, v5, v6, v7, .int (bI wk), .int (bI sd)]))]) [0] (by decide) rfl
        have hFc := va_free (wc := [(o0, .inr (4, [.int (nI (n)), .int (nI (q)), .ref b2, .ref b3, v4, v5, v6, v7, .int (bI wk), .int (bI sd)]))]) hD hS hA [0] rfl
        have hKc := hK.sub (tys' := []) [] rfl
        refine va_callv (va_runV (As := []) (rest := []) ⟨hx, hb, hml, hown, hts⟩ (c_X3_forget l dC dI H.size o0 n q (bI wk) (bI sd) (.ref b2) (.ref b3) v4 v5 v6 v7) (cwV 0 hts gX3_clear_X3_forget rfl rfl rfl (by decide +kernel) ⟨Nat.le_of_ble_eq_true rfl, Nat.le_of_ble_eq_true rfl⟩) ⟨fun a U g mk q => by obtain ⟨q0, q1, qP, qK, qD⟩ := q; exact ⟨q0, q1, qP, va_K.moved (u := U) (U := U.calling g mk a) (Vm.Alike.refl U.vm) qK, qD⟩, va_recv hKc hPc (ci := 4) (q0 := 0) rfl rfl, fun U hU hW => ⟨rfl, by rw [hU], by rw [hU]; exact hPc, va_K.moved hW.alike hKc, hDc.weaken (fun _ _ _ _ => trivial)⟩⟩ rfl rfl hl.1 rfl (lv_room (Nat.le_of_ble_eq_true rfl)) dX3_clear_31 ⟨Nat.le_of_ble_eq_true rfl, Nat.le_of_ble_eq_true rfl⟩) hS (fun q _ h => hFc q h) hFc (fun u t H1 locs ht hvm hw hB hz1 hk1 hS => ?_)
        obtain ⟨hP1, hK1, hD1⟩ := hB
        rw [ht] at hP1
        try dsimp only at hw
        obtain ⟨hP, hD⟩ := va_join (wr := [(b2, .inl (cI, n, .inl (fun j => nI (F j)))), (b3, .inl (cI, n, .inl (fun j => nI (G j))))]) (w1 := [(o0, .inr (4, [.int (nI (n)), .int (nI (q)), .ref b2, .ref b3, v4, v5, v6, v7, .int (bI false), .int (bI false)]))]) hP hD [0] [1, 2] rfl rfl (by decide) (by decide) hk1 hFc hP1 hD1
        generalize H1 = H at hP hS ⊢
        have hP := hP.sub (ws' := [(o0, .inr (4, [.int (nI (n)), .int (nI (q)), .ref b2, .ref b3, v4, v5, v6, v7, .int (bI false), .int (bI false)])), (b2, .inl (cI, n, .inl (fun j => nI (F j)))), (b3, .inl (cI, n, .inl (fun j => nI (G j))))]) [2, 0, 1] rfl
        have hD := hD.sub (ws' := [(o0, .inr (4, [.int (nI (n)), .int (nI (q)), .ref b2, .ref b3, v4, v5, v6, v7, .int (bI false), .int (bI false)])), (b2, .inl (cI, n, .inl (fun j => nI (F j)))), (b3, .inl (cI, n, .inl (fun j => nI (G j))))]) [2, 0, 1] (by decide) rfl
        have hP : va_P (dC, dI) vwCl [(o0, .inr (4, [.int (nI (n)), .int (nI (q)), .ref b2, .ref b3, v4, v5, v6, v7, .int (bI false), .int (bI false)])), (b2, .inl (cI, n, .inl (fun j => nI (F j)))), (b3, .inl (cI, n, .inl (fun j => nI (G j))))] H := hP
        have hD : va_D A [(o0, .inr (4, [.int (nI (n)), .int (nI (q)), .ref b2, .ref b3, v4, v5, v6, v7, .int (bI false), .int (bI false)])), (b2, .inl (cI, n, .inl (fun j => nI (F j)))), (b3, .inl (cI, n, .inl (fun j => nI (G j))))] := hD
        rw [hQ]
        exact W.vret hx hb hr (fun t ht hW => ⟨⟨(F, G), rfl, ⟨h1, h2⟩, by rw [ht]; exact hP, va_K.moved hW.alike hK, hD⟩, hS.F ht⟩) hS.2.2 dX3_clear_34
      · skip
        have c : i < n := Nat.not_le.mp (fun h => c ((nI_leI (a := n) (b := i) (by omega) (by omega)).mpr h))
        exact absurd c (by omega)
    | succ k ih =>
      intro i F G hi h1 h2 H locs hP hD hS ls hl
      refine lv_iload_n hx hb dX3_clear_2 rfl (lv_at hl 1 rfl) ?_
      refine lv_aload_n hx hb dX3_clear_3 rfl (lv_at hl 0 rfl) ?_
      refine va_get (D := (dC, dI)) (ci := 4) (v := .int (nI (n))) (C := RX3) (T := TX3) (N := 10) hx hb hts hinX3 hown hK hP 0 rfl rfl 0 (by decide) hf18 (fun _ h9 => h9) rfl dX3_clear_4 ?_
      refine lv_icmp_ge (tgt := 30) hx hb dX3_clear_7 (by decide) (fun c => ?_) (fun c => ?_)
      · skip
        have c : n ≤ i := (nI_leI (a := n) (b := i) (by omega) (by omega)).mp c
        exact absurd c (by omega)
      · skip
        have c : i < n := Nat.not_le.mp (fun h => c ((nI_leI (a := n) (b := i) (by omega) (by omega)).mpr h))
        refine lv_aload_n hx hb dX3_clear_10 rfl (lv_at hl 0 rfl) ?_
        refine va_get (D := (dC, dI)) (ci := 4) (v := .ref b2) (C := RX3) (T := TX3) (N := 10) hx hb hts hinX3 hown hK hP 0 rfl rfl 2 (by decide) hf29 (fun _ h9 => h9) rfl dX3_clear_11 ?_
        refine lv_iload_n hx hb dX3_clear_14 rfl (lv_at hl 1 rfl) ?_
        refine lv_iconst (v := nI 0) hx hb dX3_clear_15 (by decide) ?_
        refine ra_st (g := nI) (F := F) (v := 0) hx hb hK hP hD hS 1 0 rfl rfl (by omega) (by omega) dX3_clear_16 (fun H locs hP hD hS => ?_)
        have hP : va_P (dC, dI) vwCl [(o0, .inr (4, [.int (nI (n)), .int (nI (q)), .ref b2, .ref b3, v4, v5, v6, v7, .int (bI wk), .int (bI sd)])), (b2, .inl (cI, n, .inl (fun j => nI ((va_up F i (0)) j)))), (b3, .inl (cI, n, .inl (fun j => nI (G j))))] H := hP
        have hD : va_D A [(o0, .inr (4, [.int (nI (n)), .int (nI (q)), .ref b2, .ref b3, v4, v5, v6, v7, .int (bI wk), .int (bI sd)])), (b2, .inl (cI, n, .inl (fun j => nI ((va_up F i (0)) j)))), (b3, .inl (cI, n, .inl (fun j => nI (G j))))] := hD
        refine lv_aload_n hx hb dX3_clear_17 rfl (lv_at hl 0 rfl) ?_
        refine va_get (D := (dC, dI)) (ci := 4) (v := .ref b3) (C := RX3) (T := TX3) (N := 10) hx hb hts hinX3 hown hK hP 0 rfl rfl 3 (by decide) hf33 (fun _ h9 => h9) rfl dX3_clear_18 ?_
        refine lv_iload_n hx hb dX3_clear_21 rfl (lv_at hl 1 rfl) ?_
        refine lv_iconst (v := nI 0) hx hb dX3_clear_22 (by decide) ?_
        refine ra_st (g := nI) (F := G) (v := 0) hx hb hK hP hD hS 2 0 rfl rfl (by omega) (by omega) dX3_clear_23 (fun H locs hP hD hS => ?_)
        have hP : va_P (dC, dI) vwCl [(o0, .inr (4, [.int (nI (n)), .int (nI (q)), .ref b2, .ref b3, v4, v5, v6, v7, .int (bI wk), .int (bI sd)])), (b2, .inl (cI, n, .inl (fun j => nI ((va_up F i (0)) j)))), (b3, .inl (cI, n, .inl (fun j => nI ((va_up G i (0)) j))))] H := hP
        have hD : va_D A [(o0, .inr (4, [.int (nI (n)), .int (nI (q)), .ref b2, .ref b3, v4, v5, v6, v7, .int (bI wk), .int (bI sd)])), (b2, .inl (cI, n, .inl (fun j => nI ((va_up F i (0)) j)))), (b3, .inl (cI, n, .inl (fun j => nI ((va_up G i (0)) j))))] := hD
        refine lv_iinc (v := nI (i + 1)) (lv' := [(1, .int (nI (i + 1))), (0, .ref o0)]) hx hb dX3_clear_24 hl (k := 1) rfl (nI_1 _) (by decide) rfl (fun ls hl => ?_)
        refine lv_goto (tgt := 2) hx hb dX3_clear_27 (by decide) ?_
        exact ih (i + 1) (va_up F i 0) (va_up G i 0) (by omega) (fun j hj => by
              by_cases e : j = i
              · rw [e, up_at]
              · rw [up_of _ _ e]; exact h1 j (by omega)) (fun j hj => by
              by_cases e : j = i
              · rw [e, up_at]
              · rw [up_of _ _ e]; exact h2 j (by omega)) _ _ hP hD hS ls (lv_sub hl [1, 0] rfl)
  exact lp n 0 st wt (by omega) (fun j h => absurd h (by omega)) (fun j h => absurd h (by omega)) _ _ hP hD hS ls (lv_sub hl [1, 0] rfl)

set_option maxHeartbeats 4000000 in
set_option maxRecDepth 100000 in
theorem c_X3_press (l : Launch) (dC : Nat → ClassId) (dI : Nat → Nat → Nat) (hfl : l.flags = pinnedFlags ++ [noTraceFlag]) (s0 : State) (A0 : Array Value) (str : Nat) (sz : Nat) (o0 b1 b2 n q : Nat) (x v : Int32) (st tm : Nat → Nat) (wk sd : Bool) (cI : ClassId) (v3 v5 v6 v7 : Value) (hn : n < 1000) (hn1 : n < 31) (hq0 : 2 ≤ q) (hq : q < 100) (ht0 : ∀ j, j < n → tm j < 2 ^ 31) (hs0 : ∀ j, j < n → st j < q) : tt_Met l yX3_press wsX3_press ({ frames := 8, cells := 1, slots := 6, locals := 116 }) (va_Pc [.ref o0, .int (x), .int (v)] (fun U => U.heap.size = sz ∧ va_P (dC, dI) vwCl [(o0, .inr (4, [.int (nI (n)), .int (nI (q)), .ref b2, v3, .ref b1, v5, v6, v7, .int (bI wk), .int (bI sd)])), (b2, .inl (cI, n, .inl (fun j => nI (st j)))), (b1, .inl (cI, n, .inl (fun j => nI (tm j))))] U.heap ∧ va_K (dC, dI) vwCl [(cI, .int)] U ∧ va_D (fun _ => True) [(o0, .inr (4, [.int (nI (n)), .int (nI (q)), .ref b2, v3, .ref b1, v5, v6, v7, .int (bI wk), .int (bI sd)])), (b2, .inl (cI, n, .inl (fun j => nI (st j)))), (b1, .inl (cI, n, .inl (fun j => nI (tm j))))] ∧ tt_B s0 A0 str U)) (tt_Q (∃ j : Nat, j < n ∧ x = nI j) (va_Qi (fun (z : Int32) (u : (Nat → Nat) × Bool × Bool) => (z = nI 1 ∧ ∃ j k : Nat, j < n ∧ k ≤ 1000 ∧ x = nI j ∧ v = nI k ∧ (∀ i, i < n → u.1 i = if tm j / 2 ^ i % 2 = 1 then (st i + k) % q else st i) ∧ u.2 = (false, false)) ∨ (z = nI 0 ∧ (∀ k : Nat, k ≤ 1000 → v ≠ nI k) ∧ u = (st, wk, sd))) (fun u t => va_P (dC, dI) vwCl [(o0, .inr (4, [.int (nI (n)), .int (nI (q)), .ref b2, v3, .ref b1, v5, v6, v7, .int (bI u.2.1), .int (bI u.2.2)])), (b2, .inl (cI, n, .inl (fun j => nI (u.1 j)))), (b1, .inl (cI, n, .inl (fun j => nI (tm j))))] t.heap ∧ va_K (dC, dI) vwCl [(cI, .int)] t ∧ va_D (va_A [(o0, .inr (4, [.int (nI (n)), .int (nI (q)), .ref b2, v3, .ref b1, v5, v6, v7, .int (bI wk), .int (bI sd)])), (b2, .inl (cI, n, .inl (fun j => nI (st j)))), (b1, .inl (cI, n, .inl (fun j => nI (tm j))))] sz) [(o0, .inr (4, [.int (nI (n)), .int (nI (q)), .ref b2, v3, .ref b1, v5, v6, v7, .int (bI u.2.1), .int (bI u.2.2)])), (b2, .inl (cI, n, .inl (fun j => nI (u.1 j)))), (b1, .inl (cI, n, .inl (fun j => nI (tm j))))]) (va_A [(o0, .inr (4, [.int (nI (n)), .int (nI (q)), .ref b2, v3, .ref b1, v5, v6, v7, .int (bI wk), .int (bI sd)])), (b2, .inl (cI, n, .inl (fun j => nI (st j)))), (b1, .inl (cI, n, .inl (fun j => nI (tm j))))] sz))) 1 6 (va_A [(o0, .inr (4, [.int (nI (n)), .int (nI (q)), .ref b2, v3, .ref b1, v5, v6, v7, .int (bI wk), .int (bI sd)])), (b2, .inl (cI, n, .inl (fun j => nI (st j)))), (b1, .inl (cI, n, .inl (fun j => nI (tm j))))] sz) := by
  refine tt_ofW (cc := cX3_press) (maxL := 4) (ret := (some .boolean)) (by decide) rfl ?_
  intro zp ze s m args below meth zc s₁ B hml hv
  obtain ⟨hargs, hsz, hP, hK, hD0, hB⟩ := hv
  have hx := B.exec
  have hb := B.bytes
  have hr := B.returns
  have hts := atoms_spec (ws := wsX3_press) B.pre
  have hown : s.vm.findClass RX3 = some m.cls := findClass_of_methodNamed B.named
  have hlocks := B.notSynchronized
  have hemp := B.noHandlers (hts _ List.mem_cons_self)
  subst hsz
  obtain ⟨Q, hQ⟩ : ∃ Q, Q = tt_MQ below (tt_Q (∃ j : Nat, j < n ∧ x = nI j) (va_Qi (fun (z : Int32) (u : (Nat → Nat) × Bool × Bool) => (z = nI 1 ∧ ∃ j k : Nat, j < n ∧ k ≤ 1000 ∧ x = nI j ∧ v = nI k ∧ (∀ i, i < n → u.1 i = if tm j / 2 ^ i % 2 = 1 then (st i + k) % q else st i) ∧ u.2 = (false, false)) ∨ (z = nI 0 ∧ (∀ k : Nat, k ≤ 1000 → v ≠ nI k) ∧ u = (st, wk, sd))) (fun u t => va_P (dC, dI) vwCl [(o0, .inr (4, [.int (nI (n)), .int (nI (q)), .ref b2, v3, .ref b1, v5, v6, v7, .int (bI u.2.1), .int (bI u.2.2)])), (b2, .inl (cI, n, .inl (fun j => nI (u.1 j)))), (b1, .inl (cI, n, .inl (fun j => nI (tm j))))] t.heap ∧ va_K (dC, dI) vwCl [(cI, .int)] t ∧ va_D (va_A [(o0, .inr (4, [.int (nI (n)), .int (nI (q)), .ref b2, v3, .ref b1, v5, v6, v7, .int (bI wk), .int (bI sd)])), (b2, .inl (cI, n, .inl (fun j => nI (st j)))), (b1, .inl (cI, n, .inl (fun j => nI (tm j))))] s.heap.size) [(o0, .inr (4, [.int (nI (n)), .int (nI (q)), .ref b2, v3, .ref b1, v5, v6, v7, .int (bI u.2.1), .int (bI u.2.2)])), (b2, .inl (cI, n, .inl (fun j => nI (u.1 j)))), (b1, .inl (cI, n, .inl (fun j => nI (tm j))))]) (va_A [(o0, .inr (4, [.int (nI (n)), .int (nI (q)), .ref b2, v3, .ref b1, v5, v6, v7, .int (bI wk), .int (bI sd)])), (b2, .inl (cI, n, .inl (fun j => nI (st j)))), (b1, .inl (cI, n, .inl (fun j => nI (tm j))))] s.heap.size))) args s 1 6 (va_A [(o0, .inr (4, [.int (nI (n)), .int (nI (q)), .ref b2, v3, .ref b1, v5, v6, v7, .int (bI wk), .int (bI sd)])), (b2, .inl (cI, n, .inl (fun j => nI (st j)))), (b1, .inl (cI, n, .inl (fun j => nI (tm j))))] s.heap.size) := ⟨_, rfl⟩
  rw [← hQ]
  have hD := hD0.self (sz := s.heap.size)
  generalize hAe : (va_A [(o0, .inr (4, [.int (nI (n)), .int (nI (q)), .ref b2, v3, .ref b1, v5, v6, v7, .int (bI wk), .int (bI sd)])), (b2, .inl (cI, n, .inl (fun j => nI (st j)))), (b1, .inl (cI, n, .inl (fun j => nI (tm j))))] s.heap.size) = A at hD hQ
  have hA : ∀ q : Nat, s.heap.size ≤ q → A q := fun q h => by rw [← hAe]; exact Or.inr h
  have hS : va_S A s.heap s.heap [] := va_S.rf
  have hl := lv_entry ([.ref o0, .int (x), .int (v)]) (n := 4) (Nat.le_of_ble_eq_true rfl)
  generalize hen : entryFrame m args 4 = fr
  rw [hargs, lg_entry_eq] at hen
  subst hen
  generalize (lg_sl ([.ref o0, .int (x), .int (v)]) ++ List.replicate (4 - (lg_sl ([.ref o0, .int (x), .int (v)])).length) Slot.unset).toArray = ls at hl ⊢
  have hl : lv_has ls 4 [(0, .ref o0), (1, .int (x)), (2, .int (v))] := hl
  have hinX3 : ∀ w ∈ wsX30, w ∈ wsX3_press := by decide +kernel
  have hf18 := hts (.fieldLink RX3 18 "LightRows" "lamps" "I") (by decide +kernel)
  have hf26 := hts (.fieldLink RX3 26 "LightRows" "states" "I") (by decide +kernel)
  have hf29 := hts (.fieldLink RX3 29 "LightRows" "now" "[I") (by decide +kernel)
  have hf36 := hts (.fieldLink RX3 36 "LightRows" "touched" "[I") (by decide +kernel)
  have hf62 := hts (.fieldLink RX3 62 "LightRows" "worked" "Z") (by decide +kernel)
  have hf66 := hts (.fieldLink RX3 66 "LightRows" "searched" "Z") (by decide +kernel)
  refine lv_aload_n hx hb dX3_press_0 rfl (lv_at hl 0 rfl) ?_
  refine lv_iload_n hx hb dX3_press_1 rfl (lv_at hl 1 rfl) ?_
  have hPc := hP.sub (ws' := [(o0, .inr (4, [.int (nI (n)), .int (nI (q)), .ref b2, v3, .ref b1, v5, v6, v7, .int (bI wk), .int (bI sd)]))]) [0] rfl
  have hDc := hD.sub (ws' := [(o0, .inr (4, [.int (nI (n)), .int (nI (q)), .ref b2, v3, .ref b1, v5, v6, v7, .int (bI wk), .int (bI sd)]))]) [0] (by decide) rfl
  have hKc := hK.sub (tys' := []) [] rfl
  rw [hQ]
  refine tt_must (mc := 1) (ms := 6) (tt_runV (As := [.int (x)]) (rest := []) ⟨hx, hb, hml, hown, hts⟩ (c_X3_mustExist l dC dI hfl s0 A0 str s.heap.size o0 n (.int (nI (q))) (.ref b2) (v3) (.ref b1) (v5) (v6) (v7) (.int (bI wk)) (.int (bI sd)) (x) hn) (cwV 1 hts gX3_press_X3_mustExist rfl rfl rfl (by decide +kernel) ⟨Nat.le_of_ble_eq_true rfl, Nat.le_of_ble_eq_true rfl⟩) ⟨fun a U g mk q => by obtain ⟨q0, q1, qP, qK, qD, qB⟩ := q; exact ⟨q0, q1, qP, va_K.moved (u := U) (U := U.calling g mk a) (Vm.Alike.refl U.vm) qK, qD, qB.blind rfl rfl⟩, va_recv hKc hPc (ci := 4) (q0 := 0) rfl rfl, fun U hU hW => ⟨rfl, by rw [hU], by rw [hU]; exact hPc, va_K.moved hW.alike hKc, hDc.weaken (fun _ _ _ _ => trivial), hB.later hU hW⟩⟩ rfl rfl hl.1 rfl (lv_room (Nat.le_of_ble_eq_true rfl)) dX3_press_2 ⟨Nat.le_of_ble_eq_true rfl, Nat.le_of_ble_eq_true rfl⟩) hemp hlocks (Nat.le_of_ble_eq_true rfl) (Nat.le_of_ble_eq_true rfl) (id) (fun hin => ?_)
  rw [← hQ]
  obtain ⟨ja, hja, eja⟩ := id hin
  subst eja
  refine lv_iload_n hx hb dX3_press_5 rfl (lv_at hl 2 rfl) ?_
  refine lv_if_lt (tgt := 16) hx hb dX3_press_6 (by decide) (fun c => ?_) (fun c => ?_)
  · skip
    refine lv_iconst (v := nI 0) hx hb dX3_press_16 (by decide) ?_
    rw [hQ]
    refine tt_ret (⟨ja, hja, rfl⟩) ?_
    exact W.zret (v := nI (0)) (ty := .boolean) hx hb hr rfl (fun t ht hW => ⟨⟨_, (st, wk, sd), rfl, Or.inr ⟨rfl, fun k hk e => nI_pos (by omega) (e ▸ c), rfl⟩, by rw [ht]; exact hP, va_K.moved hW.alike hK, hD⟩, hS.F ht⟩) hS.2.2 dX3_press_17
  · skip
    refine lv_iload_n hx hb dX3_press_9 rfl (lv_at hl 2 rfl) ?_
    refine lv_sipush (v := nI 1000) hx hb dX3_press_10 (by decide) ?_
    refine lv_icmp_le (tgt := 18) hx hb dX3_press_13 (by decide) (fun c2 => ?_) (fun c2 => ?_)
    · skip
      obtain ⟨k, hk, rfl⟩ : ∃ k : Nat, k ≤ 1000 ∧ v = nI k := nI_of2 (M := nI 1000) (by rw [nI_toInt (by omega)]) c c2
      refine lv_iconst (v := nI 0) hx hb dX3_press_18 (by decide) ?_
      refine lv_istore_n (lv' := [(3, .int (nI (0))), (0, .ref o0), (1, .int (nI (ja))), (2, .int (nI (k)))]) hx hb dX3_press_19 rfl hl (by decide) rfl (fun ls hl => ?_)
      have lp : ∀ (kk : Nat) (i : Nat) (F : Nat → Nat), (i + kk = n) → (∀ a, F a = if a < i then (fun i => if tm ja / 2 ^ i % 2 = 1 then (st i + k) % q else st i) a else st a) → ∀ (H : Heap) (locs : List Loc), va_P (dC, dI) vwCl [(o0, .inr (4, [.int (nI (n)), .int (nI (q)), .ref b2, v3, .ref b1, v5, v6, v7, .int (bI wk), .int (bI sd)])), (b2, .inl (cI, n, .inl (fun j => nI (F j)))), (b1, .inl (cI, n, .inl (fun j => nI (tm j))))] H → va_D A [(o0, .inr (4, [.int (nI (n)), .int (nI (q)), .ref b2, v3, .ref b1, v5, v6, v7, .int (bI wk), .int (bI sd)])), (b2, .inl (cI, n, .inl (fun j => nI (F j)))), (b1, .inl (cI, n, .inl (fun j => nI (tm j))))] → va_S A s.heap H locs → ∀ (ls : Array Slot), lv_has ls 4 [(0, .ref o0), (1, .int (nI (ja))), (2, .int (nI (k))), (3, .int (nI (i)))] → W zp l ze (headSpec wsX3_press ({ frames := 8, cells := 1, slots := 6, locals := 116 })).room s m args below meth zc H locs (0 + 1) (0 + 6) Q (F0 m 20 ls []) := by
        intro kk
        induction kk with
        | zero =>
          intro i F hi h1 H locs hP hD hS ls hl
          refine lv_iload_n hx hb dX3_press_20 rfl (lv_at hl 3 rfl) ?_
          refine lv_aload_n hx hb dX3_press_21 rfl (lv_at hl 0 rfl) ?_
          refine va_get (D := (dC, dI)) (ci := 4) (v := .int (nI (n))) (C := RX3) (T := TX3) (N := 10) hx hb hts hinX3 hown hK hP 0 rfl rfl 0 (by decide) hf18 (fun _ h9 => h9) rfl dX3_press_22 ?_
          refine lv_icmp_ge (tgt := 62) hx hb dX3_press_25 (by decide) (fun c3 => ?_) (fun c3 => ?_)
          · skip
            have c3 : n ≤ i := (nI_leI (a := n) (b := i) (by omega) (by omega)).mp c3
            obtain rfl : n = i := by omega
            refine lv_aload_n hx hb dX3_press_62 rfl (lv_at hl 0 rfl) ?_
            have hPc := hP.sub (ws' := [(o0, .inr (4, [.int (nI (n)), .int (nI (q)), .ref b2, v3, .ref b1, v5, v6, v7, .int (bI wk), .int (bI sd)]))]) [0] rfl
            have hDc := hD.sub (ws' := [(o0, .inr (4, [.int (nI (n)), .int (nI (q)), .ref b2, v3, .ref b1, v5, v6, v7, .int (bI wk), .int (bI sd)]))]) [0] (by decide) rfl
            have hFc := va_free (wc := [(o0, .inr (4, [.int (nI (n)), .int (nI (q)), .ref b2, v3, .ref b1, v5, v6, v7, .int (bI wk), .int (bI sd)]))]) hD hS hA [0] rfl
            have hKc := hK.sub (tys' := []) [] rfl
            refine va_callv (va_runV (As := []) (rest := []) ⟨hx, hb, hml, hown, hts⟩ (c_X3_forget l dC dI H.size o0 n q (bI wk) (bI sd) (.ref b2) v3 (.ref b1) v5 v6 v7) (cwV 0 hts gX3_press_X3_forget rfl rfl rfl (by decide +kernel) ⟨Nat.le_of_ble_eq_true rfl, Nat.le_of_ble_eq_true rfl⟩) ⟨fun a U g mk q => by obtain ⟨q0, q1, qP, qK, qD⟩ := q; exact ⟨q0, q1, qP, va_K.moved (u := U) (U := U.calling g mk a) (Vm.Alike.refl U.vm) qK, qD⟩, va_recv hKc hPc (ci := 4) (q0 := 0) rfl rfl, fun U hU hW => ⟨rfl, by rw [hU], by rw [hU]; exact hPc, va_K.moved hW.alike hKc, hDc.weaken (fun _ _ _ _ => trivial)⟩⟩ rfl rfl hl.1 rfl (lv_room (Nat.le_of_ble_eq_true rfl)) dX3_press_63 ⟨Nat.le_of_ble_eq_true rfl, Nat.le_of_ble_eq_true rfl⟩) hS (fun q _ h => hFc q h) hFc (fun u t H1 locs ht hvm hw hB hz1 hk1 hS => ?_)
            obtain ⟨hP1, hK1, hD1⟩ := hB
            rw [ht] at hP1
            try dsimp only at hw
            obtain ⟨hP, hD⟩ := va_join (wr := [(b2, .inl (cI, n, .inl (fun j => nI (F j)))), (b1, .inl (cI, n, .inl (fun j => nI (tm j))))]) (w1 := [(o0, .inr (4, [.int (nI (n)), .int (nI (q)), .ref b2, v3, .ref b1, v5, v6, v7, .int (bI false), .int (bI false)]))]) hP hD [0] [1, 2] rfl rfl (by decide) (by decide) hk1 hFc hP1 hD1
            generalize H1 = H at hP hS ⊢
            have hP := hP.sub (ws' := [(o0, .inr (4, [.int (nI (n)), .int (nI (q)), .ref b2, v3, .ref b1, v5, v6, v7, .int (bI false), .int (bI false)])), (b2, .inl (cI, n, .inl (fun j => nI (F j)))), (b1, .inl (cI, n, .inl (fun j => nI (tm j))))]) [2, 0, 1] rfl
            have hD := hD.sub (ws' := [(o0, .inr (4, [.int (nI (n)), .int (nI (q)), .ref b2, v3, .ref b1, v5, v6, v7, .int (bI false), .int (bI false)])), (b2, .inl (cI, n, .inl (fun j => nI (F j)))), (b1, .inl (cI, n, .inl (fun j => nI (tm j))))]) [2, 0, 1] (by decide) rfl
            have hP : va_P (dC, dI) vwCl [(o0, .inr (4, [.int (nI (n)), .int (nI (q)), .ref b2, v3, .ref b1, v5, v6, v7, .int (bI false), .int (bI false)])), (b2, .inl (cI, n, .inl (fun j => nI (F j)))), (b1, .inl (cI, n, .inl (fun j => nI (tm j))))] H := hP
            have hD : va_D A [(o0, .inr (4, [.int (nI (n)), .int (nI (q)), .ref b2, v3, .ref b1, v5, v6, v7, .int (bI false), .int (bI false)])), (b2, .inl (cI, n, .inl (fun j => nI (F j)))), (b1, .inl (cI, n, .inl (fun j => nI (tm j))))] := hD
            refine lv_iconst (v := nI 1) hx hb dX3_press_66 (by decide) ?_
            rw [hQ]
            refine tt_ret (⟨ja, hja, rfl⟩) ?_
            exact W.zret (v := nI (1)) (ty := .boolean) hx hb hr rfl (fun t ht hW => ⟨⟨_, (F, false, false), rfl, Or.inl ⟨rfl, ja, k, hja, hk, rfl, rfl, fun i hi => by show F i = _; rw [h1 i, if_pos hi], rfl⟩, by rw [ht]; exact hP, va_K.moved hW.alike hK, hD⟩, hS.F ht⟩) hS.2.2 dX3_press_67
          · skip
            have c3 : i < n := Nat.not_le.mp (fun h => c3 ((nI_leI (a := n) (b := i) (by omega) (by omega)).mpr h))
            exact absurd c3 (by omega)
        | succ kk ih =>
          intro i F hi h1 H locs hP hD hS ls hl
          refine lv_iload_n hx hb dX3_press_20 rfl (lv_at hl 3 rfl) ?_
          refine lv_aload_n hx hb dX3_press_21 rfl (lv_at hl 0 rfl) ?_
          refine va_get (D := (dC, dI)) (ci := 4) (v := .int (nI (n))) (C := RX3) (T := TX3) (N := 10) hx hb hts hinX3 hown hK hP 0 rfl rfl 0 (by decide) hf18 (fun _ h9 => h9) rfl dX3_press_22 ?_
          refine lv_icmp_ge (tgt := 62) hx hb dX3_press_25 (by decide) (fun c3 => ?_) (fun c3 => ?_)
          · skip
            have c3 : n ≤ i := (nI_leI (a := n) (b := i) (by omega) (by omega)).mp c3
            exact absurd c3 (by omega)
          · skip
            have c3 : i < n := Nat.not_le.mp (fun h => c3 ((nI_leI (a := n) (b := i) (by omega) (by omega)).mpr h))
            have e1 := hs0 i (by omega)
            have e2 : F i = st i := by rw [h1 i, if_neg (by omega)]
            refine lv_aload_n hx hb dX3_press_28 rfl (lv_at hl 0 rfl) ?_
            refine lv_iload_n hx hb dX3_press_29 rfl (lv_at hl 1 rfl) ?_
            refine lv_iload_n hx hb dX3_press_30 rfl (lv_at hl 3 rfl) ?_
            have hPc := hP.sub (ws' := [(o0, .inr (4, [.int (nI (n)), .int (nI (q)), .ref b2, v3, .ref b1, v5, v6, v7, .int (bI wk), .int (bI sd)])), (b1, .inl (cI, n, .inl (fun j => nI (tm j))))]) [0, 2] rfl
            have hDc := hD.sub (ws' := [(o0, .inr (4, [.int (nI (n)), .int (nI (q)), .ref b2, v3, .ref b1, v5, v6, v7, .int (bI wk), .int (bI sd)])), (b1, .inl (cI, n, .inl (fun j => nI (tm j))))]) [0, 2] (by decide) rfl
            have hFc := va_free (wc := [(o0, .inr (4, [.int (nI (n)), .int (nI (q)), .ref b2, v3, .ref b1, v5, v6, v7, .int (bI wk), .int (bI sd)])), (b1, .inl (cI, n, .inl (fun j => nI (tm j))))]) hD hS hA [0, 2] rfl
            have hKc := hK.sub (tys' := [(cI, .int)]) [0] rfl
            refine va_calli (va_runV (As := [.int (nI (ja)), .int (nI (i))]) (rest := []) ⟨hx, hb, hml, hown, hts⟩ (c_X3_touches l dC dI H.size o0 b1 n q ja i tm wk sd cI (.ref b2) v3 v5 v6 v7 hn1 hja (by omega) (ht0 ja hja)) (cwV 2 hts gX3_press_X3_touches rfl rfl rfl (by decide +kernel) ⟨Nat.le_of_ble_eq_true rfl, Nat.le_of_ble_eq_true rfl⟩) ⟨fun a U g mk q => by obtain ⟨q0, q1, qP, qK, qD⟩ := q; exact ⟨q0, q1, qP, va_K.moved (u := U) (U := U.calling g mk a) (Vm.Alike.refl U.vm) qK, qD⟩, va_recv hKc hPc (ci := 4) (q0 := 0) rfl rfl, fun U hU hW => ⟨rfl, by rw [hU], by rw [hU]; exact hPc, va_K.moved hW.alike hKc, hDc.weaken (fun _ _ _ _ => trivial)⟩⟩ rfl rfl hl.1 rfl (lv_room (Nat.le_of_ble_eq_true rfl)) dX3_press_31 ⟨Nat.le_of_ble_eq_true rfl, Nat.le_of_ble_eq_true rfl⟩) hS (fun q _ h => hFc q h) hFc (fun r2 u t H1 locs ht hvm hw hB hz1 hk1 hS => ?_)
            obtain ⟨hP1, hK1, hD1⟩ := hB
            rw [ht] at hP1
            try dsimp only at hw
            obtain ⟨hP, hD⟩ := va_join (wr := [(b2, .inl (cI, n, .inl (fun j => nI (F j))))]) (w1 := [(o0, .inr (4, [.int (nI (n)), .int (nI (q)), .ref b2, v3, .ref b1, v5, v6, v7, .int (bI wk), .int (bI sd)])), (b1, .inl (cI, n, .inl (fun j => nI (tm j))))]) hP hD [0, 2] [1] rfl rfl (by decide) (by decide) hk1 hFc hP1 hD1
            generalize H1 = H at hP hS ⊢
            have hP := hP.sub (ws' := [(o0, .inr (4, [.int (nI (n)), .int (nI (q)), .ref b2, v3, .ref b1, v5, v6, v7, .int (bI wk), .int (bI sd)])), (b2, .inl (cI, n, .inl (fun j => nI (F j)))), (b1, .inl (cI, n, .inl (fun j => nI (tm j))))]) [1, 0, 2] rfl
            have hD := hD.sub (ws' := [(o0, .inr (4, [.int (nI (n)), .int (nI (q)), .ref b2, v3, .ref b1, v5, v6, v7, .int (bI wk), .int (bI sd)])), (b2, .inl (cI, n, .inl (fun j => nI (F j)))), (b1, .inl (cI, n, .inl (fun j => nI (tm j))))]) [1, 0, 2] (by decide) rfl
            have hP : va_P (dC, dI) vwCl [(o0, .inr (4, [.int (nI (n)), .int (nI (q)), .ref b2, v3, .ref b1, v5, v6, v7, .int (bI wk), .int (bI sd)])), (b2, .inl (cI, n, .inl (fun j => nI (F j)))), (b1, .inl (cI, n, .inl (fun j => nI (tm j))))] H := hP
            have hD : va_D A [(o0, .inr (4, [.int (nI (n)), .int (nI (q)), .ref b2, v3, .ref b1, v5, v6, v7, .int (bI wk), .int (bI sd)])), (b2, .inl (cI, n, .inl (fun j => nI (F j)))), (b1, .inl (cI, n, .inl (fun j => nI (tm j))))] := hD
            subst hw
            rcases hbt : decide (tm ja / 2 ^ i % 2 = 1) with _ | _
            · skip
              refine tp_i (y := nI 0) rfl ?_
              refine lv_if_eq (tgt := 56) hx hb dX3_press_34 (by decide) (fun c4 => ?_) (fun c4 => ?_)
              · skip
                have c4 : 0 = 0 := (nI_eq (a := 0) (b := 0) (by omega) (by omega)).mp c4
                refine lv_iinc (v := nI (i + 1)) (lv' := [(3, .int (nI (i + 1))), (0, .ref o0), (1, .int (nI (ja))), (2, .int (nI (k)))]) hx hb dX3_press_56 hl (k := 3) rfl (nI_1 _) (by decide) rfl (fun ls hl => ?_)
                refine lv_goto (tgt := 20) hx hb dX3_press_59 (by decide) ?_
                have hbt := of_decide_eq_false hbt
                exact ih (i + 1) F (by omega) (fun a => by
                      rw [h1 a]
                      by_cases e : a = i
                      · subst e; rw [if_neg (by omega), if_pos (by omega)]; show st a = if _ then _ else _; rw [if_neg hbt]
                      · by_cases e3 : a < i
                        · rw [if_pos e3, if_pos (by omega)]
                        · rw [if_neg e3, if_neg (by omega)]) _ _ hP hD hS ls (lv_sub hl [1, 2, 3, 0] rfl)
              · skip
                have c4 : 0 ≠ 0 := fun h => c4 ((nI_eq (a := 0) (b := 0) (by omega) (by omega)).mpr h)
                exact absurd rfl c4
            · skip
              refine tp_i (y := nI 1) rfl ?_
              refine lv_if_eq (tgt := 56) hx hb dX3_press_34 (by decide) (fun c4 => ?_) (fun c4 => ?_)
              · skip
                have c4 : 1 = 0 := (nI_eq (a := 1) (b := 0) (by omega) (by omega)).mp c4
                exact absurd c4 (by decide)
              · skip
                have c4 : 1 ≠ 0 := fun h => c4 ((nI_eq (a := 1) (b := 0) (by omega) (by omega)).mpr h)
                refine lv_aload_n hx hb dX3_press_37 rfl (lv_at hl 0 rfl) ?_
                refine va_get (D := (dC, dI)) (ci := 4) (v := .ref b2) (C := RX3) (T := TX3) (N := 10) hx hb hts hinX3 hown hK hP 0 rfl rfl 2 (by decide) hf29 (fun _ h9 => h9) rfl dX3_press_38 ?_
                refine lv_iload_n hx hb dX3_press_41 rfl (lv_at hl 3 rfl) ?_
                refine lv_aload_n hx hb dX3_press_42 rfl (lv_at hl 0 rfl) ?_
                refine va_get (D := (dC, dI)) (ci := 4) (v := .ref b2) (C := RX3) (T := TX3) (N := 10) hx hb hts hinX3 hown hK hP 0 rfl rfl 2 (by decide) hf29 (fun _ h9 => h9) rfl dX3_press_43 ?_
                refine lv_iload_n hx hb dX3_press_46 rfl (lv_at hl 3 rfl) ?_
                refine ra_ld (g := nI) (F := F) hx hb hK hP 1 0 rfl rfl (by omega) (by omega) dX3_press_47 ?_
                refine tp_i (y := nI (st i)) (by rw [e2]) ?_
                refine lv_iload_n hx hb dX3_press_48 rfl (lv_at hl 2 rfl) ?_
                refine lv_iadd hx hb dX3_press_49 ?_
                refine tp_i (y := nI ((st i) + k)) (nI_add _ _) ?_
                refine lv_aload_n hx hb dX3_press_50 rfl (lv_at hl 0 rfl) ?_
                refine va_get (D := (dC, dI)) (ci := 4) (v := .int (nI (q))) (C := RX3) (T := TX3) (N := 10) hx hb hts hinX3 hown hK hP 0 rfl rfl 1 (by decide) hf26 (fun _ h9 => h9) rfl dX3_press_51 ?_
                refine lv_irem hx hb dX3_press_54 (nI_ne0 (by omega) (by omega)) ?_
                refine tp_i (y := nI (((st i) + k) % q)) (pk_rem (by omega) (by omega) (by omega)) ?_
                refine ra_st (g := nI) (F := F) (v := ((st i) + k) % q) hx hb hK hP hD hS 1 0 rfl rfl (by omega) (by omega) dX3_press_55 (fun H locs hP hD hS => ?_)
                have hP : va_P (dC, dI) vwCl [(o0, .inr (4, [.int (nI (n)), .int (nI (q)), .ref b2, v3, .ref b1, v5, v6, v7, .int (bI wk), .int (bI sd)])), (b2, .inl (cI, n, .inl (fun j => nI ((va_up F i (((st i) + k) % q)) j)))), (b1, .inl (cI, n, .inl (fun j => nI (tm j))))] H := hP
                have hD : va_D A [(o0, .inr (4, [.int (nI (n)), .int (nI (q)), .ref b2, v3, .ref b1, v5, v6, v7, .int (bI wk), .int (bI sd)])), (b2, .inl (cI, n, .inl (fun j => nI ((va_up F i (((st i) + k) % q)) j)))), (b1, .inl (cI, n, .inl (fun j => nI (tm j))))] := hD
                refine lv_iinc (v := nI (i + 1)) (lv' := [(3, .int (nI (i + 1))), (0, .ref o0), (1, .int (nI (ja))), (2, .int (nI (k)))]) hx hb dX3_press_56 hl (k := 3) rfl (nI_1 _) (by decide) rfl (fun ls hl => ?_)
                refine lv_goto (tgt := 20) hx hb dX3_press_59 (by decide) ?_
                have hbt := of_decide_eq_true hbt
                exact ih (i + 1) (va_up F i ((st i + k) % q)) (by omega) (lp_step h1 (by show _ = if _ then _ else _; rw [if_pos hbt])) _ _ hP hD hS ls (lv_sub hl [1, 2, 3, 0] rfl)
      exact lp n 0 st (by omega) (lp_zero _ _) _ _ hP hD hS ls (lv_sub hl [1, 2, 3, 0] rfl)
    · skip
      refine lv_iconst (v := nI 0) hx hb dX3_press_16 (by decide) ?_
      rw [hQ]
      refine tt_ret (⟨ja, hja, rfl⟩) ?_
      exact W.zret (v := nI (0)) (ty := .boolean) hx hb hr rfl (fun t ht hW => ⟨⟨_, (st, wk, sd), rfl, Or.inr ⟨rfl, fun k hk e => c2 (by rw [e]; exact nI_le hk (by omega)), rfl⟩, by rw [ht]; exact hP, va_K.moved hW.alike hK, hD⟩, hS.F ht⟩) hS.2.2 dX3_press_17
end
