section
-- ===== PART A: goes FIRST, ahead of the names: the tables' words, and 'selects' of the private methods out of them =====
/-- a private method of a class that the tables say can be made, by its rows of tables_1 -/
def lw_okq (q : MethodName × Nat) : Prop := (q.1.cls ≠ "java/lang/invoke/MethodHandle" ∧ q.1.cls ≠ "java/lang/invoke/VarHandle") ∧ Cond.instantiable q.1.cls q.2 ∈ tables_1 ∧ Cond.privateMethod q.1 ∈ tables_1 ∧ Cond.instanceMethod q.1 ∈ tables_1
theorem lw_p0 : lw_okq (⟨"LightRows", "work", "()V"⟩, 10) := ⟨⟨by decide +kernel, by decide +kernel⟩, List.mem_of_getElem? (i := 14) (by decide +kernel), List.mem_of_getElem? (i := 139) (by decide +kernel), List.mem_of_getElem? (i := 140) (by decide +kernel)⟩
theorem lw_p1 : lw_okq (⟨"LightRows$Equations", "unusedRowWith", "(I)I"⟩, 7) := ⟨⟨by decide +kernel, by decide +kernel⟩, List.mem_of_getElem? (i := 31) (by decide +kernel), List.mem_of_getElem? (i := 151) (by decide +kernel), List.mem_of_getElem? (i := 152) (by decide +kernel)⟩
theorem lw_p2 : lw_okq (⟨"LightRows$Equations", "swap", "(II)V"⟩, 7) := ⟨⟨by decide +kernel, by decide +kernel⟩, List.mem_of_getElem? (i := 31) (by decide +kernel), List.mem_of_getElem? (i := 155) (by decide +kernel), List.mem_of_getElem? (i := 156) (by decide +kernel)⟩
theorem lw_p3 : lw_okq (⟨"LightRows$Equations", "makeUnit", "([II)V"⟩, 7) := ⟨⟨by decide +kernel, by decide +kernel⟩, List.mem_of_getElem? (i := 31) (by decide +kernel), List.mem_of_getElem? (i := 159) (by decide +kernel), List.mem_of_getElem? (i := 160) (by decide +kernel)⟩
theorem lw_p4 : lw_okq (⟨"LightRows$Equations", "inverse", "(I)I"⟩, 7) := ⟨⟨by decide +kernel, by decide +kernel⟩, List.mem_of_getElem? (i := 31) (by decide +kernel), List.mem_of_getElem? (i := 163) (by decide +kernel), List.mem_of_getElem? (i := 164) (by decide +kernel)⟩
theorem lw_p5 : lw_okq (⟨"LightRows$Equations", "clearElsewhere", "(II)V"⟩, 7) := ⟨⟨by decide +kernel, by decide +kernel⟩, List.mem_of_getElem? (i := 31) (by decide +kernel), List.mem_of_getElem? (i := 167) (by decide +kernel), List.mem_of_getElem? (i := 168) (by decide +kernel)⟩
theorem lw_p6 : lw_okq (⟨"LightRows$Equations", "addMultiple", "([I[II)V"⟩, 7) := ⟨⟨by decide +kernel, by decide +kernel⟩, List.mem_of_getElem? (i := 31) (by decide +kernel), List.mem_of_getElem? (i := 171) (by decide +kernel), List.mem_of_getElem? (i := 172) (by decide +kernel)⟩
theorem lw_p7 : lw_okq (⟨"LightRows$Equations", "readQuietPatterns", "()V"⟩, 7) := ⟨⟨by decide +kernel, by decide +kernel⟩, List.mem_of_getElem? (i := 31) (by decide +kernel), List.mem_of_getElem? (i := 175) (by decide +kernel), List.mem_of_getElem? (i := 176) (by decide +kernel)⟩
theorem lw_p8 : lw_okq (⟨"LightRows$Equations", "readQuietPattern", "([II)V"⟩, 7) := ⟨⟨by decide +kernel, by decide +kernel⟩, List.mem_of_getElem? (i := 31) (by decide +kernel), List.mem_of_getElem? (i := 179) (by decide +kernel), List.mem_of_getElem? (i := 180) (by decide +kernel)⟩
theorem lw_p9 : lw_okq (⟨"LightRows", "seek", "()V"⟩, 10) := ⟨⟨by decide +kernel, by decide +kernel⟩, List.mem_of_getElem? (i := 14) (by decide +kernel), List.mem_of_getElem? (i := 219) (by decide +kernel), List.mem_of_getElem? (i := 220) (by decide +kernel)⟩
theorem lw_p10 : lw_okq (⟨"LightRows$Search", "begin", "(LLightRows$Equations;)V"⟩, 6) := ⟨⟨by decide +kernel, by decide +kernel⟩, List.mem_of_getElem? (i := 62) (by decide +kernel), List.mem_of_getElem? (i := 232) (by decide +kernel), List.mem_of_getElem? (i := 233) (by decide +kernel)⟩
theorem lw_p11 : lw_okq (⟨"LightRows$Search", "totalTried", "()I"⟩, 6) := ⟨⟨by decide +kernel, by decide +kernel⟩, List.mem_of_getElem? (i := 62) (by decide +kernel), List.mem_of_getElem? (i := 240) (by decide +kernel), List.mem_of_getElem? (i := 241) (by decide +kernel)⟩
theorem lw_p12 : lw_okq (⟨"LightRows$Search", "keep", "(I)V"⟩, 6) := ⟨⟨by decide +kernel, by decide +kernel⟩, List.mem_of_getElem? (i := 62) (by decide +kernel), List.mem_of_getElem? (i := 244) (by decide +kernel), List.mem_of_getElem? (i := 245) (by decide +kernel)⟩
theorem lw_p13 : lw_okq (⟨"LightRows$Search", "advance", "(LLightRows$Equations;)V"⟩, 6) := ⟨⟨by decide +kernel, by decide +kernel⟩, List.mem_of_getElem? (i := 62) (by decide +kernel), List.mem_of_getElem? (i := 251) (by decide +kernel), List.mem_of_getElem? (i := 252) (by decide +kernel)⟩
theorem lw_p14 : lw_okq (⟨"LightRows$Search", "addToTried", "([I)V"⟩, 6) := ⟨⟨by decide +kernel, by decide +kernel⟩, List.mem_of_getElem? (i := 62) (by decide +kernel), List.mem_of_getElem? (i := 260) (by decide +kernel), List.mem_of_getElem? (i := 261) (by decide +kernel)⟩
theorem lw_p15 : lw_okq (⟨"LightRows$Search", "keepIfLess", "()V"⟩, 6) := ⟨⟨by decide +kernel, by decide +kernel⟩, List.mem_of_getElem? (i := 62) (by decide +kernel), List.mem_of_getElem? (i := 264) (by decide +kernel), List.mem_of_getElem? (i := 265) (by decide +kernel)⟩
def lw_privs_1 : List (MethodName × Nat) := [(⟨"LightRows", "work", "()V"⟩, 10), (⟨"LightRows$Equations", "unusedRowWith", "(I)I"⟩, 7), (⟨"LightRows$Equations", "swap", "(II)V"⟩, 7), (⟨"LightRows$Equations", "makeUnit", "([II)V"⟩, 7), (⟨"LightRows$Equations", "inverse", "(I)I"⟩, 7), (⟨"LightRows$Equations", "clearElsewhere", "(II)V"⟩, 7), (⟨"LightRows$Equations", "addMultiple", "([I[II)V"⟩, 7), (⟨"LightRows$Equations", "readQuietPatterns", "()V"⟩, 7), (⟨"LightRows$Equations", "readQuietPattern", "([II)V"⟩, 7), (⟨"LightRows", "seek", "()V"⟩, 10), (⟨"LightRows$Search", "begin", "(LLightRows$Equations;)V"⟩, 6), (⟨"LightRows$Search", "totalTried", "()I"⟩, 6), (⟨"LightRows$Search", "keep", "(I)V"⟩, 6), (⟨"LightRows$Search", "advance", "(LLightRows$Equations;)V"⟩, 6), (⟨"LightRows$Search", "addToTried", "([I)V"⟩, 6), (⟨"LightRows$Search", "keepIfLess", "()V"⟩, 6)]
theorem lw_r1 : ∀ q ∈ lw_privs_1, lw_okq q := List.forall_mem_cons.mpr ⟨lw_p0, List.forall_mem_cons.mpr ⟨lw_p1, List.forall_mem_cons.mpr ⟨lw_p2, List.forall_mem_cons.mpr ⟨lw_p3, List.forall_mem_cons.mpr ⟨lw_p4, List.forall_mem_cons.mpr ⟨lw_p5, List.forall_mem_cons.mpr ⟨lw_p6, List.forall_mem_cons.mpr ⟨lw_p7, List.forall_mem_cons.mpr ⟨lw_p8, List.forall_mem_cons.mpr ⟨lw_p9, List.forall_mem_cons.mpr ⟨lw_p10, List.forall_mem_cons.mpr ⟨lw_p11, List.forall_mem_cons.mpr ⟨lw_p12, List.forall_mem_cons.mpr ⟨lw_p13, List.forall_mem_cons.mpr ⟨lw_p14, List.forall_mem_cons.mpr ⟨lw_p15, fun _ h => absurd h List.not_mem_nil⟩⟩⟩⟩⟩⟩⟩⟩⟩⟩⟩⟩⟩⟩⟩⟩
theorem lw_p16 : lw_okq (⟨"LightRows$Search", "triedIsAhead", "()Z"⟩, 6) := ⟨⟨by decide +kernel, by decide +kernel⟩, List.mem_of_getElem? (i := 62) (by decide +kernel), List.mem_of_getElem? (i := 268) (by decide +kernel), List.mem_of_getElem? (i := 269) (by decide +kernel)⟩
theorem lw_p17 : lw_okq (⟨"LightRows", "forget", "()V"⟩, 10) := ⟨⟨by decide +kernel, by decide +kernel⟩, List.mem_of_getElem? (i := 14) (by decide +kernel), List.mem_of_getElem? (i := 280) (by decide +kernel), List.mem_of_getElem? (i := 281) (by decide +kernel)⟩
theorem lw_p18 : lw_okq (⟨"LightRows", "mustExist", "(I)V"⟩, 10) := ⟨⟨by decide +kernel, by decide +kernel⟩, List.mem_of_getElem? (i := 14) (by decide +kernel), List.mem_of_getElem? (i := 295) (by decide +kernel), List.mem_of_getElem? (i := 296) (by decide +kernel)⟩
theorem lw_p19 : lw_okq (⟨"java/lang/Throwable", "fillInStackTrace", "(I)Ljava/lang/Throwable;"⟩, 6) := ⟨⟨by decide +kernel, by decide +kernel⟩, List.mem_of_getElem? (i := 337) (by decide +kernel), List.mem_of_getElem? (i := 335) (by decide +kernel), List.mem_of_getElem? (i := 336) (by decide +kernel)⟩
theorem lw_p20 : lw_okq (⟨"LightRows", "touches", "(II)Z"⟩, 10) := ⟨⟨by decide +kernel, by decide +kernel⟩, List.mem_of_getElem? (i := 14) (by decide +kernel), List.mem_of_getElem? (i := 370) (by decide +kernel), List.mem_of_getElem? (i := 371) (by decide +kernel)⟩
theorem lw_p21 : lw_okq (⟨"LightRows", "isState", "(I)Z"⟩, 10) := ⟨⟨by decide +kernel, by decide +kernel⟩, List.mem_of_getElem? (i := 14) (by decide +kernel), List.mem_of_getElem? (i := 388) (by decide +kernel), List.mem_of_getElem? (i := 389) (by decide +kernel)⟩
theorem lw_p22 : lw_okq (⟨"LightRowsModel", "isLamp", "(I)Z"⟩, 20) := ⟨⟨by decide +kernel, by decide +kernel⟩, List.mem_of_getElem? (i := 447) (by decide +kernel), List.mem_of_getElem? (i := 523) (by decide +kernel), List.mem_of_getElem? (i := 524) (by decide +kernel)⟩
theorem lw_p23 : lw_okq (⟨"LightRowsModel", "fails", "(Z)Z"⟩, 20) := ⟨⟨by decide +kernel, by decide +kernel⟩, List.mem_of_getElem? (i := 447) (by decide +kernel), List.mem_of_getElem? (i := 527) (by decide +kernel), List.mem_of_getElem? (i := 528) (by decide +kernel)⟩
theorem lw_p24 : lw_okq (⟨"LightRowsModel", "isState", "(I)Z"⟩, 20) := ⟨⟨by decide +kernel, by decide +kernel⟩, List.mem_of_getElem? (i := 447) (by decide +kernel), List.mem_of_getElem? (i := 539) (by decide +kernel), List.mem_of_getElem? (i := 540) (by decide +kernel)⟩
theorem lw_p25 : lw_okq (⟨"LightRowsModel", "effect", "(II)I"⟩, 20) := ⟨⟨by decide +kernel, by decide +kernel⟩, List.mem_of_getElem? (i := 447) (by decide +kernel), List.mem_of_getElem? (i := 551) (by decide +kernel), List.mem_of_getElem? (i := 552) (by decide +kernel)⟩
theorem lw_p26 : lw_okq (⟨"LightRowsModel", "know", "()V"⟩, 20) := ⟨⟨by decide +kernel, by decide +kernel⟩, List.mem_of_getElem? (i := 447) (by decide +kernel), List.mem_of_getElem? (i := 571) (by decide +kernel), List.mem_of_getElem? (i := 572) (by decide +kernel)⟩
theorem lw_p27 : lw_okq (⟨"LightRowsModel", "takeApart", "()V"⟩, 20) := ⟨⟨by decide +kernel, by decide +kernel⟩, List.mem_of_getElem? (i := 447) (by decide +kernel), List.mem_of_getElem? (i := 575) (by decide +kernel), List.mem_of_getElem? (i := 576) (by decide +kernel)⟩
theorem lw_p28 : lw_okq (⟨"LightRowsModel", "inverse", "(I)I"⟩, 20) := ⟨⟨by decide +kernel, by decide +kernel⟩, List.mem_of_getElem? (i := 447) (by decide +kernel), List.mem_of_getElem? (i := 579) (by decide +kernel), List.mem_of_getElem? (i := 580) (by decide +kernel)⟩
theorem lw_p29 : lw_okq (⟨"LightRowsModel", "left", "()I"⟩, 20) := ⟨⟨by decide +kernel, by decide +kernel⟩, List.mem_of_getElem? (i := 447) (by decide +kernel), List.mem_of_getElem? (i := 583) (by decide +kernel), List.mem_of_getElem? (i := 584) (by decide +kernel)⟩
theorem lw_p30 : lw_okq (⟨"LightRowsModel", "answers", "()Z"⟩, 20) := ⟨⟨by decide +kernel, by decide +kernel⟩, List.mem_of_getElem? (i := 447) (by decide +kernel), List.mem_of_getElem? (i := 591) (by decide +kernel), List.mem_of_getElem? (i := 592) (by decide +kernel)⟩
theorem lw_p31 : lw_okq (⟨"LightRowsModel", "findBest", "()I"⟩, 20) := ⟨⟨by decide +kernel, by decide +kernel⟩, List.mem_of_getElem? (i := 447) (by decide +kernel), List.mem_of_getElem? (i := 611) (by decide +kernel), List.mem_of_getElem? (i := 612) (by decide +kernel)⟩
def lw_privs_2 : List (MethodName × Nat) := [(⟨"LightRows$Search", "triedIsAhead", "()Z"⟩, 6), (⟨"LightRows", "forget", "()V"⟩, 10), (⟨"LightRows", "mustExist", "(I)V"⟩, 10), (⟨"java/lang/Throwable", "fillInStackTrace", "(I)Ljava/lang/Throwable;"⟩, 6), (⟨"LightRows", "touches", "(II)Z"⟩, 10), (⟨"LightRows", "isState", "(I)Z"⟩, 10), (⟨"LightRowsModel", "isLamp", "(I)Z"⟩, 20), (⟨"LightRowsModel", "fails", "(Z)Z"⟩, 20), (⟨"LightRowsModel", "isState", "(I)Z"⟩, 20), (⟨"LightRowsModel", "effect", "(II)I"⟩, 20), (⟨"LightRowsModel", "know", "()V"⟩, 20), (⟨"LightRowsModel", "takeApart", "()V"⟩, 20), (⟨"LightRowsModel", "inverse", "(I)I"⟩, 20), (⟨"LightRowsModel", "left", "()I"⟩, 20), (⟨"LightRowsModel", "answers", "()Z"⟩, 20), (⟨"LightRowsModel", "findBest", "()I"⟩, 20)]
theorem lw_r2 : ∀ q ∈ lw_privs_2, lw_okq q := List.forall_mem_cons.mpr ⟨lw_p16, List.forall_mem_cons.mpr ⟨lw_p17, List.forall_mem_cons.mpr ⟨lw_p18, List.forall_mem_cons.mpr ⟨lw_p19, List.forall_mem_cons.mpr ⟨lw_p20, List.forall_mem_cons.mpr ⟨lw_p21, List.forall_mem_cons.mpr ⟨lw_p22, List.forall_mem_cons.mpr ⟨lw_p23, List.forall_mem_cons.mpr ⟨lw_p24, List.forall_mem_cons.mpr ⟨lw_p25, List.forall_mem_cons.mpr ⟨lw_p26, List.forall_mem_cons.mpr ⟨lw_p27, List.forall_mem_cons.mpr ⟨lw_p28, List.forall_mem_cons.mpr ⟨lw_p29, List.forall_mem_cons.mpr ⟨lw_p30, List.forall_mem_cons.mpr ⟨lw_p31, fun _ h => absurd h List.not_mem_nil⟩⟩⟩⟩⟩⟩⟩⟩⟩⟩⟩⟩⟩⟩⟩⟩
theorem lw_p32 : lw_okq (⟨"LightRowsModel", "tryWay", "(I)I"⟩, 20) := ⟨⟨by decide +kernel, by decide +kernel⟩, List.mem_of_getElem? (i := 447) (by decide +kernel), List.mem_of_getElem? (i := 615) (by decide +kernel), List.mem_of_getElem? (i := 616) (by decide +kernel)⟩
theorem lw_p33 : lw_okq (⟨"LightRowsModel", "isLess", "()Z"⟩, 20) := ⟨⟨by decide +kernel, by decide +kernel⟩, List.mem_of_getElem? (i := 447) (by decide +kernel), List.mem_of_getElem? (i := 619) (by decide +kernel), List.mem_of_getElem? (i := 620) (by decide +kernel)⟩
def lw_privs_3 : List (MethodName × Nat) := [(⟨"LightRowsModel", "tryWay", "(I)I"⟩, 20), (⟨"LightRowsModel", "isLess", "()Z"⟩, 20)]
theorem lw_r3 : ∀ q ∈ lw_privs_3, lw_okq q := List.forall_mem_cons.mpr ⟨lw_p32, List.forall_mem_cons.mpr ⟨lw_p33, fun _ h => absurd h List.not_mem_nil⟩⟩
def lw_privs : List (MethodName × Nat) := lw_privs_1 ++ (lw_privs_2 ++ (lw_privs_3))
def lw_tbl : List Cond := k2_sels lw_privs ++ tables_1
theorem lw_privs_ok : ∀ q ∈ lw_privs, lw_okq q := by
  show ∀ q ∈ lw_privs_1 ++ (lw_privs_2 ++ (lw_privs_3)), lw_okq q
  exact List.forall_mem_append.mpr ⟨lw_r1, List.forall_mem_append.mpr ⟨lw_r2, lw_r3⟩⟩
end
section
/-! ===== BEGIN words of one list among another's, by their places ===== -/
theorem goodIn_r {big : List Cond} (ws : List Cond) (ps : List Nat) (hp : ws = ps.filterMap (fun i => big[i]?)) (h : ws.all goodWord = true) : GoodIn big ws := by
  intro w hw
  have h1 := List.all_eq_true.mp h w hw
  rw [hp] at hw
  obtain ⟨i, -, hi⟩ := List.mem_filterMap.mp hw
  have hm : w ∈ big := by first | exact List.mem_of_getElem? hi | exact List.getElem?_mem hi
  exact ⟨hm, good_of_word h1⟩
theorem goodIn_app {big a b : List Cond} (ha : GoodIn big a) (hb : GoodIn big b) : GoodIn big (a ++ b) := fun w h => (List.mem_append.mp h).elim (ha w) (hb w)
theorem goodIn_ca {big a b : List Cond} {c : Cond} (ha : GoodIn big (c :: a)) (hb : GoodIn big b) : GoodIn big (c :: (a ++ b)) := fun w h => (List.mem_cons.mp h).elim (fun e => ha w (List.mem_cons.mpr (Or.inl e))) (fun h => (List.mem_append.mp h).elim (fun h => ha w (List.mem_cons.mpr (Or.inr h))) (hb w))
theorem goodIn_sub {big ws : List Cond} (hm : ∀ w ∈ ws, w ∈ big) (h : ws.all goodWord = true) : GoodIn big ws := fun w hw => ⟨hm w hw, good_of_word (List.all_eq_true.mp h w hw)⟩
/-! ===== END ===== -/

/-! ===== BEGIN new T[n][m]: the outer array a place, the inner ones among the pooled ===== -/
/-- f, but v at every address of l -/
def vr_up {α : Type} (f : Nat → α) (l : List Nat) (v : α) : Nat → α := fun a => if a ∈ l then v else f a
theorem vr_up_in {α : Type} {f : Nat → α} {l : List Nat} {v : α} {a : Nat} (h : a ∈ l) : vr_up f l v a = v := if_pos h
theorem vr_up_ne {α : Type} {f : Nat → α} {l : List Nat} {v : α} {a : Nat} (h : a ∉ l) : vr_up f l v a = f a := if_neg h
theorem vr_rows {L l : List Nat} {f : Nat → va_E} {e : va_E} (h : ∀ a, a ∈ l → a ∉ L) : va_pl L f ++ l.map (fun a => (a, e)) = va_pl (L ++ l) (vr_up f l e) := by
  unfold va_pl
  rw [List.map_append]
  congr 1
  · apply List.map_congr_left
    intro a ha
    rw [vr_up_ne (fun q => h a q ha)]
  · apply List.map_congr_left
    intro a ha
    rw [vr_up_in ha]
theorem vr_lay {X rows : va_W} {x : Nat × va_E} {pl : va_W} {D : va_G} {cl : List vw_C} {H : Heap} (hP : va_P D cl (((X ++ pl) ++ [x]) ++ rows) H) : va_P D cl ((X ++ [x]) ++ (pl ++ rows)) H := by
  rw [List.append_assoc (X ++ pl)] at hP
  have h := va_P.swap hP
  rw [← List.append_assoc X] at h
  have h2 := va_P.swap h
  rw [List.append_assoc (X ++ [x])] at h2
  exact h2
theorem vr_layD {X rows : va_W} {x : Nat × va_E} {pl : va_W} {A : Nat → Prop} (hD : va_D A (((X ++ pl) ++ [x]) ++ rows)) : va_D A ((X ++ [x]) ++ (pl ++ rows)) := by
  rw [List.append_assoc (X ++ pl)] at hD
  have h := va_D.swap hD
  rw [← List.append_assoc X] at h
  have h2 := va_D.swap h
  rw [List.append_assoc (X ++ [x])] at h2
  exact h2
theorem vr_outer (c : ClassId) (N h0 : Nat) : ∀ i : Nat, Jvm.Free.Multi.outerC c N h0 i = arrV c N (fun j => va_rf (if j < i then some (h0 + 1 + j) else none))
  | 0 => by
    show ({ cls := c, slots := Array.replicate N .null, vm := .none } : Cell) = _
    rw [arrV_new]
    refine congrArg (arrV c N) (funext fun j => ?_)
    simp [va_rf]
  | i + 1 => by
    show (Jvm.Free.Multi.outerC c N h0 i).setSlot i (.ref (h0 + 1 + i)) = _
    rw [vr_outer c N h0 i, arrV_store]
    refine congrArg (arrV c N) (funext fun j => ?_)
    by_cases e : j = i
    · subst e
      simp [updV, va_rf]
    · by_cases h : j < i
      · simp [updV, e, h, Nat.lt_succ_of_lt h]
      · simp [updV, e, h, show ¬ j < i + 1 by omega]
section VGM
variable {p : Program} {l : Launch} {e : Env} {R : Room} {s : State} {m : MethodId} {args : Array Value} {below : List Frame} {meth : Method} {c : Code} {H : Heap} {locs : List Loc} {cells slots : Nat} {Q : State → Prop}
variable {cc : ByteArray} {pc : Nat} {ls : Array Slot} {rest : List Value} {D : va_G} {cl : List vw_C} {A : Nat → Prop} {a : Nat} {tys : List (ClassId × FieldType)} {ws : va_W} {H0 : Heap}
theorem va_mna {X : va_W} {L : List Nat} {f : Nat → va_E} {cc : ByteArray} (hexec : p.tables.exec = Jvm.exec) (hb : c.code = cc) {own : String} {index : Nat} {ty : FieldType} {cy : ClassId} (hown : s.vm.findClass own = some m.cls) (hclink : (Cond.classLink own index ("[" ++ (FieldType.array ty).toString)).before args s = true) (hover : va_AOA ty s) (harr : (Cond.arrayClass ty).before args s = true) (hcy : s.vm.findClass (FieldType.array ty).toString = some cy)
    (hK : va_K D cl tys s) (hP : va_P D cl (X ++ va_pl L f) H) (hD : va_D A (X ++ va_pl L f)) (hS : va_S A H0 H locs) (hA : ∀ q, H0.size ≤ q → A q) {n k : Int32} {N' K' : Nat} {z : vp_A} (hn : ¬ n < 0) (hk : ¬ k < 0) (hN : n.toNatClampNeg = N') (hM : k.toNatClampNeg = K')
    (hb1 : N' * 4 ≤ 536870912) (hb2 : K' * componentBytes ty ≤ 536870912) (hb3 : K' ≤ 536870912) (hdf : fits ty (defaultValue ty) = true) (hdd : (defaultValue ty).isDefault = true) (hcells : cells + (1 + N') ≤ R.cells) (hslots : slots + (N' + N' * K') ≤ R.slots) (hz : ∀ c : ClassId, Jvm.Free.Multi.innerC c K' (defaultValue ty) = vp_cell c z) (hdg : decode cc pc = .ok (.multianewarray index 2, 4))
    (kk : ∀ (q : Nat) (r : Nat → Nat) (cA : ClassId) (H1 : Heap), (∀ i j : Nat, i < N' → j < N' → r i = r j → i = j) → (∀ i : Nat, i < N' → r i ∉ L) → va_K D cl (tys ++ [(cA, .array ty)]) s →
      va_P D cl ((X ++ [(q, .inl (cA, N', .inr (.inr (.inr (.inr (fun i => if i < N' then some (r i) else none))))))]) ++ va_pl (L ++ (List.range N').map r) (vr_up f ((List.range N').map r) (.inl (cy, z)))) H1 → va_D A ((X ++ [(q, .inl (cA, N', .inr (.inr (.inr (.inr (fun i => if i < N' then some (r i) else none))))))]) ++ va_pl (L ++ (List.range N').map r) (vr_up f ((List.range N').map r) (.inl (cy, z)))) → va_S A H0 H1 locs →
      W p l e R s m args below meth c H1 locs (cells + 1 + N') (slots + N' + N' * K') Q (F0 m (pc + 4) ls (.ref q :: rest))) : W p l e R s m args below meth c H locs cells slots Q (F0 m pc ls (.int k :: .int n :: rest)) := by
  subst hN
  subst hM
  intro T hT Xs
  obtain ⟨vm₁, cA, comp, -, fA, fC, hO, -, X', step⟩ := Xs.multianewarray2F hexec hown hclink (va_AOA.use hover) harr (g := F0 m pc ls (.int k :: .int n :: rest)) rfl (by rw [hb]; exact hdg) rfl hn hk hb1 hb2 hb3 hdf hdd hcells hslots
  have ec : some cy = some comp := hcy.symm.trans fC
  cases ec
  generalize hF : Jvm.Free.Multi.fill (T.setVm vm₁) cA cy n.toNatClampNeg k.toNatClampNeg (defaultValue ty) n.toNatClampNeg = F at X' step
  have hTh : (T.setVm vm₁).heap = H := hT
  obtain ⟨f1, f2, -, -⟩ := Jvm.Free.Multi.fill_facts (T.setVm vm₁) cA cy n.toNatClampNeg k.toNatClampNeg (defaultValue ty) n.toNatClampNeg
  rw [hF, hTh] at f1 f2
  have hold : ∀ x : Nat, x < H.size → F.heap[x]? = H[x]? := fun x hx => by
    have := Jvm.Free.Multi.fill_old (T.setVm vm₁) cA cy n.toNatClampNeg k.toNatClampNeg (defaultValue ty) (a := x) (by rw [hTh]; exact hx) n.toNatClampNeg
    rw [hF, hTh] at this
    exact this
  have hrow : ∀ j : Nat, j < n.toNatClampNeg → F.heap[H.size + 1 + j]? = some (vp_cell cy z) := fun j hj => by
    have := Jvm.Free.Multi.fill_inner (T.setVm vm₁) cA cy n.toNatClampNeg k.toNatClampNeg (defaultValue ty) n.toNatClampNeg j hj
    rw [hF, hTh, hz] at this
    exact this
  have hout : Jvm.Free.Multi.outerC cA n.toNatClampNeg H.size n.toNatClampNeg = vp_cell cA (n.toNatClampNeg, .inr (.inr (.inr (.inr (fun i => if i < n.toNatClampNeg then some (H.size + 1 + i) else none))))) := by
    rw [vp_cell_q]
    exact vr_outer cA n.toNatClampNeg H.size n.toNatClampNeg
  rw [hout] at f2
  have hlt : ∀ a, a ∈ L → a < H.size := fun a ha => by
    obtain ⟨k9, hk9⟩ := va_pl_get (X := X) (f := f) ha
    exact (hP k9 _ hk9).lt
  have hnl : ∀ i : Nat, i < n.toNatClampNeg → H.size + 1 + i ∉ L := fun i _ h => by
    have := hlt _ h
    omega
  have hnm : ∀ a, a ∈ (List.range n.toNatClampNeg).map (fun i => H.size + 1 + i) → a ∉ L := fun a ha h => by
    obtain ⟨i, -, rfl⟩ := List.mem_map.mp ha
    have := hlt _ h
    omega
  have hP0 : va_P D cl (X ++ va_pl L f) F.heap := hP.kept (fun k9 x hx => hold x.1 ((hP k9 x hx).lt))
  have hP1 : va_P D cl ((X ++ va_pl L f) ++ [(H.size, .inl (cA, n.toNatClampNeg, .inr (.inr (.inr (.inr (fun i => if i < n.toNatClampNeg then some (H.size + 1 + i) else none))))))]) F.heap := hP0.app (fun k9 x hx => by
    have h0 : k9 < 1 := (List.getElem?_eq_some_iff.mp hx).1
    rw [show k9 = 0 by omega] at hx
    cases hx
    exact f2)
  have hP2 : va_P D cl (((X ++ va_pl L f) ++ [(H.size, .inl (cA, n.toNatClampNeg, .inr (.inr (.inr (.inr (fun i => if i < n.toNatClampNeg then some (H.size + 1 + i) else none))))))]) ++ ((List.range n.toNatClampNeg).map (fun i => H.size + 1 + i)).map (fun a => (a, .inl (cy, z)))) F.heap := hP1.app (fun k9 x hx => by
    obtain ⟨a, ha, rfl⟩ := List.mem_map.mp (List.mem_of_getElem? hx)
    obtain ⟨i, hi, rfl⟩ := List.mem_map.mp ha
    exact hrow i (List.mem_range.mp hi))
  have hD2 : va_D A (((X ++ va_pl L f) ++ [(H.size, .inl (cA, n.toNatClampNeg, .inr (.inr (.inr (.inr (fun i => if i < n.toNatClampNeg then some (H.size + 1 + i) else none))))))]) ++ ((List.range n.toNatClampNeg).map (fun i => H.size + 1 + i)).map (fun a => (a, .inl (cy, z)))) := by
    have hD1 := hD.push (e := .inl (cA, n.toNatClampNeg, .inr (.inr (.inr (.inr (fun i => if i < n.toNatClampNeg then some (H.size + 1 + i) else none)))))) hP rfl (hA _ hS.1)
    generalize hW1 : (X ++ va_pl L f) ++ [(H.size, .inl (cA, n.toNatClampNeg, .inr (.inr (.inr (.inr (fun i => if i < n.toNatClampNeg then some (H.size + 1 + i) else none))))))] = W1 at hD1 hP1 ⊢
    have hle : ∀ (k9 : Nat) (x : Nat × va_E), W1[k9]? = some x → x.1 ≤ H.size := fun k9 x hx => by
      rw [← hW1] at hx
      by_cases hl : k9 < (X ++ va_pl L f).length
      · rw [List.getElem?_append_left hl] at hx
        exact Nat.le_of_lt ((hP k9 x hx).lt)
      · rw [List.getElem?_append_right (by omega)] at hx
        have h0 : k9 - (X ++ va_pl L f).length < 1 := (List.getElem?_eq_some_iff.mp hx).1
        rw [show k9 - (X ++ va_pl L f).length = 0 by omega] at hx
        cases hx
        exact Nat.le_refl _
    have hr : ∀ (k9 : Nat) (x : Nat × va_E), (((List.range n.toNatClampNeg).map (fun i => H.size + 1 + i)).map (fun a => ((a, .inl (cy, z)) : Nat × va_E)))[k9]? = some x → x.1 = H.size + 1 + k9 := fun k9 x hx => by
      rw [List.getElem?_map, List.getElem?_map] at hx
      by_cases h9 : k9 < n.toNatClampNeg
      · rw [List.getElem?_range h9] at hx
        cases hx
        rfl
      · have hn0 : (List.range n.toNatClampNeg)[k9]? = none := List.getElem?_eq_none (by rw [List.length_range]; omega)
        rw [hn0] at hx
        cases hx
    refine ⟨fun i j x y hi hj hxy => ?_, fun k9 x hx => ?_⟩
    · by_cases h1 : i < W1.length <;> by_cases h2 : j < W1.length
      · rw [List.getElem?_append_left h1] at hi
        rw [List.getElem?_append_left h2] at hj
        exact hD1.1 i j x y hi hj hxy
      · rw [List.getElem?_append_left h1] at hi
        rw [List.getElem?_append_right (by omega)] at hj
        have := hle _ _ hi
        have := hr _ _ hj
        omega
      · rw [List.getElem?_append_right (by omega)] at hi
        rw [List.getElem?_append_left h2] at hj
        have := hle _ _ hj
        have := hr _ _ hi
        omega
      · rw [List.getElem?_append_right (by omega)] at hi hj
        have := hr _ _ hi
        have := hr _ _ hj
        omega
    · by_cases h1 : k9 < W1.length
      · rw [List.getElem?_append_left h1] at hx
        exact hD1.2 k9 x hx
      · rw [List.getElem?_append_right (by omega)] at hx
        have := hr _ _ hx
        exact hA _ (by have := hS.1; omega)
  have hAr : ArrOfT s cA (.array ty) := fun N9 z9 => by
    obtain ⟨-, k9, hk9, cm9, hkk9⟩ := (hO 0 0 0).1
    exact ⟨(fun q hq => by cases hq), k9, hk9, cm9, hkk9⟩
  have hK2 : va_K D cl (tys ++ [(cA, .array ty)]) s := ⟨hK.1, fun k9 x hx => by
    by_cases hl : k9 < tys.length
    · rw [List.getElem?_append_left hl] at hx
      exact hK.2 k9 x hx
    · rw [List.getElem?_append_right (by omega)] at hx
      have h0 : k9 - tys.length < 1 := (List.getElem?_eq_some_iff.mp hx).1
      rw [show k9 - tys.length = 0 by omega] at hx
      cases hx
      exact ⟨hAr, fA⟩⟩
  obtain ⟨t, a1, b1⟩ := kk H.size (fun i => H.size + 1 + i) cA F.heap (fun i j _ _ h => by have h9 : H.size + 1 + i = H.size + 1 + j := h; omega) hnl hK2 (by rw [← vr_rows hnm]; exact vr_lay hP2) (by rw [← vr_rows hnm]; exact vr_layD hD2) ⟨by rw [f1]; have := hS.1; omega, fun x h1 h2 => (hold x (Nat.lt_of_lt_of_le h1 hS.1)).trans (hS.2.1 x h1 h2), hS.2.2⟩ F rfl X'
  refine ⟨t, step t ?_, b1⟩
  have e : T.heap.size = H.size := by rw [hT]
  rw [e]
  exact a1
end VGM
/-! ===== END ===== -/

/-! ===== BEGIN printed: names, fields, word lists, decode rows ===== -/
def RX0 : String := "LightRows$Decimal"
def TX0 : u_T := fun k => match k with
  | 0 => ("LightRows$Decimal", "digits", "[I", true)
  | _ => ("LightRows$Decimal", "length", "I", false)
def tyX0 : Nat → FieldType := fun k => match k with
  | 0 => .array .int
  | _ => .int
abbrev wsX00 : List Cond := u_ws RX0 TX0 2
theorem nmX0 : ∀ a, a < 2 → ∀ b, b < 2 → a ≠ b → (TX0 a).2.1 ≠ (TX0 b).2.1 := by decide +kernel
theorem tyX0_ok : ∀ k, k < 2 → parseFieldDescriptor (TX0 k).2.2.1 = some (tyX0 k) := by decide +kernel
abbrev cX0_init : ByteArray := prog_2_method_1_code
def yX0_init : MethodName := ⟨RX0, "<init>", "()V"⟩
abbrev cX0_become : ByteArray := prog_2_method_2_code
def yX0_become : MethodName := ⟨RX0, "become", "(I)V"⟩
abbrev cX0_multiply : ByteArray := prog_2_method_3_code
def yX0_multiply : MethodName := ⟨RX0, "multiply", "(I)V"⟩
abbrev cX0_digit : ByteArray := prog_2_method_4_code
def yX0_digit : MethodName := ⟨RX0, "digit", "(I)I"⟩
def RX1 : String := "LightRows$Equations"
def TX1 : u_T := fun k => match k with
  | 0 => ("LightRows$Equations", "size", "I", true)
  | 1 => ("LightRows$Equations", "modulus", "I", true)
  | 2 => ("LightRows$Equations", "rows", "[[I", true)
  | 3 => ("LightRows$Equations", "rowOf", "[I", true)
  | 4 => ("LightRows$Equations", "quietPatterns", "[[I", true)
  | 5 => ("LightRows$Equations", "bound", "I", false)
  | _ => ("LightRows$Equations", "free", "I", false)
def tyX1 : Nat → FieldType := fun k => match k with
  | 0 => .int
  | 1 => .int
  | 2 => .array (.array .int)
  | 3 => .array .int
  | 4 => .array (.array .int)
  | 5 => .int
  | _ => .int
abbrev wsX10 : List Cond := u_ws RX1 TX1 7
theorem nmX1 : ∀ a, a < 7 → ∀ b, b < 7 → a ≠ b → (TX1 a).2.1 ≠ (TX1 b).2.1 := by decide +kernel
theorem tyX1_ok : ∀ k, k < 7 → parseFieldDescriptor (TX1 k).2.2.1 = some (tyX1 k) := by decide +kernel
abbrev cX1_init : ByteArray := prog_3_method_1_code
def yX1_init : MethodName := ⟨RX1, "<init>", "(II)V"⟩
abbrev cX1_take : ByteArray := prog_3_method_2_code
def yX1_take : MethodName := ⟨RX1, "take", "([I[I[I)V"⟩
abbrev cX1_reduce : ByteArray := prog_3_method_3_code
def yX1_reduce : MethodName := ⟨RX1, "reduce", "()V"⟩
abbrev cX1_boundLamps : ByteArray := prog_3_method_4_code
def yX1_boundLamps : MethodName := ⟨RX1, "boundLamps", "()I"⟩
abbrev cX1_freeLamps : ByteArray := prog_3_method_5_code
def yX1_freeLamps : MethodName := ⟨RX1, "freeLamps", "()I"⟩
abbrev cX1_agree : ByteArray := prog_3_method_6_code
def yX1_agree : MethodName := ⟨RX1, "agree", "()Z"⟩
abbrev cX1_pressesOf : ByteArray := prog_3_method_7_code
def yX1_pressesOf : MethodName := ⟨RX1, "pressesOf", "(I)I"⟩
abbrev cX1_quietPattern : ByteArray := prog_3_method_8_code
def yX1_quietPattern : MethodName := ⟨RX1, "quietPattern", "(I)[I"⟩
abbrev cX1_answersUpTo : ByteArray := prog_3_method_9_code
def yX1_answersUpTo : MethodName := ⟨RX1, "answersUpTo", "(I)I"⟩
abbrev cX1_unusedRowWith : ByteArray := prog_3_method_10_code
def yX1_unusedRowWith : MethodName := ⟨RX1, "unusedRowWith", "(I)I"⟩
abbrev cX1_swap : ByteArray := prog_3_method_11_code
def yX1_swap : MethodName := ⟨RX1, "swap", "(II)V"⟩
abbrev cX1_makeUnit : ByteArray := prog_3_method_12_code
def yX1_makeUnit : MethodName := ⟨RX1, "makeUnit", "([II)V"⟩
abbrev cX1_inverse : ByteArray := prog_3_method_13_code
def yX1_inverse : MethodName := ⟨RX1, "inverse", "(I)I"⟩
abbrev cX1_clearElsewhere : ByteArray := prog_3_method_14_code
def yX1_clearElsewhere : MethodName := ⟨RX1, "clearElsewhere", "(II)V"⟩
abbrev cX1_addMultiple : ByteArray := prog_3_method_15_code
def yX1_addMultiple : MethodName := ⟨RX1, "addMultiple", "([I[II)V"⟩
abbrev cX1_readQuietPatterns : ByteArray := prog_3_method_16_code
def yX1_readQuietPatterns : MethodName := ⟨RX1, "readQuietPatterns", "()V"⟩
abbrev cX1_readQuietPattern : ByteArray := prog_3_method_17_code
def yX1_readQuietPattern : MethodName := ⟨RX1, "readQuietPattern", "([II)V"⟩
def RX2 : String := "LightRows$Search"
def TX2 : u_T := fun k => match k with
  | 0 => ("LightRows$Search", "size", "I", true)
  | 1 => ("LightRows$Search", "modulus", "I", true)
  | 2 => ("LightRows$Search", "tried", "[I", true)
  | 3 => ("LightRows$Search", "least", "[I", true)
  | 4 => ("LightRows$Search", "turns", "[I", true)
  | _ => ("LightRows$Search", "total", "I", false)
def tyX2 : Nat → FieldType := fun k => match k with
  | 0 => .int
  | 1 => .int
  | 2 => .array .int
  | 3 => .array .int
  | 4 => .array .int
  | _ => .int
abbrev wsX20 : List Cond := u_ws RX2 TX2 6
theorem nmX2 : ∀ a, a < 6 → ∀ b, b < 6 → a ≠ b → (TX2 a).2.1 ≠ (TX2 b).2.1 := by decide +kernel
theorem tyX2_ok : ∀ k, k < 6 → parseFieldDescriptor (TX2 k).2.2.1 = some (tyX2 k) := by decide +kernel
abbrev cX2_init : ByteArray := prog_4_method_1_code
def yX2_init : MethodName := ⟨RX2, "<init>", "(II)V"⟩
abbrev cX2_leastTotal : ByteArray := prog_4_method_2_code
def yX2_leastTotal : MethodName := ⟨RX2, "leastTotal", "()I"⟩
abbrev cX2_leastPresses : ByteArray := prog_4_method_3_code
def yX2_leastPresses : MethodName := ⟨RX2, "leastPresses", "(I)I"⟩
abbrev cX2_run : ByteArray := prog_4_method_4_code
def yX2_run : MethodName := ⟨RX2, "run", "(LLightRows$Equations;)V"⟩
abbrev cX2_begin : ByteArray := prog_4_method_5_code
def yX2_begin : MethodName := ⟨RX2, "begin", "(LLightRows$Equations;)V"⟩
abbrev cX2_advance : ByteArray := prog_4_method_6_code
def yX2_advance : MethodName := ⟨RX2, "advance", "(LLightRows$Equations;)V"⟩
abbrev cX2_addToTried : ByteArray := prog_4_method_7_code
def yX2_addToTried : MethodName := ⟨RX2, "addToTried", "([I)V"⟩
abbrev cX2_keepIfLess : ByteArray := prog_4_method_8_code
def yX2_keepIfLess : MethodName := ⟨RX2, "keepIfLess", "()V"⟩
abbrev cX2_totalTried : ByteArray := prog_4_method_9_code
def yX2_totalTried : MethodName := ⟨RX2, "totalTried", "()I"⟩
abbrev cX2_triedIsAhead : ByteArray := prog_4_method_10_code
def yX2_triedIsAhead : MethodName := ⟨RX2, "triedIsAhead", "()Z"⟩
abbrev cX2_keep : ByteArray := prog_4_method_11_code
def yX2_keep : MethodName := ⟨RX2, "keep", "(I)V"⟩
def RX3 : String := "LightRows"
def TX3 : u_T := fun k => match k with
  | 0 => ("LightRows", "lamps", "I", true)
  | 1 => ("LightRows", "states", "I", true)
  | 2 => ("LightRows", "now", "[I", true)
  | 3 => ("LightRows", "wanted", "[I", true)
  | 4 => ("LightRows", "touched", "[I", true)
  | 5 => ("LightRows", "equations", "LLightRows$Equations;", true)
  | 6 => ("LightRows", "search", "LLightRows$Search;", true)
  | 7 => ("LightRows", "decimal", "LLightRows$Decimal;", true)
  | 8 => ("LightRows", "worked", "Z", false)
  | _ => ("LightRows", "searched", "Z", false)
def tyX3 : Nat → FieldType := fun k => match k with
  | 0 => .int
  | 1 => .int
  | 2 => .array .int
  | 3 => .array .int
  | 4 => .array .int
  | 5 => .object "LightRows$Equations"
  | 6 => .object "LightRows$Search"
  | 7 => .object "LightRows$Decimal"
  | 8 => .boolean
  | _ => .boolean
abbrev wsX30 : List Cond := u_ws RX3 TX3 10
theorem nmX3 : ∀ a, a < 10 → ∀ b, b < 10 → a ≠ b → (TX3 a).2.1 ≠ (TX3 b).2.1 := by decide +kernel
theorem tyX3_ok : ∀ k, k < 10 → parseFieldDescriptor (TX3 k).2.2.1 = some (tyX3 k) := by decide +kernel
abbrev cX3_init : ByteArray := prog_1_method_1_code
def yX3_init : MethodName := ⟨RX3, "<init>", "(II)V"⟩
abbrev cX3_join : ByteArray := prog_1_method_2_code
def yX3_join : MethodName := ⟨RX3, "join", "(II)Z"⟩
abbrev cX3_self : ByteArray := prog_1_method_3_code
def yX3_self : MethodName := ⟨RX3, "self", "(IZ)Z"⟩
abbrev cX3_set : ByteArray := prog_1_method_4_code
def yX3_set : MethodName := ⟨RX3, "set", "(II)Z"⟩
abbrev cX3_want : ByteArray := prog_1_method_5_code
def yX3_want : MethodName := ⟨RX3, "want", "(II)Z"⟩
abbrev cX3_press : ByteArray := prog_1_method_6_code
def yX3_press : MethodName := ⟨RX3, "press", "(II)Z"⟩
abbrev cX3_at : ByteArray := prog_1_method_7_code
def yX3_at : MethodName := ⟨RX3, "at", "(I)I"⟩
abbrev cX3_apart : ByteArray := prog_1_method_8_code
def yX3_apart : MethodName := ⟨RX3, "apart", "()I"⟩
abbrev cX3_rank : ByteArray := prog_1_method_9_code
def yX3_rank : MethodName := ⟨RX3, "rank", "()I"⟩
abbrev cX3_solvable : ByteArray := prog_1_method_10_code
def yX3_solvable : MethodName := ⟨RX3, "solvable", "()Z"⟩
abbrev cX3_answer : ByteArray := prog_1_method_11_code
def yX3_answer : MethodName := ⟨RX3, "answer", "(I)I"⟩
abbrev cX3_quiet : ByteArray := prog_1_method_12_code
def yX3_quiet : MethodName := ⟨RX3, "quiet", "(II)I"⟩
abbrev cX3_count : ByteArray := prog_1_method_13_code
def yX3_count : MethodName := ⟨RX3, "count", "(I)I"⟩
abbrev cX3_fewest : ByteArray := prog_1_method_14_code
def yX3_fewest : MethodName := ⟨RX3, "fewest", "()I"⟩
abbrev cX3_best : ByteArray := prog_1_method_15_code
def yX3_best : MethodName := ⟨RX3, "best", "(I)I"⟩
abbrev cX3_alone : ByteArray := prog_1_method_16_code
def yX3_alone : MethodName := ⟨RX3, "alone", "(I)Z"⟩
abbrev cX3_clear : ByteArray := prog_1_method_17_code
def yX3_clear : MethodName := ⟨RX3, "clear", "()V"⟩
abbrev cX3_primeFor : ByteArray := prog_1_method_18_code
def yX3_primeFor : MethodName := ⟨RX3, "primeFor", "(I)I"⟩
abbrev cX3_mustExist : ByteArray := prog_1_method_19_code
def yX3_mustExist : MethodName := ⟨RX3, "mustExist", "(I)V"⟩
abbrev cX3_isState : ByteArray := prog_1_method_20_code
def yX3_isState : MethodName := ⟨RX3, "isState", "(I)Z"⟩
abbrev cX3_touches : ByteArray := prog_1_method_21_code
def yX3_touches : MethodName := ⟨RX3, "touches", "(II)Z"⟩
abbrev cX3_forget : ByteArray := prog_1_method_22_code
def yX3_forget : MethodName := ⟨RX3, "forget", "()V"⟩
abbrev cX3_work : ByteArray := prog_1_method_23_code
def yX3_work : MethodName := ⟨RX3, "work", "()V"⟩
abbrev cX3_seek : ByteArray := prog_1_method_24_code
def yX3_seek : MethodName := ⟨RX3, "seek", "()V"⟩
def RX4 : String := "LightRowsModel"
def TX4 : u_T := fun k => match k with
  | 0 => ("LightRowsModel", "thrown", "I", false)
  | 1 => ("LightRowsModel", "lamps", "I", true)
  | 2 => ("LightRowsModel", "p", "I", true)
  | 3 => ("LightRowsModel", "joined", "[Z", true)
  | 4 => ("LightRowsModel", "isNotSelf", "[Z", true)
  | 5 => ("LightRowsModel", "states", "[I", true)
  | 6 => ("LightRowsModel", "wanted", "[I", true)
  | 7 => ("LightRowsModel", "isKnown", "Z", false)
  | 8 => ("LightRowsModel", "rank", "I", false)
  | 9 => ("LightRowsModel", "rows", "[I", true)
  | 10 => ("LightRowsModel", "presses", "[I", true)
  | 11 => ("LightRowsModel", "heads", "[I", true)
  | 12 => ("LightRowsModel", "isBound", "[Z", true)
  | 13 => ("LightRowsModel", "rest", "[I", true)
  | 14 => ("LightRowsModel", "by", "[I", true)
  | 15 => ("LightRowsModel", "answer", "[I", true)
  | 16 => ("LightRowsModel", "quiet", "[I", true)
  | 17 => ("LightRowsModel", "best", "[I", true)
  | 18 => ("LightRowsModel", "tried", "[I", true)
  | _ => ("LightRowsModel", "digits", "[I", true)
def tyX4 : Nat → FieldType := fun k => match k with
  | 0 => .int
  | 1 => .int
  | 2 => .int
  | 3 => .array .boolean
  | 4 => .array .boolean
  | 5 => .array .int
  | 6 => .array .int
  | 7 => .boolean
  | 8 => .int
  | 9 => .array .int
  | 10 => .array .int
  | 11 => .array .int
  | 12 => .array .boolean
  | 13 => .array .int
  | 14 => .array .int
  | 15 => .array .int
  | 16 => .array .int
  | 17 => .array .int
  | 18 => .array .int
  | _ => .array .int
abbrev wsX40 : List Cond := u_ws RX4 TX4 20
theorem nmX4 : ∀ a, a < 20 → ∀ b, b < 20 → a ≠ b → (TX4 a).2.1 ≠ (TX4 b).2.1 := by decide +kernel
theorem tyX4_ok : ∀ k, k < 20 → parseFieldDescriptor (TX4 k).2.2.1 = some (tyX4 k) := by decide +kernel
abbrev cX4_init : ByteArray := prog_6_method_1_code
def yX4_init : MethodName := ⟨RX4, "<init>", "(II)V"⟩
abbrev cX4_thrown : ByteArray := prog_6_method_2_code
def yX4_thrown : MethodName := ⟨RX4, "thrown", "()I"⟩
abbrev cX4_fails : ByteArray := prog_6_method_3_code
def yX4_fails : MethodName := ⟨RX4, "fails", "(Z)Z"⟩
abbrev cX4_isLamp : ByteArray := prog_6_method_4_code
def yX4_isLamp : MethodName := ⟨RX4, "isLamp", "(I)Z"⟩
abbrev cX4_isState : ByteArray := prog_6_method_5_code
def yX4_isState : MethodName := ⟨RX4, "isState", "(I)Z"⟩
abbrev cX4_join : ByteArray := prog_6_method_6_code
def yX4_join : MethodName := ⟨RX4, "join", "(II)Z"⟩
abbrev cX4_self : ByteArray := prog_6_method_7_code
def yX4_self : MethodName := ⟨RX4, "self", "(IZ)Z"⟩
abbrev cX4_set : ByteArray := prog_6_method_8_code
def yX4_set : MethodName := ⟨RX4, "set", "(II)Z"⟩
abbrev cX4_want : ByteArray := prog_6_method_9_code
def yX4_want : MethodName := ⟨RX4, "want", "(II)Z"⟩
abbrev cX4_effect : ByteArray := prog_6_method_10_code
def yX4_effect : MethodName := ⟨RX4, "effect", "(II)I"⟩
abbrev cX4_press : ByteArray := prog_6_method_11_code
def yX4_press : MethodName := ⟨RX4, "press", "(II)Z"⟩
abbrev cX4_at : ByteArray := prog_6_method_12_code
def yX4_at : MethodName := ⟨RX4, "at", "(I)I"⟩
abbrev cX4_apart : ByteArray := prog_6_method_13_code
def yX4_apart : MethodName := ⟨RX4, "apart", "()I"⟩
abbrev cX4_clear : ByteArray := prog_6_method_14_code
def yX4_clear : MethodName := ⟨RX4, "clear", "()V"⟩
abbrev cX4_inverse : ByteArray := prog_6_method_15_code
def yX4_inverse : MethodName := ⟨RX4, "inverse", "(I)I"⟩
abbrev cX4_takeApart : ByteArray := prog_6_method_16_code
def yX4_takeApart : MethodName := ⟨RX4, "takeApart", "()V"⟩
abbrev cX4_left : ByteArray := prog_6_method_17_code
def yX4_left : MethodName := ⟨RX4, "left", "()I"⟩
abbrev cX4_know : ByteArray := prog_6_method_18_code
def yX4_know : MethodName := ⟨RX4, "know", "()V"⟩
abbrev cX4_rank : ByteArray := prog_6_method_19_code
def yX4_rank : MethodName := ⟨RX4, "rank", "()I"⟩
abbrev cX4_answers : ByteArray := prog_6_method_20_code
def yX4_answers : MethodName := ⟨RX4, "answers", "()Z"⟩
abbrev cX4_solvable : ByteArray := prog_6_method_21_code
def yX4_solvable : MethodName := ⟨RX4, "solvable", "()Z"⟩
abbrev cX4_answer : ByteArray := prog_6_method_22_code
def yX4_answer : MethodName := ⟨RX4, "answer", "(I)I"⟩
abbrev cX4_quiet : ByteArray := prog_6_method_23_code
def yX4_quiet : MethodName := ⟨RX4, "quiet", "(II)I"⟩
abbrev cX4_count : ByteArray := prog_6_method_24_code
def yX4_count : MethodName := ⟨RX4, "count", "(I)I"⟩
abbrev cX4_findBest : ByteArray := prog_6_method_25_code
def yX4_findBest : MethodName := ⟨RX4, "findBest", "()I"⟩
abbrev cX4_tryWay : ByteArray := prog_6_method_26_code
def yX4_tryWay : MethodName := ⟨RX4, "tryWay", "(I)I"⟩
abbrev cX4_isLess : ByteArray := prog_6_method_27_code
def yX4_isLess : MethodName := ⟨RX4, "isLess", "()Z"⟩
abbrev cX4_fewest : ByteArray := prog_6_method_28_code
def yX4_fewest : MethodName := ⟨RX4, "fewest", "()I"⟩
abbrev cX4_best : ByteArray := prog_6_method_29_code
def yX4_best : MethodName := ⟨RX4, "best", "(I)I"⟩
abbrev cX4_alone : ByteArray := prog_6_method_30_code
def yX4_alone : MethodName := ⟨RX4, "alone", "(I)Z"⟩
def RJx00060 : String := "java/lang/ArrayIndexOutOfBoundsException"
def TJx00060 : u_T := fun k => match k with
  | 0 => ("java/lang/Throwable", "cause", "Ljava/lang/Throwable;", false)
  | 1 => ("java/lang/Throwable", "stackTrace", "[Ljava/lang/StackTraceElement;", false)
  | 2 => ("java/lang/Throwable", "suppressedExceptions", "Ljava/util/List;", false)
  | 3 => ("java/lang/Throwable", "detailMessage", "Ljava/lang/String;", false)
  | 4 => ("java/lang/Throwable", "backtrace", "Ljava/lang/Object;", false)
  | _ => ("java/lang/Throwable", "depth", "I", false)
def tyJx00060 : Nat → FieldType := fun k => match k with
  | 0 => .object "java/lang/Throwable"
  | 1 => .array (.object "java/lang/StackTraceElement")
  | 2 => .object "java/util/List"
  | 3 => .object "java/lang/String"
  | 4 => .object "java/lang/Object"
  | _ => .int
abbrev wsJx000600 : List Cond := u_ws RJx00060 TJx00060 6
theorem nmJx00060 : ∀ a, a < 6 → ∀ b, b < 6 → a ≠ b → (TJx00060 a).2.1 ≠ (TJx00060 b).2.1 := by decide +kernel
theorem tyJx00060_ok : ∀ k, k < 6 → parseFieldDescriptor (TJx00060 k).2.2.1 = some (tyJx00060 k) := by decide +kernel
abbrev cJx00060_init_a7421 : ByteArray := prog_7_method_2_code
def yJx00060_init_a7421 : MethodName := ⟨RJx00060, "<init>", "(Ljava/lang/String;)V"⟩
def RJ9 : String := "java/lang/Math"
def TJ9 : u_T := fun k => match k with
  | _ => ("", "", "", false)
def tyJ9 : Nat → FieldType := fun k => match k with
  | _ => .int
abbrev wsJ90 : List Cond := u_ws RJ9 TJ9 0
theorem nmJ9 : ∀ a, a < 0 → ∀ b, b < 0 → a ≠ b → (TJ9 a).2.1 ≠ (TJ9 b).2.1 := by decide +kernel
theorem tyJ9_ok : ∀ k, k < 0 → parseFieldDescriptor (TJ9 k).2.2.1 = some (tyJ9 k) := by decide +kernel
abbrev cJ9_max_7cf53 : ByteArray := prog_10_method_65_code
def yJ9_max_7cf53 : MethodName := ⟨RJ9, "max", "(II)I"⟩
abbrev cJ9_min_7cf53 : ByteArray := prog_10_method_69_code
def yJ9_min_7cf53 : MethodName := ⟨RJ9, "min", "(II)I"⟩
def RJ0 : String := "java/lang/String"
def TJ0 : u_T := fun k => match k with
  | _ => ("", "", "", false)
def tyJ0 : Nat → FieldType := fun k => match k with
  | _ => .int
abbrev wsJ00 : List Cond := u_ws RJ0 TJ0 0
theorem nmJ0 : ∀ a, a < 0 → ∀ b, b < 0 → a ≠ b → (TJ0 a).2.1 ≠ (TJ0 b).2.1 := by decide +kernel
theorem tyJ0_ok : ∀ k, k < 0 → parseFieldDescriptor (TJ0 k).2.2.1 = some (tyJ0 k) := by decide +kernel
def RJ10 : String := "java/lang/System"
def TJ10 : u_T := fun k => match k with
  | _ => ("", "", "", false)
def tyJ10 : Nat → FieldType := fun k => match k with
  | _ => .int
abbrev wsJ100 : List Cond := u_ws RJ10 TJ10 0
theorem nmJ10 : ∀ a, a < 0 → ∀ b, b < 0 → a ≠ b → (TJ10 a).2.1 ≠ (TJ10 b).2.1 := by decide +kernel
theorem tyJ10_ok : ∀ k, k < 0 → parseFieldDescriptor (TJ10 k).2.2.1 = some (tyJ10 k) := by decide +kernel
def RL : String := "LightRowsLaw"
abbrev cL_cell : ByteArray := method_2_code
def yL_cell : MethodName := ⟨RL, "cell", "([II)I"⟩
abbrev cL_join : ByteArray := method_3_code
def yL_join : MethodName := ⟨RL, "join", "(LLightRows;II[J)I"⟩
abbrev cL_self : ByteArray := method_4_code
def yL_self : MethodName := ⟨RL, "self", "(LLightRows;IZ[J)I"⟩
abbrev cL_set : ByteArray := method_5_code
def yL_set : MethodName := ⟨RL, "set", "(LLightRows;II[J)I"⟩
abbrev cL_want : ByteArray := method_6_code
def yL_want : MethodName := ⟨RL, "want", "(LLightRows;II[J)I"⟩
abbrev cL_press : ByteArray := method_7_code
def yL_press : MethodName := ⟨RL, "press", "(LLightRows;II[J)I"⟩
abbrev cL_at : ByteArray := method_8_code
def yL_at : MethodName := ⟨RL, "at", "(LLightRows;I[J)I"⟩
abbrev cL_answer : ByteArray := method_9_code
def yL_answer : MethodName := ⟨RL, "answer", "(LLightRows;I[J)I"⟩
abbrev cL_quiet : ByteArray := method_10_code
def yL_quiet : MethodName := ⟨RL, "quiet", "(LLightRows;II[J)I"⟩
abbrev cL_best : ByteArray := method_11_code
def yL_best : MethodName := ⟨RL, "best", "(LLightRows;I[J)I"⟩
abbrev cL_alone : ByteArray := method_12_code
def yL_alone : MethodName := ⟨RL, "alone", "(LLightRows;I[J)I"⟩
abbrev cL_law : ByteArray := code
def yL_law : MethodName := ⟨RL, "law", "([I)Z"⟩
def wsX0_init : List Cond := .code yX0_init cX0_init 1 none :: ([.methodLink RX0 3 objectInit, .instanceMethod objectInit, .code objectInit ⟨#[0xb1]⟩ 1 none, .arrayClass .int, .fieldLink RX0 11 "LightRows$Decimal" "digits" "[I", .fieldLink RX0 15 "LightRows$Decimal" "length" "I"] ++ wsX00)
def wsX0_become : List Cond := .code yX0_become cX0_become 2 none :: ([.fieldLink RX0 11 "LightRows$Decimal" "digits" "[I", .fieldLink RX0 15 "LightRows$Decimal" "length" "I"] ++ wsX00)
def wsX0_multiply : List Cond := .code yX0_multiply cX0_multiply 5 none :: ([.fieldLink RX0 15 "LightRows$Decimal" "length" "I", .fieldLink RX0 11 "LightRows$Decimal" "digits" "[I"] ++ wsX00)
def wsX0_digit : List Cond := .code yX0_digit cX0_digit 2 (some .int) :: ([.fieldLink RX0 15 "LightRows$Decimal" "length" "I", .fieldLink RX0 11 "LightRows$Decimal" "digits" "[I"] ++ wsX00)
def wsX1_init : List Cond := .code yX1_init cX1_init 3 none :: ([.methodLink RX1 3 objectInit, .instanceMethod objectInit, .code objectInit ⟨#[0xb1]⟩ 1 none, .fieldLink RX1 9 "LightRows$Equations" "size" "I", .fieldLink RX1 15 "LightRows$Equations" "modulus" "I", .classLink RX1 18 "[[I", .arrayClass .int, .fieldLink RX1 20 "LightRows$Equations" "rows" "[[I", .fieldLink RX1 23 "LightRows$Equations" "rowOf" "[I", .fieldLink RX1 27 "LightRows$Equations" "quietPatterns" "[[I", .fieldLink RX1 30 "LightRows$Equations" "bound" "I", .fieldLink RX1 33 "LightRows$Equations" "free" "I"] ++ wsX10)
def wsX1_take : List Cond := .code yX1_take cX1_take 7 none :: ([.fieldLink RX1 9 "LightRows$Equations" "size" "I", .fieldLink RX1 20 "LightRows$Equations" "rows" "[[I", .fieldLink RX1 15 "LightRows$Equations" "modulus" "I"] ++ wsX10)
def wsX1_unusedRowWith : List Cond := .code yX1_unusedRowWith cX1_unusedRowWith 3 (some .int) :: ([.fieldLink RX1 30 "LightRows$Equations" "bound" "I", .fieldLink RX1 9 "LightRows$Equations" "size" "I", .fieldLink RX1 20 "LightRows$Equations" "rows" "[[I"] ++ wsX10)
def wsX1_swap : List Cond := .code yX1_swap cX1_swap 4 none :: ([.fieldLink RX1 20 "LightRows$Equations" "rows" "[[I"] ++ wsX10)
def wsX1_inverse : List Cond := .code yX1_inverse cX1_inverse 3 (some .int) :: ([.fieldLink RX1 15 "LightRows$Equations" "modulus" "I"] ++ wsX10)
def wsX1_makeUnit : List Cond := .code yX1_makeUnit cX1_makeUnit 5 none :: ([.fieldLink RX1 9 "LightRows$Equations" "size" "I", .fieldLink RX1 15 "LightRows$Equations" "modulus" "I", .methodLink RX1 58 yX1_inverse, .instanceMethod yX1_inverse, .selects RX1 yX1_inverse yX1_inverse, .initialized RX1, .code yX1_inverse cX1_inverse 3 (some .int)] ++ wsX10)
def wsX1_addMultiple : List Cond := .code yX1_addMultiple cX1_addMultiple 5 none :: ([.fieldLink RX1 9 "LightRows$Equations" "size" "I", .fieldLink RX1 15 "LightRows$Equations" "modulus" "I"] ++ wsX10)
def wsX1_clearElsewhere : List Cond := .code yX1_clearElsewhere cX1_clearElsewhere 4 none :: ([.fieldLink RX1 9 "LightRows$Equations" "size" "I", .fieldLink RX1 20 "LightRows$Equations" "rows" "[[I", .fieldLink RX1 15 "LightRows$Equations" "modulus" "I", .methodLink RX1 61 yX1_addMultiple, .instanceMethod yX1_addMultiple, .selects RX1 yX1_addMultiple yX1_addMultiple, .initialized RX1, .code yX1_addMultiple cX1_addMultiple 5 none] ++ wsX10)
def wsX1_readQuietPattern : List Cond := .code yX1_readQuietPattern cX1_readQuietPattern 5 none :: ([.fieldLink RX1 9 "LightRows$Equations" "size" "I", .fieldLink RX1 23 "LightRows$Equations" "rowOf" "[I", .fieldLink RX1 15 "LightRows$Equations" "modulus" "I", .fieldLink RX1 20 "LightRows$Equations" "rows" "[[I"] ++ wsX10)
def wsX1_readQuietPatterns : List Cond := .code yX1_readQuietPatterns cX1_readQuietPatterns 2 none :: ([.fieldLink RX1 33 "LightRows$Equations" "free" "I", .fieldLink RX1 9 "LightRows$Equations" "size" "I", .fieldLink RX1 23 "LightRows$Equations" "rowOf" "[I", .fieldLink RX1 27 "LightRows$Equations" "quietPatterns" "[[I", .methodLink RX1 65 yX1_readQuietPattern, .instanceMethod yX1_readQuietPattern, .selects RX1 yX1_readQuietPattern yX1_readQuietPattern, .initialized RX1, .code yX1_readQuietPattern cX1_readQuietPattern 5 none, .fieldLink RX1 15 "LightRows$Equations" "modulus" "I", .fieldLink RX1 20 "LightRows$Equations" "rows" "[[I"] ++ wsX10)
def wsX1_reduce_r1 : List Cond := [Cond.fieldLink RX1 30 "LightRows$Equations" "bound" "I", Cond.fieldLink RX1 9 "LightRows$Equations" "size" "I", Cond.fieldLink RX1 23 "LightRows$Equations" "rowOf" "[I", Cond.fieldLink RX1 20 "LightRows$Equations" "rows" "[[I", Cond.methodLink RX1 36 yX1_unusedRowWith, Cond.instanceMethod yX1_unusedRowWith, Cond.selects RX1 yX1_unusedRowWith yX1_unusedRowWith, Cond.initialized RX1, Cond.code yX1_unusedRowWith cX1_unusedRowWith 3 (some .int), Cond.methodLink RX1 40 yX1_swap, Cond.instanceMethod yX1_swap, Cond.selects RX1 yX1_swap yX1_swap, Cond.code yX1_swap cX1_swap 4 none, Cond.methodLink RX1 44 yX1_makeUnit, Cond.instanceMethod yX1_makeUnit, Cond.selects RX1 yX1_makeUnit yX1_makeUnit, Cond.code yX1_makeUnit cX1_makeUnit 5 none, Cond.fieldLink RX1 15 "LightRows$Equations" "modulus" "I", Cond.methodLink RX1 58 yX1_inverse, Cond.instanceMethod yX1_inverse, Cond.selects RX1 yX1_inverse yX1_inverse, Cond.code yX1_inverse cX1_inverse 3 (some .int), Cond.methodLink RX1 48 yX1_clearElsewhere, Cond.instanceMethod yX1_clearElsewhere]
def wsX1_reduce_r2 : List Cond := [Cond.selects RX1 yX1_clearElsewhere yX1_clearElsewhere, Cond.code yX1_clearElsewhere cX1_clearElsewhere 4 none, Cond.methodLink RX1 61 yX1_addMultiple, Cond.instanceMethod yX1_addMultiple, Cond.selects RX1 yX1_addMultiple yX1_addMultiple, Cond.code yX1_addMultiple cX1_addMultiple 5 none, Cond.methodLink RX1 51 yX1_readQuietPatterns, Cond.instanceMethod yX1_readQuietPatterns, Cond.selects RX1 yX1_readQuietPatterns yX1_readQuietPatterns, Cond.code yX1_readQuietPatterns cX1_readQuietPatterns 2 none, Cond.fieldLink RX1 33 "LightRows$Equations" "free" "I", Cond.fieldLink RX1 27 "LightRows$Equations" "quietPatterns" "[[I", Cond.methodLink RX1 65 yX1_readQuietPattern, Cond.instanceMethod yX1_readQuietPattern, Cond.selects RX1 yX1_readQuietPattern yX1_readQuietPattern, Cond.code yX1_readQuietPattern cX1_readQuietPattern 5 none]
def wsX1_reduce : List Cond := .code yX1_reduce cX1_reduce 3 none :: ((wsX1_reduce_r1 ++ wsX1_reduce_r2) ++ wsX10)
def wsX1_boundLamps : List Cond := .code yX1_boundLamps cX1_boundLamps 1 (some .int) :: ([.fieldLink RX1 30 "LightRows$Equations" "bound" "I"] ++ wsX10)
def wsX1_freeLamps : List Cond := .code yX1_freeLamps cX1_freeLamps 1 (some .int) :: ([.fieldLink RX1 33 "LightRows$Equations" "free" "I"] ++ wsX10)
def wsX1_agree : List Cond := .code yX1_agree cX1_agree 2 (some .boolean) :: ([.fieldLink RX1 30 "LightRows$Equations" "bound" "I", .fieldLink RX1 9 "LightRows$Equations" "size" "I", .fieldLink RX1 20 "LightRows$Equations" "rows" "[[I"] ++ wsX10)
def wsX1_pressesOf : List Cond := .code yX1_pressesOf cX1_pressesOf 3 (some .int) :: ([.fieldLink RX1 23 "LightRows$Equations" "rowOf" "[I", .fieldLink RX1 20 "LightRows$Equations" "rows" "[[I", .fieldLink RX1 9 "LightRows$Equations" "size" "I"] ++ wsX10)
def wsX1_quietPattern : List Cond := .code yX1_quietPattern cX1_quietPattern 2 (some (.array .int)) :: ([.fieldLink RX1 27 "LightRows$Equations" "quietPatterns" "[[I"] ++ wsX10)
def wsX1_answersUpTo : List Cond := .code yX1_answersUpTo cX1_answersUpTo 4 (some .int) :: ([.fieldLink RX1 33 "LightRows$Equations" "free" "I", .fieldLink RX1 15 "LightRows$Equations" "modulus" "I", .methodLink RX1 54 yX1_agree, .instanceMethod yX1_agree, .selects RX1 yX1_agree yX1_agree, .initialized RX1, .code yX1_agree cX1_agree 2 (some .boolean), .fieldLink RX1 30 "LightRows$Equations" "bound" "I", .fieldLink RX1 9 "LightRows$Equations" "size" "I", .fieldLink RX1 20 "LightRows$Equations" "rows" "[[I"] ++ wsX10)
def wsX2_init : List Cond := .code yX2_init cX2_init 3 none :: ([.methodLink RX2 3 objectInit, .instanceMethod objectInit, .code objectInit ⟨#[0xb1]⟩ 1 none, .fieldLink RX2 9 "LightRows$Search" "size" "I", .fieldLink RX2 15 "LightRows$Search" "modulus" "I", .arrayClass .int, .fieldLink RX2 18 "LightRows$Search" "tried" "[I", .fieldLink RX2 22 "LightRows$Search" "least" "[I", .fieldLink RX2 25 "LightRows$Search" "turns" "[I", .fieldLink RX2 28 "LightRows$Search" "total" "I"] ++ wsX20)
def wsX2_leastTotal : List Cond := .code yX2_leastTotal cX2_leastTotal 1 (some .int) :: ([.fieldLink RX2 28 "LightRows$Search" "total" "I"] ++ wsX20)
def wsX2_leastPresses : List Cond := .code yX2_leastPresses cX2_leastPresses 2 (some .int) :: ([.fieldLink RX2 22 "LightRows$Search" "least" "[I"] ++ wsX20)
def wsX2_totalTried : List Cond := .code yX2_totalTried cX2_totalTried 3 (some .int) :: ([.fieldLink RX2 9 "LightRows$Search" "size" "I", .fieldLink RX2 18 "LightRows$Search" "tried" "[I"] ++ wsX20)
def wsX2_keep : List Cond := .code yX2_keep cX2_keep 2 none :: ([.fieldLink RX2 28 "LightRows$Search" "total" "I", .fieldLink RX2 18 "LightRows$Search" "tried" "[I", .fieldLink RX2 22 "LightRows$Search" "least" "[I", .fieldLink RX2 9 "LightRows$Search" "size" "I", .methodLink RX2 73 arraycopyName, .native arraycopyName, .static arraycopyName, .initialized "java/lang/System"] ++ wsX20)
def wsX2_begin_r1 : List Cond := [Cond.fieldLink RX2 9 "LightRows$Search" "size" "I", Cond.fieldLink RX2 18 "LightRows$Search" "tried" "[I", Cond.fieldLink RX2 25 "LightRows$Search" "turns" "[I", Cond.methodLink RX2 47 yX1_pressesOf, Cond.instanceMethod yX1_pressesOf, Cond.selects RX1 yX1_pressesOf yX1_pressesOf, Cond.initialized RX1, Cond.code yX1_pressesOf cX1_pressesOf 3 (some .int), Cond.fieldLink RX1 23 "LightRows$Equations" "rowOf" "[I", Cond.fieldLink RX1 20 "LightRows$Equations" "rows" "[[I", Cond.fieldLink RX1 9 "LightRows$Equations" "size" "I", Cond.methodLink RX2 50 yX2_totalTried, Cond.instanceMethod yX2_totalTried, Cond.selects RX2 yX2_totalTried yX2_totalTried, Cond.initialized RX2, Cond.code yX2_totalTried cX2_totalTried 3 (some .int), Cond.methodLink RX2 54 yX2_keep, Cond.instanceMethod yX2_keep, Cond.selects RX2 yX2_keep yX2_keep, Cond.code yX2_keep cX2_keep 2 none, Cond.fieldLink RX2 28 "LightRows$Search" "total" "I", Cond.fieldLink RX2 22 "LightRows$Search" "least" "[I", Cond.methodLink RX2 73 arraycopyName, Cond.native arraycopyName]
def wsX2_begin_r2 : List Cond := [Cond.static arraycopyName, Cond.initialized "java/lang/System"]
def wsX2_begin : List Cond := .code yX2_begin cX2_begin 3 none :: ((wsX2_begin_r1 ++ wsX2_begin_r2) ++ wsX20 ++ wsX10)
def wsX2_addToTried : List Cond := .code yX2_addToTried cX2_addToTried 4 none :: ([.fieldLink RX2 9 "LightRows$Search" "size" "I", .fieldLink RX2 18 "LightRows$Search" "tried" "[I", .fieldLink RX2 15 "LightRows$Search" "modulus" "I"] ++ wsX20)
def wsX2_advance : List Cond := .code yX2_advance cX2_advance 3 none :: ([.fieldLink RX2 25 "LightRows$Search" "turns" "[I", .fieldLink RX2 15 "LightRows$Search" "modulus" "I", .methodLink RX2 58 yX1_freeLamps, .instanceMethod yX1_freeLamps, .selects RX1 yX1_freeLamps yX1_freeLamps, .initialized RX1, .code yX1_freeLamps cX1_freeLamps 1 (some .int), .fieldLink RX1 33 "LightRows$Equations" "free" "I", .methodLink RX2 61 yX1_quietPattern, .instanceMethod yX1_quietPattern, .selects RX1 yX1_quietPattern yX1_quietPattern, .code yX1_quietPattern cX1_quietPattern 2 (some (.array .int)), .fieldLink RX1 27 "LightRows$Equations" "quietPatterns" "[[I", .methodLink RX2 65 yX2_addToTried, .instanceMethod yX2_addToTried, .selects RX2 yX2_addToTried yX2_addToTried, .initialized RX2, .code yX2_addToTried cX2_addToTried 4 none, .fieldLink RX2 9 "LightRows$Search" "size" "I", .fieldLink RX2 18 "LightRows$Search" "tried" "[I"] ++ wsX20 ++ wsX10)
def wsX2_triedIsAhead : List Cond := .code yX2_triedIsAhead cX2_triedIsAhead 2 (some .boolean) :: ([.fieldLink RX2 9 "LightRows$Search" "size" "I", .fieldLink RX2 18 "LightRows$Search" "tried" "[I", .fieldLink RX2 22 "LightRows$Search" "least" "[I"] ++ wsX20)
def wsX2_keepIfLess : List Cond := .code yX2_keepIfLess cX2_keepIfLess 2 none :: ([.fieldLink RX2 28 "LightRows$Search" "total" "I", .methodLink RX2 50 yX2_totalTried, .instanceMethod yX2_totalTried, .selects RX2 yX2_totalTried yX2_totalTried, .initialized RX2, .code yX2_totalTried cX2_totalTried 3 (some .int), .fieldLink RX2 9 "LightRows$Search" "size" "I", .fieldLink RX2 18 "LightRows$Search" "tried" "[I", .methodLink RX2 69 yX2_triedIsAhead, .instanceMethod yX2_triedIsAhead, .selects RX2 yX2_triedIsAhead yX2_triedIsAhead, .code yX2_triedIsAhead cX2_triedIsAhead 2 (some .boolean), .fieldLink RX2 22 "LightRows$Search" "least" "[I", .methodLink RX2 54 yX2_keep, .instanceMethod yX2_keep, .selects RX2 yX2_keep yX2_keep, .code yX2_keep cX2_keep 2 none, .methodLink RX2 73 arraycopyName, .native arraycopyName, .static arraycopyName, .initialized "java/lang/System"] ++ wsX20)
def wsX2_run_r1 : List Cond := [Cond.fieldLink RX2 28 "LightRows$Search" "total" "I", Cond.methodLink RX2 31 yX1_answersUpTo, Cond.instanceMethod yX1_answersUpTo, Cond.selects RX1 yX1_answersUpTo yX1_answersUpTo, Cond.initialized RX1, Cond.code yX1_answersUpTo cX1_answersUpTo 4 (some .int), Cond.fieldLink RX1 33 "LightRows$Equations" "free" "I", Cond.fieldLink RX1 15 "LightRows$Equations" "modulus" "I", Cond.methodLink RX1 54 yX1_agree, Cond.instanceMethod yX1_agree, Cond.selects RX1 yX1_agree yX1_agree, Cond.code yX1_agree cX1_agree 2 (some .boolean), Cond.fieldLink RX1 30 "LightRows$Equations" "bound" "I", Cond.fieldLink RX1 9 "LightRows$Equations" "size" "I", Cond.fieldLink RX1 20 "LightRows$Equations" "rows" "[[I", Cond.methodLink RX2 37 yX2_begin, Cond.instanceMethod yX2_begin, Cond.selects RX2 yX2_begin yX2_begin, Cond.initialized RX2, Cond.code yX2_begin cX2_begin 3 none, Cond.fieldLink RX2 9 "LightRows$Search" "size" "I", Cond.fieldLink RX2 18 "LightRows$Search" "tried" "[I", Cond.fieldLink RX2 25 "LightRows$Search" "turns" "[I", Cond.methodLink RX2 47 yX1_pressesOf]
def wsX2_run_r2 : List Cond := [Cond.instanceMethod yX1_pressesOf, Cond.selects RX1 yX1_pressesOf yX1_pressesOf, Cond.code yX1_pressesOf cX1_pressesOf 3 (some .int), Cond.fieldLink RX1 23 "LightRows$Equations" "rowOf" "[I", Cond.methodLink RX2 50 yX2_totalTried, Cond.instanceMethod yX2_totalTried, Cond.selects RX2 yX2_totalTried yX2_totalTried, Cond.code yX2_totalTried cX2_totalTried 3 (some .int), Cond.methodLink RX2 54 yX2_keep, Cond.instanceMethod yX2_keep, Cond.selects RX2 yX2_keep yX2_keep, Cond.code yX2_keep cX2_keep 2 none, Cond.fieldLink RX2 22 "LightRows$Search" "least" "[I", Cond.methodLink RX2 73 arraycopyName, Cond.native arraycopyName, Cond.static arraycopyName, Cond.initialized "java/lang/System", Cond.methodLink RX2 41 yX2_advance, Cond.instanceMethod yX2_advance, Cond.selects RX2 yX2_advance yX2_advance, Cond.code yX2_advance cX2_advance 3 none, Cond.fieldLink RX2 15 "LightRows$Search" "modulus" "I", Cond.methodLink RX2 58 yX1_freeLamps, Cond.instanceMethod yX1_freeLamps]
def wsX2_run_r3 : List Cond := [Cond.selects RX1 yX1_freeLamps yX1_freeLamps, Cond.code yX1_freeLamps cX1_freeLamps 1 (some .int), Cond.methodLink RX2 61 yX1_quietPattern, Cond.instanceMethod yX1_quietPattern, Cond.selects RX1 yX1_quietPattern yX1_quietPattern, Cond.code yX1_quietPattern cX1_quietPattern 2 (some (.array .int)), Cond.fieldLink RX1 27 "LightRows$Equations" "quietPatterns" "[[I", Cond.methodLink RX2 65 yX2_addToTried, Cond.instanceMethod yX2_addToTried, Cond.selects RX2 yX2_addToTried yX2_addToTried, Cond.code yX2_addToTried cX2_addToTried 4 none, Cond.methodLink RX2 44 yX2_keepIfLess, Cond.instanceMethod yX2_keepIfLess, Cond.selects RX2 yX2_keepIfLess yX2_keepIfLess, Cond.code yX2_keepIfLess cX2_keepIfLess 2 none, Cond.methodLink RX2 69 yX2_triedIsAhead, Cond.instanceMethod yX2_triedIsAhead, Cond.selects RX2 yX2_triedIsAhead yX2_triedIsAhead, Cond.code yX2_triedIsAhead cX2_triedIsAhead 2 (some .boolean)]
def wsX2_run : List Cond := .code yX2_run cX2_run 4 none :: ((wsX2_run_r1 ++ (wsX2_run_r2 ++ wsX2_run_r3)) ++ wsX20 ++ wsX10)
def wsX3_primeFor : List Cond := .code yX3_primeFor cX3_primeFor 1 (some .int) :: ([])
def wsX3_init_r1 : List Cond := [Cond.methodLink RX3 1 objectInit, Cond.instanceMethod objectInit, Cond.code objectInit ⟨#[0xb1]⟩ 1 none, Cond.methodLink RX3 9 Lib.Math.min.name, Cond.static Lib.Math.min.name, Cond.initialized "java/lang/Math", Cond.code Lib.Math.min.name Lib.Math.min.code 2 (some .int), Cond.methodLink RX3 15 Lib.Math.max.name, Cond.static Lib.Math.max.name, Cond.code Lib.Math.max.name Lib.Math.max.code 2 (some .int), Cond.fieldLink RX3 18 "LightRows" "lamps" "I", Cond.fieldLink RX3 26 "LightRows" "states" "I", Cond.arrayClass .int, Cond.fieldLink RX3 29 "LightRows" "now" "[I", Cond.fieldLink RX3 33 "LightRows" "wanted" "[I", Cond.fieldLink RX3 36 "LightRows" "touched" "[I", Cond.classLink RX3 39 RX1, Cond.instantiable RX1 7, Cond.initialized RX1, Cond.fieldLink RX3 44 "LightRows" "equations" "LLightRows$Equations;", Cond.classLink RX3 48 RX2, Cond.instantiable RX2 6, Cond.initialized RX2, Cond.fieldLink RX3 51 "LightRows" "search" "LLightRows$Search;"]
def wsX3_init_r2 : List Cond := [Cond.classLink RX3 55 RX0, Cond.instantiable RX0 2, Cond.initialized RX0, Cond.fieldLink RX3 58 "LightRows" "decimal" "LLightRows$Decimal;", Cond.fieldLink RX3 62 "LightRows" "worked" "Z", Cond.fieldLink RX3 66 "LightRows" "searched" "Z", Cond.methodLink RX3 22 yX3_primeFor, Cond.static yX3_primeFor, Cond.initialized RX3, Cond.code yX3_primeFor cX3_primeFor 1 (some .int), Cond.methodLink RX3 41 yX1_init, Cond.instanceMethod yX1_init, Cond.code yX1_init cX1_init 3 none, Cond.methodLink RX1 3 objectInit, Cond.fieldLink RX1 9 "LightRows$Equations" "size" "I", Cond.fieldLink RX1 15 "LightRows$Equations" "modulus" "I", Cond.classLink RX1 18 "[[I", Cond.fieldLink RX1 20 "LightRows$Equations" "rows" "[[I", Cond.fieldLink RX1 23 "LightRows$Equations" "rowOf" "[I", Cond.fieldLink RX1 27 "LightRows$Equations" "quietPatterns" "[[I", Cond.fieldLink RX1 30 "LightRows$Equations" "bound" "I", Cond.fieldLink RX1 33 "LightRows$Equations" "free" "I", Cond.methodLink RX3 50 yX2_init, Cond.instanceMethod yX2_init]
def wsX3_init_r3 : List Cond := [Cond.code yX2_init cX2_init 3 none, Cond.methodLink RX2 3 objectInit, Cond.fieldLink RX2 9 "LightRows$Search" "size" "I", Cond.fieldLink RX2 15 "LightRows$Search" "modulus" "I", Cond.fieldLink RX2 18 "LightRows$Search" "tried" "[I", Cond.fieldLink RX2 22 "LightRows$Search" "least" "[I", Cond.fieldLink RX2 25 "LightRows$Search" "turns" "[I", Cond.fieldLink RX2 28 "LightRows$Search" "total" "I", Cond.methodLink RX3 57 yX0_init, Cond.instanceMethod yX0_init, Cond.code yX0_init cX0_init 1 none, Cond.methodLink RX0 3 objectInit, Cond.fieldLink RX0 11 "LightRows$Decimal" "digits" "[I", Cond.fieldLink RX0 15 "LightRows$Decimal" "length" "I"]
def wsX3_init : List Cond := .code yX3_init cX3_init 4 none :: ((wsX3_init_r1 ++ (wsX3_init_r2 ++ wsX3_init_r3)) ++ wsX30 ++ wsX10 ++ wsX20 ++ wsX00)
def wsX3_mustExist : List Cond := .code yX3_mustExist cX3_mustExist 2 none :: ([.fieldLink RX3 18 "LightRows" "lamps" "I", .classLink RX3 123 RJx00060, .instantiable RJx00060 6, .initialized RJx00060] ++ wsX30 ++ wsJx000600)
def wsX3_touches : List Cond := .code yX3_touches cX3_touches 3 (some .boolean) :: ([.fieldLink RX3 36 "LightRows" "touched" "[I"] ++ wsX30)
def wsX3_forget : List Cond := .code yX3_forget cX3_forget 1 none :: ([.fieldLink RX3 62 "LightRows" "worked" "Z", .fieldLink RX3 66 "LightRows" "searched" "Z"] ++ wsX30)
def wsX3_join : List Cond := .code yX3_join cX3_join 3 (some .boolean) :: ([.fieldLink RX3 36 "LightRows" "touched" "[I", .methodLink RX3 69 yX3_mustExist, .instanceMethod yX3_mustExist, .selects RX3 yX3_mustExist yX3_mustExist, .initialized RX3, .code yX3_mustExist cX3_mustExist 2 none, .fieldLink RX3 18 "LightRows" "lamps" "I", .classLink RX3 123 RJx00060, .instantiable RJx00060 6, .initialized RJx00060, .methodLink RX3 73 yX3_touches, .instanceMethod yX3_touches, .selects RX3 yX3_touches yX3_touches, .code yX3_touches cX3_touches 3 (some .boolean), .methodLink RX3 77 yX3_forget, .instanceMethod yX3_forget, .selects RX3 yX3_forget yX3_forget, .code yX3_forget cX3_forget 1 none, .fieldLink RX3 62 "LightRows" "worked" "Z", .fieldLink RX3 66 "LightRows" "searched" "Z"] ++ wsX30 ++ wsJx000600)
def wsX3_self : List Cond := .code yX3_self cX3_self 3 (some .boolean) :: ([.fieldLink RX3 36 "LightRows" "touched" "[I", .methodLink RX3 69 yX3_mustExist, .instanceMethod yX3_mustExist, .selects RX3 yX3_mustExist yX3_mustExist, .initialized RX3, .code yX3_mustExist cX3_mustExist 2 none, .fieldLink RX3 18 "LightRows" "lamps" "I", .classLink RX3 123 RJx00060, .instantiable RJx00060 6, .initialized RJx00060, .methodLink RX3 73 yX3_touches, .instanceMethod yX3_touches, .selects RX3 yX3_touches yX3_touches, .code yX3_touches cX3_touches 3 (some .boolean), .methodLink RX3 77 yX3_forget, .instanceMethod yX3_forget, .selects RX3 yX3_forget yX3_forget, .code yX3_forget cX3_forget 1 none, .fieldLink RX3 62 "LightRows" "worked" "Z", .fieldLink RX3 66 "LightRows" "searched" "Z"] ++ wsX30 ++ wsJx000600)
def wsX3_isState : List Cond := .code yX3_isState cX3_isState 2 (some .boolean) :: ([.fieldLink RX3 26 "LightRows" "states" "I"] ++ wsX30)
def wsX3_set : List Cond := .code yX3_set cX3_set 3 (some .boolean) :: ([.fieldLink RX3 29 "LightRows" "now" "[I", .methodLink RX3 69 yX3_mustExist, .instanceMethod yX3_mustExist, .selects RX3 yX3_mustExist yX3_mustExist, .initialized RX3, .code yX3_mustExist cX3_mustExist 2 none, .fieldLink RX3 18 "LightRows" "lamps" "I", .classLink RX3 123 RJx00060, .instantiable RJx00060 6, .initialized RJx00060, .methodLink RX3 80 yX3_isState, .instanceMethod yX3_isState, .selects RX3 yX3_isState yX3_isState, .code yX3_isState cX3_isState 2 (some .boolean), .fieldLink RX3 26 "LightRows" "states" "I", .methodLink RX3 77 yX3_forget, .instanceMethod yX3_forget, .selects RX3 yX3_forget yX3_forget, .code yX3_forget cX3_forget 1 none, .fieldLink RX3 62 "LightRows" "worked" "Z", .fieldLink RX3 66 "LightRows" "searched" "Z"] ++ wsX30 ++ wsJx000600)
def wsX3_want : List Cond := .code yX3_want cX3_want 3 (some .boolean) :: ([.fieldLink RX3 33 "LightRows" "wanted" "[I", .methodLink RX3 69 yX3_mustExist, .instanceMethod yX3_mustExist, .selects RX3 yX3_mustExist yX3_mustExist, .initialized RX3, .code yX3_mustExist cX3_mustExist 2 none, .fieldLink RX3 18 "LightRows" "lamps" "I", .classLink RX3 123 RJx00060, .instantiable RJx00060 6, .initialized RJx00060, .methodLink RX3 80 yX3_isState, .instanceMethod yX3_isState, .selects RX3 yX3_isState yX3_isState, .code yX3_isState cX3_isState 2 (some .boolean), .fieldLink RX3 26 "LightRows" "states" "I", .methodLink RX3 77 yX3_forget, .instanceMethod yX3_forget, .selects RX3 yX3_forget yX3_forget, .code yX3_forget cX3_forget 1 none, .fieldLink RX3 62 "LightRows" "worked" "Z", .fieldLink RX3 66 "LightRows" "searched" "Z"] ++ wsX30 ++ wsJx000600)
def wsX3_press : List Cond := .code yX3_press cX3_press 4 (some .boolean) :: ([.fieldLink RX3 18 "LightRows" "lamps" "I", .fieldLink RX3 29 "LightRows" "now" "[I", .fieldLink RX3 26 "LightRows" "states" "I", .methodLink RX3 69 yX3_mustExist, .instanceMethod yX3_mustExist, .selects RX3 yX3_mustExist yX3_mustExist, .initialized RX3, .code yX3_mustExist cX3_mustExist 2 none, .classLink RX3 123 RJx00060, .instantiable RJx00060 6, .initialized RJx00060, .methodLink RX3 73 yX3_touches, .instanceMethod yX3_touches, .selects RX3 yX3_touches yX3_touches, .code yX3_touches cX3_touches 3 (some .boolean), .fieldLink RX3 36 "LightRows" "touched" "[I", .methodLink RX3 77 yX3_forget, .instanceMethod yX3_forget, .selects RX3 yX3_forget yX3_forget, .code yX3_forget cX3_forget 1 none, .fieldLink RX3 62 "LightRows" "worked" "Z", .fieldLink RX3 66 "LightRows" "searched" "Z"] ++ wsX30 ++ wsJx000600)
def wsX3_at : List Cond := .code yX3_at cX3_at 2 (some .int) :: ([.fieldLink RX3 29 "LightRows" "now" "[I", .methodLink RX3 69 yX3_mustExist, .instanceMethod yX3_mustExist, .selects RX3 yX3_mustExist yX3_mustExist, .initialized RX3, .code yX3_mustExist cX3_mustExist 2 none, .fieldLink RX3 18 "LightRows" "lamps" "I", .classLink RX3 123 RJx00060, .instantiable RJx00060 6, .initialized RJx00060] ++ wsX30 ++ wsJx000600)
def wsX3_apart : List Cond := .code yX3_apart cX3_apart 3 (some .int) :: ([.fieldLink RX3 18 "LightRows" "lamps" "I", .fieldLink RX3 29 "LightRows" "now" "[I", .fieldLink RX3 33 "LightRows" "wanted" "[I"] ++ wsX30)
def wsX3_work_r1 : List Cond := [Cond.fieldLink RX3 62 "LightRows" "worked" "Z", Cond.fieldLink RX3 44 "LightRows" "equations" "LLightRows$Equations;", Cond.fieldLink RX3 36 "LightRows" "touched" "[I", Cond.fieldLink RX3 29 "LightRows" "now" "[I", Cond.fieldLink RX3 33 "LightRows" "wanted" "[I", Cond.methodLink RX3 130 yX1_take, Cond.instanceMethod yX1_take, Cond.selects RX1 yX1_take yX1_take, Cond.initialized RX1, Cond.code yX1_take cX1_take 7 none, Cond.fieldLink RX1 9 "LightRows$Equations" "size" "I", Cond.fieldLink RX1 20 "LightRows$Equations" "rows" "[[I", Cond.fieldLink RX1 15 "LightRows$Equations" "modulus" "I", Cond.methodLink RX3 134 yX1_reduce, Cond.instanceMethod yX1_reduce, Cond.selects RX1 yX1_reduce yX1_reduce, Cond.code yX1_reduce cX1_reduce 3 none, Cond.fieldLink RX1 30 "LightRows$Equations" "bound" "I", Cond.fieldLink RX1 23 "LightRows$Equations" "rowOf" "[I", Cond.methodLink RX1 36 yX1_unusedRowWith, Cond.instanceMethod yX1_unusedRowWith, Cond.selects RX1 yX1_unusedRowWith yX1_unusedRowWith, Cond.code yX1_unusedRowWith cX1_unusedRowWith 3 (some .int), Cond.methodLink RX1 40 yX1_swap]
def wsX3_work_r2 : List Cond := [Cond.instanceMethod yX1_swap, Cond.selects RX1 yX1_swap yX1_swap, Cond.code yX1_swap cX1_swap 4 none, Cond.methodLink RX1 44 yX1_makeUnit, Cond.instanceMethod yX1_makeUnit, Cond.selects RX1 yX1_makeUnit yX1_makeUnit, Cond.code yX1_makeUnit cX1_makeUnit 5 none, Cond.methodLink RX1 58 yX1_inverse, Cond.instanceMethod yX1_inverse, Cond.selects RX1 yX1_inverse yX1_inverse, Cond.code yX1_inverse cX1_inverse 3 (some .int), Cond.methodLink RX1 48 yX1_clearElsewhere, Cond.instanceMethod yX1_clearElsewhere, Cond.selects RX1 yX1_clearElsewhere yX1_clearElsewhere, Cond.code yX1_clearElsewhere cX1_clearElsewhere 4 none, Cond.methodLink RX1 61 yX1_addMultiple, Cond.instanceMethod yX1_addMultiple, Cond.selects RX1 yX1_addMultiple yX1_addMultiple, Cond.code yX1_addMultiple cX1_addMultiple 5 none, Cond.methodLink RX1 51 yX1_readQuietPatterns, Cond.instanceMethod yX1_readQuietPatterns, Cond.selects RX1 yX1_readQuietPatterns yX1_readQuietPatterns, Cond.code yX1_readQuietPatterns cX1_readQuietPatterns 2 none, Cond.fieldLink RX1 33 "LightRows$Equations" "free" "I"]
def wsX3_work_r3 : List Cond := [Cond.fieldLink RX1 27 "LightRows$Equations" "quietPatterns" "[[I", Cond.methodLink RX1 65 yX1_readQuietPattern, Cond.instanceMethod yX1_readQuietPattern, Cond.selects RX1 yX1_readQuietPattern yX1_readQuietPattern, Cond.code yX1_readQuietPattern cX1_readQuietPattern 5 none]
def wsX3_work : List Cond := .code yX3_work cX3_work 1 none :: ((wsX3_work_r1 ++ (wsX3_work_r2 ++ wsX3_work_r3)) ++ wsX30 ++ wsX10)
def wsX3_rank_r1 : List Cond := [Cond.fieldLink RX3 44 "LightRows" "equations" "LLightRows$Equations;", Cond.methodLink RX3 84 yX3_work, Cond.instanceMethod yX3_work, Cond.selects RX3 yX3_work yX3_work, Cond.initialized RX3, Cond.code yX3_work cX3_work 1 none, Cond.fieldLink RX3 62 "LightRows" "worked" "Z", Cond.fieldLink RX3 36 "LightRows" "touched" "[I", Cond.fieldLink RX3 29 "LightRows" "now" "[I", Cond.fieldLink RX3 33 "LightRows" "wanted" "[I", Cond.methodLink RX3 130 yX1_take, Cond.instanceMethod yX1_take, Cond.selects RX1 yX1_take yX1_take, Cond.initialized RX1, Cond.code yX1_take cX1_take 7 none, Cond.fieldLink RX1 9 "LightRows$Equations" "size" "I", Cond.fieldLink RX1 20 "LightRows$Equations" "rows" "[[I", Cond.fieldLink RX1 15 "LightRows$Equations" "modulus" "I", Cond.methodLink RX3 134 yX1_reduce, Cond.instanceMethod yX1_reduce, Cond.selects RX1 yX1_reduce yX1_reduce, Cond.code yX1_reduce cX1_reduce 3 none, Cond.fieldLink RX1 30 "LightRows$Equations" "bound" "I", Cond.fieldLink RX1 23 "LightRows$Equations" "rowOf" "[I"]
def wsX3_rank_r2 : List Cond := [Cond.methodLink RX1 36 yX1_unusedRowWith, Cond.instanceMethod yX1_unusedRowWith, Cond.selects RX1 yX1_unusedRowWith yX1_unusedRowWith, Cond.code yX1_unusedRowWith cX1_unusedRowWith 3 (some .int), Cond.methodLink RX1 40 yX1_swap, Cond.instanceMethod yX1_swap, Cond.selects RX1 yX1_swap yX1_swap, Cond.code yX1_swap cX1_swap 4 none, Cond.methodLink RX1 44 yX1_makeUnit, Cond.instanceMethod yX1_makeUnit, Cond.selects RX1 yX1_makeUnit yX1_makeUnit, Cond.code yX1_makeUnit cX1_makeUnit 5 none, Cond.methodLink RX1 58 yX1_inverse, Cond.instanceMethod yX1_inverse, Cond.selects RX1 yX1_inverse yX1_inverse, Cond.code yX1_inverse cX1_inverse 3 (some .int), Cond.methodLink RX1 48 yX1_clearElsewhere, Cond.instanceMethod yX1_clearElsewhere, Cond.selects RX1 yX1_clearElsewhere yX1_clearElsewhere, Cond.code yX1_clearElsewhere cX1_clearElsewhere 4 none, Cond.methodLink RX1 61 yX1_addMultiple, Cond.instanceMethod yX1_addMultiple, Cond.selects RX1 yX1_addMultiple yX1_addMultiple, Cond.code yX1_addMultiple cX1_addMultiple 5 none]
def wsX3_rank_r3 : List Cond := [Cond.methodLink RX1 51 yX1_readQuietPatterns, Cond.instanceMethod yX1_readQuietPatterns, Cond.selects RX1 yX1_readQuietPatterns yX1_readQuietPatterns, Cond.code yX1_readQuietPatterns cX1_readQuietPatterns 2 none, Cond.fieldLink RX1 33 "LightRows$Equations" "free" "I", Cond.fieldLink RX1 27 "LightRows$Equations" "quietPatterns" "[[I", Cond.methodLink RX1 65 yX1_readQuietPattern, Cond.instanceMethod yX1_readQuietPattern, Cond.selects RX1 yX1_readQuietPattern yX1_readQuietPattern, Cond.code yX1_readQuietPattern cX1_readQuietPattern 5 none, Cond.methodLink RX3 87 yX1_boundLamps, Cond.instanceMethod yX1_boundLamps, Cond.selects RX1 yX1_boundLamps yX1_boundLamps, Cond.code yX1_boundLamps cX1_boundLamps 1 (some .int)]
def wsX3_rank : List Cond := .code yX3_rank cX3_rank 1 (some .int) :: ((wsX3_rank_r1 ++ (wsX3_rank_r2 ++ wsX3_rank_r3)) ++ wsX30 ++ wsX10)
def wsX3_solvable_r1 : List Cond := [Cond.fieldLink RX3 44 "LightRows" "equations" "LLightRows$Equations;", Cond.methodLink RX3 84 yX3_work, Cond.instanceMethod yX3_work, Cond.selects RX3 yX3_work yX3_work, Cond.initialized RX3, Cond.code yX3_work cX3_work 1 none, Cond.fieldLink RX3 62 "LightRows" "worked" "Z", Cond.fieldLink RX3 36 "LightRows" "touched" "[I", Cond.fieldLink RX3 29 "LightRows" "now" "[I", Cond.fieldLink RX3 33 "LightRows" "wanted" "[I", Cond.methodLink RX3 130 yX1_take, Cond.instanceMethod yX1_take, Cond.selects RX1 yX1_take yX1_take, Cond.initialized RX1, Cond.code yX1_take cX1_take 7 none, Cond.fieldLink RX1 9 "LightRows$Equations" "size" "I", Cond.fieldLink RX1 20 "LightRows$Equations" "rows" "[[I", Cond.fieldLink RX1 15 "LightRows$Equations" "modulus" "I", Cond.methodLink RX3 134 yX1_reduce, Cond.instanceMethod yX1_reduce, Cond.selects RX1 yX1_reduce yX1_reduce, Cond.code yX1_reduce cX1_reduce 3 none, Cond.fieldLink RX1 30 "LightRows$Equations" "bound" "I", Cond.fieldLink RX1 23 "LightRows$Equations" "rowOf" "[I"]
def wsX3_solvable_r2 : List Cond := [Cond.methodLink RX1 36 yX1_unusedRowWith, Cond.instanceMethod yX1_unusedRowWith, Cond.selects RX1 yX1_unusedRowWith yX1_unusedRowWith, Cond.code yX1_unusedRowWith cX1_unusedRowWith 3 (some .int), Cond.methodLink RX1 40 yX1_swap, Cond.instanceMethod yX1_swap, Cond.selects RX1 yX1_swap yX1_swap, Cond.code yX1_swap cX1_swap 4 none, Cond.methodLink RX1 44 yX1_makeUnit, Cond.instanceMethod yX1_makeUnit, Cond.selects RX1 yX1_makeUnit yX1_makeUnit, Cond.code yX1_makeUnit cX1_makeUnit 5 none, Cond.methodLink RX1 58 yX1_inverse, Cond.instanceMethod yX1_inverse, Cond.selects RX1 yX1_inverse yX1_inverse, Cond.code yX1_inverse cX1_inverse 3 (some .int), Cond.methodLink RX1 48 yX1_clearElsewhere, Cond.instanceMethod yX1_clearElsewhere, Cond.selects RX1 yX1_clearElsewhere yX1_clearElsewhere, Cond.code yX1_clearElsewhere cX1_clearElsewhere 4 none, Cond.methodLink RX1 61 yX1_addMultiple, Cond.instanceMethod yX1_addMultiple, Cond.selects RX1 yX1_addMultiple yX1_addMultiple, Cond.code yX1_addMultiple cX1_addMultiple 5 none]
def wsX3_solvable_r3 : List Cond := [Cond.methodLink RX1 51 yX1_readQuietPatterns, Cond.instanceMethod yX1_readQuietPatterns, Cond.selects RX1 yX1_readQuietPatterns yX1_readQuietPatterns, Cond.code yX1_readQuietPatterns cX1_readQuietPatterns 2 none, Cond.fieldLink RX1 33 "LightRows$Equations" "free" "I", Cond.fieldLink RX1 27 "LightRows$Equations" "quietPatterns" "[[I", Cond.methodLink RX1 65 yX1_readQuietPattern, Cond.instanceMethod yX1_readQuietPattern, Cond.selects RX1 yX1_readQuietPattern yX1_readQuietPattern, Cond.code yX1_readQuietPattern cX1_readQuietPattern 5 none, Cond.methodLink RX3 91 yX1_agree, Cond.instanceMethod yX1_agree, Cond.selects RX1 yX1_agree yX1_agree, Cond.code yX1_agree cX1_agree 2 (some .boolean)]
def wsX3_solvable : List Cond := .code yX3_solvable cX3_solvable 1 (some .boolean) :: ((wsX3_solvable_r1 ++ (wsX3_solvable_r2 ++ wsX3_solvable_r3)) ++ wsX30 ++ wsX10)
def wsX3_answer_r1 : List Cond := [Cond.fieldLink RX3 44 "LightRows" "equations" "LLightRows$Equations;", Cond.methodLink RX3 69 yX3_mustExist, Cond.instanceMethod yX3_mustExist, Cond.selects RX3 yX3_mustExist yX3_mustExist, Cond.initialized RX3, Cond.code yX3_mustExist cX3_mustExist 2 none, Cond.fieldLink RX3 18 "LightRows" "lamps" "I", Cond.classLink RX3 123 RJx00060, Cond.instantiable RJx00060 6, Cond.initialized RJx00060, Cond.methodLink RX3 84 yX3_work, Cond.instanceMethod yX3_work, Cond.selects RX3 yX3_work yX3_work, Cond.code yX3_work cX3_work 1 none, Cond.fieldLink RX3 62 "LightRows" "worked" "Z", Cond.fieldLink RX3 36 "LightRows" "touched" "[I", Cond.fieldLink RX3 29 "LightRows" "now" "[I", Cond.fieldLink RX3 33 "LightRows" "wanted" "[I", Cond.methodLink RX3 130 yX1_take, Cond.instanceMethod yX1_take, Cond.selects RX1 yX1_take yX1_take, Cond.initialized RX1, Cond.code yX1_take cX1_take 7 none, Cond.fieldLink RX1 9 "LightRows$Equations" "size" "I"]
def wsX3_answer_r2 : List Cond := [Cond.fieldLink RX1 20 "LightRows$Equations" "rows" "[[I", Cond.fieldLink RX1 15 "LightRows$Equations" "modulus" "I", Cond.methodLink RX3 134 yX1_reduce, Cond.instanceMethod yX1_reduce, Cond.selects RX1 yX1_reduce yX1_reduce, Cond.code yX1_reduce cX1_reduce 3 none, Cond.fieldLink RX1 30 "LightRows$Equations" "bound" "I", Cond.fieldLink RX1 23 "LightRows$Equations" "rowOf" "[I", Cond.methodLink RX1 36 yX1_unusedRowWith, Cond.instanceMethod yX1_unusedRowWith, Cond.selects RX1 yX1_unusedRowWith yX1_unusedRowWith, Cond.code yX1_unusedRowWith cX1_unusedRowWith 3 (some .int), Cond.methodLink RX1 40 yX1_swap, Cond.instanceMethod yX1_swap, Cond.selects RX1 yX1_swap yX1_swap, Cond.code yX1_swap cX1_swap 4 none, Cond.methodLink RX1 44 yX1_makeUnit, Cond.instanceMethod yX1_makeUnit, Cond.selects RX1 yX1_makeUnit yX1_makeUnit, Cond.code yX1_makeUnit cX1_makeUnit 5 none, Cond.methodLink RX1 58 yX1_inverse, Cond.instanceMethod yX1_inverse, Cond.selects RX1 yX1_inverse yX1_inverse, Cond.code yX1_inverse cX1_inverse 3 (some .int)]
def wsX3_answer_r3 : List Cond := [Cond.methodLink RX1 48 yX1_clearElsewhere, Cond.instanceMethod yX1_clearElsewhere, Cond.selects RX1 yX1_clearElsewhere yX1_clearElsewhere, Cond.code yX1_clearElsewhere cX1_clearElsewhere 4 none, Cond.methodLink RX1 61 yX1_addMultiple, Cond.instanceMethod yX1_addMultiple, Cond.selects RX1 yX1_addMultiple yX1_addMultiple, Cond.code yX1_addMultiple cX1_addMultiple 5 none, Cond.methodLink RX1 51 yX1_readQuietPatterns, Cond.instanceMethod yX1_readQuietPatterns, Cond.selects RX1 yX1_readQuietPatterns yX1_readQuietPatterns, Cond.code yX1_readQuietPatterns cX1_readQuietPatterns 2 none, Cond.fieldLink RX1 33 "LightRows$Equations" "free" "I", Cond.fieldLink RX1 27 "LightRows$Equations" "quietPatterns" "[[I", Cond.methodLink RX1 65 yX1_readQuietPattern, Cond.instanceMethod yX1_readQuietPattern, Cond.selects RX1 yX1_readQuietPattern yX1_readQuietPattern, Cond.code yX1_readQuietPattern cX1_readQuietPattern 5 none, Cond.methodLink RX3 91 yX1_agree, Cond.instanceMethod yX1_agree, Cond.selects RX1 yX1_agree yX1_agree, Cond.code yX1_agree cX1_agree 2 (some .boolean), Cond.methodLink RX3 95 yX1_pressesOf, Cond.instanceMethod yX1_pressesOf]
def wsX3_answer_r4 : List Cond := [Cond.selects RX1 yX1_pressesOf yX1_pressesOf, Cond.code yX1_pressesOf cX1_pressesOf 3 (some .int)]
def wsX3_answer : List Cond := .code yX3_answer cX3_answer 2 (some .int) :: ((wsX3_answer_r1 ++ (wsX3_answer_r2 ++ (wsX3_answer_r3 ++ wsX3_answer_r4))) ++ wsX30 ++ wsJx000600 ++ wsX10)
def wsX3_quiet_r1 : List Cond := [Cond.fieldLink RX3 44 "LightRows" "equations" "LLightRows$Equations;", Cond.methodLink RX3 69 yX3_mustExist, Cond.instanceMethod yX3_mustExist, Cond.selects RX3 yX3_mustExist yX3_mustExist, Cond.initialized RX3, Cond.code yX3_mustExist cX3_mustExist 2 none, Cond.fieldLink RX3 18 "LightRows" "lamps" "I", Cond.classLink RX3 123 RJx00060, Cond.instantiable RJx00060 6, Cond.initialized RJx00060, Cond.methodLink RX3 84 yX3_work, Cond.instanceMethod yX3_work, Cond.selects RX3 yX3_work yX3_work, Cond.code yX3_work cX3_work 1 none, Cond.fieldLink RX3 62 "LightRows" "worked" "Z", Cond.fieldLink RX3 36 "LightRows" "touched" "[I", Cond.fieldLink RX3 29 "LightRows" "now" "[I", Cond.fieldLink RX3 33 "LightRows" "wanted" "[I", Cond.methodLink RX3 130 yX1_take, Cond.instanceMethod yX1_take, Cond.selects RX1 yX1_take yX1_take, Cond.initialized RX1, Cond.code yX1_take cX1_take 7 none, Cond.fieldLink RX1 9 "LightRows$Equations" "size" "I"]
def wsX3_quiet_r2 : List Cond := [Cond.fieldLink RX1 20 "LightRows$Equations" "rows" "[[I", Cond.fieldLink RX1 15 "LightRows$Equations" "modulus" "I", Cond.methodLink RX3 134 yX1_reduce, Cond.instanceMethod yX1_reduce, Cond.selects RX1 yX1_reduce yX1_reduce, Cond.code yX1_reduce cX1_reduce 3 none, Cond.fieldLink RX1 30 "LightRows$Equations" "bound" "I", Cond.fieldLink RX1 23 "LightRows$Equations" "rowOf" "[I", Cond.methodLink RX1 36 yX1_unusedRowWith, Cond.instanceMethod yX1_unusedRowWith, Cond.selects RX1 yX1_unusedRowWith yX1_unusedRowWith, Cond.code yX1_unusedRowWith cX1_unusedRowWith 3 (some .int), Cond.methodLink RX1 40 yX1_swap, Cond.instanceMethod yX1_swap, Cond.selects RX1 yX1_swap yX1_swap, Cond.code yX1_swap cX1_swap 4 none, Cond.methodLink RX1 44 yX1_makeUnit, Cond.instanceMethod yX1_makeUnit, Cond.selects RX1 yX1_makeUnit yX1_makeUnit, Cond.code yX1_makeUnit cX1_makeUnit 5 none, Cond.methodLink RX1 58 yX1_inverse, Cond.instanceMethod yX1_inverse, Cond.selects RX1 yX1_inverse yX1_inverse, Cond.code yX1_inverse cX1_inverse 3 (some .int)]
def wsX3_quiet_r3 : List Cond := [Cond.methodLink RX1 48 yX1_clearElsewhere, Cond.instanceMethod yX1_clearElsewhere, Cond.selects RX1 yX1_clearElsewhere yX1_clearElsewhere, Cond.code yX1_clearElsewhere cX1_clearElsewhere 4 none, Cond.methodLink RX1 61 yX1_addMultiple, Cond.instanceMethod yX1_addMultiple, Cond.selects RX1 yX1_addMultiple yX1_addMultiple, Cond.code yX1_addMultiple cX1_addMultiple 5 none, Cond.methodLink RX1 51 yX1_readQuietPatterns, Cond.instanceMethod yX1_readQuietPatterns, Cond.selects RX1 yX1_readQuietPatterns yX1_readQuietPatterns, Cond.code yX1_readQuietPatterns cX1_readQuietPatterns 2 none, Cond.fieldLink RX1 33 "LightRows$Equations" "free" "I", Cond.fieldLink RX1 27 "LightRows$Equations" "quietPatterns" "[[I", Cond.methodLink RX1 65 yX1_readQuietPattern, Cond.instanceMethod yX1_readQuietPattern, Cond.selects RX1 yX1_readQuietPattern yX1_readQuietPattern, Cond.code yX1_readQuietPattern cX1_readQuietPattern 5 none, Cond.methodLink RX3 98 yX1_freeLamps, Cond.instanceMethod yX1_freeLamps, Cond.selects RX1 yX1_freeLamps yX1_freeLamps, Cond.code yX1_freeLamps cX1_freeLamps 1 (some .int), Cond.methodLink RX3 101 yX1_quietPattern, Cond.instanceMethod yX1_quietPattern]
def wsX3_quiet_r4 : List Cond := [Cond.selects RX1 yX1_quietPattern yX1_quietPattern, Cond.code yX1_quietPattern cX1_quietPattern 2 (some (.array .int))]
def wsX3_quiet : List Cond := .code yX3_quiet cX3_quiet 3 (some .int) :: ((wsX3_quiet_r1 ++ (wsX3_quiet_r2 ++ (wsX3_quiet_r3 ++ wsX3_quiet_r4))) ++ wsX30 ++ wsJx000600 ++ wsX10)
def wsX3_count_r1 : List Cond := [Cond.fieldLink RX3 58 "LightRows" "decimal" "LLightRows$Decimal;", Cond.fieldLink RX3 44 "LightRows" "equations" "LLightRows$Equations;", Cond.fieldLink RX3 26 "LightRows" "states" "I", Cond.methodLink RX3 84 yX3_work, Cond.instanceMethod yX3_work, Cond.selects RX3 yX3_work yX3_work, Cond.initialized RX3, Cond.code yX3_work cX3_work 1 none, Cond.fieldLink RX3 62 "LightRows" "worked" "Z", Cond.fieldLink RX3 36 "LightRows" "touched" "[I", Cond.fieldLink RX3 29 "LightRows" "now" "[I", Cond.fieldLink RX3 33 "LightRows" "wanted" "[I", Cond.methodLink RX3 130 yX1_take, Cond.instanceMethod yX1_take, Cond.selects RX1 yX1_take yX1_take, Cond.initialized RX1, Cond.code yX1_take cX1_take 7 none, Cond.fieldLink RX1 9 "LightRows$Equations" "size" "I", Cond.fieldLink RX1 20 "LightRows$Equations" "rows" "[[I", Cond.fieldLink RX1 15 "LightRows$Equations" "modulus" "I", Cond.methodLink RX3 134 yX1_reduce, Cond.instanceMethod yX1_reduce, Cond.selects RX1 yX1_reduce yX1_reduce, Cond.code yX1_reduce cX1_reduce 3 none]
def wsX3_count_r2 : List Cond := [Cond.fieldLink RX1 30 "LightRows$Equations" "bound" "I", Cond.fieldLink RX1 23 "LightRows$Equations" "rowOf" "[I", Cond.methodLink RX1 36 yX1_unusedRowWith, Cond.instanceMethod yX1_unusedRowWith, Cond.selects RX1 yX1_unusedRowWith yX1_unusedRowWith, Cond.code yX1_unusedRowWith cX1_unusedRowWith 3 (some .int), Cond.methodLink RX1 40 yX1_swap, Cond.instanceMethod yX1_swap, Cond.selects RX1 yX1_swap yX1_swap, Cond.code yX1_swap cX1_swap 4 none, Cond.methodLink RX1 44 yX1_makeUnit, Cond.instanceMethod yX1_makeUnit, Cond.selects RX1 yX1_makeUnit yX1_makeUnit, Cond.code yX1_makeUnit cX1_makeUnit 5 none, Cond.methodLink RX1 58 yX1_inverse, Cond.instanceMethod yX1_inverse, Cond.selects RX1 yX1_inverse yX1_inverse, Cond.code yX1_inverse cX1_inverse 3 (some .int), Cond.methodLink RX1 48 yX1_clearElsewhere, Cond.instanceMethod yX1_clearElsewhere, Cond.selects RX1 yX1_clearElsewhere yX1_clearElsewhere, Cond.code yX1_clearElsewhere cX1_clearElsewhere 4 none, Cond.methodLink RX1 61 yX1_addMultiple, Cond.instanceMethod yX1_addMultiple]
def wsX3_count_r3 : List Cond := [Cond.selects RX1 yX1_addMultiple yX1_addMultiple, Cond.code yX1_addMultiple cX1_addMultiple 5 none, Cond.methodLink RX1 51 yX1_readQuietPatterns, Cond.instanceMethod yX1_readQuietPatterns, Cond.selects RX1 yX1_readQuietPatterns yX1_readQuietPatterns, Cond.code yX1_readQuietPatterns cX1_readQuietPatterns 2 none, Cond.fieldLink RX1 33 "LightRows$Equations" "free" "I", Cond.fieldLink RX1 27 "LightRows$Equations" "quietPatterns" "[[I", Cond.methodLink RX1 65 yX1_readQuietPattern, Cond.instanceMethod yX1_readQuietPattern, Cond.selects RX1 yX1_readQuietPattern yX1_readQuietPattern, Cond.code yX1_readQuietPattern cX1_readQuietPattern 5 none, Cond.methodLink RX3 91 yX1_agree, Cond.instanceMethod yX1_agree, Cond.selects RX1 yX1_agree yX1_agree, Cond.code yX1_agree cX1_agree 2 (some .boolean), Cond.methodLink RX3 105 yX0_become, Cond.instanceMethod yX0_become, Cond.selects RX0 yX0_become yX0_become, Cond.initialized RX0, Cond.code yX0_become cX0_become 2 none, Cond.fieldLink RX0 11 "LightRows$Decimal" "digits" "[I", Cond.fieldLink RX0 15 "LightRows$Decimal" "length" "I", Cond.methodLink RX3 98 yX1_freeLamps]
def wsX3_count_r4 : List Cond := [Cond.instanceMethod yX1_freeLamps, Cond.selects RX1 yX1_freeLamps yX1_freeLamps, Cond.code yX1_freeLamps cX1_freeLamps 1 (some .int), Cond.methodLink RX3 108 yX0_multiply, Cond.instanceMethod yX0_multiply, Cond.selects RX0 yX0_multiply yX0_multiply, Cond.code yX0_multiply cX0_multiply 5 none, Cond.methodLink RX3 111 yX0_digit, Cond.instanceMethod yX0_digit, Cond.selects RX0 yX0_digit yX0_digit, Cond.code yX0_digit cX0_digit 2 (some .int)]
def wsX3_count : List Cond := .code yX3_count cX3_count 3 (some .int) :: ((wsX3_count_r1 ++ (wsX3_count_r2 ++ (wsX3_count_r3 ++ wsX3_count_r4))) ++ wsX30 ++ wsX10 ++ wsX00)
def wsX3_seek_r1 : List Cond := [Cond.fieldLink RX3 66 "LightRows" "searched" "Z", Cond.fieldLink RX3 51 "LightRows" "search" "LLightRows$Search;", Cond.fieldLink RX3 44 "LightRows" "equations" "LLightRows$Equations;", Cond.methodLink RX3 84 yX3_work, Cond.instanceMethod yX3_work, Cond.selects RX3 yX3_work yX3_work, Cond.initialized RX3, Cond.code yX3_work cX3_work 1 none, Cond.fieldLink RX3 62 "LightRows" "worked" "Z", Cond.fieldLink RX3 36 "LightRows" "touched" "[I", Cond.fieldLink RX3 29 "LightRows" "now" "[I", Cond.fieldLink RX3 33 "LightRows" "wanted" "[I", Cond.methodLink RX3 130 yX1_take, Cond.instanceMethod yX1_take, Cond.selects RX1 yX1_take yX1_take, Cond.initialized RX1, Cond.code yX1_take cX1_take 7 none, Cond.fieldLink RX1 9 "LightRows$Equations" "size" "I", Cond.fieldLink RX1 20 "LightRows$Equations" "rows" "[[I", Cond.fieldLink RX1 15 "LightRows$Equations" "modulus" "I", Cond.methodLink RX3 134 yX1_reduce, Cond.instanceMethod yX1_reduce, Cond.selects RX1 yX1_reduce yX1_reduce, Cond.code yX1_reduce cX1_reduce 3 none]
def wsX3_seek_r2 : List Cond := [Cond.fieldLink RX1 30 "LightRows$Equations" "bound" "I", Cond.fieldLink RX1 23 "LightRows$Equations" "rowOf" "[I", Cond.methodLink RX1 36 yX1_unusedRowWith, Cond.instanceMethod yX1_unusedRowWith, Cond.selects RX1 yX1_unusedRowWith yX1_unusedRowWith, Cond.code yX1_unusedRowWith cX1_unusedRowWith 3 (some .int), Cond.methodLink RX1 40 yX1_swap, Cond.instanceMethod yX1_swap, Cond.selects RX1 yX1_swap yX1_swap, Cond.code yX1_swap cX1_swap 4 none, Cond.methodLink RX1 44 yX1_makeUnit, Cond.instanceMethod yX1_makeUnit, Cond.selects RX1 yX1_makeUnit yX1_makeUnit, Cond.code yX1_makeUnit cX1_makeUnit 5 none, Cond.methodLink RX1 58 yX1_inverse, Cond.instanceMethod yX1_inverse, Cond.selects RX1 yX1_inverse yX1_inverse, Cond.code yX1_inverse cX1_inverse 3 (some .int), Cond.methodLink RX1 48 yX1_clearElsewhere, Cond.instanceMethod yX1_clearElsewhere, Cond.selects RX1 yX1_clearElsewhere yX1_clearElsewhere, Cond.code yX1_clearElsewhere cX1_clearElsewhere 4 none, Cond.methodLink RX1 61 yX1_addMultiple, Cond.instanceMethod yX1_addMultiple]
def wsX3_seek_r3 : List Cond := [Cond.selects RX1 yX1_addMultiple yX1_addMultiple, Cond.code yX1_addMultiple cX1_addMultiple 5 none, Cond.methodLink RX1 51 yX1_readQuietPatterns, Cond.instanceMethod yX1_readQuietPatterns, Cond.selects RX1 yX1_readQuietPatterns yX1_readQuietPatterns, Cond.code yX1_readQuietPatterns cX1_readQuietPatterns 2 none, Cond.fieldLink RX1 33 "LightRows$Equations" "free" "I", Cond.fieldLink RX1 27 "LightRows$Equations" "quietPatterns" "[[I", Cond.methodLink RX1 65 yX1_readQuietPattern, Cond.instanceMethod yX1_readQuietPattern, Cond.selects RX1 yX1_readQuietPattern yX1_readQuietPattern, Cond.code yX1_readQuietPattern cX1_readQuietPattern 5 none, Cond.methodLink RX3 137 yX2_run, Cond.instanceMethod yX2_run, Cond.selects RX2 yX2_run yX2_run, Cond.initialized RX2, Cond.code yX2_run cX2_run 4 none, Cond.fieldLink RX2 28 "LightRows$Search" "total" "I", Cond.methodLink RX2 31 yX1_answersUpTo, Cond.instanceMethod yX1_answersUpTo, Cond.selects RX1 yX1_answersUpTo yX1_answersUpTo, Cond.code yX1_answersUpTo cX1_answersUpTo 4 (some .int), Cond.methodLink RX1 54 yX1_agree, Cond.instanceMethod yX1_agree]
def wsX3_seek_r4 : List Cond := [Cond.selects RX1 yX1_agree yX1_agree, Cond.code yX1_agree cX1_agree 2 (some .boolean), Cond.methodLink RX2 37 yX2_begin, Cond.instanceMethod yX2_begin, Cond.selects RX2 yX2_begin yX2_begin, Cond.code yX2_begin cX2_begin 3 none, Cond.fieldLink RX2 9 "LightRows$Search" "size" "I", Cond.fieldLink RX2 18 "LightRows$Search" "tried" "[I", Cond.fieldLink RX2 25 "LightRows$Search" "turns" "[I", Cond.methodLink RX2 47 yX1_pressesOf, Cond.instanceMethod yX1_pressesOf, Cond.selects RX1 yX1_pressesOf yX1_pressesOf, Cond.code yX1_pressesOf cX1_pressesOf 3 (some .int), Cond.methodLink RX2 50 yX2_totalTried, Cond.instanceMethod yX2_totalTried, Cond.selects RX2 yX2_totalTried yX2_totalTried, Cond.code yX2_totalTried cX2_totalTried 3 (some .int), Cond.methodLink RX2 54 yX2_keep, Cond.instanceMethod yX2_keep, Cond.selects RX2 yX2_keep yX2_keep, Cond.code yX2_keep cX2_keep 2 none, Cond.fieldLink RX2 22 "LightRows$Search" "least" "[I", Cond.methodLink RX2 73 arraycopyName, Cond.native arraycopyName]
def wsX3_seek_r5 : List Cond := [Cond.static arraycopyName, Cond.initialized "java/lang/System", Cond.methodLink RX2 41 yX2_advance, Cond.instanceMethod yX2_advance, Cond.selects RX2 yX2_advance yX2_advance, Cond.code yX2_advance cX2_advance 3 none, Cond.fieldLink RX2 15 "LightRows$Search" "modulus" "I", Cond.methodLink RX2 58 yX1_freeLamps, Cond.instanceMethod yX1_freeLamps, Cond.selects RX1 yX1_freeLamps yX1_freeLamps, Cond.code yX1_freeLamps cX1_freeLamps 1 (some .int), Cond.methodLink RX2 61 yX1_quietPattern, Cond.instanceMethod yX1_quietPattern, Cond.selects RX1 yX1_quietPattern yX1_quietPattern, Cond.code yX1_quietPattern cX1_quietPattern 2 (some (.array .int)), Cond.methodLink RX2 65 yX2_addToTried, Cond.instanceMethod yX2_addToTried, Cond.selects RX2 yX2_addToTried yX2_addToTried, Cond.code yX2_addToTried cX2_addToTried 4 none, Cond.methodLink RX2 44 yX2_keepIfLess, Cond.instanceMethod yX2_keepIfLess, Cond.selects RX2 yX2_keepIfLess yX2_keepIfLess, Cond.code yX2_keepIfLess cX2_keepIfLess 2 none, Cond.methodLink RX2 69 yX2_triedIsAhead]
def wsX3_seek_r6 : List Cond := [Cond.instanceMethod yX2_triedIsAhead, Cond.selects RX2 yX2_triedIsAhead yX2_triedIsAhead, Cond.code yX2_triedIsAhead cX2_triedIsAhead 2 (some .boolean)]
def wsX3_seek : List Cond := .code yX3_seek cX3_seek 1 none :: ((wsX3_seek_r1 ++ (wsX3_seek_r2 ++ (wsX3_seek_r3 ++ (wsX3_seek_r4 ++ (wsX3_seek_r5 ++ wsX3_seek_r6))))) ++ wsX30 ++ wsX10 ++ wsX20)
def wsX3_fewest_r1 : List Cond := [Cond.fieldLink RX3 51 "LightRows" "search" "LLightRows$Search;", Cond.methodLink RX3 114 yX3_seek, Cond.instanceMethod yX3_seek, Cond.selects RX3 yX3_seek yX3_seek, Cond.initialized RX3, Cond.code yX3_seek cX3_seek 1 none, Cond.fieldLink RX3 66 "LightRows" "searched" "Z", Cond.fieldLink RX3 44 "LightRows" "equations" "LLightRows$Equations;", Cond.methodLink RX3 84 yX3_work, Cond.instanceMethod yX3_work, Cond.selects RX3 yX3_work yX3_work, Cond.code yX3_work cX3_work 1 none, Cond.fieldLink RX3 62 "LightRows" "worked" "Z", Cond.fieldLink RX3 36 "LightRows" "touched" "[I", Cond.fieldLink RX3 29 "LightRows" "now" "[I", Cond.fieldLink RX3 33 "LightRows" "wanted" "[I", Cond.methodLink RX3 130 yX1_take, Cond.instanceMethod yX1_take, Cond.selects RX1 yX1_take yX1_take, Cond.initialized RX1, Cond.code yX1_take cX1_take 7 none, Cond.fieldLink RX1 9 "LightRows$Equations" "size" "I", Cond.fieldLink RX1 20 "LightRows$Equations" "rows" "[[I", Cond.fieldLink RX1 15 "LightRows$Equations" "modulus" "I"]
def wsX3_fewest_r2 : List Cond := [Cond.methodLink RX3 134 yX1_reduce, Cond.instanceMethod yX1_reduce, Cond.selects RX1 yX1_reduce yX1_reduce, Cond.code yX1_reduce cX1_reduce 3 none, Cond.fieldLink RX1 30 "LightRows$Equations" "bound" "I", Cond.fieldLink RX1 23 "LightRows$Equations" "rowOf" "[I", Cond.methodLink RX1 36 yX1_unusedRowWith, Cond.instanceMethod yX1_unusedRowWith, Cond.selects RX1 yX1_unusedRowWith yX1_unusedRowWith, Cond.code yX1_unusedRowWith cX1_unusedRowWith 3 (some .int), Cond.methodLink RX1 40 yX1_swap, Cond.instanceMethod yX1_swap, Cond.selects RX1 yX1_swap yX1_swap, Cond.code yX1_swap cX1_swap 4 none, Cond.methodLink RX1 44 yX1_makeUnit, Cond.instanceMethod yX1_makeUnit, Cond.selects RX1 yX1_makeUnit yX1_makeUnit, Cond.code yX1_makeUnit cX1_makeUnit 5 none, Cond.methodLink RX1 58 yX1_inverse, Cond.instanceMethod yX1_inverse, Cond.selects RX1 yX1_inverse yX1_inverse, Cond.code yX1_inverse cX1_inverse 3 (some .int), Cond.methodLink RX1 48 yX1_clearElsewhere, Cond.instanceMethod yX1_clearElsewhere]
def wsX3_fewest_r3 : List Cond := [Cond.selects RX1 yX1_clearElsewhere yX1_clearElsewhere, Cond.code yX1_clearElsewhere cX1_clearElsewhere 4 none, Cond.methodLink RX1 61 yX1_addMultiple, Cond.instanceMethod yX1_addMultiple, Cond.selects RX1 yX1_addMultiple yX1_addMultiple, Cond.code yX1_addMultiple cX1_addMultiple 5 none, Cond.methodLink RX1 51 yX1_readQuietPatterns, Cond.instanceMethod yX1_readQuietPatterns, Cond.selects RX1 yX1_readQuietPatterns yX1_readQuietPatterns, Cond.code yX1_readQuietPatterns cX1_readQuietPatterns 2 none, Cond.fieldLink RX1 33 "LightRows$Equations" "free" "I", Cond.fieldLink RX1 27 "LightRows$Equations" "quietPatterns" "[[I", Cond.methodLink RX1 65 yX1_readQuietPattern, Cond.instanceMethod yX1_readQuietPattern, Cond.selects RX1 yX1_readQuietPattern yX1_readQuietPattern, Cond.code yX1_readQuietPattern cX1_readQuietPattern 5 none, Cond.methodLink RX3 137 yX2_run, Cond.instanceMethod yX2_run, Cond.selects RX2 yX2_run yX2_run, Cond.initialized RX2, Cond.code yX2_run cX2_run 4 none, Cond.fieldLink RX2 28 "LightRows$Search" "total" "I", Cond.methodLink RX2 31 yX1_answersUpTo, Cond.instanceMethod yX1_answersUpTo]
def wsX3_fewest_r4 : List Cond := [Cond.selects RX1 yX1_answersUpTo yX1_answersUpTo, Cond.code yX1_answersUpTo cX1_answersUpTo 4 (some .int), Cond.methodLink RX1 54 yX1_agree, Cond.instanceMethod yX1_agree, Cond.selects RX1 yX1_agree yX1_agree, Cond.code yX1_agree cX1_agree 2 (some .boolean), Cond.methodLink RX2 37 yX2_begin, Cond.instanceMethod yX2_begin, Cond.selects RX2 yX2_begin yX2_begin, Cond.code yX2_begin cX2_begin 3 none, Cond.fieldLink RX2 9 "LightRows$Search" "size" "I", Cond.fieldLink RX2 18 "LightRows$Search" "tried" "[I", Cond.fieldLink RX2 25 "LightRows$Search" "turns" "[I", Cond.methodLink RX2 47 yX1_pressesOf, Cond.instanceMethod yX1_pressesOf, Cond.selects RX1 yX1_pressesOf yX1_pressesOf, Cond.code yX1_pressesOf cX1_pressesOf 3 (some .int), Cond.methodLink RX2 50 yX2_totalTried, Cond.instanceMethod yX2_totalTried, Cond.selects RX2 yX2_totalTried yX2_totalTried, Cond.code yX2_totalTried cX2_totalTried 3 (some .int), Cond.methodLink RX2 54 yX2_keep, Cond.instanceMethod yX2_keep, Cond.selects RX2 yX2_keep yX2_keep]
def wsX3_fewest_r5 : List Cond := [Cond.code yX2_keep cX2_keep 2 none, Cond.fieldLink RX2 22 "LightRows$Search" "least" "[I", Cond.methodLink RX2 73 arraycopyName, Cond.native arraycopyName, Cond.static arraycopyName, Cond.initialized "java/lang/System", Cond.methodLink RX2 41 yX2_advance, Cond.instanceMethod yX2_advance, Cond.selects RX2 yX2_advance yX2_advance, Cond.code yX2_advance cX2_advance 3 none, Cond.fieldLink RX2 15 "LightRows$Search" "modulus" "I", Cond.methodLink RX2 58 yX1_freeLamps, Cond.instanceMethod yX1_freeLamps, Cond.selects RX1 yX1_freeLamps yX1_freeLamps, Cond.code yX1_freeLamps cX1_freeLamps 1 (some .int), Cond.methodLink RX2 61 yX1_quietPattern, Cond.instanceMethod yX1_quietPattern, Cond.selects RX1 yX1_quietPattern yX1_quietPattern, Cond.code yX1_quietPattern cX1_quietPattern 2 (some (.array .int)), Cond.methodLink RX2 65 yX2_addToTried, Cond.instanceMethod yX2_addToTried, Cond.selects RX2 yX2_addToTried yX2_addToTried, Cond.code yX2_addToTried cX2_addToTried 4 none, Cond.methodLink RX2 44 yX2_keepIfLess]
def wsX3_fewest_r6 : List Cond := [Cond.instanceMethod yX2_keepIfLess, Cond.selects RX2 yX2_keepIfLess yX2_keepIfLess, Cond.code yX2_keepIfLess cX2_keepIfLess 2 none, Cond.methodLink RX2 69 yX2_triedIsAhead, Cond.instanceMethod yX2_triedIsAhead, Cond.selects RX2 yX2_triedIsAhead yX2_triedIsAhead, Cond.code yX2_triedIsAhead cX2_triedIsAhead 2 (some .boolean), Cond.methodLink RX3 117 yX2_leastTotal, Cond.instanceMethod yX2_leastTotal, Cond.selects RX2 yX2_leastTotal yX2_leastTotal, Cond.code yX2_leastTotal cX2_leastTotal 1 (some .int)]
def wsX3_fewest : List Cond := .code yX3_fewest cX3_fewest 1 (some .int) :: ((wsX3_fewest_r1 ++ (wsX3_fewest_r2 ++ (wsX3_fewest_r3 ++ (wsX3_fewest_r4 ++ (wsX3_fewest_r5 ++ wsX3_fewest_r6))))) ++ wsX30 ++ wsX10 ++ wsX20)
def wsX3_best_r1 : List Cond := [Cond.fieldLink RX3 51 "LightRows" "search" "LLightRows$Search;", Cond.methodLink RX3 69 yX3_mustExist, Cond.instanceMethod yX3_mustExist, Cond.selects RX3 yX3_mustExist yX3_mustExist, Cond.initialized RX3, Cond.code yX3_mustExist cX3_mustExist 2 none, Cond.fieldLink RX3 18 "LightRows" "lamps" "I", Cond.classLink RX3 123 RJx00060, Cond.instantiable RJx00060 6, Cond.initialized RJx00060, Cond.methodLink RX3 114 yX3_seek, Cond.instanceMethod yX3_seek, Cond.selects RX3 yX3_seek yX3_seek, Cond.code yX3_seek cX3_seek 1 none, Cond.fieldLink RX3 66 "LightRows" "searched" "Z", Cond.fieldLink RX3 44 "LightRows" "equations" "LLightRows$Equations;", Cond.methodLink RX3 84 yX3_work, Cond.instanceMethod yX3_work, Cond.selects RX3 yX3_work yX3_work, Cond.code yX3_work cX3_work 1 none, Cond.fieldLink RX3 62 "LightRows" "worked" "Z", Cond.fieldLink RX3 36 "LightRows" "touched" "[I", Cond.fieldLink RX3 29 "LightRows" "now" "[I", Cond.fieldLink RX3 33 "LightRows" "wanted" "[I"]
def wsX3_best_r2 : List Cond := [Cond.methodLink RX3 130 yX1_take, Cond.instanceMethod yX1_take, Cond.selects RX1 yX1_take yX1_take, Cond.initialized RX1, Cond.code yX1_take cX1_take 7 none, Cond.fieldLink RX1 9 "LightRows$Equations" "size" "I", Cond.fieldLink RX1 20 "LightRows$Equations" "rows" "[[I", Cond.fieldLink RX1 15 "LightRows$Equations" "modulus" "I", Cond.methodLink RX3 134 yX1_reduce, Cond.instanceMethod yX1_reduce, Cond.selects RX1 yX1_reduce yX1_reduce, Cond.code yX1_reduce cX1_reduce 3 none, Cond.fieldLink RX1 30 "LightRows$Equations" "bound" "I", Cond.fieldLink RX1 23 "LightRows$Equations" "rowOf" "[I", Cond.methodLink RX1 36 yX1_unusedRowWith, Cond.instanceMethod yX1_unusedRowWith, Cond.selects RX1 yX1_unusedRowWith yX1_unusedRowWith, Cond.code yX1_unusedRowWith cX1_unusedRowWith 3 (some .int), Cond.methodLink RX1 40 yX1_swap, Cond.instanceMethod yX1_swap, Cond.selects RX1 yX1_swap yX1_swap, Cond.code yX1_swap cX1_swap 4 none, Cond.methodLink RX1 44 yX1_makeUnit, Cond.instanceMethod yX1_makeUnit]
def wsX3_best_r3 : List Cond := [Cond.selects RX1 yX1_makeUnit yX1_makeUnit, Cond.code yX1_makeUnit cX1_makeUnit 5 none, Cond.methodLink RX1 58 yX1_inverse, Cond.instanceMethod yX1_inverse, Cond.selects RX1 yX1_inverse yX1_inverse, Cond.code yX1_inverse cX1_inverse 3 (some .int), Cond.methodLink RX1 48 yX1_clearElsewhere, Cond.instanceMethod yX1_clearElsewhere, Cond.selects RX1 yX1_clearElsewhere yX1_clearElsewhere, Cond.code yX1_clearElsewhere cX1_clearElsewhere 4 none, Cond.methodLink RX1 61 yX1_addMultiple, Cond.instanceMethod yX1_addMultiple, Cond.selects RX1 yX1_addMultiple yX1_addMultiple, Cond.code yX1_addMultiple cX1_addMultiple 5 none, Cond.methodLink RX1 51 yX1_readQuietPatterns, Cond.instanceMethod yX1_readQuietPatterns, Cond.selects RX1 yX1_readQuietPatterns yX1_readQuietPatterns, Cond.code yX1_readQuietPatterns cX1_readQuietPatterns 2 none, Cond.fieldLink RX1 33 "LightRows$Equations" "free" "I", Cond.fieldLink RX1 27 "LightRows$Equations" "quietPatterns" "[[I", Cond.methodLink RX1 65 yX1_readQuietPattern, Cond.instanceMethod yX1_readQuietPattern, Cond.selects RX1 yX1_readQuietPattern yX1_readQuietPattern, Cond.code yX1_readQuietPattern cX1_readQuietPattern 5 none]
def wsX3_best_r4 : List Cond := [Cond.methodLink RX3 137 yX2_run, Cond.instanceMethod yX2_run, Cond.selects RX2 yX2_run yX2_run, Cond.initialized RX2, Cond.code yX2_run cX2_run 4 none, Cond.fieldLink RX2 28 "LightRows$Search" "total" "I", Cond.methodLink RX2 31 yX1_answersUpTo, Cond.instanceMethod yX1_answersUpTo, Cond.selects RX1 yX1_answersUpTo yX1_answersUpTo, Cond.code yX1_answersUpTo cX1_answersUpTo 4 (some .int), Cond.methodLink RX1 54 yX1_agree, Cond.instanceMethod yX1_agree, Cond.selects RX1 yX1_agree yX1_agree, Cond.code yX1_agree cX1_agree 2 (some .boolean), Cond.methodLink RX2 37 yX2_begin, Cond.instanceMethod yX2_begin, Cond.selects RX2 yX2_begin yX2_begin, Cond.code yX2_begin cX2_begin 3 none, Cond.fieldLink RX2 9 "LightRows$Search" "size" "I", Cond.fieldLink RX2 18 "LightRows$Search" "tried" "[I", Cond.fieldLink RX2 25 "LightRows$Search" "turns" "[I", Cond.methodLink RX2 47 yX1_pressesOf, Cond.instanceMethod yX1_pressesOf, Cond.selects RX1 yX1_pressesOf yX1_pressesOf]
def wsX3_best_r5 : List Cond := [Cond.code yX1_pressesOf cX1_pressesOf 3 (some .int), Cond.methodLink RX2 50 yX2_totalTried, Cond.instanceMethod yX2_totalTried, Cond.selects RX2 yX2_totalTried yX2_totalTried, Cond.code yX2_totalTried cX2_totalTried 3 (some .int), Cond.methodLink RX2 54 yX2_keep, Cond.instanceMethod yX2_keep, Cond.selects RX2 yX2_keep yX2_keep, Cond.code yX2_keep cX2_keep 2 none, Cond.fieldLink RX2 22 "LightRows$Search" "least" "[I", Cond.methodLink RX2 73 arraycopyName, Cond.native arraycopyName, Cond.static arraycopyName, Cond.initialized "java/lang/System", Cond.methodLink RX2 41 yX2_advance, Cond.instanceMethod yX2_advance, Cond.selects RX2 yX2_advance yX2_advance, Cond.code yX2_advance cX2_advance 3 none, Cond.fieldLink RX2 15 "LightRows$Search" "modulus" "I", Cond.methodLink RX2 58 yX1_freeLamps, Cond.instanceMethod yX1_freeLamps, Cond.selects RX1 yX1_freeLamps yX1_freeLamps, Cond.code yX1_freeLamps cX1_freeLamps 1 (some .int), Cond.methodLink RX2 61 yX1_quietPattern]
def wsX3_best_r6 : List Cond := [Cond.instanceMethod yX1_quietPattern, Cond.selects RX1 yX1_quietPattern yX1_quietPattern, Cond.code yX1_quietPattern cX1_quietPattern 2 (some (.array .int)), Cond.methodLink RX2 65 yX2_addToTried, Cond.instanceMethod yX2_addToTried, Cond.selects RX2 yX2_addToTried yX2_addToTried, Cond.code yX2_addToTried cX2_addToTried 4 none, Cond.methodLink RX2 44 yX2_keepIfLess, Cond.instanceMethod yX2_keepIfLess, Cond.selects RX2 yX2_keepIfLess yX2_keepIfLess, Cond.code yX2_keepIfLess cX2_keepIfLess 2 none, Cond.methodLink RX2 69 yX2_triedIsAhead, Cond.instanceMethod yX2_triedIsAhead, Cond.selects RX2 yX2_triedIsAhead yX2_triedIsAhead, Cond.code yX2_triedIsAhead cX2_triedIsAhead 2 (some .boolean), Cond.methodLink RX3 117 yX2_leastTotal, Cond.instanceMethod yX2_leastTotal, Cond.selects RX2 yX2_leastTotal yX2_leastTotal, Cond.code yX2_leastTotal cX2_leastTotal 1 (some .int), Cond.methodLink RX3 120 yX2_leastPresses, Cond.instanceMethod yX2_leastPresses, Cond.selects RX2 yX2_leastPresses yX2_leastPresses, Cond.code yX2_leastPresses cX2_leastPresses 2 (some .int)]
def wsX3_best : List Cond := .code yX3_best cX3_best 2 (some .int) :: ((wsX3_best_r1 ++ (wsX3_best_r2 ++ (wsX3_best_r3 ++ (wsX3_best_r4 ++ (wsX3_best_r5 ++ wsX3_best_r6))))) ++ wsX30 ++ wsJx000600 ++ wsX10 ++ wsX20)
def wsX3_alone_r1 : List Cond := [Cond.fieldLink RX3 44 "LightRows" "equations" "LLightRows$Equations;", Cond.methodLink RX3 69 yX3_mustExist, Cond.instanceMethod yX3_mustExist, Cond.selects RX3 yX3_mustExist yX3_mustExist, Cond.initialized RX3, Cond.code yX3_mustExist cX3_mustExist 2 none, Cond.fieldLink RX3 18 "LightRows" "lamps" "I", Cond.classLink RX3 123 RJx00060, Cond.instantiable RJx00060 6, Cond.initialized RJx00060, Cond.methodLink RX3 84 yX3_work, Cond.instanceMethod yX3_work, Cond.selects RX3 yX3_work yX3_work, Cond.code yX3_work cX3_work 1 none, Cond.fieldLink RX3 62 "LightRows" "worked" "Z", Cond.fieldLink RX3 36 "LightRows" "touched" "[I", Cond.fieldLink RX3 29 "LightRows" "now" "[I", Cond.fieldLink RX3 33 "LightRows" "wanted" "[I", Cond.methodLink RX3 130 yX1_take, Cond.instanceMethod yX1_take, Cond.selects RX1 yX1_take yX1_take, Cond.initialized RX1, Cond.code yX1_take cX1_take 7 none, Cond.fieldLink RX1 9 "LightRows$Equations" "size" "I"]
def wsX3_alone_r2 : List Cond := [Cond.fieldLink RX1 20 "LightRows$Equations" "rows" "[[I", Cond.fieldLink RX1 15 "LightRows$Equations" "modulus" "I", Cond.methodLink RX3 134 yX1_reduce, Cond.instanceMethod yX1_reduce, Cond.selects RX1 yX1_reduce yX1_reduce, Cond.code yX1_reduce cX1_reduce 3 none, Cond.fieldLink RX1 30 "LightRows$Equations" "bound" "I", Cond.fieldLink RX1 23 "LightRows$Equations" "rowOf" "[I", Cond.methodLink RX1 36 yX1_unusedRowWith, Cond.instanceMethod yX1_unusedRowWith, Cond.selects RX1 yX1_unusedRowWith yX1_unusedRowWith, Cond.code yX1_unusedRowWith cX1_unusedRowWith 3 (some .int), Cond.methodLink RX1 40 yX1_swap, Cond.instanceMethod yX1_swap, Cond.selects RX1 yX1_swap yX1_swap, Cond.code yX1_swap cX1_swap 4 none, Cond.methodLink RX1 44 yX1_makeUnit, Cond.instanceMethod yX1_makeUnit, Cond.selects RX1 yX1_makeUnit yX1_makeUnit, Cond.code yX1_makeUnit cX1_makeUnit 5 none, Cond.methodLink RX1 58 yX1_inverse, Cond.instanceMethod yX1_inverse, Cond.selects RX1 yX1_inverse yX1_inverse, Cond.code yX1_inverse cX1_inverse 3 (some .int)]
def wsX3_alone_r3 : List Cond := [Cond.methodLink RX1 48 yX1_clearElsewhere, Cond.instanceMethod yX1_clearElsewhere, Cond.selects RX1 yX1_clearElsewhere yX1_clearElsewhere, Cond.code yX1_clearElsewhere cX1_clearElsewhere 4 none, Cond.methodLink RX1 61 yX1_addMultiple, Cond.instanceMethod yX1_addMultiple, Cond.selects RX1 yX1_addMultiple yX1_addMultiple, Cond.code yX1_addMultiple cX1_addMultiple 5 none, Cond.methodLink RX1 51 yX1_readQuietPatterns, Cond.instanceMethod yX1_readQuietPatterns, Cond.selects RX1 yX1_readQuietPatterns yX1_readQuietPatterns, Cond.code yX1_readQuietPatterns cX1_readQuietPatterns 2 none, Cond.fieldLink RX1 33 "LightRows$Equations" "free" "I", Cond.fieldLink RX1 27 "LightRows$Equations" "quietPatterns" "[[I", Cond.methodLink RX1 65 yX1_readQuietPattern, Cond.instanceMethod yX1_readQuietPattern, Cond.selects RX1 yX1_readQuietPattern yX1_readQuietPattern, Cond.code yX1_readQuietPattern cX1_readQuietPattern 5 none, Cond.methodLink RX3 98 yX1_freeLamps, Cond.instanceMethod yX1_freeLamps, Cond.selects RX1 yX1_freeLamps yX1_freeLamps, Cond.code yX1_freeLamps cX1_freeLamps 1 (some .int), Cond.methodLink RX3 101 yX1_quietPattern, Cond.instanceMethod yX1_quietPattern]
def wsX3_alone_r4 : List Cond := [Cond.selects RX1 yX1_quietPattern yX1_quietPattern, Cond.code yX1_quietPattern cX1_quietPattern 2 (some (.array .int))]
def wsX3_alone : List Cond := .code yX3_alone cX3_alone 3 (some .boolean) :: ((wsX3_alone_r1 ++ (wsX3_alone_r2 ++ (wsX3_alone_r3 ++ wsX3_alone_r4))) ++ wsX30 ++ wsJx000600 ++ wsX10)
def wsX3_clear : List Cond := .code yX3_clear cX3_clear 2 none :: ([.fieldLink RX3 18 "LightRows" "lamps" "I", .fieldLink RX3 29 "LightRows" "now" "[I", .fieldLink RX3 33 "LightRows" "wanted" "[I", .methodLink RX3 77 yX3_forget, .instanceMethod yX3_forget, .selects RX3 yX3_forget yX3_forget, .initialized RX3, .code yX3_forget cX3_forget 1 none, .fieldLink RX3 62 "LightRows" "worked" "Z", .fieldLink RX3 66 "LightRows" "searched" "Z"] ++ wsX30)
def wsX4_init : List Cond := .code yX4_init cX4_init 3 none :: ([.methodLink RX4 1 objectInit, .instanceMethod objectInit, .code objectInit ⟨#[0xb1]⟩ 1 none, .arrayClass .boolean, .fieldLink RX4 7 "LightRowsModel" "joined" "[Z", .fieldLink RX4 13 "LightRowsModel" "isNotSelf" "[Z", .arrayClass .int, .fieldLink RX4 16 "LightRowsModel" "states" "[I", .fieldLink RX4 20 "LightRowsModel" "wanted" "[I", .fieldLink RX4 23 "LightRowsModel" "rows" "[I", .fieldLink RX4 26 "LightRowsModel" "presses" "[I", .fieldLink RX4 29 "LightRowsModel" "heads" "[I", .fieldLink RX4 32 "LightRowsModel" "isBound" "[Z", .fieldLink RX4 35 "LightRowsModel" "rest" "[I", .fieldLink RX4 38 "LightRowsModel" "by" "[I", .fieldLink RX4 41 "LightRowsModel" "answer" "[I", .fieldLink RX4 44 "LightRowsModel" "quiet" "[I", .fieldLink RX4 47 "LightRowsModel" "best" "[I", .fieldLink RX4 50 "LightRowsModel" "tried" "[I", .fieldLink RX4 53 "LightRowsModel" "digits" "[I", .fieldLink RX4 56 "LightRowsModel" "lamps" "I", .fieldLink RX4 60 "LightRowsModel" "p" "I"] ++ wsX40)
def wsX4_thrown : List Cond := .code yX4_thrown cX4_thrown 1 (some .int) :: ([.fieldLink RX4 63 "LightRowsModel" "thrown" "I"] ++ wsX40)
def wsX4_fails : List Cond := .code yX4_fails cX4_fails 2 (some .boolean) :: ([.fieldLink RX4 63 "LightRowsModel" "thrown" "I"] ++ wsX40)
def wsX4_isLamp : List Cond := .code yX4_isLamp cX4_isLamp 2 (some .boolean) :: ([.fieldLink RX4 56 "LightRowsModel" "lamps" "I"] ++ wsX40)
def wsX4_isState : List Cond := .code yX4_isState cX4_isState 2 (some .boolean) :: ([.fieldLink RX4 60 "LightRowsModel" "p" "I"] ++ wsX40)
def wsX4_join : List Cond := .code yX4_join cX4_join 3 (some .boolean) :: ([.fieldLink RX4 7 "LightRowsModel" "joined" "[Z", .fieldLink RX4 74 "LightRowsModel" "isKnown" "Z", .methodLink RX4 66 yX4_isLamp, .instanceMethod yX4_isLamp, .selects RX4 yX4_isLamp yX4_isLamp, .initialized RX4, .code yX4_isLamp cX4_isLamp 2 (some .boolean), .fieldLink RX4 56 "LightRowsModel" "lamps" "I", .methodLink RX4 70 yX4_fails, .instanceMethod yX4_fails, .selects RX4 yX4_fails yX4_fails, .code yX4_fails cX4_fails 2 (some .boolean), .fieldLink RX4 63 "LightRowsModel" "thrown" "I"] ++ wsX40)
def wsX4_self : List Cond := .code yX4_self cX4_self 3 (some .boolean) :: ([.fieldLink RX4 13 "LightRowsModel" "isNotSelf" "[Z", .fieldLink RX4 74 "LightRowsModel" "isKnown" "Z", .methodLink RX4 66 yX4_isLamp, .instanceMethod yX4_isLamp, .selects RX4 yX4_isLamp yX4_isLamp, .initialized RX4, .code yX4_isLamp cX4_isLamp 2 (some .boolean), .fieldLink RX4 56 "LightRowsModel" "lamps" "I", .methodLink RX4 70 yX4_fails, .instanceMethod yX4_fails, .selects RX4 yX4_fails yX4_fails, .code yX4_fails cX4_fails 2 (some .boolean), .fieldLink RX4 63 "LightRowsModel" "thrown" "I"] ++ wsX40)
def wsX4_set : List Cond := .code yX4_set cX4_set 3 (some .boolean) :: ([.fieldLink RX4 16 "LightRowsModel" "states" "[I", .methodLink RX4 66 yX4_isLamp, .instanceMethod yX4_isLamp, .selects RX4 yX4_isLamp yX4_isLamp, .initialized RX4, .code yX4_isLamp cX4_isLamp 2 (some .boolean), .fieldLink RX4 56 "LightRowsModel" "lamps" "I", .methodLink RX4 70 yX4_fails, .instanceMethod yX4_fails, .selects RX4 yX4_fails yX4_fails, .code yX4_fails cX4_fails 2 (some .boolean), .fieldLink RX4 63 "LightRowsModel" "thrown" "I", .methodLink RX4 78 yX4_isState, .instanceMethod yX4_isState, .selects RX4 yX4_isState yX4_isState, .code yX4_isState cX4_isState 2 (some .boolean), .fieldLink RX4 60 "LightRowsModel" "p" "I"] ++ wsX40)
def wsX4_want : List Cond := .code yX4_want cX4_want 3 (some .boolean) :: ([.fieldLink RX4 20 "LightRowsModel" "wanted" "[I", .methodLink RX4 66 yX4_isLamp, .instanceMethod yX4_isLamp, .selects RX4 yX4_isLamp yX4_isLamp, .initialized RX4, .code yX4_isLamp cX4_isLamp 2 (some .boolean), .fieldLink RX4 56 "LightRowsModel" "lamps" "I", .methodLink RX4 70 yX4_fails, .instanceMethod yX4_fails, .selects RX4 yX4_fails yX4_fails, .code yX4_fails cX4_fails 2 (some .boolean), .fieldLink RX4 63 "LightRowsModel" "thrown" "I", .methodLink RX4 78 yX4_isState, .instanceMethod yX4_isState, .selects RX4 yX4_isState yX4_isState, .code yX4_isState cX4_isState 2 (some .boolean), .fieldLink RX4 60 "LightRowsModel" "p" "I"] ++ wsX40)
def wsX4_effect : List Cond := .code yX4_effect cX4_effect 3 (some .int) :: ([.fieldLink RX4 13 "LightRowsModel" "isNotSelf" "[Z", .fieldLink RX4 7 "LightRowsModel" "joined" "[Z"] ++ wsX40)
def wsX4_press : List Cond := .code yX4_press cX4_press 4 (some .boolean) :: ([.fieldLink RX4 56 "LightRowsModel" "lamps" "I", .fieldLink RX4 16 "LightRowsModel" "states" "[I", .fieldLink RX4 60 "LightRowsModel" "p" "I", .methodLink RX4 66 yX4_isLamp, .instanceMethod yX4_isLamp, .selects RX4 yX4_isLamp yX4_isLamp, .initialized RX4, .code yX4_isLamp cX4_isLamp 2 (some .boolean), .methodLink RX4 70 yX4_fails, .instanceMethod yX4_fails, .selects RX4 yX4_fails yX4_fails, .code yX4_fails cX4_fails 2 (some .boolean), .fieldLink RX4 63 "LightRowsModel" "thrown" "I", .methodLink RX4 81 yX4_effect, .instanceMethod yX4_effect, .selects RX4 yX4_effect yX4_effect, .code yX4_effect cX4_effect 3 (some .int), .fieldLink RX4 13 "LightRowsModel" "isNotSelf" "[Z", .fieldLink RX4 7 "LightRowsModel" "joined" "[Z"] ++ wsX40)
def wsX4_at : List Cond := .code yX4_at cX4_at 2 (some .int) :: ([.fieldLink RX4 16 "LightRowsModel" "states" "[I", .methodLink RX4 66 yX4_isLamp, .instanceMethod yX4_isLamp, .selects RX4 yX4_isLamp yX4_isLamp, .initialized RX4, .code yX4_isLamp cX4_isLamp 2 (some .boolean), .fieldLink RX4 56 "LightRowsModel" "lamps" "I", .methodLink RX4 70 yX4_fails, .instanceMethod yX4_fails, .selects RX4 yX4_fails yX4_fails, .code yX4_fails cX4_fails 2 (some .boolean), .fieldLink RX4 63 "LightRowsModel" "thrown" "I"] ++ wsX40)
def wsX4_apart : List Cond := .code yX4_apart cX4_apart 3 (some .int) :: ([.fieldLink RX4 63 "LightRowsModel" "thrown" "I", .fieldLink RX4 56 "LightRowsModel" "lamps" "I", .fieldLink RX4 16 "LightRowsModel" "states" "[I", .fieldLink RX4 20 "LightRowsModel" "wanted" "[I"] ++ wsX40)
def wsX4_clear : List Cond := .code yX4_clear cX4_clear 2 none :: ([.fieldLink RX4 63 "LightRowsModel" "thrown" "I", .fieldLink RX4 56 "LightRowsModel" "lamps" "I", .fieldLink RX4 16 "LightRowsModel" "states" "[I", .fieldLink RX4 20 "LightRowsModel" "wanted" "[I"] ++ wsX40)
def wsX4_inverse : List Cond := .code yX4_inverse cX4_inverse 3 (some .int) :: ([.fieldLink RX4 60 "LightRowsModel" "p" "I"] ++ wsX40)
def wsX4_takeApart : List Cond := .code yX4_takeApart cX4_takeApart 4 none :: ([.fieldLink RX4 56 "LightRowsModel" "lamps" "I", .fieldLink RX4 38 "LightRowsModel" "by" "[I", .fieldLink RX4 85 "LightRowsModel" "rank" "I", .fieldLink RX4 35 "LightRowsModel" "rest" "[I", .fieldLink RX4 29 "LightRowsModel" "heads" "[I", .fieldLink RX4 23 "LightRowsModel" "rows" "[I", .fieldLink RX4 60 "LightRowsModel" "p" "I", .fieldLink RX4 26 "LightRowsModel" "presses" "[I", .methodLink RX4 88 yX4_inverse, .instanceMethod yX4_inverse, .selects RX4 yX4_inverse yX4_inverse, .initialized RX4, .code yX4_inverse cX4_inverse 3 (some .int)] ++ wsX40)
def wsX4_left : List Cond := .code yX4_left cX4_left 2 (some .int) :: ([.fieldLink RX4 56 "LightRowsModel" "lamps" "I", .fieldLink RX4 35 "LightRowsModel" "rest" "[I"] ++ wsX40)
def wsX4_know_r1 : List Cond := [Cond.fieldLink RX4 74 "LightRowsModel" "isKnown" "Z", Cond.fieldLink RX4 85 "LightRowsModel" "rank" "I", Cond.fieldLink RX4 56 "LightRowsModel" "lamps" "I", Cond.fieldLink RX4 35 "LightRowsModel" "rest" "[I", Cond.fieldLink RX4 32 "LightRowsModel" "isBound" "[Z", Cond.fieldLink RX4 23 "LightRowsModel" "rows" "[I", Cond.fieldLink RX4 26 "LightRowsModel" "presses" "[I", Cond.fieldLink RX4 60 "LightRowsModel" "p" "I", Cond.fieldLink RX4 38 "LightRowsModel" "by" "[I", Cond.fieldLink RX4 29 "LightRowsModel" "heads" "[I", Cond.fieldLink RX4 44 "LightRowsModel" "quiet" "[I", Cond.methodLink RX4 81 yX4_effect, Cond.instanceMethod yX4_effect, Cond.selects RX4 yX4_effect yX4_effect, Cond.initialized RX4, Cond.code yX4_effect cX4_effect 3 (some .int), Cond.fieldLink RX4 13 "LightRowsModel" "isNotSelf" "[Z", Cond.fieldLink RX4 7 "LightRowsModel" "joined" "[Z", Cond.methodLink RX4 92 yX4_takeApart, Cond.instanceMethod yX4_takeApart, Cond.selects RX4 yX4_takeApart yX4_takeApart, Cond.code yX4_takeApart cX4_takeApart 4 none, Cond.methodLink RX4 88 yX4_inverse, Cond.instanceMethod yX4_inverse]
def wsX4_know_r2 : List Cond := [Cond.selects RX4 yX4_inverse yX4_inverse, Cond.code yX4_inverse cX4_inverse 3 (some .int), Cond.methodLink RX4 95 yX4_left, Cond.instanceMethod yX4_left, Cond.selects RX4 yX4_left yX4_left, Cond.code yX4_left cX4_left 2 (some .int)]
def wsX4_know : List Cond := .code yX4_know cX4_know 5 none :: ((wsX4_know_r1 ++ wsX4_know_r2) ++ wsX40)
def wsX4_rank_r1 : List Cond := [Cond.fieldLink RX4 63 "LightRowsModel" "thrown" "I", Cond.fieldLink RX4 85 "LightRowsModel" "rank" "I", Cond.methodLink RX4 99 yX4_know, Cond.instanceMethod yX4_know, Cond.selects RX4 yX4_know yX4_know, Cond.initialized RX4, Cond.code yX4_know cX4_know 5 none, Cond.fieldLink RX4 74 "LightRowsModel" "isKnown" "Z", Cond.fieldLink RX4 56 "LightRowsModel" "lamps" "I", Cond.fieldLink RX4 35 "LightRowsModel" "rest" "[I", Cond.fieldLink RX4 32 "LightRowsModel" "isBound" "[Z", Cond.fieldLink RX4 23 "LightRowsModel" "rows" "[I", Cond.fieldLink RX4 26 "LightRowsModel" "presses" "[I", Cond.fieldLink RX4 60 "LightRowsModel" "p" "I", Cond.fieldLink RX4 38 "LightRowsModel" "by" "[I", Cond.fieldLink RX4 29 "LightRowsModel" "heads" "[I", Cond.fieldLink RX4 44 "LightRowsModel" "quiet" "[I", Cond.methodLink RX4 81 yX4_effect, Cond.instanceMethod yX4_effect, Cond.selects RX4 yX4_effect yX4_effect, Cond.code yX4_effect cX4_effect 3 (some .int), Cond.fieldLink RX4 13 "LightRowsModel" "isNotSelf" "[Z", Cond.fieldLink RX4 7 "LightRowsModel" "joined" "[Z", Cond.methodLink RX4 92 yX4_takeApart]
def wsX4_rank_r2 : List Cond := [Cond.instanceMethod yX4_takeApart, Cond.selects RX4 yX4_takeApart yX4_takeApart, Cond.code yX4_takeApart cX4_takeApart 4 none, Cond.methodLink RX4 88 yX4_inverse, Cond.instanceMethod yX4_inverse, Cond.selects RX4 yX4_inverse yX4_inverse, Cond.code yX4_inverse cX4_inverse 3 (some .int), Cond.methodLink RX4 95 yX4_left, Cond.instanceMethod yX4_left, Cond.selects RX4 yX4_left yX4_left, Cond.code yX4_left cX4_left 2 (some .int)]
def wsX4_rank : List Cond := .code yX4_rank cX4_rank 1 (some .int) :: ((wsX4_rank_r1 ++ wsX4_rank_r2) ++ wsX40)
def wsX4_answers_r1 : List Cond := [Cond.fieldLink RX4 56 "LightRowsModel" "lamps" "I", Cond.fieldLink RX4 35 "LightRowsModel" "rest" "[I", Cond.fieldLink RX4 20 "LightRowsModel" "wanted" "[I", Cond.fieldLink RX4 60 "LightRowsModel" "p" "I", Cond.fieldLink RX4 16 "LightRowsModel" "states" "[I", Cond.fieldLink RX4 41 "LightRowsModel" "answer" "[I", Cond.fieldLink RX4 38 "LightRowsModel" "by" "[I", Cond.methodLink RX4 99 yX4_know, Cond.instanceMethod yX4_know, Cond.selects RX4 yX4_know yX4_know, Cond.initialized RX4, Cond.code yX4_know cX4_know 5 none, Cond.fieldLink RX4 74 "LightRowsModel" "isKnown" "Z", Cond.fieldLink RX4 85 "LightRowsModel" "rank" "I", Cond.fieldLink RX4 32 "LightRowsModel" "isBound" "[Z", Cond.fieldLink RX4 23 "LightRowsModel" "rows" "[I", Cond.fieldLink RX4 26 "LightRowsModel" "presses" "[I", Cond.fieldLink RX4 29 "LightRowsModel" "heads" "[I", Cond.fieldLink RX4 44 "LightRowsModel" "quiet" "[I", Cond.methodLink RX4 81 yX4_effect, Cond.instanceMethod yX4_effect, Cond.selects RX4 yX4_effect yX4_effect, Cond.code yX4_effect cX4_effect 3 (some .int), Cond.fieldLink RX4 13 "LightRowsModel" "isNotSelf" "[Z"]
def wsX4_answers_r2 : List Cond := [Cond.fieldLink RX4 7 "LightRowsModel" "joined" "[Z", Cond.methodLink RX4 92 yX4_takeApart, Cond.instanceMethod yX4_takeApart, Cond.selects RX4 yX4_takeApart yX4_takeApart, Cond.code yX4_takeApart cX4_takeApart 4 none, Cond.methodLink RX4 88 yX4_inverse, Cond.instanceMethod yX4_inverse, Cond.selects RX4 yX4_inverse yX4_inverse, Cond.code yX4_inverse cX4_inverse 3 (some .int), Cond.methodLink RX4 95 yX4_left, Cond.instanceMethod yX4_left, Cond.selects RX4 yX4_left yX4_left, Cond.code yX4_left cX4_left 2 (some .int)]
def wsX4_answers : List Cond := .code yX4_answers cX4_answers 2 (some .boolean) :: ((wsX4_answers_r1 ++ wsX4_answers_r2) ++ wsX40)
def wsX4_solvable_r1 : List Cond := [Cond.fieldLink RX4 63 "LightRowsModel" "thrown" "I", Cond.methodLink RX4 102 yX4_answers, Cond.instanceMethod yX4_answers, Cond.selects RX4 yX4_answers yX4_answers, Cond.initialized RX4, Cond.code yX4_answers cX4_answers 2 (some .boolean), Cond.fieldLink RX4 56 "LightRowsModel" "lamps" "I", Cond.fieldLink RX4 35 "LightRowsModel" "rest" "[I", Cond.fieldLink RX4 20 "LightRowsModel" "wanted" "[I", Cond.fieldLink RX4 60 "LightRowsModel" "p" "I", Cond.fieldLink RX4 16 "LightRowsModel" "states" "[I", Cond.fieldLink RX4 41 "LightRowsModel" "answer" "[I", Cond.fieldLink RX4 38 "LightRowsModel" "by" "[I", Cond.methodLink RX4 99 yX4_know, Cond.instanceMethod yX4_know, Cond.selects RX4 yX4_know yX4_know, Cond.code yX4_know cX4_know 5 none, Cond.fieldLink RX4 74 "LightRowsModel" "isKnown" "Z", Cond.fieldLink RX4 85 "LightRowsModel" "rank" "I", Cond.fieldLink RX4 32 "LightRowsModel" "isBound" "[Z", Cond.fieldLink RX4 23 "LightRowsModel" "rows" "[I", Cond.fieldLink RX4 26 "LightRowsModel" "presses" "[I", Cond.fieldLink RX4 29 "LightRowsModel" "heads" "[I", Cond.fieldLink RX4 44 "LightRowsModel" "quiet" "[I"]
def wsX4_solvable_r2 : List Cond := [Cond.methodLink RX4 81 yX4_effect, Cond.instanceMethod yX4_effect, Cond.selects RX4 yX4_effect yX4_effect, Cond.code yX4_effect cX4_effect 3 (some .int), Cond.fieldLink RX4 13 "LightRowsModel" "isNotSelf" "[Z", Cond.fieldLink RX4 7 "LightRowsModel" "joined" "[Z", Cond.methodLink RX4 92 yX4_takeApart, Cond.instanceMethod yX4_takeApart, Cond.selects RX4 yX4_takeApart yX4_takeApart, Cond.code yX4_takeApart cX4_takeApart 4 none, Cond.methodLink RX4 88 yX4_inverse, Cond.instanceMethod yX4_inverse, Cond.selects RX4 yX4_inverse yX4_inverse, Cond.code yX4_inverse cX4_inverse 3 (some .int), Cond.methodLink RX4 95 yX4_left, Cond.instanceMethod yX4_left, Cond.selects RX4 yX4_left yX4_left, Cond.code yX4_left cX4_left 2 (some .int)]
def wsX4_solvable : List Cond := .code yX4_solvable cX4_solvable 1 (some .boolean) :: ((wsX4_solvable_r1 ++ wsX4_solvable_r2) ++ wsX40)
def wsX4_answer_r1 : List Cond := [Cond.fieldLink RX4 41 "LightRowsModel" "answer" "[I", Cond.methodLink RX4 66 yX4_isLamp, Cond.instanceMethod yX4_isLamp, Cond.selects RX4 yX4_isLamp yX4_isLamp, Cond.initialized RX4, Cond.code yX4_isLamp cX4_isLamp 2 (some .boolean), Cond.fieldLink RX4 56 "LightRowsModel" "lamps" "I", Cond.methodLink RX4 70 yX4_fails, Cond.instanceMethod yX4_fails, Cond.selects RX4 yX4_fails yX4_fails, Cond.code yX4_fails cX4_fails 2 (some .boolean), Cond.fieldLink RX4 63 "LightRowsModel" "thrown" "I", Cond.methodLink RX4 102 yX4_answers, Cond.instanceMethod yX4_answers, Cond.selects RX4 yX4_answers yX4_answers, Cond.code yX4_answers cX4_answers 2 (some .boolean), Cond.fieldLink RX4 35 "LightRowsModel" "rest" "[I", Cond.fieldLink RX4 20 "LightRowsModel" "wanted" "[I", Cond.fieldLink RX4 60 "LightRowsModel" "p" "I", Cond.fieldLink RX4 16 "LightRowsModel" "states" "[I", Cond.fieldLink RX4 38 "LightRowsModel" "by" "[I", Cond.methodLink RX4 99 yX4_know, Cond.instanceMethod yX4_know, Cond.selects RX4 yX4_know yX4_know]
def wsX4_answer_r2 : List Cond := [Cond.code yX4_know cX4_know 5 none, Cond.fieldLink RX4 74 "LightRowsModel" "isKnown" "Z", Cond.fieldLink RX4 85 "LightRowsModel" "rank" "I", Cond.fieldLink RX4 32 "LightRowsModel" "isBound" "[Z", Cond.fieldLink RX4 23 "LightRowsModel" "rows" "[I", Cond.fieldLink RX4 26 "LightRowsModel" "presses" "[I", Cond.fieldLink RX4 29 "LightRowsModel" "heads" "[I", Cond.fieldLink RX4 44 "LightRowsModel" "quiet" "[I", Cond.methodLink RX4 81 yX4_effect, Cond.instanceMethod yX4_effect, Cond.selects RX4 yX4_effect yX4_effect, Cond.code yX4_effect cX4_effect 3 (some .int), Cond.fieldLink RX4 13 "LightRowsModel" "isNotSelf" "[Z", Cond.fieldLink RX4 7 "LightRowsModel" "joined" "[Z", Cond.methodLink RX4 92 yX4_takeApart, Cond.instanceMethod yX4_takeApart, Cond.selects RX4 yX4_takeApart yX4_takeApart, Cond.code yX4_takeApart cX4_takeApart 4 none, Cond.methodLink RX4 88 yX4_inverse, Cond.instanceMethod yX4_inverse, Cond.selects RX4 yX4_inverse yX4_inverse, Cond.code yX4_inverse cX4_inverse 3 (some .int), Cond.methodLink RX4 95 yX4_left, Cond.instanceMethod yX4_left]
def wsX4_answer_r3 : List Cond := [Cond.selects RX4 yX4_left yX4_left, Cond.code yX4_left cX4_left 2 (some .int)]
def wsX4_answer : List Cond := .code yX4_answer cX4_answer 2 (some .int) :: ((wsX4_answer_r1 ++ (wsX4_answer_r2 ++ wsX4_answer_r3)) ++ wsX40)
def wsX4_quiet_r1 : List Cond := [Cond.fieldLink RX4 56 "LightRowsModel" "lamps" "I", Cond.fieldLink RX4 85 "LightRowsModel" "rank" "I", Cond.fieldLink RX4 44 "LightRowsModel" "quiet" "[I", Cond.methodLink RX4 66 yX4_isLamp, Cond.instanceMethod yX4_isLamp, Cond.selects RX4 yX4_isLamp yX4_isLamp, Cond.initialized RX4, Cond.code yX4_isLamp cX4_isLamp 2 (some .boolean), Cond.methodLink RX4 70 yX4_fails, Cond.instanceMethod yX4_fails, Cond.selects RX4 yX4_fails yX4_fails, Cond.code yX4_fails cX4_fails 2 (some .boolean), Cond.fieldLink RX4 63 "LightRowsModel" "thrown" "I", Cond.methodLink RX4 99 yX4_know, Cond.instanceMethod yX4_know, Cond.selects RX4 yX4_know yX4_know, Cond.code yX4_know cX4_know 5 none, Cond.fieldLink RX4 74 "LightRowsModel" "isKnown" "Z", Cond.fieldLink RX4 35 "LightRowsModel" "rest" "[I", Cond.fieldLink RX4 32 "LightRowsModel" "isBound" "[Z", Cond.fieldLink RX4 23 "LightRowsModel" "rows" "[I", Cond.fieldLink RX4 26 "LightRowsModel" "presses" "[I", Cond.fieldLink RX4 60 "LightRowsModel" "p" "I", Cond.fieldLink RX4 38 "LightRowsModel" "by" "[I"]
def wsX4_quiet_r2 : List Cond := [Cond.fieldLink RX4 29 "LightRowsModel" "heads" "[I", Cond.methodLink RX4 81 yX4_effect, Cond.instanceMethod yX4_effect, Cond.selects RX4 yX4_effect yX4_effect, Cond.code yX4_effect cX4_effect 3 (some .int), Cond.fieldLink RX4 13 "LightRowsModel" "isNotSelf" "[Z", Cond.fieldLink RX4 7 "LightRowsModel" "joined" "[Z", Cond.methodLink RX4 92 yX4_takeApart, Cond.instanceMethod yX4_takeApart, Cond.selects RX4 yX4_takeApart yX4_takeApart, Cond.code yX4_takeApart cX4_takeApart 4 none, Cond.methodLink RX4 88 yX4_inverse, Cond.instanceMethod yX4_inverse, Cond.selects RX4 yX4_inverse yX4_inverse, Cond.code yX4_inverse cX4_inverse 3 (some .int), Cond.methodLink RX4 95 yX4_left, Cond.instanceMethod yX4_left, Cond.selects RX4 yX4_left yX4_left, Cond.code yX4_left cX4_left 2 (some .int)]
def wsX4_quiet : List Cond := .code yX4_quiet cX4_quiet 3 (some .int) :: ((wsX4_quiet_r1 ++ wsX4_quiet_r2) ++ wsX40)
def wsX4_count_r1 : List Cond := [Cond.fieldLink RX4 63 "LightRowsModel" "thrown" "I", Cond.fieldLink RX4 53 "LightRowsModel" "digits" "[I", Cond.fieldLink RX4 56 "LightRowsModel" "lamps" "I", Cond.fieldLink RX4 85 "LightRowsModel" "rank" "I", Cond.fieldLink RX4 60 "LightRowsModel" "p" "I", Cond.methodLink RX4 102 yX4_answers, Cond.instanceMethod yX4_answers, Cond.selects RX4 yX4_answers yX4_answers, Cond.initialized RX4, Cond.code yX4_answers cX4_answers 2 (some .boolean), Cond.fieldLink RX4 35 "LightRowsModel" "rest" "[I", Cond.fieldLink RX4 20 "LightRowsModel" "wanted" "[I", Cond.fieldLink RX4 16 "LightRowsModel" "states" "[I", Cond.fieldLink RX4 41 "LightRowsModel" "answer" "[I", Cond.fieldLink RX4 38 "LightRowsModel" "by" "[I", Cond.methodLink RX4 99 yX4_know, Cond.instanceMethod yX4_know, Cond.selects RX4 yX4_know yX4_know, Cond.code yX4_know cX4_know 5 none, Cond.fieldLink RX4 74 "LightRowsModel" "isKnown" "Z", Cond.fieldLink RX4 32 "LightRowsModel" "isBound" "[Z", Cond.fieldLink RX4 23 "LightRowsModel" "rows" "[I", Cond.fieldLink RX4 26 "LightRowsModel" "presses" "[I", Cond.fieldLink RX4 29 "LightRowsModel" "heads" "[I"]
def wsX4_count_r2 : List Cond := [Cond.fieldLink RX4 44 "LightRowsModel" "quiet" "[I", Cond.methodLink RX4 81 yX4_effect, Cond.instanceMethod yX4_effect, Cond.selects RX4 yX4_effect yX4_effect, Cond.code yX4_effect cX4_effect 3 (some .int), Cond.fieldLink RX4 13 "LightRowsModel" "isNotSelf" "[Z", Cond.fieldLink RX4 7 "LightRowsModel" "joined" "[Z", Cond.methodLink RX4 92 yX4_takeApart, Cond.instanceMethod yX4_takeApart, Cond.selects RX4 yX4_takeApart yX4_takeApart, Cond.code yX4_takeApart cX4_takeApart 4 none, Cond.methodLink RX4 88 yX4_inverse, Cond.instanceMethod yX4_inverse, Cond.selects RX4 yX4_inverse yX4_inverse, Cond.code yX4_inverse cX4_inverse 3 (some .int), Cond.methodLink RX4 95 yX4_left, Cond.instanceMethod yX4_left, Cond.selects RX4 yX4_left yX4_left, Cond.code yX4_left cX4_left 2 (some .int)]
def wsX4_count : List Cond := .code yX4_count cX4_count 8 (some .int) :: ((wsX4_count_r1 ++ wsX4_count_r2) ++ wsX40)
def wsX4_tryWay : List Cond := .code yX4_tryWay cX4_tryWay 6 (some .int) :: ([.fieldLink RX4 56 "LightRowsModel" "lamps" "I", .fieldLink RX4 50 "LightRowsModel" "tried" "[I", .fieldLink RX4 41 "LightRowsModel" "answer" "[I", .fieldLink RX4 60 "LightRowsModel" "p" "I", .fieldLink RX4 44 "LightRowsModel" "quiet" "[I"] ++ wsX40)
def wsX4_isLess : List Cond := .code yX4_isLess cX4_isLess 2 (some .boolean) :: ([.fieldLink RX4 56 "LightRowsModel" "lamps" "I", .fieldLink RX4 50 "LightRowsModel" "tried" "[I", .fieldLink RX4 47 "LightRowsModel" "best" "[I"] ++ wsX40)
def wsX4_findBest_r1 : List Cond := [Cond.fieldLink RX4 56 "LightRowsModel" "lamps" "I", Cond.fieldLink RX4 85 "LightRowsModel" "rank" "I", Cond.fieldLink RX4 60 "LightRowsModel" "p" "I", Cond.fieldLink RX4 47 "LightRowsModel" "best" "[I", Cond.fieldLink RX4 50 "LightRowsModel" "tried" "[I", Cond.methodLink RX4 102 yX4_answers, Cond.instanceMethod yX4_answers, Cond.selects RX4 yX4_answers yX4_answers, Cond.initialized RX4, Cond.code yX4_answers cX4_answers 2 (some .boolean), Cond.fieldLink RX4 35 "LightRowsModel" "rest" "[I", Cond.fieldLink RX4 20 "LightRowsModel" "wanted" "[I", Cond.fieldLink RX4 16 "LightRowsModel" "states" "[I", Cond.fieldLink RX4 41 "LightRowsModel" "answer" "[I", Cond.fieldLink RX4 38 "LightRowsModel" "by" "[I", Cond.methodLink RX4 99 yX4_know, Cond.instanceMethod yX4_know, Cond.selects RX4 yX4_know yX4_know, Cond.code yX4_know cX4_know 5 none, Cond.fieldLink RX4 74 "LightRowsModel" "isKnown" "Z", Cond.fieldLink RX4 32 "LightRowsModel" "isBound" "[Z", Cond.fieldLink RX4 23 "LightRowsModel" "rows" "[I", Cond.fieldLink RX4 26 "LightRowsModel" "presses" "[I", Cond.fieldLink RX4 29 "LightRowsModel" "heads" "[I"]
def wsX4_findBest_r2 : List Cond := [Cond.fieldLink RX4 44 "LightRowsModel" "quiet" "[I", Cond.methodLink RX4 81 yX4_effect, Cond.instanceMethod yX4_effect, Cond.selects RX4 yX4_effect yX4_effect, Cond.code yX4_effect cX4_effect 3 (some .int), Cond.fieldLink RX4 13 "LightRowsModel" "isNotSelf" "[Z", Cond.fieldLink RX4 7 "LightRowsModel" "joined" "[Z", Cond.methodLink RX4 92 yX4_takeApart, Cond.instanceMethod yX4_takeApart, Cond.selects RX4 yX4_takeApart yX4_takeApart, Cond.code yX4_takeApart cX4_takeApart 4 none, Cond.methodLink RX4 88 yX4_inverse, Cond.instanceMethod yX4_inverse, Cond.selects RX4 yX4_inverse yX4_inverse, Cond.code yX4_inverse cX4_inverse 3 (some .int), Cond.methodLink RX4 95 yX4_left, Cond.instanceMethod yX4_left, Cond.selects RX4 yX4_left yX4_left, Cond.code yX4_left cX4_left 2 (some .int), Cond.methodLink RX4 106 yX4_tryWay, Cond.instanceMethod yX4_tryWay, Cond.selects RX4 yX4_tryWay yX4_tryWay, Cond.code yX4_tryWay cX4_tryWay 6 (some .int), Cond.methodLink RX4 109 yX4_isLess]
def wsX4_findBest_r3 : List Cond := [Cond.instanceMethod yX4_isLess, Cond.selects RX4 yX4_isLess yX4_isLess, Cond.code yX4_isLess cX4_isLess 2 (some .boolean)]
def wsX4_findBest : List Cond := .code yX4_findBest cX4_findBest 6 (some .int) :: ((wsX4_findBest_r1 ++ (wsX4_findBest_r2 ++ wsX4_findBest_r3)) ++ wsX40)
def wsX4_fewest_r1 : List Cond := [Cond.fieldLink RX4 63 "LightRowsModel" "thrown" "I", Cond.methodLink RX4 112 yX4_findBest, Cond.instanceMethod yX4_findBest, Cond.selects RX4 yX4_findBest yX4_findBest, Cond.initialized RX4, Cond.code yX4_findBest cX4_findBest 6 (some .int), Cond.fieldLink RX4 56 "LightRowsModel" "lamps" "I", Cond.fieldLink RX4 85 "LightRowsModel" "rank" "I", Cond.fieldLink RX4 60 "LightRowsModel" "p" "I", Cond.fieldLink RX4 47 "LightRowsModel" "best" "[I", Cond.fieldLink RX4 50 "LightRowsModel" "tried" "[I", Cond.methodLink RX4 102 yX4_answers, Cond.instanceMethod yX4_answers, Cond.selects RX4 yX4_answers yX4_answers, Cond.code yX4_answers cX4_answers 2 (some .boolean), Cond.fieldLink RX4 35 "LightRowsModel" "rest" "[I", Cond.fieldLink RX4 20 "LightRowsModel" "wanted" "[I", Cond.fieldLink RX4 16 "LightRowsModel" "states" "[I", Cond.fieldLink RX4 41 "LightRowsModel" "answer" "[I", Cond.fieldLink RX4 38 "LightRowsModel" "by" "[I", Cond.methodLink RX4 99 yX4_know, Cond.instanceMethod yX4_know, Cond.selects RX4 yX4_know yX4_know, Cond.code yX4_know cX4_know 5 none]
def wsX4_fewest_r2 : List Cond := [Cond.fieldLink RX4 74 "LightRowsModel" "isKnown" "Z", Cond.fieldLink RX4 32 "LightRowsModel" "isBound" "[Z", Cond.fieldLink RX4 23 "LightRowsModel" "rows" "[I", Cond.fieldLink RX4 26 "LightRowsModel" "presses" "[I", Cond.fieldLink RX4 29 "LightRowsModel" "heads" "[I", Cond.fieldLink RX4 44 "LightRowsModel" "quiet" "[I", Cond.methodLink RX4 81 yX4_effect, Cond.instanceMethod yX4_effect, Cond.selects RX4 yX4_effect yX4_effect, Cond.code yX4_effect cX4_effect 3 (some .int), Cond.fieldLink RX4 13 "LightRowsModel" "isNotSelf" "[Z", Cond.fieldLink RX4 7 "LightRowsModel" "joined" "[Z", Cond.methodLink RX4 92 yX4_takeApart, Cond.instanceMethod yX4_takeApart, Cond.selects RX4 yX4_takeApart yX4_takeApart, Cond.code yX4_takeApart cX4_takeApart 4 none, Cond.methodLink RX4 88 yX4_inverse, Cond.instanceMethod yX4_inverse, Cond.selects RX4 yX4_inverse yX4_inverse, Cond.code yX4_inverse cX4_inverse 3 (some .int), Cond.methodLink RX4 95 yX4_left, Cond.instanceMethod yX4_left, Cond.selects RX4 yX4_left yX4_left, Cond.code yX4_left cX4_left 2 (some .int)]
def wsX4_fewest_r3 : List Cond := [Cond.methodLink RX4 106 yX4_tryWay, Cond.instanceMethod yX4_tryWay, Cond.selects RX4 yX4_tryWay yX4_tryWay, Cond.code yX4_tryWay cX4_tryWay 6 (some .int), Cond.methodLink RX4 109 yX4_isLess, Cond.instanceMethod yX4_isLess, Cond.selects RX4 yX4_isLess yX4_isLess, Cond.code yX4_isLess cX4_isLess 2 (some .boolean)]
def wsX4_fewest : List Cond := .code yX4_fewest cX4_fewest 1 (some .int) :: ((wsX4_fewest_r1 ++ (wsX4_fewest_r2 ++ wsX4_fewest_r3)) ++ wsX40)
def wsX4_best_r1 : List Cond := [Cond.fieldLink RX4 47 "LightRowsModel" "best" "[I", Cond.methodLink RX4 66 yX4_isLamp, Cond.instanceMethod yX4_isLamp, Cond.selects RX4 yX4_isLamp yX4_isLamp, Cond.initialized RX4, Cond.code yX4_isLamp cX4_isLamp 2 (some .boolean), Cond.fieldLink RX4 56 "LightRowsModel" "lamps" "I", Cond.methodLink RX4 70 yX4_fails, Cond.instanceMethod yX4_fails, Cond.selects RX4 yX4_fails yX4_fails, Cond.code yX4_fails cX4_fails 2 (some .boolean), Cond.fieldLink RX4 63 "LightRowsModel" "thrown" "I", Cond.methodLink RX4 112 yX4_findBest, Cond.instanceMethod yX4_findBest, Cond.selects RX4 yX4_findBest yX4_findBest, Cond.code yX4_findBest cX4_findBest 6 (some .int), Cond.fieldLink RX4 85 "LightRowsModel" "rank" "I", Cond.fieldLink RX4 60 "LightRowsModel" "p" "I", Cond.fieldLink RX4 50 "LightRowsModel" "tried" "[I", Cond.methodLink RX4 102 yX4_answers, Cond.instanceMethod yX4_answers, Cond.selects RX4 yX4_answers yX4_answers, Cond.code yX4_answers cX4_answers 2 (some .boolean), Cond.fieldLink RX4 35 "LightRowsModel" "rest" "[I"]
def wsX4_best_r2 : List Cond := [Cond.fieldLink RX4 20 "LightRowsModel" "wanted" "[I", Cond.fieldLink RX4 16 "LightRowsModel" "states" "[I", Cond.fieldLink RX4 41 "LightRowsModel" "answer" "[I", Cond.fieldLink RX4 38 "LightRowsModel" "by" "[I", Cond.methodLink RX4 99 yX4_know, Cond.instanceMethod yX4_know, Cond.selects RX4 yX4_know yX4_know, Cond.code yX4_know cX4_know 5 none, Cond.fieldLink RX4 74 "LightRowsModel" "isKnown" "Z", Cond.fieldLink RX4 32 "LightRowsModel" "isBound" "[Z", Cond.fieldLink RX4 23 "LightRowsModel" "rows" "[I", Cond.fieldLink RX4 26 "LightRowsModel" "presses" "[I", Cond.fieldLink RX4 29 "LightRowsModel" "heads" "[I", Cond.fieldLink RX4 44 "LightRowsModel" "quiet" "[I", Cond.methodLink RX4 81 yX4_effect, Cond.instanceMethod yX4_effect, Cond.selects RX4 yX4_effect yX4_effect, Cond.code yX4_effect cX4_effect 3 (some .int), Cond.fieldLink RX4 13 "LightRowsModel" "isNotSelf" "[Z", Cond.fieldLink RX4 7 "LightRowsModel" "joined" "[Z", Cond.methodLink RX4 92 yX4_takeApart, Cond.instanceMethod yX4_takeApart, Cond.selects RX4 yX4_takeApart yX4_takeApart, Cond.code yX4_takeApart cX4_takeApart 4 none]
def wsX4_best_r3 : List Cond := [Cond.methodLink RX4 88 yX4_inverse, Cond.instanceMethod yX4_inverse, Cond.selects RX4 yX4_inverse yX4_inverse, Cond.code yX4_inverse cX4_inverse 3 (some .int), Cond.methodLink RX4 95 yX4_left, Cond.instanceMethod yX4_left, Cond.selects RX4 yX4_left yX4_left, Cond.code yX4_left cX4_left 2 (some .int), Cond.methodLink RX4 106 yX4_tryWay, Cond.instanceMethod yX4_tryWay, Cond.selects RX4 yX4_tryWay yX4_tryWay, Cond.code yX4_tryWay cX4_tryWay 6 (some .int), Cond.methodLink RX4 109 yX4_isLess, Cond.instanceMethod yX4_isLess, Cond.selects RX4 yX4_isLess yX4_isLess, Cond.code yX4_isLess cX4_isLess 2 (some .boolean)]
def wsX4_best : List Cond := .code yX4_best cX4_best 3 (some .int) :: ((wsX4_best_r1 ++ (wsX4_best_r2 ++ wsX4_best_r3)) ++ wsX40)
def wsX4_alone_r1 : List Cond := [Cond.fieldLink RX4 56 "LightRowsModel" "lamps" "I", Cond.fieldLink RX4 35 "LightRowsModel" "rest" "[I", Cond.methodLink RX4 66 yX4_isLamp, Cond.instanceMethod yX4_isLamp, Cond.selects RX4 yX4_isLamp yX4_isLamp, Cond.initialized RX4, Cond.code yX4_isLamp cX4_isLamp 2 (some .boolean), Cond.methodLink RX4 70 yX4_fails, Cond.instanceMethod yX4_fails, Cond.selects RX4 yX4_fails yX4_fails, Cond.code yX4_fails cX4_fails 2 (some .boolean), Cond.fieldLink RX4 63 "LightRowsModel" "thrown" "I", Cond.methodLink RX4 99 yX4_know, Cond.instanceMethod yX4_know, Cond.selects RX4 yX4_know yX4_know, Cond.code yX4_know cX4_know 5 none, Cond.fieldLink RX4 74 "LightRowsModel" "isKnown" "Z", Cond.fieldLink RX4 85 "LightRowsModel" "rank" "I", Cond.fieldLink RX4 32 "LightRowsModel" "isBound" "[Z", Cond.fieldLink RX4 23 "LightRowsModel" "rows" "[I", Cond.fieldLink RX4 26 "LightRowsModel" "presses" "[I", Cond.fieldLink RX4 60 "LightRowsModel" "p" "I", Cond.fieldLink RX4 38 "LightRowsModel" "by" "[I", Cond.fieldLink RX4 29 "LightRowsModel" "heads" "[I"]
def wsX4_alone_r2 : List Cond := [Cond.fieldLink RX4 44 "LightRowsModel" "quiet" "[I", Cond.methodLink RX4 81 yX4_effect, Cond.instanceMethod yX4_effect, Cond.selects RX4 yX4_effect yX4_effect, Cond.code yX4_effect cX4_effect 3 (some .int), Cond.fieldLink RX4 13 "LightRowsModel" "isNotSelf" "[Z", Cond.fieldLink RX4 7 "LightRowsModel" "joined" "[Z", Cond.methodLink RX4 92 yX4_takeApart, Cond.instanceMethod yX4_takeApart, Cond.selects RX4 yX4_takeApart yX4_takeApart, Cond.code yX4_takeApart cX4_takeApart 4 none, Cond.methodLink RX4 88 yX4_inverse, Cond.instanceMethod yX4_inverse, Cond.selects RX4 yX4_inverse yX4_inverse, Cond.code yX4_inverse cX4_inverse 3 (some .int), Cond.methodLink RX4 95 yX4_left, Cond.instanceMethod yX4_left, Cond.selects RX4 yX4_left yX4_left, Cond.code yX4_left cX4_left 2 (some .int)]
def wsX4_alone : List Cond := .code yX4_alone cX4_alone 3 (some .boolean) :: ((wsX4_alone_r1 ++ wsX4_alone_r2) ++ wsX40)
def wsJx00060_init_a7421 : List Cond := .code yJx00060_init_a7421 cJx00060_init_a7421 2 none :: ([])
def wsJ9_max_7cf53 : List Cond := .code yJ9_max_7cf53 cJ9_max_7cf53 2 (some .int) :: ([])
def wsJ9_min_7cf53 : List Cond := .code yJ9_min_7cf53 cJ9_min_7cf53 2 (some .int) :: ([])
def wsL_cell : List Cond := .code yL_cell cL_cell 2 (some .int) :: ([])
def wsL_join : List Cond := .codeWith yL_join cL_join 5 (some .int) [(0, 17, 20, 13)] :: ([.methodLink RL 7 yX3_join, .instanceMethod yX3_join, .selects RX3 yX3_join yX3_join, .initialized RX3, .code yX3_join cX3_join 3 (some .boolean), .fieldLink RX3 36 "LightRows" "touched" "[I", .methodLink RX3 69 yX3_mustExist, .instanceMethod yX3_mustExist, .selects RX3 yX3_mustExist yX3_mustExist, .code yX3_mustExist cX3_mustExist 2 none, .fieldLink RX3 18 "LightRows" "lamps" "I", .classLink RX3 123 RJx00060, .instantiable RJx00060 6, .initialized RJx00060, .methodLink RX3 73 yX3_touches, .instanceMethod yX3_touches, .selects RX3 yX3_touches yX3_touches, .code yX3_touches cX3_touches 3 (some .boolean), .methodLink RX3 77 yX3_forget, .instanceMethod yX3_forget, .selects RX3 yX3_forget yX3_forget, .code yX3_forget cX3_forget 1 none, .fieldLink RX3 62 "LightRows" "worked" "Z", .fieldLink RX3 66 "LightRows" "searched" "Z"] ++ wsX30 ++ wsJx000600)
def wsL_self : List Cond := .codeWith yL_self cL_self 5 (some .int) [(0, 17, 20, 13)] :: ([.methodLink RL 15 yX3_self, .instanceMethod yX3_self, .selects RX3 yX3_self yX3_self, .initialized RX3, .code yX3_self cX3_self 3 (some .boolean), .fieldLink RX3 36 "LightRows" "touched" "[I", .methodLink RX3 69 yX3_mustExist, .instanceMethod yX3_mustExist, .selects RX3 yX3_mustExist yX3_mustExist, .code yX3_mustExist cX3_mustExist 2 none, .fieldLink RX3 18 "LightRows" "lamps" "I", .classLink RX3 123 RJx00060, .instantiable RJx00060 6, .initialized RJx00060, .methodLink RX3 73 yX3_touches, .instanceMethod yX3_touches, .selects RX3 yX3_touches yX3_touches, .code yX3_touches cX3_touches 3 (some .boolean), .methodLink RX3 77 yX3_forget, .instanceMethod yX3_forget, .selects RX3 yX3_forget yX3_forget, .code yX3_forget cX3_forget 1 none, .fieldLink RX3 62 "LightRows" "worked" "Z", .fieldLink RX3 66 "LightRows" "searched" "Z"] ++ wsX30 ++ wsJx000600)
def wsL_set_r1 : List Cond := [Cond.methodLink RL 19 yX3_set, Cond.instanceMethod yX3_set, Cond.selects RX3 yX3_set yX3_set, Cond.initialized RX3, Cond.code yX3_set cX3_set 3 (some .boolean), Cond.fieldLink RX3 29 "LightRows" "now" "[I", Cond.methodLink RX3 69 yX3_mustExist, Cond.instanceMethod yX3_mustExist, Cond.selects RX3 yX3_mustExist yX3_mustExist, Cond.code yX3_mustExist cX3_mustExist 2 none, Cond.fieldLink RX3 18 "LightRows" "lamps" "I", Cond.classLink RX3 123 RJx00060, Cond.instantiable RJx00060 6, Cond.initialized RJx00060, Cond.methodLink RX3 80 yX3_isState, Cond.instanceMethod yX3_isState, Cond.selects RX3 yX3_isState yX3_isState, Cond.code yX3_isState cX3_isState 2 (some .boolean), Cond.fieldLink RX3 26 "LightRows" "states" "I", Cond.methodLink RX3 77 yX3_forget, Cond.instanceMethod yX3_forget, Cond.selects RX3 yX3_forget yX3_forget, Cond.code yX3_forget cX3_forget 1 none, Cond.fieldLink RX3 62 "LightRows" "worked" "Z"]
def wsL_set_r2 : List Cond := [Cond.fieldLink RX3 66 "LightRows" "searched" "Z"]
def wsL_set : List Cond := .codeWith yL_set cL_set 5 (some .int) [(0, 17, 20, 13)] :: ((wsL_set_r1 ++ wsL_set_r2) ++ wsX30 ++ wsJx000600)
def wsL_want_r1 : List Cond := [Cond.methodLink RL 22 yX3_want, Cond.instanceMethod yX3_want, Cond.selects RX3 yX3_want yX3_want, Cond.initialized RX3, Cond.code yX3_want cX3_want 3 (some .boolean), Cond.fieldLink RX3 33 "LightRows" "wanted" "[I", Cond.methodLink RX3 69 yX3_mustExist, Cond.instanceMethod yX3_mustExist, Cond.selects RX3 yX3_mustExist yX3_mustExist, Cond.code yX3_mustExist cX3_mustExist 2 none, Cond.fieldLink RX3 18 "LightRows" "lamps" "I", Cond.classLink RX3 123 RJx00060, Cond.instantiable RJx00060 6, Cond.initialized RJx00060, Cond.methodLink RX3 80 yX3_isState, Cond.instanceMethod yX3_isState, Cond.selects RX3 yX3_isState yX3_isState, Cond.code yX3_isState cX3_isState 2 (some .boolean), Cond.fieldLink RX3 26 "LightRows" "states" "I", Cond.methodLink RX3 77 yX3_forget, Cond.instanceMethod yX3_forget, Cond.selects RX3 yX3_forget yX3_forget, Cond.code yX3_forget cX3_forget 1 none, Cond.fieldLink RX3 62 "LightRows" "worked" "Z"]
def wsL_want_r2 : List Cond := [Cond.fieldLink RX3 66 "LightRows" "searched" "Z"]
def wsL_want : List Cond := .codeWith yL_want cL_want 5 (some .int) [(0, 17, 20, 13)] :: ((wsL_want_r1 ++ wsL_want_r2) ++ wsX30 ++ wsJx000600)
def wsL_press_r1 : List Cond := [Cond.methodLink RL 25 yX3_press, Cond.instanceMethod yX3_press, Cond.selects RX3 yX3_press yX3_press, Cond.initialized RX3, Cond.code yX3_press cX3_press 4 (some .boolean), Cond.fieldLink RX3 18 "LightRows" "lamps" "I", Cond.fieldLink RX3 29 "LightRows" "now" "[I", Cond.fieldLink RX3 26 "LightRows" "states" "I", Cond.methodLink RX3 69 yX3_mustExist, Cond.instanceMethod yX3_mustExist, Cond.selects RX3 yX3_mustExist yX3_mustExist, Cond.code yX3_mustExist cX3_mustExist 2 none, Cond.classLink RX3 123 RJx00060, Cond.instantiable RJx00060 6, Cond.initialized RJx00060, Cond.methodLink RX3 73 yX3_touches, Cond.instanceMethod yX3_touches, Cond.selects RX3 yX3_touches yX3_touches, Cond.code yX3_touches cX3_touches 3 (some .boolean), Cond.fieldLink RX3 36 "LightRows" "touched" "[I", Cond.methodLink RX3 77 yX3_forget, Cond.instanceMethod yX3_forget, Cond.selects RX3 yX3_forget yX3_forget, Cond.code yX3_forget cX3_forget 1 none]
def wsL_press_r2 : List Cond := [Cond.fieldLink RX3 62 "LightRows" "worked" "Z", Cond.fieldLink RX3 66 "LightRows" "searched" "Z"]
def wsL_press : List Cond := .codeWith yL_press cL_press 5 (some .int) [(0, 17, 20, 13)] :: ((wsL_press_r1 ++ wsL_press_r2) ++ wsX30 ++ wsJx000600)
def wsL_at : List Cond := .codeWith yL_at cL_at 4 (some .int) [(0, 9, 12, 13)] :: ([.methodLink RL 28 yX3_at, .instanceMethod yX3_at, .selects RX3 yX3_at yX3_at, .initialized RX3, .code yX3_at cX3_at 2 (some .int), .fieldLink RX3 29 "LightRows" "now" "[I", .methodLink RX3 69 yX3_mustExist, .instanceMethod yX3_mustExist, .selects RX3 yX3_mustExist yX3_mustExist, .code yX3_mustExist cX3_mustExist 2 none, .fieldLink RX3 18 "LightRows" "lamps" "I", .classLink RX3 123 RJx00060, .instantiable RJx00060 6, .initialized RJx00060] ++ wsX30 ++ wsJx000600)
def wsL_answer_r1 : List Cond := [Cond.methodLink RL 32 yX3_answer, Cond.instanceMethod yX3_answer, Cond.selects RX3 yX3_answer yX3_answer, Cond.initialized RX3, Cond.code yX3_answer cX3_answer 2 (some .int), Cond.fieldLink RX3 44 "LightRows" "equations" "LLightRows$Equations;", Cond.methodLink RX3 69 yX3_mustExist, Cond.instanceMethod yX3_mustExist, Cond.selects RX3 yX3_mustExist yX3_mustExist, Cond.code yX3_mustExist cX3_mustExist 2 none, Cond.fieldLink RX3 18 "LightRows" "lamps" "I", Cond.classLink RX3 123 RJx00060, Cond.instantiable RJx00060 6, Cond.initialized RJx00060, Cond.methodLink RX3 84 yX3_work, Cond.instanceMethod yX3_work, Cond.selects RX3 yX3_work yX3_work, Cond.code yX3_work cX3_work 1 none, Cond.fieldLink RX3 62 "LightRows" "worked" "Z", Cond.fieldLink RX3 36 "LightRows" "touched" "[I", Cond.fieldLink RX3 29 "LightRows" "now" "[I", Cond.fieldLink RX3 33 "LightRows" "wanted" "[I", Cond.methodLink RX3 130 yX1_take, Cond.instanceMethod yX1_take]
def wsL_answer_r2 : List Cond := [Cond.selects RX1 yX1_take yX1_take, Cond.initialized RX1, Cond.code yX1_take cX1_take 7 none, Cond.fieldLink RX1 9 "LightRows$Equations" "size" "I", Cond.fieldLink RX1 20 "LightRows$Equations" "rows" "[[I", Cond.fieldLink RX1 15 "LightRows$Equations" "modulus" "I", Cond.methodLink RX3 134 yX1_reduce, Cond.instanceMethod yX1_reduce, Cond.selects RX1 yX1_reduce yX1_reduce, Cond.code yX1_reduce cX1_reduce 3 none, Cond.fieldLink RX1 30 "LightRows$Equations" "bound" "I", Cond.fieldLink RX1 23 "LightRows$Equations" "rowOf" "[I", Cond.methodLink RX1 36 yX1_unusedRowWith, Cond.instanceMethod yX1_unusedRowWith, Cond.selects RX1 yX1_unusedRowWith yX1_unusedRowWith, Cond.code yX1_unusedRowWith cX1_unusedRowWith 3 (some .int), Cond.methodLink RX1 40 yX1_swap, Cond.instanceMethod yX1_swap, Cond.selects RX1 yX1_swap yX1_swap, Cond.code yX1_swap cX1_swap 4 none, Cond.methodLink RX1 44 yX1_makeUnit, Cond.instanceMethod yX1_makeUnit, Cond.selects RX1 yX1_makeUnit yX1_makeUnit, Cond.code yX1_makeUnit cX1_makeUnit 5 none]
def wsL_answer_r3 : List Cond := [Cond.methodLink RX1 58 yX1_inverse, Cond.instanceMethod yX1_inverse, Cond.selects RX1 yX1_inverse yX1_inverse, Cond.code yX1_inverse cX1_inverse 3 (some .int), Cond.methodLink RX1 48 yX1_clearElsewhere, Cond.instanceMethod yX1_clearElsewhere, Cond.selects RX1 yX1_clearElsewhere yX1_clearElsewhere, Cond.code yX1_clearElsewhere cX1_clearElsewhere 4 none, Cond.methodLink RX1 61 yX1_addMultiple, Cond.instanceMethod yX1_addMultiple, Cond.selects RX1 yX1_addMultiple yX1_addMultiple, Cond.code yX1_addMultiple cX1_addMultiple 5 none, Cond.methodLink RX1 51 yX1_readQuietPatterns, Cond.instanceMethod yX1_readQuietPatterns, Cond.selects RX1 yX1_readQuietPatterns yX1_readQuietPatterns, Cond.code yX1_readQuietPatterns cX1_readQuietPatterns 2 none, Cond.fieldLink RX1 33 "LightRows$Equations" "free" "I", Cond.fieldLink RX1 27 "LightRows$Equations" "quietPatterns" "[[I", Cond.methodLink RX1 65 yX1_readQuietPattern, Cond.instanceMethod yX1_readQuietPattern, Cond.selects RX1 yX1_readQuietPattern yX1_readQuietPattern, Cond.code yX1_readQuietPattern cX1_readQuietPattern 5 none, Cond.methodLink RX3 91 yX1_agree, Cond.instanceMethod yX1_agree]
def wsL_answer_r4 : List Cond := [Cond.selects RX1 yX1_agree yX1_agree, Cond.code yX1_agree cX1_agree 2 (some .boolean), Cond.methodLink RX3 95 yX1_pressesOf, Cond.instanceMethod yX1_pressesOf, Cond.selects RX1 yX1_pressesOf yX1_pressesOf, Cond.code yX1_pressesOf cX1_pressesOf 3 (some .int)]
def wsL_answer : List Cond := .codeWith yL_answer cL_answer 4 (some .int) [(0, 9, 12, 13)] :: ((wsL_answer_r1 ++ (wsL_answer_r2 ++ (wsL_answer_r3 ++ wsL_answer_r4))) ++ wsX30 ++ wsJx000600 ++ wsX10)
def wsL_quiet_r1 : List Cond := [Cond.methodLink RL 35 yX3_quiet, Cond.instanceMethod yX3_quiet, Cond.selects RX3 yX3_quiet yX3_quiet, Cond.initialized RX3, Cond.code yX3_quiet cX3_quiet 3 (some .int), Cond.fieldLink RX3 44 "LightRows" "equations" "LLightRows$Equations;", Cond.methodLink RX3 69 yX3_mustExist, Cond.instanceMethod yX3_mustExist, Cond.selects RX3 yX3_mustExist yX3_mustExist, Cond.code yX3_mustExist cX3_mustExist 2 none, Cond.fieldLink RX3 18 "LightRows" "lamps" "I", Cond.classLink RX3 123 RJx00060, Cond.instantiable RJx00060 6, Cond.initialized RJx00060, Cond.methodLink RX3 84 yX3_work, Cond.instanceMethod yX3_work, Cond.selects RX3 yX3_work yX3_work, Cond.code yX3_work cX3_work 1 none, Cond.fieldLink RX3 62 "LightRows" "worked" "Z", Cond.fieldLink RX3 36 "LightRows" "touched" "[I", Cond.fieldLink RX3 29 "LightRows" "now" "[I", Cond.fieldLink RX3 33 "LightRows" "wanted" "[I", Cond.methodLink RX3 130 yX1_take, Cond.instanceMethod yX1_take]
def wsL_quiet_r2 : List Cond := [Cond.selects RX1 yX1_take yX1_take, Cond.initialized RX1, Cond.code yX1_take cX1_take 7 none, Cond.fieldLink RX1 9 "LightRows$Equations" "size" "I", Cond.fieldLink RX1 20 "LightRows$Equations" "rows" "[[I", Cond.fieldLink RX1 15 "LightRows$Equations" "modulus" "I", Cond.methodLink RX3 134 yX1_reduce, Cond.instanceMethod yX1_reduce, Cond.selects RX1 yX1_reduce yX1_reduce, Cond.code yX1_reduce cX1_reduce 3 none, Cond.fieldLink RX1 30 "LightRows$Equations" "bound" "I", Cond.fieldLink RX1 23 "LightRows$Equations" "rowOf" "[I", Cond.methodLink RX1 36 yX1_unusedRowWith, Cond.instanceMethod yX1_unusedRowWith, Cond.selects RX1 yX1_unusedRowWith yX1_unusedRowWith, Cond.code yX1_unusedRowWith cX1_unusedRowWith 3 (some .int), Cond.methodLink RX1 40 yX1_swap, Cond.instanceMethod yX1_swap, Cond.selects RX1 yX1_swap yX1_swap, Cond.code yX1_swap cX1_swap 4 none, Cond.methodLink RX1 44 yX1_makeUnit, Cond.instanceMethod yX1_makeUnit, Cond.selects RX1 yX1_makeUnit yX1_makeUnit, Cond.code yX1_makeUnit cX1_makeUnit 5 none]
def wsL_quiet_r3 : List Cond := [Cond.methodLink RX1 58 yX1_inverse, Cond.instanceMethod yX1_inverse, Cond.selects RX1 yX1_inverse yX1_inverse, Cond.code yX1_inverse cX1_inverse 3 (some .int), Cond.methodLink RX1 48 yX1_clearElsewhere, Cond.instanceMethod yX1_clearElsewhere, Cond.selects RX1 yX1_clearElsewhere yX1_clearElsewhere, Cond.code yX1_clearElsewhere cX1_clearElsewhere 4 none, Cond.methodLink RX1 61 yX1_addMultiple, Cond.instanceMethod yX1_addMultiple, Cond.selects RX1 yX1_addMultiple yX1_addMultiple, Cond.code yX1_addMultiple cX1_addMultiple 5 none, Cond.methodLink RX1 51 yX1_readQuietPatterns, Cond.instanceMethod yX1_readQuietPatterns, Cond.selects RX1 yX1_readQuietPatterns yX1_readQuietPatterns, Cond.code yX1_readQuietPatterns cX1_readQuietPatterns 2 none, Cond.fieldLink RX1 33 "LightRows$Equations" "free" "I", Cond.fieldLink RX1 27 "LightRows$Equations" "quietPatterns" "[[I", Cond.methodLink RX1 65 yX1_readQuietPattern, Cond.instanceMethod yX1_readQuietPattern, Cond.selects RX1 yX1_readQuietPattern yX1_readQuietPattern, Cond.code yX1_readQuietPattern cX1_readQuietPattern 5 none, Cond.methodLink RX3 98 yX1_freeLamps, Cond.instanceMethod yX1_freeLamps]
def wsL_quiet_r4 : List Cond := [Cond.selects RX1 yX1_freeLamps yX1_freeLamps, Cond.code yX1_freeLamps cX1_freeLamps 1 (some .int), Cond.methodLink RX3 101 yX1_quietPattern, Cond.instanceMethod yX1_quietPattern, Cond.selects RX1 yX1_quietPattern yX1_quietPattern, Cond.code yX1_quietPattern cX1_quietPattern 2 (some (.array .int))]
def wsL_quiet : List Cond := .codeWith yL_quiet cL_quiet 5 (some .int) [(0, 10, 13, 13)] :: ((wsL_quiet_r1 ++ (wsL_quiet_r2 ++ (wsL_quiet_r3 ++ wsL_quiet_r4))) ++ wsX30 ++ wsJx000600 ++ wsX10)
def wsL_best_r1 : List Cond := [Cond.methodLink RL 39 yX3_best, Cond.instanceMethod yX3_best, Cond.selects RX3 yX3_best yX3_best, Cond.initialized RX3, Cond.code yX3_best cX3_best 2 (some .int), Cond.fieldLink RX3 51 "LightRows" "search" "LLightRows$Search;", Cond.methodLink RX3 69 yX3_mustExist, Cond.instanceMethod yX3_mustExist, Cond.selects RX3 yX3_mustExist yX3_mustExist, Cond.code yX3_mustExist cX3_mustExist 2 none, Cond.fieldLink RX3 18 "LightRows" "lamps" "I", Cond.classLink RX3 123 RJx00060, Cond.instantiable RJx00060 6, Cond.initialized RJx00060, Cond.methodLink RX3 114 yX3_seek, Cond.instanceMethod yX3_seek, Cond.selects RX3 yX3_seek yX3_seek, Cond.code yX3_seek cX3_seek 1 none, Cond.fieldLink RX3 66 "LightRows" "searched" "Z", Cond.fieldLink RX3 44 "LightRows" "equations" "LLightRows$Equations;", Cond.methodLink RX3 84 yX3_work, Cond.instanceMethod yX3_work, Cond.selects RX3 yX3_work yX3_work, Cond.code yX3_work cX3_work 1 none]
def wsL_best_r2 : List Cond := [Cond.fieldLink RX3 62 "LightRows" "worked" "Z", Cond.fieldLink RX3 36 "LightRows" "touched" "[I", Cond.fieldLink RX3 29 "LightRows" "now" "[I", Cond.fieldLink RX3 33 "LightRows" "wanted" "[I", Cond.methodLink RX3 130 yX1_take, Cond.instanceMethod yX1_take, Cond.selects RX1 yX1_take yX1_take, Cond.initialized RX1, Cond.code yX1_take cX1_take 7 none, Cond.fieldLink RX1 9 "LightRows$Equations" "size" "I", Cond.fieldLink RX1 20 "LightRows$Equations" "rows" "[[I", Cond.fieldLink RX1 15 "LightRows$Equations" "modulus" "I", Cond.methodLink RX3 134 yX1_reduce, Cond.instanceMethod yX1_reduce, Cond.selects RX1 yX1_reduce yX1_reduce, Cond.code yX1_reduce cX1_reduce 3 none, Cond.fieldLink RX1 30 "LightRows$Equations" "bound" "I", Cond.fieldLink RX1 23 "LightRows$Equations" "rowOf" "[I", Cond.methodLink RX1 36 yX1_unusedRowWith, Cond.instanceMethod yX1_unusedRowWith, Cond.selects RX1 yX1_unusedRowWith yX1_unusedRowWith, Cond.code yX1_unusedRowWith cX1_unusedRowWith 3 (some .int), Cond.methodLink RX1 40 yX1_swap, Cond.instanceMethod yX1_swap]
def wsL_best_r3 : List Cond := [Cond.selects RX1 yX1_swap yX1_swap, Cond.code yX1_swap cX1_swap 4 none, Cond.methodLink RX1 44 yX1_makeUnit, Cond.instanceMethod yX1_makeUnit, Cond.selects RX1 yX1_makeUnit yX1_makeUnit, Cond.code yX1_makeUnit cX1_makeUnit 5 none, Cond.methodLink RX1 58 yX1_inverse, Cond.instanceMethod yX1_inverse, Cond.selects RX1 yX1_inverse yX1_inverse, Cond.code yX1_inverse cX1_inverse 3 (some .int), Cond.methodLink RX1 48 yX1_clearElsewhere, Cond.instanceMethod yX1_clearElsewhere, Cond.selects RX1 yX1_clearElsewhere yX1_clearElsewhere, Cond.code yX1_clearElsewhere cX1_clearElsewhere 4 none, Cond.methodLink RX1 61 yX1_addMultiple, Cond.instanceMethod yX1_addMultiple, Cond.selects RX1 yX1_addMultiple yX1_addMultiple, Cond.code yX1_addMultiple cX1_addMultiple 5 none, Cond.methodLink RX1 51 yX1_readQuietPatterns, Cond.instanceMethod yX1_readQuietPatterns, Cond.selects RX1 yX1_readQuietPatterns yX1_readQuietPatterns, Cond.code yX1_readQuietPatterns cX1_readQuietPatterns 2 none, Cond.fieldLink RX1 33 "LightRows$Equations" "free" "I", Cond.fieldLink RX1 27 "LightRows$Equations" "quietPatterns" "[[I"]
def wsL_best_r4 : List Cond := [Cond.methodLink RX1 65 yX1_readQuietPattern, Cond.instanceMethod yX1_readQuietPattern, Cond.selects RX1 yX1_readQuietPattern yX1_readQuietPattern, Cond.code yX1_readQuietPattern cX1_readQuietPattern 5 none, Cond.methodLink RX3 137 yX2_run, Cond.instanceMethod yX2_run, Cond.selects RX2 yX2_run yX2_run, Cond.initialized RX2, Cond.code yX2_run cX2_run 4 none, Cond.fieldLink RX2 28 "LightRows$Search" "total" "I", Cond.methodLink RX2 31 yX1_answersUpTo, Cond.instanceMethod yX1_answersUpTo, Cond.selects RX1 yX1_answersUpTo yX1_answersUpTo, Cond.code yX1_answersUpTo cX1_answersUpTo 4 (some .int), Cond.methodLink RX1 54 yX1_agree, Cond.instanceMethod yX1_agree, Cond.selects RX1 yX1_agree yX1_agree, Cond.code yX1_agree cX1_agree 2 (some .boolean), Cond.methodLink RX2 37 yX2_begin, Cond.instanceMethod yX2_begin, Cond.selects RX2 yX2_begin yX2_begin, Cond.code yX2_begin cX2_begin 3 none, Cond.fieldLink RX2 9 "LightRows$Search" "size" "I", Cond.fieldLink RX2 18 "LightRows$Search" "tried" "[I"]
def wsL_best_r5 : List Cond := [Cond.fieldLink RX2 25 "LightRows$Search" "turns" "[I", Cond.methodLink RX2 47 yX1_pressesOf, Cond.instanceMethod yX1_pressesOf, Cond.selects RX1 yX1_pressesOf yX1_pressesOf, Cond.code yX1_pressesOf cX1_pressesOf 3 (some .int), Cond.methodLink RX2 50 yX2_totalTried, Cond.instanceMethod yX2_totalTried, Cond.selects RX2 yX2_totalTried yX2_totalTried, Cond.code yX2_totalTried cX2_totalTried 3 (some .int), Cond.methodLink RX2 54 yX2_keep, Cond.instanceMethod yX2_keep, Cond.selects RX2 yX2_keep yX2_keep, Cond.code yX2_keep cX2_keep 2 none, Cond.fieldLink RX2 22 "LightRows$Search" "least" "[I", Cond.methodLink RX2 73 arraycopyName, Cond.native arraycopyName, Cond.static arraycopyName, Cond.initialized "java/lang/System", Cond.methodLink RX2 41 yX2_advance, Cond.instanceMethod yX2_advance, Cond.selects RX2 yX2_advance yX2_advance, Cond.code yX2_advance cX2_advance 3 none, Cond.fieldLink RX2 15 "LightRows$Search" "modulus" "I", Cond.methodLink RX2 58 yX1_freeLamps]
def wsL_best_r6 : List Cond := [Cond.instanceMethod yX1_freeLamps, Cond.selects RX1 yX1_freeLamps yX1_freeLamps, Cond.code yX1_freeLamps cX1_freeLamps 1 (some .int), Cond.methodLink RX2 61 yX1_quietPattern, Cond.instanceMethod yX1_quietPattern, Cond.selects RX1 yX1_quietPattern yX1_quietPattern, Cond.code yX1_quietPattern cX1_quietPattern 2 (some (.array .int)), Cond.methodLink RX2 65 yX2_addToTried, Cond.instanceMethod yX2_addToTried, Cond.selects RX2 yX2_addToTried yX2_addToTried, Cond.code yX2_addToTried cX2_addToTried 4 none, Cond.methodLink RX2 44 yX2_keepIfLess, Cond.instanceMethod yX2_keepIfLess, Cond.selects RX2 yX2_keepIfLess yX2_keepIfLess, Cond.code yX2_keepIfLess cX2_keepIfLess 2 none, Cond.methodLink RX2 69 yX2_triedIsAhead, Cond.instanceMethod yX2_triedIsAhead, Cond.selects RX2 yX2_triedIsAhead yX2_triedIsAhead, Cond.code yX2_triedIsAhead cX2_triedIsAhead 2 (some .boolean), Cond.methodLink RX3 117 yX2_leastTotal, Cond.instanceMethod yX2_leastTotal, Cond.selects RX2 yX2_leastTotal yX2_leastTotal, Cond.code yX2_leastTotal cX2_leastTotal 1 (some .int), Cond.methodLink RX3 120 yX2_leastPresses]
def wsL_best_r7 : List Cond := [Cond.instanceMethod yX2_leastPresses, Cond.selects RX2 yX2_leastPresses yX2_leastPresses, Cond.code yX2_leastPresses cX2_leastPresses 2 (some .int)]
def wsL_best : List Cond := .codeWith yL_best cL_best 4 (some .int) [(0, 9, 12, 13)] :: ((wsL_best_r1 ++ (wsL_best_r2 ++ (wsL_best_r3 ++ (wsL_best_r4 ++ (wsL_best_r5 ++ (wsL_best_r6 ++ wsL_best_r7)))))) ++ wsX30 ++ wsJx000600 ++ wsX10 ++ wsX20)
def wsL_alone_r1 : List Cond := [Cond.methodLink RL 42 yX3_alone, Cond.instanceMethod yX3_alone, Cond.selects RX3 yX3_alone yX3_alone, Cond.initialized RX3, Cond.code yX3_alone cX3_alone 3 (some .boolean), Cond.fieldLink RX3 44 "LightRows" "equations" "LLightRows$Equations;", Cond.methodLink RX3 69 yX3_mustExist, Cond.instanceMethod yX3_mustExist, Cond.selects RX3 yX3_mustExist yX3_mustExist, Cond.code yX3_mustExist cX3_mustExist 2 none, Cond.fieldLink RX3 18 "LightRows" "lamps" "I", Cond.classLink RX3 123 RJx00060, Cond.instantiable RJx00060 6, Cond.initialized RJx00060, Cond.methodLink RX3 84 yX3_work, Cond.instanceMethod yX3_work, Cond.selects RX3 yX3_work yX3_work, Cond.code yX3_work cX3_work 1 none, Cond.fieldLink RX3 62 "LightRows" "worked" "Z", Cond.fieldLink RX3 36 "LightRows" "touched" "[I", Cond.fieldLink RX3 29 "LightRows" "now" "[I", Cond.fieldLink RX3 33 "LightRows" "wanted" "[I", Cond.methodLink RX3 130 yX1_take, Cond.instanceMethod yX1_take]
def wsL_alone_r2 : List Cond := [Cond.selects RX1 yX1_take yX1_take, Cond.initialized RX1, Cond.code yX1_take cX1_take 7 none, Cond.fieldLink RX1 9 "LightRows$Equations" "size" "I", Cond.fieldLink RX1 20 "LightRows$Equations" "rows" "[[I", Cond.fieldLink RX1 15 "LightRows$Equations" "modulus" "I", Cond.methodLink RX3 134 yX1_reduce, Cond.instanceMethod yX1_reduce, Cond.selects RX1 yX1_reduce yX1_reduce, Cond.code yX1_reduce cX1_reduce 3 none, Cond.fieldLink RX1 30 "LightRows$Equations" "bound" "I", Cond.fieldLink RX1 23 "LightRows$Equations" "rowOf" "[I", Cond.methodLink RX1 36 yX1_unusedRowWith, Cond.instanceMethod yX1_unusedRowWith, Cond.selects RX1 yX1_unusedRowWith yX1_unusedRowWith, Cond.code yX1_unusedRowWith cX1_unusedRowWith 3 (some .int), Cond.methodLink RX1 40 yX1_swap, Cond.instanceMethod yX1_swap, Cond.selects RX1 yX1_swap yX1_swap, Cond.code yX1_swap cX1_swap 4 none, Cond.methodLink RX1 44 yX1_makeUnit, Cond.instanceMethod yX1_makeUnit, Cond.selects RX1 yX1_makeUnit yX1_makeUnit, Cond.code yX1_makeUnit cX1_makeUnit 5 none]
def wsL_alone_r3 : List Cond := [Cond.methodLink RX1 58 yX1_inverse, Cond.instanceMethod yX1_inverse, Cond.selects RX1 yX1_inverse yX1_inverse, Cond.code yX1_inverse cX1_inverse 3 (some .int), Cond.methodLink RX1 48 yX1_clearElsewhere, Cond.instanceMethod yX1_clearElsewhere, Cond.selects RX1 yX1_clearElsewhere yX1_clearElsewhere, Cond.code yX1_clearElsewhere cX1_clearElsewhere 4 none, Cond.methodLink RX1 61 yX1_addMultiple, Cond.instanceMethod yX1_addMultiple, Cond.selects RX1 yX1_addMultiple yX1_addMultiple, Cond.code yX1_addMultiple cX1_addMultiple 5 none, Cond.methodLink RX1 51 yX1_readQuietPatterns, Cond.instanceMethod yX1_readQuietPatterns, Cond.selects RX1 yX1_readQuietPatterns yX1_readQuietPatterns, Cond.code yX1_readQuietPatterns cX1_readQuietPatterns 2 none, Cond.fieldLink RX1 33 "LightRows$Equations" "free" "I", Cond.fieldLink RX1 27 "LightRows$Equations" "quietPatterns" "[[I", Cond.methodLink RX1 65 yX1_readQuietPattern, Cond.instanceMethod yX1_readQuietPattern, Cond.selects RX1 yX1_readQuietPattern yX1_readQuietPattern, Cond.code yX1_readQuietPattern cX1_readQuietPattern 5 none, Cond.methodLink RX3 98 yX1_freeLamps, Cond.instanceMethod yX1_freeLamps]
def wsL_alone_r4 : List Cond := [Cond.selects RX1 yX1_freeLamps yX1_freeLamps, Cond.code yX1_freeLamps cX1_freeLamps 1 (some .int), Cond.methodLink RX3 101 yX1_quietPattern, Cond.instanceMethod yX1_quietPattern, Cond.selects RX1 yX1_quietPattern yX1_quietPattern, Cond.code yX1_quietPattern cX1_quietPattern 2 (some (.array .int))]
def wsL_alone : List Cond := .codeWith yL_alone cL_alone 4 (some .int) [(0, 16, 19, 13)] :: ((wsL_alone_r1 ++ (wsL_alone_r2 ++ (wsL_alone_r3 ++ wsL_alone_r4))) ++ wsX30 ++ wsJx000600 ++ wsX10)
def wsL_law_r1 : List Cond := [Cond.classLink RL 8 RX3, Cond.instantiable RX3 10, Cond.initialized RX3, Cond.classLink RL 55 RX4, Cond.instantiable RX4 20, Cond.initialized RX4, Cond.arrayClass .long, Cond.methodLink RL 46 yL_cell, Cond.static yL_cell, Cond.initialized RL, Cond.code yL_cell cL_cell 2 (some .int), Cond.methodLink RL 52 yX3_init, Cond.instanceMethod yX3_init, Cond.code yX3_init cX3_init 4 none, Cond.methodLink RX3 1 objectInit, Cond.instanceMethod objectInit, Cond.code objectInit ⟨#[0xb1]⟩ 1 none, Cond.methodLink RX3 9 Lib.Math.min.name, Cond.static Lib.Math.min.name, Cond.initialized "java/lang/Math", Cond.code Lib.Math.min.name Lib.Math.min.code 2 (some .int), Cond.methodLink RX3 15 Lib.Math.max.name, Cond.static Lib.Math.max.name, Cond.code Lib.Math.max.name Lib.Math.max.code 2 (some .int)]
def wsL_law_r2 : List Cond := [Cond.fieldLink RX3 18 "LightRows" "lamps" "I", Cond.fieldLink RX3 26 "LightRows" "states" "I", Cond.arrayClass .int, Cond.fieldLink RX3 29 "LightRows" "now" "[I", Cond.fieldLink RX3 33 "LightRows" "wanted" "[I", Cond.fieldLink RX3 36 "LightRows" "touched" "[I", Cond.classLink RX3 39 RX1, Cond.instantiable RX1 7, Cond.initialized RX1, Cond.fieldLink RX3 44 "LightRows" "equations" "LLightRows$Equations;", Cond.classLink RX3 48 RX2, Cond.instantiable RX2 6, Cond.initialized RX2, Cond.fieldLink RX3 51 "LightRows" "search" "LLightRows$Search;", Cond.classLink RX3 55 RX0, Cond.instantiable RX0 2, Cond.initialized RX0, Cond.fieldLink RX3 58 "LightRows" "decimal" "LLightRows$Decimal;", Cond.fieldLink RX3 62 "LightRows" "worked" "Z", Cond.fieldLink RX3 66 "LightRows" "searched" "Z", Cond.methodLink RX3 22 yX3_primeFor, Cond.static yX3_primeFor, Cond.code yX3_primeFor cX3_primeFor 1 (some .int), Cond.methodLink RX3 41 yX1_init]
def wsL_law_r3 : List Cond := [Cond.instanceMethod yX1_init, Cond.code yX1_init cX1_init 3 none, Cond.methodLink RX1 3 objectInit, Cond.fieldLink RX1 9 "LightRows$Equations" "size" "I", Cond.fieldLink RX1 15 "LightRows$Equations" "modulus" "I", Cond.classLink RX1 18 "[[I", Cond.fieldLink RX1 20 "LightRows$Equations" "rows" "[[I", Cond.fieldLink RX1 23 "LightRows$Equations" "rowOf" "[I", Cond.fieldLink RX1 27 "LightRows$Equations" "quietPatterns" "[[I", Cond.fieldLink RX1 30 "LightRows$Equations" "bound" "I", Cond.fieldLink RX1 33 "LightRows$Equations" "free" "I", Cond.methodLink RX3 50 yX2_init, Cond.instanceMethod yX2_init, Cond.code yX2_init cX2_init 3 none, Cond.methodLink RX2 3 objectInit, Cond.fieldLink RX2 9 "LightRows$Search" "size" "I", Cond.fieldLink RX2 15 "LightRows$Search" "modulus" "I", Cond.fieldLink RX2 18 "LightRows$Search" "tried" "[I", Cond.fieldLink RX2 22 "LightRows$Search" "least" "[I", Cond.fieldLink RX2 25 "LightRows$Search" "turns" "[I", Cond.fieldLink RX2 28 "LightRows$Search" "total" "I", Cond.methodLink RX3 57 yX0_init, Cond.instanceMethod yX0_init, Cond.code yX0_init cX0_init 1 none]
def wsL_law_r4 : List Cond := [Cond.methodLink RX0 3 objectInit, Cond.fieldLink RX0 11 "LightRows$Decimal" "digits" "[I", Cond.fieldLink RX0 15 "LightRows$Decimal" "length" "I", Cond.methodLink RL 57 yX4_init, Cond.instanceMethod yX4_init, Cond.code yX4_init cX4_init 3 none, Cond.methodLink RX4 1 objectInit, Cond.arrayClass .boolean, Cond.fieldLink RX4 7 "LightRowsModel" "joined" "[Z", Cond.fieldLink RX4 13 "LightRowsModel" "isNotSelf" "[Z", Cond.fieldLink RX4 16 "LightRowsModel" "states" "[I", Cond.fieldLink RX4 20 "LightRowsModel" "wanted" "[I", Cond.fieldLink RX4 23 "LightRowsModel" "rows" "[I", Cond.fieldLink RX4 26 "LightRowsModel" "presses" "[I", Cond.fieldLink RX4 29 "LightRowsModel" "heads" "[I", Cond.fieldLink RX4 32 "LightRowsModel" "isBound" "[Z", Cond.fieldLink RX4 35 "LightRowsModel" "rest" "[I", Cond.fieldLink RX4 38 "LightRowsModel" "by" "[I", Cond.fieldLink RX4 41 "LightRowsModel" "answer" "[I", Cond.fieldLink RX4 44 "LightRowsModel" "quiet" "[I", Cond.fieldLink RX4 47 "LightRowsModel" "best" "[I", Cond.fieldLink RX4 50 "LightRowsModel" "tried" "[I", Cond.fieldLink RX4 53 "LightRowsModel" "digits" "[I", Cond.fieldLink RX4 56 "LightRowsModel" "lamps" "I"]
def wsL_law_r5 : List Cond := [Cond.fieldLink RX4 60 "LightRowsModel" "p" "I", Cond.methodLink RL 58 yL_join, Cond.static yL_join, Cond.codeWith yL_join cL_join 5 (some .int) [(0, 17, 20, 13)], Cond.methodLink RL 7 yX3_join, Cond.instanceMethod yX3_join, Cond.selects RX3 yX3_join yX3_join, Cond.code yX3_join cX3_join 3 (some .boolean), Cond.methodLink RX3 69 yX3_mustExist, Cond.instanceMethod yX3_mustExist, Cond.selects RX3 yX3_mustExist yX3_mustExist, Cond.code yX3_mustExist cX3_mustExist 2 none, Cond.classLink RX3 123 RJx00060, Cond.instantiable RJx00060 6, Cond.initialized RJx00060, Cond.methodLink RX3 73 yX3_touches, Cond.instanceMethod yX3_touches, Cond.selects RX3 yX3_touches yX3_touches, Cond.code yX3_touches cX3_touches 3 (some .boolean), Cond.methodLink RX3 77 yX3_forget, Cond.instanceMethod yX3_forget, Cond.selects RX3 yX3_forget yX3_forget, Cond.code yX3_forget cX3_forget 1 none, Cond.methodLink RL 61 yX4_join]
def wsL_law_r6 : List Cond := [Cond.instanceMethod yX4_join, Cond.selects RX4 yX4_join yX4_join, Cond.code yX4_join cX4_join 3 (some .boolean), Cond.fieldLink RX4 74 "LightRowsModel" "isKnown" "Z", Cond.methodLink RX4 66 yX4_isLamp, Cond.instanceMethod yX4_isLamp, Cond.selects RX4 yX4_isLamp yX4_isLamp, Cond.code yX4_isLamp cX4_isLamp 2 (some .boolean), Cond.methodLink RX4 70 yX4_fails, Cond.instanceMethod yX4_fails, Cond.selects RX4 yX4_fails yX4_fails, Cond.code yX4_fails cX4_fails 2 (some .boolean), Cond.fieldLink RX4 63 "LightRowsModel" "thrown" "I", Cond.methodLink RL 62 yX4_thrown, Cond.instanceMethod yX4_thrown, Cond.selects RX4 yX4_thrown yX4_thrown, Cond.code yX4_thrown cX4_thrown 1 (some .int), Cond.methodLink RL 66 yL_self, Cond.static yL_self, Cond.codeWith yL_self cL_self 5 (some .int) [(0, 17, 20, 13)], Cond.methodLink RL 15 yX3_self, Cond.instanceMethod yX3_self, Cond.selects RX3 yX3_self yX3_self, Cond.code yX3_self cX3_self 3 (some .boolean)]
def wsL_law_r7 : List Cond := [Cond.methodLink RL 69 yX4_self, Cond.instanceMethod yX4_self, Cond.selects RX4 yX4_self yX4_self, Cond.code yX4_self cX4_self 3 (some .boolean), Cond.methodLink RL 70 yL_set, Cond.static yL_set, Cond.codeWith yL_set cL_set 5 (some .int) [(0, 17, 20, 13)], Cond.methodLink RL 19 yX3_set, Cond.instanceMethod yX3_set, Cond.selects RX3 yX3_set yX3_set, Cond.code yX3_set cX3_set 3 (some .boolean), Cond.methodLink RX3 80 yX3_isState, Cond.instanceMethod yX3_isState, Cond.selects RX3 yX3_isState yX3_isState, Cond.code yX3_isState cX3_isState 2 (some .boolean), Cond.methodLink RL 72 yX4_set, Cond.instanceMethod yX4_set, Cond.selects RX4 yX4_set yX4_set, Cond.code yX4_set cX4_set 3 (some .boolean), Cond.methodLink RX4 78 yX4_isState, Cond.instanceMethod yX4_isState, Cond.selects RX4 yX4_isState yX4_isState, Cond.code yX4_isState cX4_isState 2 (some .boolean), Cond.methodLink RL 73 yL_want]
def wsL_law_r8 : List Cond := [Cond.static yL_want, Cond.codeWith yL_want cL_want 5 (some .int) [(0, 17, 20, 13)], Cond.methodLink RL 22 yX3_want, Cond.instanceMethod yX3_want, Cond.selects RX3 yX3_want yX3_want, Cond.code yX3_want cX3_want 3 (some .boolean), Cond.methodLink RL 75 yX4_want, Cond.instanceMethod yX4_want, Cond.selects RX4 yX4_want yX4_want, Cond.code yX4_want cX4_want 3 (some .boolean), Cond.methodLink RL 76 yL_press, Cond.static yL_press, Cond.codeWith yL_press cL_press 5 (some .int) [(0, 17, 20, 13)], Cond.methodLink RL 25 yX3_press, Cond.instanceMethod yX3_press, Cond.selects RX3 yX3_press yX3_press, Cond.code yX3_press cX3_press 4 (some .boolean), Cond.methodLink RL 78 yX4_press, Cond.instanceMethod yX4_press, Cond.selects RX4 yX4_press yX4_press, Cond.code yX4_press cX4_press 4 (some .boolean), Cond.methodLink RX4 81 yX4_effect, Cond.instanceMethod yX4_effect, Cond.selects RX4 yX4_effect yX4_effect]
def wsL_law_r9 : List Cond := [Cond.code yX4_effect cX4_effect 3 (some .int), Cond.methodLink RL 79 yL_at, Cond.static yL_at, Cond.codeWith yL_at cL_at 4 (some .int) [(0, 9, 12, 13)], Cond.methodLink RL 28 yX3_at, Cond.instanceMethod yX3_at, Cond.selects RX3 yX3_at yX3_at, Cond.code yX3_at cX3_at 2 (some .int), Cond.methodLink RL 82 yX4_at, Cond.instanceMethod yX4_at, Cond.selects RX4 yX4_at yX4_at, Cond.code yX4_at cX4_at 2 (some .int), Cond.methodLink RL 83 yX3_apart, Cond.instanceMethod yX3_apart, Cond.selects RX3 yX3_apart yX3_apart, Cond.code yX3_apart cX3_apart 3 (some .int), Cond.methodLink RL 86 yX4_apart, Cond.instanceMethod yX4_apart, Cond.selects RX4 yX4_apart yX4_apart, Cond.code yX4_apart cX4_apart 3 (some .int), Cond.methodLink RL 87 yX3_rank, Cond.instanceMethod yX3_rank, Cond.selects RX3 yX3_rank yX3_rank, Cond.code yX3_rank cX3_rank 1 (some .int)]
def wsL_law_r10 : List Cond := [Cond.methodLink RX3 84 yX3_work, Cond.instanceMethod yX3_work, Cond.selects RX3 yX3_work yX3_work, Cond.code yX3_work cX3_work 1 none, Cond.methodLink RX3 130 yX1_take, Cond.instanceMethod yX1_take, Cond.selects RX1 yX1_take yX1_take, Cond.code yX1_take cX1_take 7 none, Cond.methodLink RX3 134 yX1_reduce, Cond.instanceMethod yX1_reduce, Cond.selects RX1 yX1_reduce yX1_reduce, Cond.code yX1_reduce cX1_reduce 3 none, Cond.methodLink RX1 36 yX1_unusedRowWith, Cond.instanceMethod yX1_unusedRowWith, Cond.selects RX1 yX1_unusedRowWith yX1_unusedRowWith, Cond.code yX1_unusedRowWith cX1_unusedRowWith 3 (some .int), Cond.methodLink RX1 40 yX1_swap, Cond.instanceMethod yX1_swap, Cond.selects RX1 yX1_swap yX1_swap, Cond.code yX1_swap cX1_swap 4 none, Cond.methodLink RX1 44 yX1_makeUnit, Cond.instanceMethod yX1_makeUnit, Cond.selects RX1 yX1_makeUnit yX1_makeUnit, Cond.code yX1_makeUnit cX1_makeUnit 5 none]
def wsL_law_r11 : List Cond := [Cond.methodLink RX1 58 yX1_inverse, Cond.instanceMethod yX1_inverse, Cond.selects RX1 yX1_inverse yX1_inverse, Cond.code yX1_inverse cX1_inverse 3 (some .int), Cond.methodLink RX1 48 yX1_clearElsewhere, Cond.instanceMethod yX1_clearElsewhere, Cond.selects RX1 yX1_clearElsewhere yX1_clearElsewhere, Cond.code yX1_clearElsewhere cX1_clearElsewhere 4 none, Cond.methodLink RX1 61 yX1_addMultiple, Cond.instanceMethod yX1_addMultiple, Cond.selects RX1 yX1_addMultiple yX1_addMultiple, Cond.code yX1_addMultiple cX1_addMultiple 5 none, Cond.methodLink RX1 51 yX1_readQuietPatterns, Cond.instanceMethod yX1_readQuietPatterns, Cond.selects RX1 yX1_readQuietPatterns yX1_readQuietPatterns, Cond.code yX1_readQuietPatterns cX1_readQuietPatterns 2 none, Cond.methodLink RX1 65 yX1_readQuietPattern, Cond.instanceMethod yX1_readQuietPattern, Cond.selects RX1 yX1_readQuietPattern yX1_readQuietPattern, Cond.code yX1_readQuietPattern cX1_readQuietPattern 5 none, Cond.methodLink RX3 87 yX1_boundLamps, Cond.instanceMethod yX1_boundLamps, Cond.selects RX1 yX1_boundLamps yX1_boundLamps, Cond.code yX1_boundLamps cX1_boundLamps 1 (some .int)]
def wsL_law_r12 : List Cond := [Cond.methodLink RL 90 yX4_rank, Cond.instanceMethod yX4_rank, Cond.selects RX4 yX4_rank yX4_rank, Cond.code yX4_rank cX4_rank 1 (some .int), Cond.fieldLink RX4 85 "LightRowsModel" "rank" "I", Cond.methodLink RX4 99 yX4_know, Cond.instanceMethod yX4_know, Cond.selects RX4 yX4_know yX4_know, Cond.code yX4_know cX4_know 5 none, Cond.methodLink RX4 92 yX4_takeApart, Cond.instanceMethod yX4_takeApart, Cond.selects RX4 yX4_takeApart yX4_takeApart, Cond.code yX4_takeApart cX4_takeApart 4 none, Cond.methodLink RX4 88 yX4_inverse, Cond.instanceMethod yX4_inverse, Cond.selects RX4 yX4_inverse yX4_inverse, Cond.code yX4_inverse cX4_inverse 3 (some .int), Cond.methodLink RX4 95 yX4_left, Cond.instanceMethod yX4_left, Cond.selects RX4 yX4_left yX4_left, Cond.code yX4_left cX4_left 2 (some .int), Cond.methodLink RL 91 yX3_solvable, Cond.instanceMethod yX3_solvable, Cond.selects RX3 yX3_solvable yX3_solvable]
def wsL_law_r13 : List Cond := [Cond.code yX3_solvable cX3_solvable 1 (some .boolean), Cond.methodLink RX3 91 yX1_agree, Cond.instanceMethod yX1_agree, Cond.selects RX1 yX1_agree yX1_agree, Cond.code yX1_agree cX1_agree 2 (some .boolean), Cond.methodLink RL 95 yX4_solvable, Cond.instanceMethod yX4_solvable, Cond.selects RX4 yX4_solvable yX4_solvable, Cond.code yX4_solvable cX4_solvable 1 (some .boolean), Cond.methodLink RX4 102 yX4_answers, Cond.instanceMethod yX4_answers, Cond.selects RX4 yX4_answers yX4_answers, Cond.code yX4_answers cX4_answers 2 (some .boolean), Cond.methodLink RL 96 yL_answer, Cond.static yL_answer, Cond.codeWith yL_answer cL_answer 4 (some .int) [(0, 9, 12, 13)], Cond.methodLink RL 32 yX3_answer, Cond.instanceMethod yX3_answer, Cond.selects RX3 yX3_answer yX3_answer, Cond.code yX3_answer cX3_answer 2 (some .int), Cond.methodLink RX3 95 yX1_pressesOf, Cond.instanceMethod yX1_pressesOf, Cond.selects RX1 yX1_pressesOf yX1_pressesOf, Cond.code yX1_pressesOf cX1_pressesOf 3 (some .int)]
def wsL_law_r14 : List Cond := [Cond.methodLink RL 98 yX4_answer, Cond.instanceMethod yX4_answer, Cond.selects RX4 yX4_answer yX4_answer, Cond.code yX4_answer cX4_answer 2 (some .int), Cond.methodLink RL 99 yL_quiet, Cond.static yL_quiet, Cond.codeWith yL_quiet cL_quiet 5 (some .int) [(0, 10, 13, 13)], Cond.methodLink RL 35 yX3_quiet, Cond.instanceMethod yX3_quiet, Cond.selects RX3 yX3_quiet yX3_quiet, Cond.code yX3_quiet cX3_quiet 3 (some .int), Cond.methodLink RX3 98 yX1_freeLamps, Cond.instanceMethod yX1_freeLamps, Cond.selects RX1 yX1_freeLamps yX1_freeLamps, Cond.code yX1_freeLamps cX1_freeLamps 1 (some .int), Cond.methodLink RX3 101 yX1_quietPattern, Cond.instanceMethod yX1_quietPattern, Cond.selects RX1 yX1_quietPattern yX1_quietPattern, Cond.code yX1_quietPattern cX1_quietPattern 2 (some (.array .int)), Cond.methodLink RL 101 yX4_quiet, Cond.instanceMethod yX4_quiet, Cond.selects RX4 yX4_quiet yX4_quiet, Cond.code yX4_quiet cX4_quiet 3 (some .int), Cond.methodLink RL 102 yX3_count]
def wsL_law_r15 : List Cond := [Cond.instanceMethod yX3_count, Cond.selects RX3 yX3_count yX3_count, Cond.code yX3_count cX3_count 3 (some .int), Cond.methodLink RX3 105 yX0_become, Cond.instanceMethod yX0_become, Cond.selects RX0 yX0_become yX0_become, Cond.code yX0_become cX0_become 2 none, Cond.methodLink RX3 108 yX0_multiply, Cond.instanceMethod yX0_multiply, Cond.selects RX0 yX0_multiply yX0_multiply, Cond.code yX0_multiply cX0_multiply 5 none, Cond.methodLink RX3 111 yX0_digit, Cond.instanceMethod yX0_digit, Cond.selects RX0 yX0_digit yX0_digit, Cond.code yX0_digit cX0_digit 2 (some .int), Cond.methodLink RL 105 yX4_count, Cond.instanceMethod yX4_count, Cond.selects RX4 yX4_count yX4_count, Cond.code yX4_count cX4_count 8 (some .int), Cond.methodLink RL 106 yX3_fewest, Cond.instanceMethod yX3_fewest, Cond.selects RX3 yX3_fewest yX3_fewest, Cond.code yX3_fewest cX3_fewest 1 (some .int), Cond.methodLink RX3 114 yX3_seek]
def wsL_law_r16 : List Cond := [Cond.instanceMethod yX3_seek, Cond.selects RX3 yX3_seek yX3_seek, Cond.code yX3_seek cX3_seek 1 none, Cond.methodLink RX3 137 yX2_run, Cond.instanceMethod yX2_run, Cond.selects RX2 yX2_run yX2_run, Cond.code yX2_run cX2_run 4 none, Cond.methodLink RX2 31 yX1_answersUpTo, Cond.instanceMethod yX1_answersUpTo, Cond.selects RX1 yX1_answersUpTo yX1_answersUpTo, Cond.code yX1_answersUpTo cX1_answersUpTo 4 (some .int), Cond.methodLink RX1 54 yX1_agree, Cond.methodLink RX2 37 yX2_begin, Cond.instanceMethod yX2_begin, Cond.selects RX2 yX2_begin yX2_begin, Cond.code yX2_begin cX2_begin 3 none, Cond.methodLink RX2 47 yX1_pressesOf, Cond.methodLink RX2 50 yX2_totalTried, Cond.instanceMethod yX2_totalTried, Cond.selects RX2 yX2_totalTried yX2_totalTried, Cond.code yX2_totalTried cX2_totalTried 3 (some .int), Cond.methodLink RX2 54 yX2_keep, Cond.instanceMethod yX2_keep, Cond.selects RX2 yX2_keep yX2_keep]
def wsL_law_r17 : List Cond := [Cond.code yX2_keep cX2_keep 2 none, Cond.methodLink RX2 73 arraycopyName, Cond.native arraycopyName, Cond.static arraycopyName, Cond.initialized "java/lang/System", Cond.methodLink RX2 41 yX2_advance, Cond.instanceMethod yX2_advance, Cond.selects RX2 yX2_advance yX2_advance, Cond.code yX2_advance cX2_advance 3 none, Cond.methodLink RX2 58 yX1_freeLamps, Cond.methodLink RX2 61 yX1_quietPattern, Cond.methodLink RX2 65 yX2_addToTried, Cond.instanceMethod yX2_addToTried, Cond.selects RX2 yX2_addToTried yX2_addToTried, Cond.code yX2_addToTried cX2_addToTried 4 none, Cond.methodLink RX2 44 yX2_keepIfLess, Cond.instanceMethod yX2_keepIfLess, Cond.selects RX2 yX2_keepIfLess yX2_keepIfLess, Cond.code yX2_keepIfLess cX2_keepIfLess 2 none, Cond.methodLink RX2 69 yX2_triedIsAhead, Cond.instanceMethod yX2_triedIsAhead, Cond.selects RX2 yX2_triedIsAhead yX2_triedIsAhead, Cond.code yX2_triedIsAhead cX2_triedIsAhead 2 (some .boolean), Cond.methodLink RX3 117 yX2_leastTotal]
def wsL_law_r18 : List Cond := [Cond.instanceMethod yX2_leastTotal, Cond.selects RX2 yX2_leastTotal yX2_leastTotal, Cond.code yX2_leastTotal cX2_leastTotal 1 (some .int), Cond.methodLink RL 109 yX4_fewest, Cond.instanceMethod yX4_fewest, Cond.selects RX4 yX4_fewest yX4_fewest, Cond.code yX4_fewest cX4_fewest 1 (some .int), Cond.methodLink RX4 112 yX4_findBest, Cond.instanceMethod yX4_findBest, Cond.selects RX4 yX4_findBest yX4_findBest, Cond.code yX4_findBest cX4_findBest 6 (some .int), Cond.methodLink RX4 106 yX4_tryWay, Cond.instanceMethod yX4_tryWay, Cond.selects RX4 yX4_tryWay yX4_tryWay, Cond.code yX4_tryWay cX4_tryWay 6 (some .int), Cond.methodLink RX4 109 yX4_isLess, Cond.instanceMethod yX4_isLess, Cond.selects RX4 yX4_isLess yX4_isLess, Cond.code yX4_isLess cX4_isLess 2 (some .boolean), Cond.methodLink RL 110 yL_best, Cond.static yL_best, Cond.codeWith yL_best cL_best 4 (some .int) [(0, 9, 12, 13)], Cond.methodLink RL 39 yX3_best, Cond.instanceMethod yX3_best]
def wsL_law_r19 : List Cond := [Cond.selects RX3 yX3_best yX3_best, Cond.code yX3_best cX3_best 2 (some .int), Cond.methodLink RX3 120 yX2_leastPresses, Cond.instanceMethod yX2_leastPresses, Cond.selects RX2 yX2_leastPresses yX2_leastPresses, Cond.code yX2_leastPresses cX2_leastPresses 2 (some .int), Cond.methodLink RL 112 yX4_best, Cond.instanceMethod yX4_best, Cond.selects RX4 yX4_best yX4_best, Cond.code yX4_best cX4_best 3 (some .int), Cond.methodLink RL 113 yL_alone, Cond.static yL_alone, Cond.codeWith yL_alone cL_alone 4 (some .int) [(0, 16, 19, 13)], Cond.methodLink RL 42 yX3_alone, Cond.instanceMethod yX3_alone, Cond.selects RX3 yX3_alone yX3_alone, Cond.code yX3_alone cX3_alone 3 (some .boolean), Cond.methodLink RL 115 yX4_alone, Cond.instanceMethod yX4_alone, Cond.selects RX4 yX4_alone yX4_alone, Cond.code yX4_alone cX4_alone 3 (some .boolean), Cond.methodLink RL 116 yX3_clear, Cond.instanceMethod yX3_clear, Cond.selects RX3 yX3_clear yX3_clear]
def wsL_law_r20 : List Cond := [Cond.code yX3_clear cX3_clear 2 none, Cond.methodLink RL 119 yX4_clear, Cond.instanceMethod yX4_clear, Cond.selects RX4 yX4_clear yX4_clear, Cond.code yX4_clear cX4_clear 2 none]
def wsL_law : List Cond := (wsL_law_r1 ++ (wsL_law_r2 ++ (wsL_law_r3 ++ (wsL_law_r4 ++ (wsL_law_r5 ++ (wsL_law_r6 ++ (wsL_law_r7 ++ (wsL_law_r8 ++ (wsL_law_r9 ++ (wsL_law_r10 ++ (wsL_law_r11 ++ (wsL_law_r12 ++ (wsL_law_r13 ++ (wsL_law_r14 ++ (wsL_law_r15 ++ (wsL_law_r16 ++ (wsL_law_r17 ++ (wsL_law_r18 ++ (wsL_law_r19 ++ wsL_law_r20))))))))))))))))))) ++ wsX30 ++ wsX40 ++ wsX10 ++ wsX20 ++ wsX00 ++ wsJx000600 ++ ([] : List Cond)
set_option maxRecDepth 20000 in
theorem wsL_law_in : ∀ w ∈ wsL_law, w ∈ lw_tbl := fun w h => (goodIn_p wsL_law [319, 51, 54, 57, 60, 63, 68, 99, 124, 484, 327, 331, 406, 316, 555, 559, 563, 551, 413, 567, 420, 424, 571, 575, 431, 579, 438, 583, 587, 445, 591, 167, 595, 171, 175, 179, 183, 187, 191, 195, 199, 203, 207, 211, 215, 219, 603, 607, 611, 615, 619, 223, 227, 623, 627, 452, 272, 631, 460, 239, 292, 635, 231, 235, 243, 247, 639, 251, 255, 259, 263, 268, 276, 280, 287, 296, 300, 304, 308, 643, 647, 651, 655, 468, 472, 659, 479, 663, 312, 599] (by decide +kernel) (by decide +kernel) w h).1
theorem inlX0 : ∀ w ∈ wsX00, w ∈ wsL_law := fun _ h => List.mem_append_left _ (List.mem_append_left _ (List.mem_append_right _ h))
theorem inX0 : ∀ w ∈ wsX00, w ∈ lw_tbl := fun w h => wsL_law_in w (inlX0 w h)
theorem inlX1 : ∀ w ∈ wsX10, w ∈ wsL_law := fun _ h => List.mem_append_left _ (List.mem_append_left _ (List.mem_append_left _ (List.mem_append_left _ (List.mem_append_right _ h))))
theorem inX1 : ∀ w ∈ wsX10, w ∈ lw_tbl := fun w h => wsL_law_in w (inlX1 w h)
theorem inlX2 : ∀ w ∈ wsX20, w ∈ wsL_law := fun _ h => List.mem_append_left _ (List.mem_append_left _ (List.mem_append_left _ (List.mem_append_right _ h)))
theorem inX2 : ∀ w ∈ wsX20, w ∈ lw_tbl := fun w h => wsL_law_in w (inlX2 w h)
theorem inlX3 : ∀ w ∈ wsX30, w ∈ wsL_law := fun _ h => List.mem_append_left _ (List.mem_append_left _ (List.mem_append_left _ (List.mem_append_left _ (List.mem_append_left _ (List.mem_append_left _ (List.mem_append_right _ h))))))
theorem inX3 : ∀ w ∈ wsX30, w ∈ lw_tbl := fun w h => wsL_law_in w (inlX3 w h)
theorem inlX4 : ∀ w ∈ wsX40, w ∈ wsL_law := fun _ h => List.mem_append_left _ (List.mem_append_left _ (List.mem_append_left _ (List.mem_append_left _ (List.mem_append_left _ (List.mem_append_right _ h)))))
theorem inX4 : ∀ w ∈ wsX40, w ∈ lw_tbl := fun w h => wsL_law_in w (inlX4 w h)
theorem inlJx00060 : ∀ w ∈ wsJx000600, w ∈ wsL_law := fun _ h => List.mem_append_left _ (List.mem_append_right _ h)
theorem inJx00060 : ∀ w ∈ wsJx000600, w ∈ lw_tbl := fun w h => wsL_law_in w (inlJx00060 w h)
theorem inJ9 : ∀ w ∈ wsJ90, w ∈ lw_tbl := by decide +kernel
theorem inJ0 : ∀ w ∈ wsJ00, w ∈ lw_tbl := by decide +kernel
theorem inJ10 : ∀ w ∈ wsJ100, w ∈ lw_tbl := by decide +kernel
set_option maxRecDepth 20000 in
theorem ggX1_reduce_X1_unusedRowWith : GoodIn wsX1_reduce wsX1_unusedRowWith := goodIn_r _ [9, 1, 2, 4, 41, 42, 43, 44, 45, 46, 47] (by decide +kernel) (by decide +kernel)
set_option maxRecDepth 20000 in
theorem gX1_reduce_X1_unusedRowWith : GoodIn wsX1_reduce (wsV RX1 36 RX1 yX1_unusedRowWith wsX1_unusedRowWith) := goodIn_app (goodIn_of _ (by decide +kernel)) ggX1_reduce_X1_unusedRowWith
set_option maxRecDepth 20000 in
theorem ggX1_reduce_X1_swap : GoodIn wsX1_reduce wsX1_swap := goodIn_r _ [13, 4, 41, 42, 43, 44, 45, 46, 47] (by decide +kernel) (by decide +kernel)
set_option maxRecDepth 20000 in
theorem gX1_reduce_X1_swap : GoodIn wsX1_reduce (wsV RX1 40 RX1 yX1_swap wsX1_swap) := goodIn_app (goodIn_of _ (by decide +kernel)) ggX1_reduce_X1_swap
set_option maxRecDepth 20000 in
theorem ggX1_reduce_X1_makeUnit : GoodIn wsX1_reduce wsX1_makeUnit := goodIn_r _ [17, 2, 18, 19, 20, 21, 8, 22, 41, 42, 43, 44, 45, 46, 47] (by decide +kernel) (by decide +kernel)
set_option maxRecDepth 20000 in
theorem gX1_reduce_X1_makeUnit : GoodIn wsX1_reduce (wsV RX1 44 RX1 yX1_makeUnit wsX1_makeUnit) := goodIn_app (goodIn_of _ (by decide +kernel)) ggX1_reduce_X1_makeUnit
set_option maxRecDepth 20000 in
theorem ggX1_reduce_X1_clearElsewhere : GoodIn wsX1_reduce wsX1_clearElsewhere := goodIn_r _ [26, 2, 4, 18, 27, 28, 29, 8, 30, 41, 42, 43, 44, 45, 46, 47] (by decide +kernel) (by decide +kernel)
set_option maxRecDepth 20000 in
theorem gX1_reduce_X1_clearElsewhere : GoodIn wsX1_reduce (wsV RX1 48 RX1 yX1_clearElsewhere wsX1_clearElsewhere) := goodIn_app (goodIn_of _ (by decide +kernel)) ggX1_reduce_X1_clearElsewhere
set_option maxRecDepth 20000 in
theorem ggX1_reduce_X1_readQuietPatterns : GoodIn wsX1_reduce wsX1_readQuietPatterns := goodIn_r _ [34, 35, 2, 3, 36, 37, 38, 39, 8, 40, 18, 4, 41, 42, 43, 44, 45, 46, 47] (by decide +kernel) (by decide +kernel)
set_option maxRecDepth 20000 in
theorem gX1_reduce_X1_readQuietPatterns : GoodIn wsX1_reduce (wsV RX1 51 RX1 yX1_readQuietPatterns wsX1_readQuietPatterns) := goodIn_app (goodIn_of _ (by decide +kernel)) ggX1_reduce_X1_readQuietPatterns
set_option maxRecDepth 20000 in
theorem ggX1_answersUpTo_X1_agree : GoodIn wsX1_answersUpTo wsX1_agree := goodIn_r _ [7, 8, 9, 10, 11, 12, 13, 14, 15, 16, 17] (by decide +kernel) (by decide +kernel)
set_option maxRecDepth 20000 in
theorem gX1_answersUpTo_X1_agree : GoodIn wsX1_answersUpTo (wsV RX1 54 RX1 yX1_agree wsX1_agree) := goodIn_app (goodIn_of _ (by decide +kernel)) ggX1_answersUpTo_X1_agree
set_option maxRecDepth 20000 in
theorem ggX1_makeUnit_X1_inverse : GoodIn wsX1_makeUnit wsX1_inverse := goodIn_r _ [7, 2, 8, 9, 10, 11, 12, 13, 14] (by decide +kernel) (by decide +kernel)
set_option maxRecDepth 20000 in
theorem gX1_makeUnit_X1_inverse : GoodIn wsX1_makeUnit (wsV RX1 58 RX1 yX1_inverse wsX1_inverse) := goodIn_app (goodIn_of _ (by decide +kernel)) ggX1_makeUnit_X1_inverse
set_option maxRecDepth 20000 in
theorem ggX1_clearElsewhere_X1_addMultiple : GoodIn wsX1_clearElsewhere wsX1_addMultiple := goodIn_r _ [8, 1, 3, 9, 10, 11, 12, 13, 14, 15] (by decide +kernel) (by decide +kernel)
set_option maxRecDepth 20000 in
theorem gX1_clearElsewhere_X1_addMultiple : GoodIn wsX1_clearElsewhere (wsV RX1 61 RX1 yX1_addMultiple wsX1_addMultiple) := goodIn_app (goodIn_of _ (by decide +kernel)) ggX1_clearElsewhere_X1_addMultiple
set_option maxRecDepth 20000 in
theorem ggX1_readQuietPatterns_X1_readQuietPattern : GoodIn wsX1_readQuietPatterns wsX1_readQuietPattern := goodIn_r _ [9, 2, 3, 10, 11, 12, 13, 14, 15, 16, 17, 18] (by decide +kernel) (by decide +kernel)
set_option maxRecDepth 20000 in
theorem gX1_readQuietPatterns_X1_readQuietPattern : GoodIn wsX1_readQuietPatterns (wsV RX1 65 RX1 yX1_readQuietPattern wsX1_readQuietPattern) := goodIn_app (goodIn_of _ (by decide +kernel)) ggX1_readQuietPatterns_X1_readQuietPattern
set_option maxRecDepth 20000 in
theorem ggX2_run_X1_answersUpTo : GoodIn wsX2_run wsX1_answersUpTo := goodIn_r _ [6, 7, 8, 9, 10, 11, 5, 12, 13, 14, 15, 74, 75, 76, 77, 78, 79, 80] (by decide +kernel) (by decide +kernel)
set_option maxRecDepth 20000 in
theorem gX2_run_X1_answersUpTo : GoodIn wsX2_run (wsV RX2 31 RX1 yX1_answersUpTo wsX1_answersUpTo) := goodIn_app (goodIn_of _ (by decide +kernel)) ggX2_run_X1_answersUpTo
set_option maxRecDepth 20000 in
theorem ggX2_run_X2_begin : GoodIn wsX2_run wsX2_begin := goodIn_r _ [20, 21, 22, 23, 24, 25, 26, 5, 27, 28, 15, 14, 29, 30, 31, 19, 32, 33, 34, 35, 36, 1, 37, 38, 39, 40, 41, 68, 69, 70, 71, 72, 73, 74, 75, 76, 77, 78, 79, 80] (by decide +kernel) (by decide +kernel)
set_option maxRecDepth 20000 in
theorem gX2_run_X2_begin : GoodIn wsX2_run (wsV RX2 37 RX2 yX2_begin wsX2_begin) := goodIn_app (goodIn_of _ (by decide +kernel)) ggX2_run_X2_begin
set_option maxRecDepth 20000 in
theorem ggX2_run_X2_advance : GoodIn wsX2_run wsX2_advance := goodIn_r _ [45, 23, 46, 47, 48, 49, 5, 50, 7, 51, 52, 53, 54, 55, 56, 57, 58, 19, 59, 21, 22, 68, 69, 70, 71, 72, 73, 74, 75, 76, 77, 78, 79, 80] (by decide +kernel) (by decide +kernel)
set_option maxRecDepth 20000 in
theorem gX2_run_X2_advance : GoodIn wsX2_run (wsV RX2 41 RX2 yX2_advance wsX2_advance) := goodIn_app (goodIn_of _ (by decide +kernel)) ggX2_run_X2_advance
set_option maxRecDepth 20000 in
theorem ggX2_run_X2_keepIfLess : GoodIn wsX2_run wsX2_keepIfLess := goodIn_r _ [63, 1, 29, 30, 31, 19, 32, 21, 22, 64, 65, 66, 67, 37, 33, 34, 35, 36, 38, 39, 40, 41, 68, 69, 70, 71, 72, 73] (by decide +kernel) (by decide +kernel)
set_option maxRecDepth 20000 in
theorem gX2_run_X2_keepIfLess : GoodIn wsX2_run (wsV RX2 44 RX2 yX2_keepIfLess wsX2_keepIfLess) := goodIn_app (goodIn_of _ (by decide +kernel)) ggX2_run_X2_keepIfLess
set_option maxRecDepth 20000 in
theorem ggX2_begin_X1_pressesOf : GoodIn wsX2_begin wsX1_pressesOf := goodIn_r _ [8, 9, 10, 11, 33, 34, 35, 36, 37, 38, 39] (by decide +kernel) (by decide +kernel)
set_option maxRecDepth 20000 in
theorem gX2_begin_X1_pressesOf : GoodIn wsX2_begin (wsV RX2 47 RX1 yX1_pressesOf wsX1_pressesOf) := goodIn_app (goodIn_of _ (by decide +kernel)) ggX2_begin_X1_pressesOf
set_option maxRecDepth 20000 in
theorem ggX2_begin_X2_totalTried : GoodIn wsX2_begin wsX2_totalTried := goodIn_r _ [16, 1, 2, 27, 28, 29, 30, 31, 32] (by decide +kernel) (by decide +kernel)
set_option maxRecDepth 20000 in
theorem gX2_begin_X2_totalTried : GoodIn wsX2_begin (wsV RX2 50 RX2 yX2_totalTried wsX2_totalTried) := goodIn_app (goodIn_of _ (by decide +kernel)) ggX2_begin_X2_totalTried
set_option maxRecDepth 20000 in
theorem ggX2_begin_X2_keep : GoodIn wsX2_begin wsX2_keep := goodIn_r _ [20, 21, 2, 22, 1, 23, 24, 25, 26, 27, 28, 29, 30, 31, 32] (by decide +kernel) (by decide +kernel)
set_option maxRecDepth 20000 in
theorem gX2_begin_X2_keep : GoodIn wsX2_begin (wsV RX2 54 RX2 yX2_keep wsX2_keep) := goodIn_app (goodIn_of _ (by decide +kernel)) ggX2_begin_X2_keep
set_option maxRecDepth 20000 in
theorem ggX2_advance_X1_freeLamps : GoodIn wsX2_advance wsX1_freeLamps := goodIn_r _ [7, 8, 27, 28, 29, 30, 31, 32, 33] (by decide +kernel) (by decide +kernel)
set_option maxRecDepth 20000 in
theorem gX2_advance_X1_freeLamps : GoodIn wsX2_advance (wsV RX2 58 RX1 yX1_freeLamps wsX1_freeLamps) := goodIn_app (goodIn_of _ (by decide +kernel)) ggX2_advance_X1_freeLamps
set_option maxRecDepth 20000 in
theorem ggX2_advance_X1_quietPattern : GoodIn wsX2_advance wsX1_quietPattern := goodIn_r _ [12, 13, 27, 28, 29, 30, 31, 32, 33] (by decide +kernel) (by decide +kernel)
set_option maxRecDepth 20000 in
theorem gX2_advance_X1_quietPattern : GoodIn wsX2_advance (wsV RX2 61 RX1 yX1_quietPattern wsX1_quietPattern) := goodIn_app (goodIn_of _ (by decide +kernel)) ggX2_advance_X1_quietPattern
set_option maxRecDepth 20000 in
theorem ggX2_advance_X2_addToTried : GoodIn wsX2_advance wsX2_addToTried := goodIn_r _ [18, 19, 20, 2, 21, 22, 23, 24, 25, 26] (by decide +kernel) (by decide +kernel)
set_option maxRecDepth 20000 in
theorem gX2_advance_X2_addToTried : GoodIn wsX2_advance (wsV RX2 65 RX2 yX2_addToTried wsX2_addToTried) := goodIn_app (goodIn_of _ (by decide +kernel)) ggX2_advance_X2_addToTried
set_option maxRecDepth 20000 in
theorem ggX2_keepIfLess_X2_totalTried : GoodIn wsX2_keepIfLess wsX2_totalTried := goodIn_r _ [6, 7, 8, 22, 23, 24, 25, 26, 27] (by decide +kernel) (by decide +kernel)
set_option maxRecDepth 20000 in
theorem gX2_keepIfLess_X2_totalTried : GoodIn wsX2_keepIfLess (wsV RX2 50 RX2 yX2_totalTried wsX2_totalTried) := goodIn_app (goodIn_of _ (by decide +kernel)) ggX2_keepIfLess_X2_totalTried
set_option maxRecDepth 20000 in
theorem ggX2_keepIfLess_X2_triedIsAhead : GoodIn wsX2_keepIfLess wsX2_triedIsAhead := goodIn_r _ [12, 7, 8, 13, 22, 23, 24, 25, 26, 27] (by decide +kernel) (by decide +kernel)
set_option maxRecDepth 20000 in
theorem gX2_keepIfLess_X2_triedIsAhead : GoodIn wsX2_keepIfLess (wsV RX2 69 RX2 yX2_triedIsAhead wsX2_triedIsAhead) := goodIn_app (goodIn_of _ (by decide +kernel)) ggX2_keepIfLess_X2_triedIsAhead
set_option maxRecDepth 20000 in
theorem ggX2_keepIfLess_X2_keep : GoodIn wsX2_keepIfLess wsX2_keep := goodIn_r _ [17, 1, 8, 13, 7, 18, 19, 20, 21, 22, 23, 24, 25, 26, 27] (by decide +kernel) (by decide +kernel)
set_option maxRecDepth 20000 in
theorem gX2_keepIfLess_X2_keep : GoodIn wsX2_keepIfLess (wsV RX2 54 RX2 yX2_keep wsX2_keep) := goodIn_app (goodIn_of _ (by decide +kernel)) ggX2_keepIfLess_X2_keep
set_option maxRecDepth 20000 in
theorem ggX3_init_X3_primeFor : GoodIn wsX3_init wsX3_primeFor := goodIn_r _ [34] (by decide +kernel) (by decide +kernel)
set_option maxRecDepth 20000 in
theorem gX3_init_X3_primeFor : GoodIn wsX3_init (va_wsS RX3 22 yX3_primeFor wsX3_primeFor) := goodIn_app (goodIn_of _ (by decide +kernel)) ggX3_init_X3_primeFor
set_option maxRecDepth 20000 in
theorem ggX3_init_X1_init : GoodIn wsX3_init wsX1_init := goodIn_r _ [37, 38, 2, 3, 39, 40, 41, 13, 42, 43, 44, 45, 46, 73, 74, 75, 76, 77, 78, 79] (by decide +kernel) (by decide +kernel)
set_option maxRecDepth 20000 in
theorem gX3_init_X1_init : GoodIn wsX3_init (wsX1_init) := ggX3_init_X1_init
set_option maxRecDepth 20000 in
theorem ggX3_init_X2_init : GoodIn wsX3_init wsX2_init := goodIn_r _ [49, 50, 2, 3, 51, 52, 13, 53, 54, 55, 56, 80, 81, 82, 83, 84, 85] (by decide +kernel) (by decide +kernel)
set_option maxRecDepth 20000 in
theorem gX3_init_X2_init : GoodIn wsX3_init (wsX2_init) := ggX3_init_X2_init
set_option maxRecDepth 20000 in
theorem ggX3_init_X0_init : GoodIn wsX3_init wsX0_init := goodIn_r _ [59, 60, 2, 3, 13, 61, 62, 86, 87] (by decide +kernel) (by decide +kernel)
set_option maxRecDepth 20000 in
theorem gX3_init_X0_init : GoodIn wsX3_init (wsX0_init) := ggX3_init_X0_init
set_option maxRecDepth 20000 in
theorem ggX3_join_X3_mustExist : GoodIn wsX3_join wsX3_mustExist := goodIn_r _ [6, 7, 8, 9, 10, 21, 22, 23, 24, 25, 26, 27, 28, 29, 30, 31, 32, 33, 34, 35, 36] (by decide +kernel) (by decide +kernel)
set_option maxRecDepth 20000 in
theorem gX3_join_X3_mustExist : GoodIn wsX3_join (wsV RX3 69 RX3 yX3_mustExist wsX3_mustExist) := goodIn_app (goodIn_of _ (by decide +kernel)) ggX3_join_X3_mustExist
set_option maxRecDepth 20000 in
theorem ggX3_join_X3_touches : GoodIn wsX3_join wsX3_touches := goodIn_r _ [14, 1, 21, 22, 23, 24, 25, 26, 27, 28, 29, 30] (by decide +kernel) (by decide +kernel)
set_option maxRecDepth 20000 in
theorem gX3_join_X3_touches : GoodIn wsX3_join (wsV RX3 73 RX3 yX3_touches wsX3_touches) := goodIn_app (goodIn_of _ (by decide +kernel)) ggX3_join_X3_touches
set_option maxRecDepth 20000 in
theorem ggX3_join_X3_forget : GoodIn wsX3_join wsX3_forget := goodIn_r _ [18, 19, 20, 21, 22, 23, 24, 25, 26, 27, 28, 29, 30] (by decide +kernel) (by decide +kernel)
set_option maxRecDepth 20000 in
theorem gX3_join_X3_forget : GoodIn wsX3_join (wsV RX3 77 RX3 yX3_forget wsX3_forget) := goodIn_app (goodIn_of _ (by decide +kernel)) ggX3_join_X3_forget
set_option maxRecDepth 20000 in
theorem ggX3_self_X3_mustExist : GoodIn wsX3_self wsX3_mustExist := goodIn_r _ [6, 7, 8, 9, 10, 21, 22, 23, 24, 25, 26, 27, 28, 29, 30, 31, 32, 33, 34, 35, 36] (by decide +kernel) (by decide +kernel)
set_option maxRecDepth 20000 in
theorem gX3_self_X3_mustExist : GoodIn wsX3_self (wsV RX3 69 RX3 yX3_mustExist wsX3_mustExist) := goodIn_app (goodIn_of _ (by decide +kernel)) ggX3_self_X3_mustExist
set_option maxRecDepth 20000 in
theorem ggX3_self_X3_touches : GoodIn wsX3_self wsX3_touches := goodIn_r _ [14, 1, 21, 22, 23, 24, 25, 26, 27, 28, 29, 30] (by decide +kernel) (by decide +kernel)
set_option maxRecDepth 20000 in
theorem gX3_self_X3_touches : GoodIn wsX3_self (wsV RX3 73 RX3 yX3_touches wsX3_touches) := goodIn_app (goodIn_of _ (by decide +kernel)) ggX3_self_X3_touches
set_option maxRecDepth 20000 in
theorem ggX3_self_X3_forget : GoodIn wsX3_self wsX3_forget := goodIn_r _ [18, 19, 20, 21, 22, 23, 24, 25, 26, 27, 28, 29, 30] (by decide +kernel) (by decide +kernel)
set_option maxRecDepth 20000 in
theorem gX3_self_X3_forget : GoodIn wsX3_self (wsV RX3 77 RX3 yX3_forget wsX3_forget) := goodIn_app (goodIn_of _ (by decide +kernel)) ggX3_self_X3_forget
set_option maxRecDepth 20000 in
theorem ggX3_set_X3_mustExist : GoodIn wsX3_set wsX3_mustExist := goodIn_r _ [6, 7, 8, 9, 10, 22, 23, 24, 25, 26, 27, 28, 29, 30, 31, 32, 33, 34, 35, 36, 37] (by decide +kernel) (by decide +kernel)
set_option maxRecDepth 20000 in
theorem gX3_set_X3_mustExist : GoodIn wsX3_set (wsV RX3 69 RX3 yX3_mustExist wsX3_mustExist) := goodIn_app (goodIn_of _ (by decide +kernel)) ggX3_set_X3_mustExist
set_option maxRecDepth 20000 in
theorem ggX3_set_X3_isState : GoodIn wsX3_set wsX3_isState := goodIn_r _ [14, 15, 22, 23, 24, 25, 26, 27, 28, 29, 30, 31] (by decide +kernel) (by decide +kernel)
set_option maxRecDepth 20000 in
theorem gX3_set_X3_isState : GoodIn wsX3_set (wsV RX3 80 RX3 yX3_isState wsX3_isState) := goodIn_app (goodIn_of _ (by decide +kernel)) ggX3_set_X3_isState
set_option maxRecDepth 20000 in
theorem ggX3_set_X3_forget : GoodIn wsX3_set wsX3_forget := goodIn_r _ [19, 20, 21, 22, 23, 24, 25, 26, 27, 28, 29, 30, 31] (by decide +kernel) (by decide +kernel)
set_option maxRecDepth 20000 in
theorem gX3_set_X3_forget : GoodIn wsX3_set (wsV RX3 77 RX3 yX3_forget wsX3_forget) := goodIn_app (goodIn_of _ (by decide +kernel)) ggX3_set_X3_forget
set_option maxRecDepth 20000 in
theorem ggX3_want_X3_mustExist : GoodIn wsX3_want wsX3_mustExist := goodIn_r _ [6, 7, 8, 9, 10, 22, 23, 24, 25, 26, 27, 28, 29, 30, 31, 32, 33, 34, 35, 36, 37] (by decide +kernel) (by decide +kernel)
set_option maxRecDepth 20000 in
theorem gX3_want_X3_mustExist : GoodIn wsX3_want (wsV RX3 69 RX3 yX3_mustExist wsX3_mustExist) := goodIn_app (goodIn_of _ (by decide +kernel)) ggX3_want_X3_mustExist
set_option maxRecDepth 20000 in
theorem ggX3_want_X3_isState : GoodIn wsX3_want wsX3_isState := goodIn_r _ [14, 15, 22, 23, 24, 25, 26, 27, 28, 29, 30, 31] (by decide +kernel) (by decide +kernel)
set_option maxRecDepth 20000 in
theorem gX3_want_X3_isState : GoodIn wsX3_want (wsV RX3 80 RX3 yX3_isState wsX3_isState) := goodIn_app (goodIn_of _ (by decide +kernel)) ggX3_want_X3_isState
set_option maxRecDepth 20000 in
theorem ggX3_want_X3_forget : GoodIn wsX3_want wsX3_forget := goodIn_r _ [19, 20, 21, 22, 23, 24, 25, 26, 27, 28, 29, 30, 31] (by decide +kernel) (by decide +kernel)
set_option maxRecDepth 20000 in
theorem gX3_want_X3_forget : GoodIn wsX3_want (wsV RX3 77 RX3 yX3_forget wsX3_forget) := goodIn_app (goodIn_of _ (by decide +kernel)) ggX3_want_X3_forget
set_option maxRecDepth 20000 in
theorem ggX3_press_X3_mustExist : GoodIn wsX3_press wsX3_mustExist := goodIn_r _ [8, 1, 9, 10, 11, 23, 24, 25, 26, 27, 28, 29, 30, 31, 32, 33, 34, 35, 36, 37, 38] (by decide +kernel) (by decide +kernel)
set_option maxRecDepth 20000 in
theorem gX3_press_X3_mustExist : GoodIn wsX3_press (wsV RX3 69 RX3 yX3_mustExist wsX3_mustExist) := goodIn_app (goodIn_of _ (by decide +kernel)) ggX3_press_X3_mustExist
set_option maxRecDepth 20000 in
theorem ggX3_press_X3_touches : GoodIn wsX3_press wsX3_touches := goodIn_r _ [15, 16, 23, 24, 25, 26, 27, 28, 29, 30, 31, 32] (by decide +kernel) (by decide +kernel)
set_option maxRecDepth 20000 in
theorem gX3_press_X3_touches : GoodIn wsX3_press (wsV RX3 73 RX3 yX3_touches wsX3_touches) := goodIn_app (goodIn_of _ (by decide +kernel)) ggX3_press_X3_touches
set_option maxRecDepth 20000 in
theorem ggX3_press_X3_forget : GoodIn wsX3_press wsX3_forget := goodIn_r _ [20, 21, 22, 23, 24, 25, 26, 27, 28, 29, 30, 31, 32] (by decide +kernel) (by decide +kernel)
set_option maxRecDepth 20000 in
theorem gX3_press_X3_forget : GoodIn wsX3_press (wsV RX3 77 RX3 yX3_forget wsX3_forget) := goodIn_app (goodIn_of _ (by decide +kernel)) ggX3_press_X3_forget
set_option maxRecDepth 20000 in
theorem ggX3_at_X3_mustExist : GoodIn wsX3_at wsX3_mustExist := goodIn_r _ [6, 7, 8, 9, 10, 11, 12, 13, 14, 15, 16, 17, 18, 19, 20, 21, 22, 23, 24, 25, 26] (by decide +kernel) (by decide +kernel)
set_option maxRecDepth 20000 in
theorem gX3_at_X3_mustExist : GoodIn wsX3_at (wsV RX3 69 RX3 yX3_mustExist wsX3_mustExist) := goodIn_app (goodIn_of _ (by decide +kernel)) ggX3_at_X3_mustExist
set_option maxRecDepth 20000 in
theorem ggX3_rank_X3_work : GoodIn wsX3_rank wsX3_work := goodIn_r _ [6, 7, 1, 8, 9, 10, 11, 12, 13, 14, 15, 16, 17, 18, 19, 20, 21, 22, 23, 24, 25, 26, 27, 28, 29, 30, 31, 32, 33, 34, 35, 36, 37, 38, 39, 40, 41, 42, 43, 44, 45, 46, 47, 48, 49, 50, 51, 52, 53, 54, 55, 56, 57, 58, 63, 64, 65, 66, 67, 68, 69, 70, 71, 72, 73, 74, 75, 76, 77, 78, 79] (by decide +kernel) (by decide +kernel)
set_option maxRecDepth 20000 in
theorem gX3_rank_X3_work : GoodIn wsX3_rank (wsV RX3 84 RX3 yX3_work wsX3_work) := goodIn_app (goodIn_of _ (by decide +kernel)) ggX3_rank_X3_work
set_option maxRecDepth 20000 in
theorem ggX3_rank_X1_boundLamps : GoodIn wsX3_rank wsX1_boundLamps := goodIn_r _ [62, 23, 73, 74, 75, 76, 77, 78, 79] (by decide +kernel) (by decide +kernel)
set_option maxRecDepth 20000 in
theorem gX3_rank_X1_boundLamps : GoodIn wsX3_rank (wsV RX3 87 RX1 yX1_boundLamps wsX1_boundLamps) := goodIn_app (goodIn_of _ (by decide +kernel)) ggX3_rank_X1_boundLamps
set_option maxRecDepth 20000 in
theorem ggX3_solvable_X3_work : GoodIn wsX3_solvable wsX3_work := goodIn_r _ [6, 7, 1, 8, 9, 10, 11, 12, 13, 14, 15, 16, 17, 18, 19, 20, 21, 22, 23, 24, 25, 26, 27, 28, 29, 30, 31, 32, 33, 34, 35, 36, 37, 38, 39, 40, 41, 42, 43, 44, 45, 46, 47, 48, 49, 50, 51, 52, 53, 54, 55, 56, 57, 58, 63, 64, 65, 66, 67, 68, 69, 70, 71, 72, 73, 74, 75, 76, 77, 78, 79] (by decide +kernel) (by decide +kernel)
set_option maxRecDepth 20000 in
theorem gX3_solvable_X3_work : GoodIn wsX3_solvable (wsV RX3 84 RX3 yX3_work wsX3_work) := goodIn_app (goodIn_of _ (by decide +kernel)) ggX3_solvable_X3_work
set_option maxRecDepth 20000 in
theorem ggX3_solvable_X1_agree : GoodIn wsX3_solvable wsX1_agree := goodIn_r _ [62, 23, 16, 17, 73, 74, 75, 76, 77, 78, 79] (by decide +kernel) (by decide +kernel)
set_option maxRecDepth 20000 in
theorem gX3_solvable_X1_agree : GoodIn wsX3_solvable (wsV RX3 91 RX1 yX1_agree wsX1_agree) := goodIn_app (goodIn_of _ (by decide +kernel)) ggX3_solvable_X1_agree
set_option maxRecDepth 20000 in
theorem ggX3_answer_X3_mustExist : GoodIn wsX3_answer wsX3_mustExist := goodIn_r _ [6, 7, 8, 9, 10, 75, 76, 77, 78, 79, 80, 81, 82, 83, 84, 85, 86, 87, 88, 89, 90] (by decide +kernel) (by decide +kernel)
set_option maxRecDepth 20000 in
theorem gX3_answer_X3_mustExist : GoodIn wsX3_answer (wsV RX3 69 RX3 yX3_mustExist wsX3_mustExist) := goodIn_app (goodIn_of _ (by decide +kernel)) ggX3_answer_X3_mustExist
set_option maxRecDepth 20000 in
theorem ggX3_answer_X3_work : GoodIn wsX3_answer wsX3_work := goodIn_r _ [14, 15, 1, 16, 17, 18, 19, 20, 21, 22, 23, 24, 25, 26, 27, 28, 29, 30, 31, 32, 33, 34, 35, 36, 37, 38, 39, 40, 41, 42, 43, 44, 45, 46, 47, 48, 49, 50, 51, 52, 53, 54, 55, 56, 57, 58, 59, 60, 61, 62, 63, 64, 65, 66, 75, 76, 77, 78, 79, 80, 81, 82, 83, 84, 91, 92, 93, 94, 95, 96, 97] (by decide +kernel) (by decide +kernel)
set_option maxRecDepth 20000 in
theorem gX3_answer_X3_work : GoodIn wsX3_answer (wsV RX3 84 RX3 yX3_work wsX3_work) := goodIn_app (goodIn_of _ (by decide +kernel)) ggX3_answer_X3_work
set_option maxRecDepth 20000 in
theorem ggX3_answer_X1_agree : GoodIn wsX3_answer wsX1_agree := goodIn_r _ [70, 31, 24, 25, 91, 92, 93, 94, 95, 96, 97] (by decide +kernel) (by decide +kernel)
set_option maxRecDepth 20000 in
theorem gX3_answer_X1_agree : GoodIn wsX3_answer (wsV RX3 91 RX1 yX1_agree wsX1_agree) := goodIn_app (goodIn_of _ (by decide +kernel)) ggX3_answer_X1_agree
set_option maxRecDepth 20000 in
theorem ggX3_answer_X1_pressesOf : GoodIn wsX3_answer wsX1_pressesOf := goodIn_r _ [74, 32, 25, 24, 91, 92, 93, 94, 95, 96, 97] (by decide +kernel) (by decide +kernel)
set_option maxRecDepth 20000 in
theorem gX3_answer_X1_pressesOf : GoodIn wsX3_answer (wsV RX3 95 RX1 yX1_pressesOf wsX1_pressesOf) := goodIn_app (goodIn_of _ (by decide +kernel)) ggX3_answer_X1_pressesOf
set_option maxRecDepth 20000 in
theorem ggX3_quiet_X3_mustExist : GoodIn wsX3_quiet wsX3_mustExist := goodIn_r _ [6, 7, 8, 9, 10, 75, 76, 77, 78, 79, 80, 81, 82, 83, 84, 85, 86, 87, 88, 89, 90] (by decide +kernel) (by decide +kernel)
set_option maxRecDepth 20000 in
theorem gX3_quiet_X3_mustExist : GoodIn wsX3_quiet (wsV RX3 69 RX3 yX3_mustExist wsX3_mustExist) := goodIn_app (goodIn_of _ (by decide +kernel)) ggX3_quiet_X3_mustExist
set_option maxRecDepth 20000 in
theorem ggX3_quiet_X3_work : GoodIn wsX3_quiet wsX3_work := goodIn_r _ [14, 15, 1, 16, 17, 18, 19, 20, 21, 22, 23, 24, 25, 26, 27, 28, 29, 30, 31, 32, 33, 34, 35, 36, 37, 38, 39, 40, 41, 42, 43, 44, 45, 46, 47, 48, 49, 50, 51, 52, 53, 54, 55, 56, 57, 58, 59, 60, 61, 62, 63, 64, 65, 66, 75, 76, 77, 78, 79, 80, 81, 82, 83, 84, 91, 92, 93, 94, 95, 96, 97] (by decide +kernel) (by decide +kernel)
set_option maxRecDepth 20000 in
theorem gX3_quiet_X3_work : GoodIn wsX3_quiet (wsV RX3 84 RX3 yX3_work wsX3_work) := goodIn_app (goodIn_of _ (by decide +kernel)) ggX3_quiet_X3_work
set_option maxRecDepth 20000 in
theorem ggX3_quiet_X1_freeLamps : GoodIn wsX3_quiet wsX1_freeLamps := goodIn_r _ [70, 61, 91, 92, 93, 94, 95, 96, 97] (by decide +kernel) (by decide +kernel)
set_option maxRecDepth 20000 in
theorem gX3_quiet_X1_freeLamps : GoodIn wsX3_quiet (wsV RX3 98 RX1 yX1_freeLamps wsX1_freeLamps) := goodIn_app (goodIn_of _ (by decide +kernel)) ggX3_quiet_X1_freeLamps
set_option maxRecDepth 20000 in
theorem ggX3_quiet_X1_quietPattern : GoodIn wsX3_quiet wsX1_quietPattern := goodIn_r _ [74, 62, 91, 92, 93, 94, 95, 96, 97] (by decide +kernel) (by decide +kernel)
set_option maxRecDepth 20000 in
theorem gX3_quiet_X1_quietPattern : GoodIn wsX3_quiet (wsV RX3 101 RX1 yX1_quietPattern wsX1_quietPattern) := goodIn_app (goodIn_of _ (by decide +kernel)) ggX3_quiet_X1_quietPattern
set_option maxRecDepth 20000 in
theorem ggX3_count_X3_work : GoodIn wsX3_count wsX3_work := goodIn_r _ [8, 9, 2, 10, 11, 12, 13, 14, 15, 16, 17, 18, 19, 20, 21, 22, 23, 24, 25, 26, 27, 28, 29, 30, 31, 32, 33, 34, 35, 36, 37, 38, 39, 40, 41, 42, 43, 44, 45, 46, 47, 48, 49, 50, 51, 52, 53, 54, 55, 56, 57, 58, 59, 60, 84, 85, 86, 87, 88, 89, 90, 91, 92, 93, 94, 95, 96, 97, 98, 99, 100] (by decide +kernel) (by decide +kernel)
set_option maxRecDepth 20000 in
theorem gX3_count_X3_work : GoodIn wsX3_count (wsV RX3 84 RX3 yX3_work wsX3_work) := goodIn_app (goodIn_of _ (by decide +kernel)) ggX3_count_X3_work
set_option maxRecDepth 20000 in
theorem ggX3_count_X1_agree : GoodIn wsX3_count wsX1_agree := goodIn_r _ [64, 25, 18, 19, 94, 95, 96, 97, 98, 99, 100] (by decide +kernel) (by decide +kernel)
set_option maxRecDepth 20000 in
theorem gX3_count_X1_agree : GoodIn wsX3_count (wsV RX3 91 RX1 yX1_agree wsX1_agree) := goodIn_app (goodIn_of _ (by decide +kernel)) ggX3_count_X1_agree
set_option maxRecDepth 20000 in
theorem ggX3_count_X0_become : GoodIn wsX3_count wsX0_become := goodIn_r _ [69, 70, 71, 101, 102] (by decide +kernel) (by decide +kernel)
set_option maxRecDepth 20000 in
theorem gX3_count_X0_become : GoodIn wsX3_count (wsV RX3 105 RX0 yX0_become wsX0_become) := goodIn_app (goodIn_of _ (by decide +kernel)) ggX3_count_X0_become
set_option maxRecDepth 20000 in
theorem ggX3_count_X1_freeLamps : GoodIn wsX3_count wsX1_freeLamps := goodIn_r _ [75, 55, 94, 95, 96, 97, 98, 99, 100] (by decide +kernel) (by decide +kernel)
set_option maxRecDepth 20000 in
theorem gX3_count_X1_freeLamps : GoodIn wsX3_count (wsV RX3 98 RX1 yX1_freeLamps wsX1_freeLamps) := goodIn_app (goodIn_of _ (by decide +kernel)) ggX3_count_X1_freeLamps
set_option maxRecDepth 20000 in
theorem ggX3_count_X0_multiply : GoodIn wsX3_count wsX0_multiply := goodIn_r _ [79, 71, 70, 101, 102] (by decide +kernel) (by decide +kernel)
set_option maxRecDepth 20000 in
theorem gX3_count_X0_multiply : GoodIn wsX3_count (wsV RX3 108 RX0 yX0_multiply wsX0_multiply) := goodIn_app (goodIn_of _ (by decide +kernel)) ggX3_count_X0_multiply
set_option maxRecDepth 20000 in
theorem ggX3_count_X0_digit : GoodIn wsX3_count wsX0_digit := goodIn_r _ [83, 71, 70, 101, 102] (by decide +kernel) (by decide +kernel)
set_option maxRecDepth 20000 in
theorem gX3_count_X0_digit : GoodIn wsX3_count (wsV RX3 111 RX0 yX0_digit wsX0_digit) := goodIn_app (goodIn_of _ (by decide +kernel)) ggX3_count_X0_digit
set_option maxRecDepth 20000 in
theorem ggX3_fewest_X3_seek : GoodIn wsX3_fewest wsX3_seek := goodIn_r _ [6, 7, 1, 8, 9, 10, 11, 5, 12, 13, 14, 15, 16, 17, 18, 19, 20, 21, 22, 23, 24, 25, 26, 27, 28, 29, 30, 31, 32, 33, 34, 35, 36, 37, 38, 39, 40, 41, 42, 43, 44, 45, 46, 47, 48, 49, 50, 51, 52, 53, 54, 55, 56, 57, 58, 59, 60, 61, 62, 63, 64, 65, 66, 67, 68, 69, 70, 71, 72, 73, 74, 75, 76, 77, 78, 79, 80, 81, 82, 83, 84, 85, 86, 87, 88, 89, 90, 91, 92, 93, 94, 95, 96, 97, 98, 99, 100, 101, 102, 103, 104, 105, 106, 107, 108, 109, 110, 111, 112, 113, 114, 115, 116, 117, 118, 119, 120, 121, 122, 123, 124, 125, 126, 127, 132, 133, 134, 135, 136, 137, 138, 139, 140, 141, 142, 143, 144, 145, 146, 147, 148, 149, 150, 151, 152, 153, 154] (by decide +kernel) (by decide +kernel)
set_option maxRecDepth 20000 in
theorem gX3_fewest_X3_seek : GoodIn wsX3_fewest (wsV RX3 114 RX3 yX3_seek wsX3_seek) := goodIn_app (goodIn_of _ (by decide +kernel)) ggX3_fewest_X3_seek
set_option maxRecDepth 20000 in
theorem ggX3_fewest_X2_leastTotal : GoodIn wsX3_fewest wsX2_leastTotal := goodIn_r _ [131, 70, 149, 150, 151, 152, 153, 154] (by decide +kernel) (by decide +kernel)
set_option maxRecDepth 20000 in
theorem gX3_fewest_X2_leastTotal : GoodIn wsX3_fewest (wsV RX3 117 RX2 yX2_leastTotal wsX2_leastTotal) := goodIn_app (goodIn_of _ (by decide +kernel)) ggX3_fewest_X2_leastTotal
set_option maxRecDepth 20000 in
theorem ggX3_best_X3_mustExist : GoodIn wsX3_best wsX3_mustExist := goodIn_r _ [6, 7, 8, 9, 10, 144, 145, 146, 147, 148, 149, 150, 151, 152, 153, 154, 155, 156, 157, 158, 159] (by decide +kernel) (by decide +kernel)
set_option maxRecDepth 20000 in
theorem gX3_best_X3_mustExist : GoodIn wsX3_best (wsV RX3 69 RX3 yX3_mustExist wsX3_mustExist) := goodIn_app (goodIn_of _ (by decide +kernel)) ggX3_best_X3_mustExist
set_option maxRecDepth 20000 in
theorem ggX3_best_X3_seek : GoodIn wsX3_best wsX3_seek := goodIn_r _ [14, 15, 1, 16, 17, 18, 19, 5, 20, 21, 22, 23, 24, 25, 26, 27, 28, 29, 30, 31, 32, 33, 34, 35, 36, 37, 38, 39, 40, 41, 42, 43, 44, 45, 46, 47, 48, 49, 50, 51, 52, 53, 54, 55, 56, 57, 58, 59, 60, 61, 62, 63, 64, 65, 66, 67, 68, 69, 70, 71, 72, 73, 74, 75, 76, 77, 78, 79, 80, 81, 82, 83, 84, 85, 86, 87, 88, 89, 90, 91, 92, 93, 94, 95, 96, 97, 98, 99, 100, 101, 102, 103, 104, 105, 106, 107, 108, 109, 110, 111, 112, 113, 114, 115, 116, 117, 118, 119, 120, 121, 122, 123, 124, 125, 126, 127, 128, 129, 130, 131, 132, 133, 134, 135, 144, 145, 146, 147, 148, 149, 150, 151, 152, 153, 160, 161, 162, 163, 164, 165, 166, 167, 168, 169, 170, 171, 172] (by decide +kernel) (by decide +kernel)
set_option maxRecDepth 20000 in
theorem gX3_best_X3_seek : GoodIn wsX3_best (wsV RX3 114 RX3 yX3_seek wsX3_seek) := goodIn_app (goodIn_of _ (by decide +kernel)) ggX3_best_X3_seek
set_option maxRecDepth 20000 in
theorem ggX3_best_X2_leastTotal : GoodIn wsX3_best wsX2_leastTotal := goodIn_r _ [139, 78, 167, 168, 169, 170, 171, 172] (by decide +kernel) (by decide +kernel)
set_option maxRecDepth 20000 in
theorem gX3_best_X2_leastTotal : GoodIn wsX3_best (wsV RX3 117 RX2 yX2_leastTotal wsX2_leastTotal) := goodIn_app (goodIn_of _ (by decide +kernel)) ggX3_best_X2_leastTotal
set_option maxRecDepth 20000 in
theorem ggX3_best_X2_leastPresses : GoodIn wsX3_best wsX2_leastPresses := goodIn_r _ [143, 106, 167, 168, 169, 170, 171, 172] (by decide +kernel) (by decide +kernel)
set_option maxRecDepth 20000 in
theorem gX3_best_X2_leastPresses : GoodIn wsX3_best (wsV RX3 120 RX2 yX2_leastPresses wsX2_leastPresses) := goodIn_app (goodIn_of _ (by decide +kernel)) ggX3_best_X2_leastPresses
set_option maxRecDepth 20000 in
theorem ggX3_alone_X3_mustExist : GoodIn wsX3_alone wsX3_mustExist := goodIn_r _ [6, 7, 8, 9, 10, 75, 76, 77, 78, 79, 80, 81, 82, 83, 84, 85, 86, 87, 88, 89, 90] (by decide +kernel) (by decide +kernel)
set_option maxRecDepth 20000 in
theorem gX3_alone_X3_mustExist : GoodIn wsX3_alone (wsV RX3 69 RX3 yX3_mustExist wsX3_mustExist) := goodIn_app (goodIn_of _ (by decide +kernel)) ggX3_alone_X3_mustExist
set_option maxRecDepth 20000 in
theorem ggX3_alone_X3_work : GoodIn wsX3_alone wsX3_work := goodIn_r _ [14, 15, 1, 16, 17, 18, 19, 20, 21, 22, 23, 24, 25, 26, 27, 28, 29, 30, 31, 32, 33, 34, 35, 36, 37, 38, 39, 40, 41, 42, 43, 44, 45, 46, 47, 48, 49, 50, 51, 52, 53, 54, 55, 56, 57, 58, 59, 60, 61, 62, 63, 64, 65, 66, 75, 76, 77, 78, 79, 80, 81, 82, 83, 84, 91, 92, 93, 94, 95, 96, 97] (by decide +kernel) (by decide +kernel)
set_option maxRecDepth 20000 in
theorem gX3_alone_X3_work : GoodIn wsX3_alone (wsV RX3 84 RX3 yX3_work wsX3_work) := goodIn_app (goodIn_of _ (by decide +kernel)) ggX3_alone_X3_work
set_option maxRecDepth 20000 in
theorem ggX3_alone_X1_freeLamps : GoodIn wsX3_alone wsX1_freeLamps := goodIn_r _ [70, 61, 91, 92, 93, 94, 95, 96, 97] (by decide +kernel) (by decide +kernel)
set_option maxRecDepth 20000 in
theorem gX3_alone_X1_freeLamps : GoodIn wsX3_alone (wsV RX3 98 RX1 yX1_freeLamps wsX1_freeLamps) := goodIn_app (goodIn_of _ (by decide +kernel)) ggX3_alone_X1_freeLamps
set_option maxRecDepth 20000 in
theorem ggX3_alone_X1_quietPattern : GoodIn wsX3_alone wsX1_quietPattern := goodIn_r _ [74, 62, 91, 92, 93, 94, 95, 96, 97] (by decide +kernel) (by decide +kernel)
set_option maxRecDepth 20000 in
theorem gX3_alone_X1_quietPattern : GoodIn wsX3_alone (wsV RX3 101 RX1 yX1_quietPattern wsX1_quietPattern) := goodIn_app (goodIn_of _ (by decide +kernel)) ggX3_alone_X1_quietPattern
set_option maxRecDepth 20000 in
theorem ggX3_clear_X3_forget : GoodIn wsX3_clear wsX3_forget := goodIn_r _ [8, 9, 10, 11, 12, 13, 14, 15, 16, 17, 18, 19, 20] (by decide +kernel) (by decide +kernel)
set_option maxRecDepth 20000 in
theorem gX3_clear_X3_forget : GoodIn wsX3_clear (wsV RX3 77 RX3 yX3_forget wsX3_forget) := goodIn_app (goodIn_of _ (by decide +kernel)) ggX3_clear_X3_forget
set_option maxRecDepth 20000 in
theorem ggX3_work_X1_take : GoodIn wsX3_work wsX1_take := goodIn_r _ [10, 11, 12, 13, 64, 65, 66, 67, 68, 69, 70] (by decide +kernel) (by decide +kernel)
set_option maxRecDepth 20000 in
theorem gX3_work_X1_take : GoodIn wsX3_work (wsV RX3 130 RX1 yX1_take wsX1_take) := goodIn_app (goodIn_of _ (by decide +kernel)) ggX3_work_X1_take
set_option maxRecDepth 20000 in
theorem ggX3_work_X1_reduce : GoodIn wsX3_work wsX1_reduce := goodIn_r _ [17, 18, 11, 19, 12, 20, 21, 22, 9, 23, 24, 25, 26, 27, 28, 29, 30, 31, 13, 32, 33, 34, 35, 36, 37, 38, 39, 40, 41, 42, 43, 44, 45, 46, 47, 48, 49, 50, 51, 52, 53, 64, 65, 66, 67, 68, 69, 70] (by decide +kernel) (by decide +kernel)
set_option maxRecDepth 20000 in
theorem gX3_work_X1_reduce : GoodIn wsX3_work (wsV RX3 134 RX1 yX1_reduce wsX1_reduce) := goodIn_app (goodIn_of _ (by decide +kernel)) ggX3_work_X1_reduce
set_option maxRecDepth 20000 in
theorem ggX3_seek_X3_work : GoodIn wsX3_seek wsX3_work := goodIn_r _ [8, 9, 3, 10, 11, 12, 13, 14, 15, 16, 17, 18, 19, 20, 21, 22, 23, 24, 25, 26, 27, 28, 29, 30, 31, 32, 33, 34, 35, 36, 37, 38, 39, 40, 41, 42, 43, 44, 45, 46, 47, 48, 49, 50, 51, 52, 53, 54, 55, 56, 57, 58, 59, 60, 124, 125, 126, 127, 128, 129, 130, 131, 132, 133, 134, 135, 136, 137, 138, 139, 140] (by decide +kernel) (by decide +kernel)
set_option maxRecDepth 20000 in
theorem gX3_seek_X3_work : GoodIn wsX3_seek (wsV RX3 84 RX3 yX3_work wsX3_work) := goodIn_app (goodIn_of _ (by decide +kernel)) ggX3_seek_X3_work
set_option maxRecDepth 20000 in
theorem ggX3_seek_X2_run : GoodIn wsX3_seek wsX2_run := goodIn_r _ [65, 66, 67, 68, 69, 16, 70, 55, 20, 71, 72, 73, 74, 25, 18, 19, 75, 76, 77, 64, 78, 79, 80, 81, 82, 83, 84, 85, 26, 86, 87, 88, 89, 90, 91, 92, 93, 94, 95, 96, 97, 98, 99, 100, 101, 102, 103, 104, 105, 106, 107, 108, 109, 110, 111, 56, 112, 113, 114, 115, 116, 117, 118, 119, 120, 121, 122, 123, 141, 142, 143, 144, 145, 146, 134, 135, 136, 137, 138, 139, 140] (by decide +kernel) (by decide +kernel)
set_option maxRecDepth 20000 in
theorem gX3_seek_X2_run : GoodIn wsX3_seek (wsV RX3 137 RX2 yX2_run wsX2_run) := goodIn_app (goodIn_of _ (by decide +kernel)) ggX3_seek_X2_run
set_option maxRecDepth 20000 in
theorem ggX4_join_X4_isLamp : GoodIn wsX4_join wsX4_isLamp := goodIn_r _ [7, 8, 14, 15, 16, 17, 18, 19, 20, 21, 22, 23, 24, 25, 26, 27, 28, 29, 30, 31, 32, 33] (by decide +kernel) (by decide +kernel)
set_option maxRecDepth 20000 in
theorem gX4_join_X4_isLamp : GoodIn wsX4_join (wsV RX4 66 RX4 yX4_isLamp wsX4_isLamp) := goodIn_app (goodIn_of _ (by decide +kernel)) ggX4_join_X4_isLamp
set_option maxRecDepth 20000 in
theorem ggX4_join_X4_fails : GoodIn wsX4_join wsX4_fails := goodIn_r _ [12, 13, 14, 15, 16, 17, 18, 19, 20, 21, 22, 23, 24, 25, 26, 27, 28, 29, 30, 31, 32, 33] (by decide +kernel) (by decide +kernel)
set_option maxRecDepth 20000 in
theorem gX4_join_X4_fails : GoodIn wsX4_join (wsV RX4 70 RX4 yX4_fails wsX4_fails) := goodIn_app (goodIn_of _ (by decide +kernel)) ggX4_join_X4_fails
set_option maxRecDepth 20000 in
theorem ggX4_self_X4_isLamp : GoodIn wsX4_self wsX4_isLamp := goodIn_r _ [7, 8, 14, 15, 16, 17, 18, 19, 20, 21, 22, 23, 24, 25, 26, 27, 28, 29, 30, 31, 32, 33] (by decide +kernel) (by decide +kernel)
set_option maxRecDepth 20000 in
theorem gX4_self_X4_isLamp : GoodIn wsX4_self (wsV RX4 66 RX4 yX4_isLamp wsX4_isLamp) := goodIn_app (goodIn_of _ (by decide +kernel)) ggX4_self_X4_isLamp
set_option maxRecDepth 20000 in
theorem ggX4_self_X4_fails : GoodIn wsX4_self wsX4_fails := goodIn_r _ [12, 13, 14, 15, 16, 17, 18, 19, 20, 21, 22, 23, 24, 25, 26, 27, 28, 29, 30, 31, 32, 33] (by decide +kernel) (by decide +kernel)
set_option maxRecDepth 20000 in
theorem gX4_self_X4_fails : GoodIn wsX4_self (wsV RX4 70 RX4 yX4_fails wsX4_fails) := goodIn_app (goodIn_of _ (by decide +kernel)) ggX4_self_X4_fails
set_option maxRecDepth 20000 in
theorem ggX4_set_X4_isLamp : GoodIn wsX4_set wsX4_isLamp := goodIn_r _ [6, 7, 18, 19, 20, 21, 22, 23, 24, 25, 26, 27, 28, 29, 30, 31, 32, 33, 34, 35, 36, 37] (by decide +kernel) (by decide +kernel)
set_option maxRecDepth 20000 in
theorem gX4_set_X4_isLamp : GoodIn wsX4_set (wsV RX4 66 RX4 yX4_isLamp wsX4_isLamp) := goodIn_app (goodIn_of _ (by decide +kernel)) ggX4_set_X4_isLamp
set_option maxRecDepth 20000 in
theorem ggX4_set_X4_fails : GoodIn wsX4_set wsX4_fails := goodIn_r _ [11, 12, 18, 19, 20, 21, 22, 23, 24, 25, 26, 27, 28, 29, 30, 31, 32, 33, 34, 35, 36, 37] (by decide +kernel) (by decide +kernel)
set_option maxRecDepth 20000 in
theorem gX4_set_X4_fails : GoodIn wsX4_set (wsV RX4 70 RX4 yX4_fails wsX4_fails) := goodIn_app (goodIn_of _ (by decide +kernel)) ggX4_set_X4_fails
set_option maxRecDepth 20000 in
theorem ggX4_set_X4_isState : GoodIn wsX4_set wsX4_isState := goodIn_r _ [16, 17, 18, 19, 20, 21, 22, 23, 24, 25, 26, 27, 28, 29, 30, 31, 32, 33, 34, 35, 36, 37] (by decide +kernel) (by decide +kernel)
set_option maxRecDepth 20000 in
theorem gX4_set_X4_isState : GoodIn wsX4_set (wsV RX4 78 RX4 yX4_isState wsX4_isState) := goodIn_app (goodIn_of _ (by decide +kernel)) ggX4_set_X4_isState
set_option maxRecDepth 20000 in
theorem ggX4_want_X4_isLamp : GoodIn wsX4_want wsX4_isLamp := goodIn_r _ [6, 7, 18, 19, 20, 21, 22, 23, 24, 25, 26, 27, 28, 29, 30, 31, 32, 33, 34, 35, 36, 37] (by decide +kernel) (by decide +kernel)
set_option maxRecDepth 20000 in
theorem gX4_want_X4_isLamp : GoodIn wsX4_want (wsV RX4 66 RX4 yX4_isLamp wsX4_isLamp) := goodIn_app (goodIn_of _ (by decide +kernel)) ggX4_want_X4_isLamp
set_option maxRecDepth 20000 in
theorem ggX4_want_X4_fails : GoodIn wsX4_want wsX4_fails := goodIn_r _ [11, 12, 18, 19, 20, 21, 22, 23, 24, 25, 26, 27, 28, 29, 30, 31, 32, 33, 34, 35, 36, 37] (by decide +kernel) (by decide +kernel)
set_option maxRecDepth 20000 in
theorem gX4_want_X4_fails : GoodIn wsX4_want (wsV RX4 70 RX4 yX4_fails wsX4_fails) := goodIn_app (goodIn_of _ (by decide +kernel)) ggX4_want_X4_fails
set_option maxRecDepth 20000 in
theorem ggX4_want_X4_isState : GoodIn wsX4_want wsX4_isState := goodIn_r _ [16, 17, 18, 19, 20, 21, 22, 23, 24, 25, 26, 27, 28, 29, 30, 31, 32, 33, 34, 35, 36, 37] (by decide +kernel) (by decide +kernel)
set_option maxRecDepth 20000 in
theorem gX4_want_X4_isState : GoodIn wsX4_want (wsV RX4 78 RX4 yX4_isState wsX4_isState) := goodIn_app (goodIn_of _ (by decide +kernel)) ggX4_want_X4_isState
set_option maxRecDepth 20000 in
theorem ggX4_press_X4_isLamp : GoodIn wsX4_press wsX4_isLamp := goodIn_r _ [8, 1, 20, 21, 22, 23, 24, 25, 26, 27, 28, 29, 30, 31, 32, 33, 34, 35, 36, 37, 38, 39] (by decide +kernel) (by decide +kernel)
set_option maxRecDepth 20000 in
theorem gX4_press_X4_isLamp : GoodIn wsX4_press (wsV RX4 66 RX4 yX4_isLamp wsX4_isLamp) := goodIn_app (goodIn_of _ (by decide +kernel)) ggX4_press_X4_isLamp
set_option maxRecDepth 20000 in
theorem ggX4_press_X4_fails : GoodIn wsX4_press wsX4_fails := goodIn_r _ [12, 13, 20, 21, 22, 23, 24, 25, 26, 27, 28, 29, 30, 31, 32, 33, 34, 35, 36, 37, 38, 39] (by decide +kernel) (by decide +kernel)
set_option maxRecDepth 20000 in
theorem gX4_press_X4_fails : GoodIn wsX4_press (wsV RX4 70 RX4 yX4_fails wsX4_fails) := goodIn_app (goodIn_of _ (by decide +kernel)) ggX4_press_X4_fails
set_option maxRecDepth 20000 in
theorem ggX4_press_X4_effect : GoodIn wsX4_press wsX4_effect := goodIn_r _ [17, 18, 19, 20, 21, 22, 23, 24, 25, 26, 27, 28, 29, 30, 31, 32, 33, 34, 35, 36, 37, 38, 39] (by decide +kernel) (by decide +kernel)
set_option maxRecDepth 20000 in
theorem gX4_press_X4_effect : GoodIn wsX4_press (wsV RX4 81 RX4 yX4_effect wsX4_effect) := goodIn_app (goodIn_of _ (by decide +kernel)) ggX4_press_X4_effect
set_option maxRecDepth 20000 in
theorem ggX4_at_X4_isLamp : GoodIn wsX4_at wsX4_isLamp := goodIn_r _ [6, 7, 13, 14, 15, 16, 17, 18, 19, 20, 21, 22, 23, 24, 25, 26, 27, 28, 29, 30, 31, 32] (by decide +kernel) (by decide +kernel)
set_option maxRecDepth 20000 in
theorem gX4_at_X4_isLamp : GoodIn wsX4_at (wsV RX4 66 RX4 yX4_isLamp wsX4_isLamp) := goodIn_app (goodIn_of _ (by decide +kernel)) ggX4_at_X4_isLamp
set_option maxRecDepth 20000 in
theorem ggX4_at_X4_fails : GoodIn wsX4_at wsX4_fails := goodIn_r _ [11, 12, 13, 14, 15, 16, 17, 18, 19, 20, 21, 22, 23, 24, 25, 26, 27, 28, 29, 30, 31, 32] (by decide +kernel) (by decide +kernel)
set_option maxRecDepth 20000 in
theorem gX4_at_X4_fails : GoodIn wsX4_at (wsV RX4 70 RX4 yX4_fails wsX4_fails) := goodIn_app (goodIn_of _ (by decide +kernel)) ggX4_at_X4_fails
set_option maxRecDepth 20000 in
theorem ggX4_takeApart_X4_inverse : GoodIn wsX4_takeApart wsX4_inverse := goodIn_r _ [13, 7, 14, 15, 16, 17, 18, 19, 20, 21, 22, 23, 24, 25, 26, 27, 28, 29, 30, 31, 32, 33] (by decide +kernel) (by decide +kernel)
set_option maxRecDepth 20000 in
theorem gX4_takeApart_X4_inverse : GoodIn wsX4_takeApart (wsV RX4 88 RX4 yX4_inverse wsX4_inverse) := goodIn_app (goodIn_of _ (by decide +kernel)) ggX4_takeApart_X4_inverse
set_option maxRecDepth 20000 in
theorem ggX4_know_X4_effect : GoodIn wsX4_know wsX4_effect := goodIn_r _ [16, 17, 18, 31, 32, 33, 34, 35, 36, 37, 38, 39, 40, 41, 42, 43, 44, 45, 46, 47, 48, 49, 50] (by decide +kernel) (by decide +kernel)
set_option maxRecDepth 20000 in
theorem gX4_know_X4_effect : GoodIn wsX4_know (wsV RX4 81 RX4 yX4_effect wsX4_effect) := goodIn_app (goodIn_of _ (by decide +kernel)) ggX4_know_X4_effect
set_option maxRecDepth 20000 in
theorem ggX4_know_X4_takeApart : GoodIn wsX4_know wsX4_takeApart := goodIn_r _ [22, 3, 9, 2, 4, 10, 6, 8, 7, 23, 24, 25, 15, 26, 31, 32, 33, 34, 35, 36, 37, 38, 39, 40, 41, 42, 43, 44, 45, 46, 47, 48, 49, 50] (by decide +kernel) (by decide +kernel)
set_option maxRecDepth 20000 in
theorem gX4_know_X4_takeApart : GoodIn wsX4_know (wsV RX4 92 RX4 yX4_takeApart wsX4_takeApart) := goodIn_app (goodIn_of _ (by decide +kernel)) ggX4_know_X4_takeApart
set_option maxRecDepth 20000 in
theorem ggX4_know_X4_left : GoodIn wsX4_know wsX4_left := goodIn_r _ [30, 3, 4, 31, 32, 33, 34, 35, 36, 37, 38, 39, 40, 41, 42, 43, 44, 45, 46, 47, 48, 49, 50] (by decide +kernel) (by decide +kernel)
set_option maxRecDepth 20000 in
theorem gX4_know_X4_left : GoodIn wsX4_know (wsV RX4 95 RX4 yX4_left wsX4_left) := goodIn_app (goodIn_of _ (by decide +kernel)) ggX4_know_X4_left
set_option maxRecDepth 20000 in
theorem ggX4_rank_X4_know : GoodIn wsX4_rank wsX4_know := goodIn_r _ [7, 8, 2, 9, 10, 11, 12, 13, 14, 15, 16, 17, 18, 19, 20, 6, 21, 22, 23, 24, 25, 26, 27, 28, 29, 30, 31, 32, 33, 34, 35, 36, 37, 38, 39, 40, 41, 42, 43, 44, 45, 46, 47, 48, 49, 50, 51, 52, 53, 54, 55] (by decide +kernel) (by decide +kernel)
set_option maxRecDepth 20000 in
theorem gX4_rank_X4_know : GoodIn wsX4_rank (wsV RX4 99 RX4 yX4_know wsX4_know) := goodIn_app (goodIn_of _ (by decide +kernel)) ggX4_rank_X4_know
set_option maxRecDepth 20000 in
theorem ggX4_answers_X4_know : GoodIn wsX4_answers wsX4_know := goodIn_r _ [12, 13, 14, 1, 2, 15, 16, 17, 4, 7, 18, 19, 20, 21, 22, 11, 23, 24, 25, 26, 27, 28, 29, 30, 31, 32, 33, 34, 35, 36, 37, 38, 39, 40, 41, 42, 43, 44, 45, 46, 47, 48, 49, 50, 51, 52, 53, 54, 55, 56, 57] (by decide +kernel) (by decide +kernel)
set_option maxRecDepth 20000 in
theorem gX4_answers_X4_know : GoodIn wsX4_answers (wsV RX4 99 RX4 yX4_know wsX4_know) := goodIn_app (goodIn_of _ (by decide +kernel)) ggX4_answers_X4_know
set_option maxRecDepth 20000 in
theorem ggX4_answers_X4_takeApart : GoodIn wsX4_answers wsX4_takeApart := goodIn_r _ [29, 1, 7, 14, 2, 18, 16, 4, 17, 30, 31, 32, 11, 33, 38, 39, 40, 41, 42, 43, 44, 45, 46, 47, 48, 49, 50, 51, 52, 53, 54, 55, 56, 57] (by decide +kernel) (by decide +kernel)
set_option maxRecDepth 20000 in
theorem gX4_answers_X4_takeApart : GoodIn wsX4_answers (wsV RX4 92 RX4 yX4_takeApart wsX4_takeApart) := goodIn_app (goodIn_of _ (by decide +kernel)) ggX4_answers_X4_takeApart
set_option maxRecDepth 20000 in
theorem ggX4_answers_X4_left : GoodIn wsX4_answers wsX4_left := goodIn_r _ [37, 1, 2, 38, 39, 40, 41, 42, 43, 44, 45, 46, 47, 48, 49, 50, 51, 52, 53, 54, 55, 56, 57] (by decide +kernel) (by decide +kernel)
set_option maxRecDepth 20000 in
theorem gX4_answers_X4_left : GoodIn wsX4_answers (wsV RX4 95 RX4 yX4_left wsX4_left) := goodIn_app (goodIn_of _ (by decide +kernel)) ggX4_answers_X4_left
set_option maxRecDepth 20000 in
theorem ggX4_solvable_X4_answers : GoodIn wsX4_solvable wsX4_answers := goodIn_r _ [6, 7, 8, 9, 10, 11, 12, 13, 14, 15, 16, 5, 17, 18, 19, 20, 21, 22, 23, 24, 25, 26, 27, 28, 29, 30, 31, 32, 33, 34, 35, 36, 37, 38, 39, 40, 41, 42, 43, 44, 45, 46, 47, 48, 49, 50, 51, 52, 53, 54, 55, 56, 57, 58, 59, 60, 61, 62] (by decide +kernel) (by decide +kernel)
set_option maxRecDepth 20000 in
theorem gX4_solvable_X4_answers : GoodIn wsX4_solvable (wsV RX4 102 RX4 yX4_answers wsX4_answers) := goodIn_app (goodIn_of _ (by decide +kernel)) ggX4_solvable_X4_answers
set_option maxRecDepth 20000 in
theorem ggX4_answer_X4_isLamp : GoodIn wsX4_answer wsX4_isLamp := goodIn_r _ [6, 7, 51, 52, 53, 54, 55, 56, 57, 58, 59, 60, 61, 62, 63, 64, 65, 66, 67, 68, 69, 70] (by decide +kernel) (by decide +kernel)
set_option maxRecDepth 20000 in
theorem gX4_answer_X4_isLamp : GoodIn wsX4_answer (wsV RX4 66 RX4 yX4_isLamp wsX4_isLamp) := goodIn_app (goodIn_of _ (by decide +kernel)) ggX4_answer_X4_isLamp
set_option maxRecDepth 20000 in
theorem ggX4_answer_X4_fails : GoodIn wsX4_answer wsX4_fails := goodIn_r _ [11, 12, 51, 52, 53, 54, 55, 56, 57, 58, 59, 60, 61, 62, 63, 64, 65, 66, 67, 68, 69, 70] (by decide +kernel) (by decide +kernel)
set_option maxRecDepth 20000 in
theorem gX4_answer_X4_fails : GoodIn wsX4_answer (wsV RX4 70 RX4 yX4_fails wsX4_fails) := goodIn_app (goodIn_of _ (by decide +kernel)) ggX4_answer_X4_fails
set_option maxRecDepth 20000 in
theorem ggX4_answer_X4_answers : GoodIn wsX4_answer wsX4_answers := goodIn_r _ [16, 7, 17, 18, 19, 20, 1, 21, 22, 23, 24, 5, 25, 26, 27, 28, 29, 30, 31, 32, 33, 34, 35, 36, 37, 38, 39, 40, 41, 42, 43, 44, 45, 46, 47, 48, 49, 50, 51, 52, 53, 54, 55, 56, 57, 58, 59, 60, 61, 62, 63, 64, 65, 66, 67, 68, 69, 70] (by decide +kernel) (by decide +kernel)
set_option maxRecDepth 20000 in
theorem gX4_answer_X4_answers : GoodIn wsX4_answer (wsV RX4 102 RX4 yX4_answers wsX4_answers) := goodIn_app (goodIn_of _ (by decide +kernel)) ggX4_answer_X4_answers
set_option maxRecDepth 20000 in
theorem ggX4_quiet_X4_isLamp : GoodIn wsX4_quiet wsX4_isLamp := goodIn_r _ [8, 1, 44, 45, 46, 47, 48, 49, 50, 51, 52, 53, 54, 55, 56, 57, 58, 59, 60, 61, 62, 63] (by decide +kernel) (by decide +kernel)
set_option maxRecDepth 20000 in
theorem gX4_quiet_X4_isLamp : GoodIn wsX4_quiet (wsV RX4 66 RX4 yX4_isLamp wsX4_isLamp) := goodIn_app (goodIn_of _ (by decide +kernel)) ggX4_quiet_X4_isLamp
set_option maxRecDepth 20000 in
theorem ggX4_quiet_X4_fails : GoodIn wsX4_quiet wsX4_fails := goodIn_r _ [12, 13, 44, 45, 46, 47, 48, 49, 50, 51, 52, 53, 54, 55, 56, 57, 58, 59, 60, 61, 62, 63] (by decide +kernel) (by decide +kernel)
set_option maxRecDepth 20000 in
theorem gX4_quiet_X4_fails : GoodIn wsX4_quiet (wsV RX4 70 RX4 yX4_fails wsX4_fails) := goodIn_app (goodIn_of _ (by decide +kernel)) ggX4_quiet_X4_fails
set_option maxRecDepth 20000 in
theorem ggX4_quiet_X4_know : GoodIn wsX4_quiet wsX4_know := goodIn_r _ [17, 18, 2, 1, 19, 20, 21, 22, 23, 24, 25, 3, 26, 27, 28, 7, 29, 30, 31, 32, 33, 34, 35, 36, 37, 38, 39, 40, 41, 42, 43, 44, 45, 46, 47, 48, 49, 50, 51, 52, 53, 54, 55, 56, 57, 58, 59, 60, 61, 62, 63] (by decide +kernel) (by decide +kernel)
set_option maxRecDepth 20000 in
theorem gX4_quiet_X4_know : GoodIn wsX4_quiet (wsV RX4 99 RX4 yX4_know wsX4_know) := goodIn_app (goodIn_of _ (by decide +kernel)) ggX4_quiet_X4_know
set_option maxRecDepth 20000 in
theorem ggX4_count_X4_answers : GoodIn wsX4_count wsX4_answers := goodIn_r _ [10, 3, 11, 12, 5, 13, 14, 15, 16, 17, 18, 9, 19, 20, 4, 21, 22, 23, 24, 25, 26, 27, 28, 29, 30, 31, 32, 33, 34, 35, 36, 37, 38, 39, 40, 41, 42, 43, 44, 45, 46, 47, 48, 49, 50, 51, 52, 53, 54, 55, 56, 57, 58, 59, 60, 61, 62, 63] (by decide +kernel) (by decide +kernel)
set_option maxRecDepth 20000 in
theorem gX4_count_X4_answers : GoodIn wsX4_count (wsV RX4 102 RX4 yX4_answers wsX4_answers) := goodIn_app (goodIn_of _ (by decide +kernel)) ggX4_count_X4_answers
set_option maxRecDepth 20000 in
theorem ggX4_findBest_X4_answers : GoodIn wsX4_findBest wsX4_answers := goodIn_r _ [10, 1, 11, 12, 3, 13, 14, 15, 16, 17, 18, 9, 19, 20, 2, 21, 22, 23, 24, 25, 26, 27, 28, 29, 30, 31, 32, 33, 34, 35, 36, 37, 38, 39, 40, 41, 42, 43, 52, 53, 54, 55, 56, 57, 58, 59, 60, 61, 62, 63, 64, 65, 66, 67, 68, 69, 70, 71] (by decide +kernel) (by decide +kernel)
set_option maxRecDepth 20000 in
theorem gX4_findBest_X4_answers : GoodIn wsX4_findBest (wsV RX4 102 RX4 yX4_answers wsX4_answers) := goodIn_app (goodIn_of _ (by decide +kernel)) ggX4_findBest_X4_answers
set_option maxRecDepth 20000 in
theorem ggX4_findBest_X4_tryWay : GoodIn wsX4_findBest wsX4_tryWay := goodIn_r _ [47, 1, 5, 14, 3, 25, 52, 53, 54, 55, 56, 57, 58, 59, 60, 61, 62, 63, 64, 65, 66, 67, 68, 69, 70, 71] (by decide +kernel) (by decide +kernel)
set_option maxRecDepth 20000 in
theorem gX4_findBest_X4_tryWay : GoodIn wsX4_findBest (wsV RX4 106 RX4 yX4_tryWay wsX4_tryWay) := goodIn_app (goodIn_of _ (by decide +kernel)) ggX4_findBest_X4_tryWay
set_option maxRecDepth 20000 in
theorem ggX4_findBest_X4_isLess : GoodIn wsX4_findBest wsX4_isLess := goodIn_r _ [51, 1, 5, 4, 52, 53, 54, 55, 56, 57, 58, 59, 60, 61, 62, 63, 64, 65, 66, 67, 68, 69, 70, 71] (by decide +kernel) (by decide +kernel)
set_option maxRecDepth 20000 in
theorem gX4_findBest_X4_isLess : GoodIn wsX4_findBest (wsV RX4 109 RX4 yX4_isLess wsX4_isLess) := goodIn_app (goodIn_of _ (by decide +kernel)) ggX4_findBest_X4_isLess
set_option maxRecDepth 20000 in
theorem ggX4_fewest_X4_findBest : GoodIn wsX4_fewest wsX4_findBest := goodIn_r _ [6, 7, 8, 9, 10, 11, 12, 13, 14, 5, 15, 16, 17, 18, 19, 20, 21, 22, 23, 24, 25, 26, 27, 28, 29, 30, 31, 32, 33, 34, 35, 36, 37, 38, 39, 40, 41, 42, 43, 44, 45, 46, 47, 48, 49, 50, 51, 52, 53, 54, 55, 56, 57, 58, 59, 60, 61, 62, 63, 64, 65, 66, 67, 68, 69, 70, 71, 72, 73, 74, 75, 76] (by decide +kernel) (by decide +kernel)
set_option maxRecDepth 20000 in
theorem gX4_fewest_X4_findBest : GoodIn wsX4_fewest (wsV RX4 112 RX4 yX4_findBest wsX4_findBest) := goodIn_app (goodIn_of _ (by decide +kernel)) ggX4_fewest_X4_findBest
set_option maxRecDepth 20000 in
theorem ggX4_best_X4_isLamp : GoodIn wsX4_best wsX4_isLamp := goodIn_r _ [6, 7, 65, 66, 67, 68, 69, 70, 71, 72, 73, 74, 75, 76, 77, 78, 79, 80, 81, 82, 83, 84] (by decide +kernel) (by decide +kernel)
set_option maxRecDepth 20000 in
theorem gX4_best_X4_isLamp : GoodIn wsX4_best (wsV RX4 66 RX4 yX4_isLamp wsX4_isLamp) := goodIn_app (goodIn_of _ (by decide +kernel)) ggX4_best_X4_isLamp
set_option maxRecDepth 20000 in
theorem ggX4_best_X4_fails : GoodIn wsX4_best wsX4_fails := goodIn_r _ [11, 12, 65, 66, 67, 68, 69, 70, 71, 72, 73, 74, 75, 76, 77, 78, 79, 80, 81, 82, 83, 84] (by decide +kernel) (by decide +kernel)
set_option maxRecDepth 20000 in
theorem gX4_best_X4_fails : GoodIn wsX4_best (wsV RX4 70 RX4 yX4_fails wsX4_fails) := goodIn_app (goodIn_of _ (by decide +kernel)) ggX4_best_X4_fails
set_option maxRecDepth 20000 in
theorem ggX4_best_X4_findBest : GoodIn wsX4_best wsX4_findBest := goodIn_r _ [16, 7, 17, 18, 1, 19, 20, 21, 22, 5, 23, 24, 25, 26, 27, 28, 29, 30, 31, 32, 33, 34, 35, 36, 37, 38, 39, 40, 41, 42, 43, 44, 45, 46, 47, 48, 49, 50, 51, 52, 53, 54, 55, 56, 57, 58, 59, 60, 61, 62, 63, 64, 65, 66, 67, 68, 69, 70, 71, 72, 73, 74, 75, 76, 77, 78, 79, 80, 81, 82, 83, 84] (by decide +kernel) (by decide +kernel)
set_option maxRecDepth 20000 in
theorem gX4_best_X4_findBest : GoodIn wsX4_best (wsV RX4 112 RX4 yX4_findBest wsX4_findBest) := goodIn_app (goodIn_of _ (by decide +kernel)) ggX4_best_X4_findBest
set_option maxRecDepth 20000 in
theorem ggX4_alone_X4_isLamp : GoodIn wsX4_alone wsX4_isLamp := goodIn_r _ [7, 1, 44, 45, 46, 47, 48, 49, 50, 51, 52, 53, 54, 55, 56, 57, 58, 59, 60, 61, 62, 63] (by decide +kernel) (by decide +kernel)
set_option maxRecDepth 20000 in
theorem gX4_alone_X4_isLamp : GoodIn wsX4_alone (wsV RX4 66 RX4 yX4_isLamp wsX4_isLamp) := goodIn_app (goodIn_of _ (by decide +kernel)) ggX4_alone_X4_isLamp
set_option maxRecDepth 20000 in
theorem ggX4_alone_X4_fails : GoodIn wsX4_alone wsX4_fails := goodIn_r _ [11, 12, 44, 45, 46, 47, 48, 49, 50, 51, 52, 53, 54, 55, 56, 57, 58, 59, 60, 61, 62, 63] (by decide +kernel) (by decide +kernel)
set_option maxRecDepth 20000 in
theorem gX4_alone_X4_fails : GoodIn wsX4_alone (wsV RX4 70 RX4 yX4_fails wsX4_fails) := goodIn_app (goodIn_of _ (by decide +kernel)) ggX4_alone_X4_fails
set_option maxRecDepth 20000 in
theorem ggX4_alone_X4_know : GoodIn wsX4_alone wsX4_know := goodIn_r _ [16, 17, 18, 1, 2, 19, 20, 21, 22, 23, 24, 25, 26, 27, 28, 6, 29, 30, 31, 32, 33, 34, 35, 36, 37, 38, 39, 40, 41, 42, 43, 44, 45, 46, 47, 48, 49, 50, 51, 52, 53, 54, 55, 56, 57, 58, 59, 60, 61, 62, 63] (by decide +kernel) (by decide +kernel)
set_option maxRecDepth 20000 in
theorem gX4_alone_X4_know : GoodIn wsX4_alone (wsV RX4 99 RX4 yX4_know wsX4_know) := goodIn_app (goodIn_of _ (by decide +kernel)) ggX4_alone_X4_know
set_option maxRecDepth 20000 in
theorem ggX4_alone_X4_takeApart : GoodIn wsX4_alone wsX4_takeApart := goodIn_r _ [35, 1, 23, 18, 2, 24, 20, 22, 21, 36, 37, 38, 6, 39, 44, 45, 46, 47, 48, 49, 50, 51, 52, 53, 54, 55, 56, 57, 58, 59, 60, 61, 62, 63] (by decide +kernel) (by decide +kernel)
set_option maxRecDepth 20000 in
theorem gX4_alone_X4_takeApart : GoodIn wsX4_alone (wsV RX4 92 RX4 yX4_takeApart wsX4_takeApart) := goodIn_app (goodIn_of _ (by decide +kernel)) ggX4_alone_X4_takeApart
set_option maxRecDepth 20000 in
theorem ggX4_alone_X4_left : GoodIn wsX4_alone wsX4_left := goodIn_r _ [43, 1, 2, 44, 45, 46, 47, 48, 49, 50, 51, 52, 53, 54, 55, 56, 57, 58, 59, 60, 61, 62, 63] (by decide +kernel) (by decide +kernel)
set_option maxRecDepth 20000 in
theorem gX4_alone_X4_left : GoodIn wsX4_alone (wsV RX4 95 RX4 yX4_left wsX4_left) := goodIn_app (goodIn_of _ (by decide +kernel)) ggX4_alone_X4_left
set_option maxRecDepth 20000 in
theorem ggL_join_X3_join : GoodIn wsL_join wsX3_join := goodIn_r _ [5, 6, 7, 8, 9, 4, 10, 11, 12, 13, 14, 15, 16, 17, 18, 19, 20, 21, 22, 23, 24, 25, 26, 27, 28, 29, 30, 31, 32, 33, 34, 35, 36, 37, 38, 39, 40] (by decide +kernel) (by decide +kernel)
set_option maxRecDepth 20000 in
theorem gL_join_X3_join : GoodIn wsL_join (wsV RL 7 RX3 yX3_join wsX3_join) := goodIn_app (goodIn_of _ (by decide +kernel)) ggL_join_X3_join
set_option maxRecDepth 20000 in
theorem ggL_self_X3_self : GoodIn wsL_self wsX3_self := goodIn_r _ [5, 6, 7, 8, 9, 4, 10, 11, 12, 13, 14, 15, 16, 17, 18, 19, 20, 21, 22, 23, 24, 25, 26, 27, 28, 29, 30, 31, 32, 33, 34, 35, 36, 37, 38, 39, 40] (by decide +kernel) (by decide +kernel)
set_option maxRecDepth 20000 in
theorem gL_self_X3_self : GoodIn wsL_self (wsV RL 15 RX3 yX3_self wsX3_self) := goodIn_app (goodIn_of _ (by decide +kernel)) ggL_self_X3_self
set_option maxRecDepth 20000 in
theorem ggL_set_X3_set : GoodIn wsL_set wsX3_set := goodIn_r _ [5, 6, 7, 8, 9, 4, 10, 11, 12, 13, 14, 15, 16, 17, 18, 19, 20, 21, 22, 23, 24, 25, 26, 27, 28, 29, 30, 31, 32, 33, 34, 35, 36, 37, 38, 39, 40, 41] (by decide +kernel) (by decide +kernel)
set_option maxRecDepth 20000 in
theorem gL_set_X3_set : GoodIn wsL_set (wsV RL 19 RX3 yX3_set wsX3_set) := goodIn_app (goodIn_of _ (by decide +kernel)) ggL_set_X3_set
set_option maxRecDepth 20000 in
theorem ggL_want_X3_want : GoodIn wsL_want wsX3_want := goodIn_r _ [5, 6, 7, 8, 9, 4, 10, 11, 12, 13, 14, 15, 16, 17, 18, 19, 20, 21, 22, 23, 24, 25, 26, 27, 28, 29, 30, 31, 32, 33, 34, 35, 36, 37, 38, 39, 40, 41] (by decide +kernel) (by decide +kernel)
set_option maxRecDepth 20000 in
theorem gL_want_X3_want : GoodIn wsL_want (wsV RL 22 RX3 yX3_want wsX3_want) := goodIn_app (goodIn_of _ (by decide +kernel)) ggL_want_X3_want
set_option maxRecDepth 20000 in
theorem ggL_press_X3_press : GoodIn wsL_press wsX3_press := goodIn_r _ [5, 6, 7, 8, 9, 10, 11, 4, 12, 13, 14, 15, 16, 17, 18, 19, 20, 21, 22, 23, 24, 25, 26, 27, 28, 29, 30, 31, 32, 33, 34, 35, 36, 37, 38, 39, 40, 41, 42] (by decide +kernel) (by decide +kernel)
set_option maxRecDepth 20000 in
theorem gL_press_X3_press : GoodIn wsL_press (wsV RL 25 RX3 yX3_press wsX3_press) := goodIn_app (goodIn_of _ (by decide +kernel)) ggL_press_X3_press
set_option maxRecDepth 20000 in
theorem ggL_at_X3_at : GoodIn wsL_at wsX3_at := goodIn_r _ [5, 6, 7, 8, 9, 4, 10, 11, 12, 13, 14, 15, 16, 17, 18, 19, 20, 21, 22, 23, 24, 25, 26, 27, 28, 29, 30] (by decide +kernel) (by decide +kernel)
set_option maxRecDepth 20000 in
theorem gL_at_X3_at : GoodIn wsL_at (wsV RL 28 RX3 yX3_at wsX3_at) := goodIn_app (goodIn_of _ (by decide +kernel)) ggL_at_X3_at
set_option maxRecDepth 20000 in
theorem ggL_answer_X3_answer : GoodIn wsL_answer wsX3_answer := goodIn_r _ [5, 6, 7, 8, 9, 4, 10, 11, 12, 13, 14, 15, 16, 17, 18, 19, 20, 21, 22, 23, 24, 25, 26, 27, 28, 29, 30, 31, 32, 33, 34, 35, 36, 37, 38, 39, 40, 41, 42, 43, 44, 45, 46, 47, 48, 49, 50, 51, 52, 53, 54, 55, 56, 57, 58, 59, 60, 61, 62, 63, 64, 65, 66, 67, 68, 69, 70, 71, 72, 73, 74, 75, 76, 77, 78, 79, 80, 81, 82, 83, 84, 85, 86, 87, 88, 89, 90, 91, 92, 93, 94, 95, 96, 97, 98, 99, 100, 101] (by decide +kernel) (by decide +kernel)
set_option maxRecDepth 20000 in
theorem gL_answer_X3_answer : GoodIn wsL_answer (wsV RL 32 RX3 yX3_answer wsX3_answer) := goodIn_app (goodIn_of _ (by decide +kernel)) ggL_answer_X3_answer
set_option maxRecDepth 20000 in
theorem ggL_quiet_X3_quiet : GoodIn wsL_quiet wsX3_quiet := goodIn_r _ [5, 6, 7, 8, 9, 4, 10, 11, 12, 13, 14, 15, 16, 17, 18, 19, 20, 21, 22, 23, 24, 25, 26, 27, 28, 29, 30, 31, 32, 33, 34, 35, 36, 37, 38, 39, 40, 41, 42, 43, 44, 45, 46, 47, 48, 49, 50, 51, 52, 53, 54, 55, 56, 57, 58, 59, 60, 61, 62, 63, 64, 65, 66, 67, 68, 69, 70, 71, 72, 73, 74, 75, 76, 77, 78, 79, 80, 81, 82, 83, 84, 85, 86, 87, 88, 89, 90, 91, 92, 93, 94, 95, 96, 97, 98, 99, 100, 101] (by decide +kernel) (by decide +kernel)
set_option maxRecDepth 20000 in
theorem gL_quiet_X3_quiet : GoodIn wsL_quiet (wsV RL 35 RX3 yX3_quiet wsX3_quiet) := goodIn_app (goodIn_of _ (by decide +kernel)) ggL_quiet_X3_quiet
set_option maxRecDepth 20000 in
theorem ggL_best_X3_best : GoodIn wsL_best wsX3_best := goodIn_r _ [5, 6, 7, 8, 9, 4, 10, 11, 12, 13, 14, 15, 16, 17, 18, 19, 20, 21, 22, 23, 24, 25, 26, 27, 28, 29, 30, 31, 32, 33, 34, 35, 36, 37, 38, 39, 40, 41, 42, 43, 44, 45, 46, 47, 48, 49, 50, 51, 52, 53, 54, 55, 56, 57, 58, 59, 60, 61, 62, 63, 64, 65, 66, 67, 68, 69, 70, 71, 72, 73, 74, 75, 76, 77, 78, 79, 80, 81, 82, 83, 84, 85, 86, 87, 88, 89, 90, 91, 92, 93, 94, 95, 96, 97, 98, 99, 100, 101, 102, 103, 104, 105, 106, 107, 108, 109, 110, 111, 112, 113, 114, 115, 116, 117, 118, 119, 120, 121, 122, 123, 124, 125, 126, 127, 128, 129, 130, 131, 132, 133, 134, 135, 136, 137, 138, 139, 140, 141, 142, 143, 144, 145, 146, 147, 148, 149, 150, 151, 152, 153, 154, 155, 156, 157, 158, 159, 160, 161, 162, 163, 164, 165, 166, 167, 168, 169, 170, 171, 172, 173, 174, 175, 176] (by decide +kernel) (by decide +kernel)
set_option maxRecDepth 20000 in
theorem gL_best_X3_best : GoodIn wsL_best (wsV RL 39 RX3 yX3_best wsX3_best) := goodIn_app (goodIn_of _ (by decide +kernel)) ggL_best_X3_best
set_option maxRecDepth 20000 in
theorem ggL_alone_X3_alone : GoodIn wsL_alone wsX3_alone := goodIn_r _ [5, 6, 7, 8, 9, 4, 10, 11, 12, 13, 14, 15, 16, 17, 18, 19, 20, 21, 22, 23, 24, 25, 26, 27, 28, 29, 30, 31, 32, 33, 34, 35, 36, 37, 38, 39, 40, 41, 42, 43, 44, 45, 46, 47, 48, 49, 50, 51, 52, 53, 54, 55, 56, 57, 58, 59, 60, 61, 62, 63, 64, 65, 66, 67, 68, 69, 70, 71, 72, 73, 74, 75, 76, 77, 78, 79, 80, 81, 82, 83, 84, 85, 86, 87, 88, 89, 90, 91, 92, 93, 94, 95, 96, 97, 98, 99, 100, 101] (by decide +kernel) (by decide +kernel)
set_option maxRecDepth 20000 in
theorem gL_alone_X3_alone : GoodIn wsL_alone (wsV RL 42 RX3 yX3_alone wsX3_alone) := goodIn_app (goodIn_of _ (by decide +kernel)) ggL_alone_X3_alone
set_option maxRecDepth 20000 in
theorem ggL_law_L_cell : GoodIn wsL_law wsL_cell := goodIn_r _ [10] (by decide +kernel) (by decide +kernel)
set_option maxRecDepth 20000 in
theorem gL_law_L_cell : GoodIn wsL_law (va_wsS RL 46 yL_cell wsL_cell) := goodIn_app (goodIn_of _ (by decide +kernel)) ggL_law_L_cell
set_option maxRecDepth 20000 in
theorem ggL_law_X3_init : GoodIn wsL_law wsX3_init := goodIn_r _ [13, 14, 15, 16, 17, 18, 19, 20, 21, 22, 23, 24, 25, 26, 27, 28, 29, 30, 31, 32, 33, 34, 35, 36, 37, 38, 39, 40, 41, 42, 43, 44, 45, 2, 46, 47, 48, 49, 50, 51, 52, 53, 54, 55, 56, 57, 58, 59, 60, 61, 62, 63, 64, 65, 66, 67, 68, 69, 70, 71, 72, 73, 74, 461, 462, 463, 464, 465, 466, 467, 468, 469, 470, 491, 492, 493, 494, 495, 496, 497, 498, 499, 500, 501, 502, 503, 504, 505] (by decide +kernel) (by decide +kernel)
set_option maxRecDepth 20000 in
theorem gL_law_X3_init : GoodIn wsL_law (wsX3_init) := ggL_law_X3_init
set_option maxRecDepth 20000 in
theorem ggL_law_X4_init : GoodIn wsL_law wsX4_init := goodIn_r _ [77, 78, 15, 16, 79, 80, 81, 26, 82, 83, 84, 85, 86, 87, 88, 89, 90, 91, 92, 93, 94, 95, 96, 471, 472, 473, 474, 475, 476, 477, 478, 479, 480, 481, 482, 483, 484, 485, 486, 487, 488, 489, 490] (by decide +kernel) (by decide +kernel)
set_option maxRecDepth 20000 in
theorem gL_law_X4_init : GoodIn wsL_law (wsX4_init) := ggL_law_X4_init
set_option maxRecDepth 20000 in
theorem ggL_law_L_join : GoodIn wsL_law wsL_join := goodIn_r _ [99, 100, 101, 102, 2, 103, 29, 104, 105, 106, 107, 24, 108, 109, 110, 111, 112, 113, 114, 115, 116, 117, 118, 42, 43, 461, 462, 463, 464, 465, 466, 467, 468, 469, 470, 506, 507, 508, 509, 510, 511] (by decide +kernel) (by decide +kernel)
set_option maxRecDepth 20000 in
theorem gL_law_L_join : GoodIn wsL_law (va_wsS RL 58 yL_join wsL_join) := goodIn_app (goodIn_of _ (by decide +kernel)) ggL_law_L_join
set_option maxRecDepth 20000 in
theorem ggL_law_X4_join : GoodIn wsL_law wsX4_join := goodIn_r _ [122, 80, 123, 124, 125, 126, 5, 127, 95, 128, 129, 130, 131, 132, 471, 472, 473, 474, 475, 476, 477, 478, 479, 480, 481, 482, 483, 484, 485, 486, 487, 488, 489, 490] (by decide +kernel) (by decide +kernel)
set_option maxRecDepth 20000 in
theorem gL_law_X4_join : GoodIn wsL_law (wsV RL 61 RX4 yX4_join wsX4_join) := goodIn_app (goodIn_of _ (by decide +kernel)) ggL_law_X4_join
set_option maxRecDepth 20000 in
theorem ggL_law_X4_thrown : GoodIn wsL_law wsX4_thrown := goodIn_r _ [136, 132, 471, 472, 473, 474, 475, 476, 477, 478, 479, 480, 481, 482, 483, 484, 485, 486, 487, 488, 489, 490] (by decide +kernel) (by decide +kernel)
set_option maxRecDepth 20000 in
theorem gL_law_X4_thrown : GoodIn wsL_law (wsV RL 62 RX4 yX4_thrown wsX4_thrown) := goodIn_app (goodIn_of _ (by decide +kernel)) ggL_law_X4_thrown
set_option maxRecDepth 20000 in
theorem ggL_law_L_self : GoodIn wsL_law wsL_self := goodIn_r _ [139, 140, 141, 142, 2, 143, 29, 104, 105, 106, 107, 24, 108, 109, 110, 111, 112, 113, 114, 115, 116, 117, 118, 42, 43, 461, 462, 463, 464, 465, 466, 467, 468, 469, 470, 506, 507, 508, 509, 510, 511] (by decide +kernel) (by decide +kernel)
set_option maxRecDepth 20000 in
theorem gL_law_L_self : GoodIn wsL_law (va_wsS RL 66 yL_self wsL_self) := goodIn_app (goodIn_of _ (by decide +kernel)) ggL_law_L_self
set_option maxRecDepth 20000 in
theorem ggL_law_X4_self : GoodIn wsL_law wsX4_self := goodIn_r _ [147, 81, 123, 124, 125, 126, 5, 127, 95, 128, 129, 130, 131, 132, 471, 472, 473, 474, 475, 476, 477, 478, 479, 480, 481, 482, 483, 484, 485, 486, 487, 488, 489, 490] (by decide +kernel) (by decide +kernel)
set_option maxRecDepth 20000 in
theorem gL_law_X4_self : GoodIn wsL_law (wsV RL 69 RX4 yX4_self wsX4_self) := goodIn_app (goodIn_of _ (by decide +kernel)) ggL_law_X4_self
set_option maxRecDepth 20000 in
theorem ggL_law_L_set : GoodIn wsL_law wsL_set := goodIn_r _ [150, 151, 152, 153, 2, 154, 27, 104, 105, 106, 107, 24, 108, 109, 110, 155, 156, 157, 158, 25, 115, 116, 117, 118, 42, 43, 461, 462, 463, 464, 465, 466, 467, 468, 469, 470, 506, 507, 508, 509, 510, 511] (by decide +kernel) (by decide +kernel)
set_option maxRecDepth 20000 in
theorem gL_law_L_set : GoodIn wsL_law (va_wsS RL 70 yL_set wsL_set) := goodIn_app (goodIn_of _ (by decide +kernel)) ggL_law_L_set
set_option maxRecDepth 20000 in
theorem ggL_law_X4_set : GoodIn wsL_law wsX4_set := goodIn_r _ [162, 82, 124, 125, 126, 5, 127, 95, 128, 129, 130, 131, 132, 163, 164, 165, 166, 96, 471, 472, 473, 474, 475, 476, 477, 478, 479, 480, 481, 482, 483, 484, 485, 486, 487, 488, 489, 490] (by decide +kernel) (by decide +kernel)
set_option maxRecDepth 20000 in
theorem gL_law_X4_set : GoodIn wsL_law (wsV RL 72 RX4 yX4_set wsX4_set) := goodIn_app (goodIn_of _ (by decide +kernel)) ggL_law_X4_set
set_option maxRecDepth 20000 in
theorem ggL_law_L_want : GoodIn wsL_law wsL_want := goodIn_r _ [169, 170, 171, 172, 2, 173, 28, 104, 105, 106, 107, 24, 108, 109, 110, 155, 156, 157, 158, 25, 115, 116, 117, 118, 42, 43, 461, 462, 463, 464, 465, 466, 467, 468, 469, 470, 506, 507, 508, 509, 510, 511] (by decide +kernel) (by decide +kernel)
set_option maxRecDepth 20000 in
theorem gL_law_L_want : GoodIn wsL_law (va_wsS RL 73 yL_want wsL_want) := goodIn_app (goodIn_of _ (by decide +kernel)) ggL_law_L_want
set_option maxRecDepth 20000 in
theorem ggL_law_X4_want : GoodIn wsL_law wsX4_want := goodIn_r _ [177, 83, 124, 125, 126, 5, 127, 95, 128, 129, 130, 131, 132, 163, 164, 165, 166, 96, 471, 472, 473, 474, 475, 476, 477, 478, 479, 480, 481, 482, 483, 484, 485, 486, 487, 488, 489, 490] (by decide +kernel) (by decide +kernel)
set_option maxRecDepth 20000 in
theorem gL_law_X4_want : GoodIn wsL_law (wsV RL 75 RX4 yX4_want wsX4_want) := goodIn_app (goodIn_of _ (by decide +kernel)) ggL_law_X4_want
set_option maxRecDepth 20000 in
theorem ggL_law_L_press : GoodIn wsL_law wsL_press := goodIn_r _ [180, 181, 182, 183, 2, 184, 24, 27, 25, 104, 105, 106, 107, 108, 109, 110, 111, 112, 113, 114, 29, 115, 116, 117, 118, 42, 43, 461, 462, 463, 464, 465, 466, 467, 468, 469, 470, 506, 507, 508, 509, 510, 511] (by decide +kernel) (by decide +kernel)
set_option maxRecDepth 20000 in
theorem gL_law_L_press : GoodIn wsL_law (va_wsS RL 76 yL_press wsL_press) := goodIn_app (goodIn_of _ (by decide +kernel)) ggL_law_L_press
set_option maxRecDepth 20000 in
theorem ggL_law_X4_press : GoodIn wsL_law wsX4_press := goodIn_r _ [188, 95, 82, 96, 124, 125, 126, 5, 127, 128, 129, 130, 131, 132, 189, 190, 191, 192, 81, 80, 471, 472, 473, 474, 475, 476, 477, 478, 479, 480, 481, 482, 483, 484, 485, 486, 487, 488, 489, 490] (by decide +kernel) (by decide +kernel)
set_option maxRecDepth 20000 in
theorem gL_law_X4_press : GoodIn wsL_law (wsV RL 78 RX4 yX4_press wsX4_press) := goodIn_app (goodIn_of _ (by decide +kernel)) ggL_law_X4_press
set_option maxRecDepth 20000 in
theorem ggL_law_L_at : GoodIn wsL_law wsL_at := goodIn_r _ [195, 196, 197, 198, 2, 199, 27, 104, 105, 106, 107, 24, 108, 109, 110, 461, 462, 463, 464, 465, 466, 467, 468, 469, 470, 506, 507, 508, 509, 510, 511] (by decide +kernel) (by decide +kernel)
set_option maxRecDepth 20000 in
theorem gL_law_L_at : GoodIn wsL_law (va_wsS RL 79 yL_at wsL_at) := goodIn_app (goodIn_of _ (by decide +kernel)) ggL_law_L_at
set_option maxRecDepth 20000 in
theorem ggL_law_X4_at : GoodIn wsL_law wsX4_at := goodIn_r _ [203, 82, 124, 125, 126, 5, 127, 95, 128, 129, 130, 131, 132, 471, 472, 473, 474, 475, 476, 477, 478, 479, 480, 481, 482, 483, 484, 485, 486, 487, 488, 489, 490] (by decide +kernel) (by decide +kernel)
set_option maxRecDepth 20000 in
theorem gL_law_X4_at : GoodIn wsL_law (wsV RL 82 RX4 yX4_at wsX4_at) := goodIn_app (goodIn_of _ (by decide +kernel)) ggL_law_X4_at
set_option maxRecDepth 20000 in
theorem ggL_law_X3_apart : GoodIn wsL_law wsX3_apart := goodIn_r _ [207, 24, 27, 28, 461, 462, 463, 464, 465, 466, 467, 468, 469, 470] (by decide +kernel) (by decide +kernel)
set_option maxRecDepth 20000 in
theorem gL_law_X3_apart : GoodIn wsL_law (wsV RL 83 RX3 yX3_apart wsX3_apart) := goodIn_app (goodIn_of _ (by decide +kernel)) ggL_law_X3_apart
set_option maxRecDepth 20000 in
theorem ggL_law_X4_apart : GoodIn wsL_law wsX4_apart := goodIn_r _ [211, 132, 95, 82, 83, 471, 472, 473, 474, 475, 476, 477, 478, 479, 480, 481, 482, 483, 484, 485, 486, 487, 488, 489, 490] (by decide +kernel) (by decide +kernel)
set_option maxRecDepth 20000 in
theorem gL_law_X4_apart : GoodIn wsL_law (wsV RL 86 RX4 yX4_apart wsX4_apart) := goodIn_app (goodIn_of _ (by decide +kernel)) ggL_law_X4_apart
set_option maxRecDepth 20000 in
theorem ggL_law_X3_rank : GoodIn wsL_law wsX3_rank := goodIn_r _ [215, 33, 216, 217, 218, 2, 219, 42, 29, 27, 28, 220, 221, 222, 32, 223, 51, 54, 52, 224, 225, 226, 227, 57, 55, 228, 229, 230, 231, 232, 233, 234, 235, 236, 237, 238, 239, 240, 241, 242, 243, 244, 245, 246, 247, 248, 249, 250, 251, 252, 253, 254, 255, 58, 56, 256, 257, 258, 259, 260, 261, 262, 263, 461, 462, 463, 464, 465, 466, 467, 468, 469, 470, 491, 492, 493, 494, 495, 496, 497] (by decide +kernel) (by decide +kernel)
set_option maxRecDepth 20000 in
theorem gL_law_X3_rank : GoodIn wsL_law (wsV RL 87 RX3 yX3_rank wsX3_rank) := goodIn_app (goodIn_of _ (by decide +kernel)) ggL_law_X3_rank
set_option maxRecDepth 20000 in
theorem ggL_law_X4_rank : GoodIn wsL_law wsX4_rank := goodIn_r _ [267, 132, 268, 269, 270, 271, 5, 272, 123, 95, 88, 87, 84, 85, 96, 89, 86, 91, 189, 190, 191, 192, 81, 80, 273, 274, 275, 276, 277, 278, 279, 280, 281, 282, 283, 284, 471, 472, 473, 474, 475, 476, 477, 478, 479, 480, 481, 482, 483, 484, 485, 486, 487, 488, 489, 490] (by decide +kernel) (by decide +kernel)
set_option maxRecDepth 20000 in
theorem gL_law_X4_rank : GoodIn wsL_law (wsV RL 90 RX4 yX4_rank wsX4_rank) := goodIn_app (goodIn_of _ (by decide +kernel)) ggL_law_X4_rank
set_option maxRecDepth 20000 in
theorem ggL_law_X3_solvable : GoodIn wsL_law wsX3_solvable := goodIn_r _ [288, 33, 216, 217, 218, 2, 219, 42, 29, 27, 28, 220, 221, 222, 32, 223, 51, 54, 52, 224, 225, 226, 227, 57, 55, 228, 229, 230, 231, 232, 233, 234, 235, 236, 237, 238, 239, 240, 241, 242, 243, 244, 245, 246, 247, 248, 249, 250, 251, 252, 253, 254, 255, 58, 56, 256, 257, 258, 259, 289, 290, 291, 292, 461, 462, 463, 464, 465, 466, 467, 468, 469, 470, 491, 492, 493, 494, 495, 496, 497] (by decide +kernel) (by decide +kernel)
set_option maxRecDepth 20000 in
theorem gL_law_X3_solvable : GoodIn wsL_law (wsV RL 91 RX3 yX3_solvable wsX3_solvable) := goodIn_app (goodIn_of _ (by decide +kernel)) ggL_law_X3_solvable
set_option maxRecDepth 20000 in
theorem ggL_law_X4_solvable : GoodIn wsL_law wsX4_solvable := goodIn_r _ [296, 132, 297, 298, 299, 5, 300, 95, 88, 83, 96, 82, 90, 89, 269, 270, 271, 272, 123, 268, 87, 84, 85, 86, 91, 189, 190, 191, 192, 81, 80, 273, 274, 275, 276, 277, 278, 279, 280, 281, 282, 283, 284, 471, 472, 473, 474, 475, 476, 477, 478, 479, 480, 481, 482, 483, 484, 485, 486, 487, 488, 489, 490] (by decide +kernel) (by decide +kernel)
set_option maxRecDepth 20000 in
theorem gL_law_X4_solvable : GoodIn wsL_law (wsV RL 95 RX4 yX4_solvable wsX4_solvable) := goodIn_app (goodIn_of _ (by decide +kernel)) ggL_law_X4_solvable
set_option maxRecDepth 20000 in
theorem ggL_law_L_answer : GoodIn wsL_law wsL_answer := goodIn_r _ [303, 304, 305, 306, 2, 307, 33, 104, 105, 106, 107, 24, 108, 109, 110, 216, 217, 218, 219, 42, 29, 27, 28, 220, 221, 222, 32, 223, 51, 54, 52, 224, 225, 226, 227, 57, 55, 228, 229, 230, 231, 232, 233, 234, 235, 236, 237, 238, 239, 240, 241, 242, 243, 244, 245, 246, 247, 248, 249, 250, 251, 252, 253, 254, 255, 58, 56, 256, 257, 258, 259, 289, 290, 291, 292, 308, 309, 310, 311, 461, 462, 463, 464, 465, 466, 467, 468, 469, 470, 506, 507, 508, 509, 510, 511, 491, 492, 493, 494, 495, 496, 497] (by decide +kernel) (by decide +kernel)
set_option maxRecDepth 20000 in
theorem gL_law_L_answer : GoodIn wsL_law (va_wsS RL 96 yL_answer wsL_answer) := goodIn_app (goodIn_of _ (by decide +kernel)) ggL_law_L_answer
set_option maxRecDepth 20000 in
theorem ggL_law_X4_answer : GoodIn wsL_law wsX4_answer := goodIn_r _ [315, 90, 124, 125, 126, 5, 127, 95, 128, 129, 130, 131, 132, 297, 298, 299, 300, 88, 83, 96, 82, 89, 269, 270, 271, 272, 123, 268, 87, 84, 85, 86, 91, 189, 190, 191, 192, 81, 80, 273, 274, 275, 276, 277, 278, 279, 280, 281, 282, 283, 284, 471, 472, 473, 474, 475, 476, 477, 478, 479, 480, 481, 482, 483, 484, 485, 486, 487, 488, 489, 490] (by decide +kernel) (by decide +kernel)
set_option maxRecDepth 20000 in
theorem gL_law_X4_answer : GoodIn wsL_law (wsV RL 98 RX4 yX4_answer wsX4_answer) := goodIn_app (goodIn_of _ (by decide +kernel)) ggL_law_X4_answer
set_option maxRecDepth 20000 in
theorem ggL_law_L_quiet : GoodIn wsL_law wsL_quiet := goodIn_r _ [318, 319, 320, 321, 2, 322, 33, 104, 105, 106, 107, 24, 108, 109, 110, 216, 217, 218, 219, 42, 29, 27, 28, 220, 221, 222, 32, 223, 51, 54, 52, 224, 225, 226, 227, 57, 55, 228, 229, 230, 231, 232, 233, 234, 235, 236, 237, 238, 239, 240, 241, 242, 243, 244, 245, 246, 247, 248, 249, 250, 251, 252, 253, 254, 255, 58, 56, 256, 257, 258, 259, 323, 324, 325, 326, 327, 328, 329, 330, 461, 462, 463, 464, 465, 466, 467, 468, 469, 470, 506, 507, 508, 509, 510, 511, 491, 492, 493, 494, 495, 496, 497] (by decide +kernel) (by decide +kernel)
set_option maxRecDepth 20000 in
theorem gL_law_L_quiet : GoodIn wsL_law (va_wsS RL 99 yL_quiet wsL_quiet) := goodIn_app (goodIn_of _ (by decide +kernel)) ggL_law_L_quiet
set_option maxRecDepth 20000 in
theorem ggL_law_X4_quiet : GoodIn wsL_law wsX4_quiet := goodIn_r _ [334, 95, 268, 91, 124, 125, 126, 5, 127, 128, 129, 130, 131, 132, 269, 270, 271, 272, 123, 88, 87, 84, 85, 96, 89, 86, 189, 190, 191, 192, 81, 80, 273, 274, 275, 276, 277, 278, 279, 280, 281, 282, 283, 284, 471, 472, 473, 474, 475, 476, 477, 478, 479, 480, 481, 482, 483, 484, 485, 486, 487, 488, 489, 490] (by decide +kernel) (by decide +kernel)
set_option maxRecDepth 20000 in
theorem gL_law_X4_quiet : GoodIn wsL_law (wsV RL 101 RX4 yX4_quiet wsX4_quiet) := goodIn_app (goodIn_of _ (by decide +kernel)) ggL_law_X4_quiet
set_option maxRecDepth 20000 in
theorem ggL_law_X3_count : GoodIn wsL_law wsX3_count := goodIn_r _ [338, 41, 33, 25, 216, 217, 218, 2, 219, 42, 29, 27, 28, 220, 221, 222, 32, 223, 51, 54, 52, 224, 225, 226, 227, 57, 55, 228, 229, 230, 231, 232, 233, 234, 235, 236, 237, 238, 239, 240, 241, 242, 243, 244, 245, 246, 247, 248, 249, 250, 251, 252, 253, 254, 255, 58, 56, 256, 257, 258, 259, 289, 290, 291, 292, 339, 340, 341, 40, 342, 73, 74, 323, 324, 325, 326, 343, 344, 345, 346, 347, 348, 349, 350, 461, 462, 463, 464, 465, 466, 467, 468, 469, 470, 491, 492, 493, 494, 495, 496, 497, 504, 505] (by decide +kernel) (by decide +kernel)
set_option maxRecDepth 20000 in
theorem gL_law_X3_count : GoodIn wsL_law (wsV RL 102 RX3 yX3_count wsX3_count) := goodIn_app (goodIn_of _ (by decide +kernel)) ggL_law_X3_count
set_option maxRecDepth 20000 in
theorem ggL_law_X4_count : GoodIn wsL_law wsX4_count := goodIn_r _ [354, 132, 94, 95, 268, 96, 297, 298, 299, 5, 300, 88, 83, 82, 90, 89, 269, 270, 271, 272, 123, 87, 84, 85, 86, 91, 189, 190, 191, 192, 81, 80, 273, 274, 275, 276, 277, 278, 279, 280, 281, 282, 283, 284, 471, 472, 473, 474, 475, 476, 477, 478, 479, 480, 481, 482, 483, 484, 485, 486, 487, 488, 489, 490] (by decide +kernel) (by decide +kernel)
set_option maxRecDepth 20000 in
theorem gL_law_X4_count : GoodIn wsL_law (wsV RL 105 RX4 yX4_count wsX4_count) := goodIn_app (goodIn_of _ (by decide +kernel)) ggL_law_X4_count
set_option maxRecDepth 20000 in
theorem ggL_law_X3_fewest : GoodIn wsL_law wsX3_fewest := goodIn_r _ [358, 37, 359, 360, 361, 2, 362, 43, 33, 216, 217, 218, 219, 42, 29, 27, 28, 220, 221, 222, 32, 223, 51, 54, 52, 224, 225, 226, 227, 57, 55, 228, 229, 230, 231, 232, 233, 234, 235, 236, 237, 238, 239, 240, 241, 242, 243, 244, 245, 246, 247, 248, 249, 250, 251, 252, 253, 254, 255, 58, 56, 256, 257, 258, 259, 363, 364, 365, 36, 366, 68, 367, 368, 369, 370, 371, 290, 291, 292, 372, 373, 374, 375, 63, 65, 67, 376, 309, 310, 311, 377, 378, 379, 380, 381, 382, 383, 384, 66, 385, 386, 387, 388, 389, 390, 391, 392, 64, 393, 324, 325, 326, 394, 328, 329, 330, 395, 396, 397, 398, 399, 400, 401, 402, 403, 404, 405, 406, 407, 408, 409, 410, 461, 462, 463, 464, 465, 466, 467, 468, 469, 470, 491, 492, 493, 494, 495, 496, 497, 498, 499, 500, 501, 502, 503] (by decide +kernel) (by decide +kernel)
set_option maxRecDepth 20000 in
theorem gL_law_X3_fewest : GoodIn wsL_law (wsV RL 106 RX3 yX3_fewest wsX3_fewest) := goodIn_app (goodIn_of _ (by decide +kernel)) ggL_law_X3_fewest
set_option maxRecDepth 20000 in
theorem ggL_law_X4_fewest : GoodIn wsL_law wsX4_fewest := goodIn_r _ [414, 132, 415, 416, 417, 5, 418, 95, 268, 96, 92, 93, 297, 298, 299, 300, 88, 83, 82, 90, 89, 269, 270, 271, 272, 123, 87, 84, 85, 86, 91, 189, 190, 191, 192, 81, 80, 273, 274, 275, 276, 277, 278, 279, 280, 281, 282, 283, 284, 419, 420, 421, 422, 423, 424, 425, 426, 471, 472, 473, 474, 475, 476, 477, 478, 479, 480, 481, 482, 483, 484, 485, 486, 487, 488, 489, 490] (by decide +kernel) (by decide +kernel)
set_option maxRecDepth 20000 in
theorem gL_law_X4_fewest : GoodIn wsL_law (wsV RL 109 RX4 yX4_fewest wsX4_fewest) := goodIn_app (goodIn_of _ (by decide +kernel)) ggL_law_X4_fewest
set_option maxRecDepth 20000 in
theorem ggL_law_L_best : GoodIn wsL_law wsL_best := goodIn_r _ [429, 430, 431, 432, 2, 433, 37, 104, 105, 106, 107, 24, 108, 109, 110, 359, 360, 361, 362, 43, 33, 216, 217, 218, 219, 42, 29, 27, 28, 220, 221, 222, 32, 223, 51, 54, 52, 224, 225, 226, 227, 57, 55, 228, 229, 230, 231, 232, 233, 234, 235, 236, 237, 238, 239, 240, 241, 242, 243, 244, 245, 246, 247, 248, 249, 250, 251, 252, 253, 254, 255, 58, 56, 256, 257, 258, 259, 363, 364, 365, 36, 366, 68, 367, 368, 369, 370, 371, 290, 291, 292, 372, 373, 374, 375, 63, 65, 67, 376, 309, 310, 311, 377, 378, 379, 380, 381, 382, 383, 384, 66, 385, 386, 387, 388, 389, 390, 391, 392, 64, 393, 324, 325, 326, 394, 328, 329, 330, 395, 396, 397, 398, 399, 400, 401, 402, 403, 404, 405, 406, 407, 408, 409, 410, 434, 435, 436, 437, 461, 462, 463, 464, 465, 466, 467, 468, 469, 470, 506, 507, 508, 509, 510, 511, 491, 492, 493, 494, 495, 496, 497, 498, 499, 500, 501, 502, 503] (by decide +kernel) (by decide +kernel)
set_option maxRecDepth 20000 in
theorem gL_law_L_best : GoodIn wsL_law (va_wsS RL 110 yL_best wsL_best) := goodIn_app (goodIn_of _ (by decide +kernel)) ggL_law_L_best
set_option maxRecDepth 20000 in
theorem ggL_law_X4_best : GoodIn wsL_law wsX4_best := goodIn_r _ [441, 92, 124, 125, 126, 5, 127, 95, 128, 129, 130, 131, 132, 415, 416, 417, 418, 268, 96, 93, 297, 298, 299, 300, 88, 83, 82, 90, 89, 269, 270, 271, 272, 123, 87, 84, 85, 86, 91, 189, 190, 191, 192, 81, 80, 273, 274, 275, 276, 277, 278, 279, 280, 281, 282, 283, 284, 419, 420, 421, 422, 423, 424, 425, 426, 471, 472, 473, 474, 475, 476, 477, 478, 479, 480, 481, 482, 483, 484, 485, 486, 487, 488, 489, 490] (by decide +kernel) (by decide +kernel)
set_option maxRecDepth 20000 in
theorem gL_law_X4_best : GoodIn wsL_law (wsV RL 112 RX4 yX4_best wsX4_best) := goodIn_app (goodIn_of _ (by decide +kernel)) ggL_law_X4_best
set_option maxRecDepth 20000 in
theorem ggL_law_L_alone : GoodIn wsL_law wsL_alone := goodIn_r _ [444, 445, 446, 447, 2, 448, 33, 104, 105, 106, 107, 24, 108, 109, 110, 216, 217, 218, 219, 42, 29, 27, 28, 220, 221, 222, 32, 223, 51, 54, 52, 224, 225, 226, 227, 57, 55, 228, 229, 230, 231, 232, 233, 234, 235, 236, 237, 238, 239, 240, 241, 242, 243, 244, 245, 246, 247, 248, 249, 250, 251, 252, 253, 254, 255, 58, 56, 256, 257, 258, 259, 323, 324, 325, 326, 327, 328, 329, 330, 461, 462, 463, 464, 465, 466, 467, 468, 469, 470, 506, 507, 508, 509, 510, 511, 491, 492, 493, 494, 495, 496, 497] (by decide +kernel) (by decide +kernel)
set_option maxRecDepth 20000 in
theorem gL_law_L_alone : GoodIn wsL_law (va_wsS RL 113 yL_alone wsL_alone) := goodIn_app (goodIn_of _ (by decide +kernel)) ggL_law_L_alone
set_option maxRecDepth 20000 in
theorem ggL_law_X4_alone : GoodIn wsL_law wsX4_alone := goodIn_r _ [452, 95, 88, 124, 125, 126, 5, 127, 128, 129, 130, 131, 132, 269, 270, 271, 272, 123, 268, 87, 84, 85, 96, 89, 86, 91, 189, 190, 191, 192, 81, 80, 273, 274, 275, 276, 277, 278, 279, 280, 281, 282, 283, 284, 471, 472, 473, 474, 475, 476, 477, 478, 479, 480, 481, 482, 483, 484, 485, 486, 487, 488, 489, 490] (by decide +kernel) (by decide +kernel)
set_option maxRecDepth 20000 in
theorem gL_law_X4_alone : GoodIn wsL_law (wsV RL 115 RX4 yX4_alone wsX4_alone) := goodIn_app (goodIn_of _ (by decide +kernel)) ggL_law_X4_alone
set_option maxRecDepth 20000 in
theorem ggL_law_X3_clear : GoodIn wsL_law wsX3_clear := goodIn_r _ [456, 24, 27, 28, 115, 116, 117, 2, 118, 42, 43, 461, 462, 463, 464, 465, 466, 467, 468, 469, 470] (by decide +kernel) (by decide +kernel)
set_option maxRecDepth 20000 in
theorem gL_law_X3_clear : GoodIn wsL_law (wsV RL 116 RX3 yX3_clear wsX3_clear) := goodIn_app (goodIn_of _ (by decide +kernel)) ggL_law_X3_clear
set_option maxRecDepth 20000 in
theorem ggL_law_X4_clear : GoodIn wsL_law wsX4_clear := goodIn_r _ [460, 132, 95, 82, 83, 471, 472, 473, 474, 475, 476, 477, 478, 479, 480, 481, 482, 483, 484, 485, 486, 487, 488, 489, 490] (by decide +kernel) (by decide +kernel)
set_option maxRecDepth 20000 in
theorem gL_law_X4_clear : GoodIn wsL_law (wsV RL 119 RX4 yX4_clear wsX4_clear) := goodIn_app (goodIn_of _ (by decide +kernel)) ggL_law_X4_clear
abbrev vwCl : List vw_C := [(RJx00060, TJx00060, 6), (RX0, TX0, 2), (RX1, TX1, 7), (RX2, TX2, 6), (RX3, TX3, 10), (RX4, TX4, 20)]
end
section
theorem dX0_init_0 : decode cX0_init 0 = .ok (.aload_n 0, 1) := by decide +kernel
theorem dX0_init_1 : decode cX0_init 1 = .ok (.invokespecial 3, 3) := by decide +kernel
theorem dX0_init_4 : decode cX0_init 4 = .ok (.aload_n 0, 1) := by decide +kernel
theorem dX0_init_5 : decode cX0_init 5 = .ok (.bipush 26, 2) := by decide +kernel
theorem dX0_init_7 : decode cX0_init 7 = .ok (.newarray .int, 2) := by decide +kernel
theorem dX0_init_9 : decode cX0_init 9 = .ok (.putfield 11, 3) := by decide +kernel
theorem dX0_init_12 : decode cX0_init 12 = .ok (.aload_n 0, 1) := by decide +kernel
theorem dX0_init_13 : decode cX0_init 13 = .ok (.iconst 1, 1) := by decide +kernel
theorem dX0_init_14 : decode cX0_init 14 = .ok (.putfield 15, 3) := by decide +kernel
theorem dX0_init_17 : decode cX0_init 17 = .ok (.return_, 1) := by decide +kernel
theorem dX0_become_0 : decode cX0_become 0 = .ok (.aload_n 0, 1) := by decide +kernel
theorem dX0_become_1 : decode cX0_become 1 = .ok (.getfield 11, 3) := by decide +kernel
theorem dX0_become_4 : decode cX0_become 4 = .ok (.iconst 0, 1) := by decide +kernel
theorem dX0_become_5 : decode cX0_become 5 = .ok (.iload_n 1, 1) := by decide +kernel
theorem dX0_become_6 : decode cX0_become 6 = .ok (.iastore, 1) := by decide +kernel
theorem dX0_become_7 : decode cX0_become 7 = .ok (.aload_n 0, 1) := by decide +kernel
theorem dX0_become_8 : decode cX0_become 8 = .ok (.iconst 1, 1) := by decide +kernel
theorem dX0_become_9 : decode cX0_become 9 = .ok (.putfield 15, 3) := by decide +kernel
theorem dX0_become_12 : decode cX0_become 12 = .ok (.return_, 1) := by decide +kernel
theorem dX0_multiply_0 : decode cX0_multiply 0 = .ok (.iconst 0, 1) := by decide +kernel
theorem dX0_multiply_1 : decode cX0_multiply 1 = .ok (.istore_n 2, 1) := by decide +kernel
theorem dX0_multiply_2 : decode cX0_multiply 2 = .ok (.iconst 0, 1) := by decide +kernel
theorem dX0_multiply_3 : decode cX0_multiply 3 = .ok (.istore_n 3, 1) := by decide +kernel
theorem dX0_multiply_4 : decode cX0_multiply 4 = .ok (.iload_n 3, 1) := by decide +kernel
theorem dX0_multiply_5 : decode cX0_multiply 5 = .ok (.aload_n 0, 1) := by decide +kernel
theorem dX0_multiply_6 : decode cX0_multiply 6 = .ok (.getfield 15, 3) := by decide +kernel
theorem dX0_multiply_9 : decode cX0_multiply 9 = .ok (.if_icmp .ge 38, 3) := by decide +kernel
theorem dX0_multiply_12 : decode cX0_multiply 12 = .ok (.aload_n 0, 1) := by decide +kernel
theorem dX0_multiply_13 : decode cX0_multiply 13 = .ok (.getfield 11, 3) := by decide +kernel
theorem dX0_multiply_16 : decode cX0_multiply 16 = .ok (.iload_n 3, 1) := by decide +kernel
theorem dX0_multiply_17 : decode cX0_multiply 17 = .ok (.iaload, 1) := by decide +kernel
theorem dX0_multiply_18 : decode cX0_multiply 18 = .ok (.iload_n 1, 1) := by decide +kernel
theorem dX0_multiply_19 : decode cX0_multiply 19 = .ok (.imul, 1) := by decide +kernel
theorem dX0_multiply_20 : decode cX0_multiply 20 = .ok (.iload_n 2, 1) := by decide +kernel
theorem dX0_multiply_21 : decode cX0_multiply 21 = .ok (.iadd, 1) := by decide +kernel
theorem dX0_multiply_22 : decode cX0_multiply 22 = .ok (.istore 4, 2) := by decide +kernel
theorem dX0_multiply_24 : decode cX0_multiply 24 = .ok (.aload_n 0, 1) := by decide +kernel
theorem dX0_multiply_25 : decode cX0_multiply 25 = .ok (.getfield 11, 3) := by decide +kernel
theorem dX0_multiply_28 : decode cX0_multiply 28 = .ok (.iload_n 3, 1) := by decide +kernel
theorem dX0_multiply_29 : decode cX0_multiply 29 = .ok (.iload 4, 2) := by decide +kernel
theorem dX0_multiply_31 : decode cX0_multiply 31 = .ok (.bipush 10, 2) := by decide +kernel
theorem dX0_multiply_33 : decode cX0_multiply 33 = .ok (.irem, 1) := by decide +kernel
theorem dX0_multiply_34 : decode cX0_multiply 34 = .ok (.iastore, 1) := by decide +kernel
theorem dX0_multiply_35 : decode cX0_multiply 35 = .ok (.iload 4, 2) := by decide +kernel
theorem dX0_multiply_37 : decode cX0_multiply 37 = .ok (.bipush 10, 2) := by decide +kernel
theorem dX0_multiply_39 : decode cX0_multiply 39 = .ok (.idiv, 1) := by decide +kernel
theorem dX0_multiply_40 : decode cX0_multiply 40 = .ok (.istore_n 2, 1) := by decide +kernel
theorem dX0_multiply_41 : decode cX0_multiply 41 = .ok (.iinc 3 1, 3) := by decide +kernel
theorem dX0_multiply_44 : decode cX0_multiply 44 = .ok (.goto (-40), 3) := by decide +kernel
theorem dX0_multiply_47 : decode cX0_multiply 47 = .ok (.iload_n 2, 1) := by decide +kernel
theorem dX0_multiply_48 : decode cX0_multiply 48 = .ok (.ifCond .le 32, 3) := by decide +kernel
theorem dX0_multiply_51 : decode cX0_multiply 51 = .ok (.aload_n 0, 1) := by decide +kernel
theorem dX0_multiply_52 : decode cX0_multiply 52 = .ok (.getfield 15, 3) := by decide +kernel
theorem dX0_multiply_55 : decode cX0_multiply 55 = .ok (.bipush 26, 2) := by decide +kernel
theorem dX0_multiply_57 : decode cX0_multiply 57 = .ok (.if_icmp .ge 23, 3) := by decide +kernel
theorem dX0_multiply_60 : decode cX0_multiply 60 = .ok (.aload_n 0, 1) := by decide +kernel
theorem dX0_multiply_61 : decode cX0_multiply 61 = .ok (.getfield 11, 3) := by decide +kernel
theorem dX0_multiply_64 : decode cX0_multiply 64 = .ok (.aload_n 0, 1) := by decide +kernel
theorem dX0_multiply_65 : decode cX0_multiply 65 = .ok (.getfield 15, 3) := by decide +kernel
theorem dX0_multiply_68 : decode cX0_multiply 68 = .ok (.iload_n 2, 1) := by decide +kernel
theorem dX0_multiply_69 : decode cX0_multiply 69 = .ok (.iastore, 1) := by decide +kernel
theorem dX0_multiply_70 : decode cX0_multiply 70 = .ok (.aload_n 0, 1) := by decide +kernel
theorem dX0_multiply_71 : decode cX0_multiply 71 = .ok (.dup, 1) := by decide +kernel
theorem dX0_multiply_72 : decode cX0_multiply 72 = .ok (.getfield 15, 3) := by decide +kernel
theorem dX0_multiply_75 : decode cX0_multiply 75 = .ok (.iconst 1, 1) := by decide +kernel
theorem dX0_multiply_76 : decode cX0_multiply 76 = .ok (.iadd, 1) := by decide +kernel
theorem dX0_multiply_77 : decode cX0_multiply 77 = .ok (.putfield 15, 3) := by decide +kernel
theorem dX0_multiply_80 : decode cX0_multiply 80 = .ok (.return_, 1) := by decide +kernel
theorem dX0_digit_0 : decode cX0_digit 0 = .ok (.iload_n 1, 1) := by decide +kernel
theorem dX0_digit_1 : decode cX0_digit 1 = .ok (.ifCond .lt 11, 3) := by decide +kernel
theorem dX0_digit_4 : decode cX0_digit 4 = .ok (.iload_n 1, 1) := by decide +kernel
theorem dX0_digit_5 : decode cX0_digit 5 = .ok (.aload_n 0, 1) := by decide +kernel
theorem dX0_digit_6 : decode cX0_digit 6 = .ok (.getfield 15, 3) := by decide +kernel
theorem dX0_digit_9 : decode cX0_digit 9 = .ok (.if_icmp .lt 7, 3) := by decide +kernel
theorem dX0_digit_12 : decode cX0_digit 12 = .ok (.iconst (-1), 1) := by decide +kernel
theorem dX0_digit_13 : decode cX0_digit 13 = .ok (.goto 9, 3) := by decide +kernel
theorem dX0_digit_16 : decode cX0_digit 16 = .ok (.aload_n 0, 1) := by decide +kernel
theorem dX0_digit_17 : decode cX0_digit 17 = .ok (.getfield 11, 3) := by decide +kernel
theorem dX0_digit_20 : decode cX0_digit 20 = .ok (.iload_n 1, 1) := by decide +kernel
theorem dX0_digit_21 : decode cX0_digit 21 = .ok (.iaload, 1) := by decide +kernel
theorem dX0_digit_22 : decode cX0_digit 22 = .ok (.ireturn, 1) := by decide +kernel
theorem dX1_init_0 : decode cX1_init 0 = .ok (.aload_n 0, 1) := by decide +kernel
theorem dX1_init_1 : decode cX1_init 1 = .ok (.invokespecial 3, 3) := by decide +kernel
theorem dX1_init_4 : decode cX1_init 4 = .ok (.aload_n 0, 1) := by decide +kernel
theorem dX1_init_5 : decode cX1_init 5 = .ok (.iload_n 1, 1) := by decide +kernel
theorem dX1_init_6 : decode cX1_init 6 = .ok (.putfield 9, 3) := by decide +kernel
theorem dX1_init_9 : decode cX1_init 9 = .ok (.aload_n 0, 1) := by decide +kernel
theorem dX1_init_10 : decode cX1_init 10 = .ok (.iload_n 2, 1) := by decide +kernel
theorem dX1_init_11 : decode cX1_init 11 = .ok (.putfield 15, 3) := by decide +kernel
theorem dX1_init_14 : decode cX1_init 14 = .ok (.aload_n 0, 1) := by decide +kernel
theorem dX1_init_15 : decode cX1_init 15 = .ok (.iload_n 1, 1) := by decide +kernel
theorem dX1_init_16 : decode cX1_init 16 = .ok (.iload_n 1, 1) := by decide +kernel
theorem dX1_init_17 : decode cX1_init 17 = .ok (.iconst 1, 1) := by decide +kernel
theorem dX1_init_18 : decode cX1_init 18 = .ok (.iadd, 1) := by decide +kernel
theorem dX1_init_19 : decode cX1_init 19 = .ok (.multianewarray 18 2, 4) := by decide +kernel
theorem dX1_init_23 : decode cX1_init 23 = .ok (.putfield 20, 3) := by decide +kernel
theorem dX1_init_26 : decode cX1_init 26 = .ok (.aload_n 0, 1) := by decide +kernel
theorem dX1_init_27 : decode cX1_init 27 = .ok (.iload_n 1, 1) := by decide +kernel
theorem dX1_init_28 : decode cX1_init 28 = .ok (.newarray .int, 2) := by decide +kernel
theorem dX1_init_30 : decode cX1_init 30 = .ok (.putfield 23, 3) := by decide +kernel
theorem dX1_init_33 : decode cX1_init 33 = .ok (.aload_n 0, 1) := by decide +kernel
theorem dX1_init_34 : decode cX1_init 34 = .ok (.iload_n 1, 1) := by decide +kernel
theorem dX1_init_35 : decode cX1_init 35 = .ok (.iload_n 1, 1) := by decide +kernel
theorem dX1_init_36 : decode cX1_init 36 = .ok (.multianewarray 18 2, 4) := by decide +kernel
theorem dX1_init_40 : decode cX1_init 40 = .ok (.putfield 27, 3) := by decide +kernel
theorem dX1_init_43 : decode cX1_init 43 = .ok (.aload_n 0, 1) := by decide +kernel
theorem dX1_init_44 : decode cX1_init 44 = .ok (.iconst 0, 1) := by decide +kernel
theorem dX1_init_45 : decode cX1_init 45 = .ok (.putfield 30, 3) := by decide +kernel
theorem dX1_init_48 : decode cX1_init 48 = .ok (.aload_n 0, 1) := by decide +kernel
theorem dX1_init_49 : decode cX1_init 49 = .ok (.iconst 0, 1) := by decide +kernel
theorem dX1_init_50 : decode cX1_init 50 = .ok (.putfield 33, 3) := by decide +kernel
theorem dX1_init_53 : decode cX1_init 53 = .ok (.return_, 1) := by decide +kernel
theorem dX1_take_0 : decode cX1_take 0 = .ok (.iconst 0, 1) := by decide +kernel
theorem dX1_take_1 : decode cX1_take 1 = .ok (.istore 4, 2) := by decide +kernel
theorem dX1_take_3 : decode cX1_take 3 = .ok (.iload 4, 2) := by decide +kernel
theorem dX1_take_5 : decode cX1_take 5 = .ok (.aload_n 0, 1) := by decide +kernel
theorem dX1_take_6 : decode cX1_take 6 = .ok (.getfield 9, 3) := by decide +kernel
theorem dX1_take_9 : decode cX1_take 9 = .ok (.if_icmp .ge 76, 3) := by decide +kernel
theorem dX1_take_12 : decode cX1_take 12 = .ok (.aload_n 0, 1) := by decide +kernel
theorem dX1_take_13 : decode cX1_take 13 = .ok (.getfield 20, 3) := by decide +kernel
theorem dX1_take_16 : decode cX1_take 16 = .ok (.iload 4, 2) := by decide +kernel
theorem dX1_take_18 : decode cX1_take 18 = .ok (.aaload, 1) := by decide +kernel
theorem dX1_take_19 : decode cX1_take 19 = .ok (.astore 5, 2) := by decide +kernel
theorem dX1_take_21 : decode cX1_take 21 = .ok (.iconst 0, 1) := by decide +kernel
theorem dX1_take_22 : decode cX1_take 22 = .ok (.istore 6, 2) := by decide +kernel
theorem dX1_take_24 : decode cX1_take 24 = .ok (.iload 6, 2) := by decide +kernel
theorem dX1_take_26 : decode cX1_take 26 = .ok (.aload_n 0, 1) := by decide +kernel
theorem dX1_take_27 : decode cX1_take 27 = .ok (.getfield 9, 3) := by decide +kernel
theorem dX1_take_30 : decode cX1_take 30 = .ok (.if_icmp .ge 23, 3) := by decide +kernel
theorem dX1_take_33 : decode cX1_take 33 = .ok (.aload 5, 2) := by decide +kernel
theorem dX1_take_35 : decode cX1_take 35 = .ok (.iload 6, 2) := by decide +kernel
theorem dX1_take_37 : decode cX1_take 37 = .ok (.aload_n 1, 1) := by decide +kernel
theorem dX1_take_38 : decode cX1_take 38 = .ok (.iload 6, 2) := by decide +kernel
theorem dX1_take_40 : decode cX1_take 40 = .ok (.iaload, 1) := by decide +kernel
theorem dX1_take_41 : decode cX1_take 41 = .ok (.iload 4, 2) := by decide +kernel
theorem dX1_take_43 : decode cX1_take 43 = .ok (.ishr, 1) := by decide +kernel
theorem dX1_take_44 : decode cX1_take 44 = .ok (.iconst 1, 1) := by decide +kernel
theorem dX1_take_45 : decode cX1_take 45 = .ok (.iand, 1) := by decide +kernel
theorem dX1_take_46 : decode cX1_take 46 = .ok (.iastore, 1) := by decide +kernel
theorem dX1_take_47 : decode cX1_take 47 = .ok (.iinc 6 1, 3) := by decide +kernel
theorem dX1_take_50 : decode cX1_take 50 = .ok (.goto (-26), 3) := by decide +kernel
theorem dX1_take_53 : decode cX1_take 53 = .ok (.aload 5, 2) := by decide +kernel
theorem dX1_take_55 : decode cX1_take 55 = .ok (.aload_n 0, 1) := by decide +kernel
theorem dX1_take_56 : decode cX1_take 56 = .ok (.getfield 9, 3) := by decide +kernel
theorem dX1_take_59 : decode cX1_take 59 = .ok (.aload_n 3, 1) := by decide +kernel
theorem dX1_take_60 : decode cX1_take 60 = .ok (.iload 4, 2) := by decide +kernel
theorem dX1_take_62 : decode cX1_take 62 = .ok (.iaload, 1) := by decide +kernel
theorem dX1_take_63 : decode cX1_take 63 = .ok (.aload_n 2, 1) := by decide +kernel
theorem dX1_take_64 : decode cX1_take 64 = .ok (.iload 4, 2) := by decide +kernel
theorem dX1_take_66 : decode cX1_take 66 = .ok (.iaload, 1) := by decide +kernel
theorem dX1_take_67 : decode cX1_take 67 = .ok (.isub, 1) := by decide +kernel
theorem dX1_take_68 : decode cX1_take 68 = .ok (.aload_n 0, 1) := by decide +kernel
theorem dX1_take_69 : decode cX1_take 69 = .ok (.getfield 15, 3) := by decide +kernel
theorem dX1_take_72 : decode cX1_take 72 = .ok (.iadd, 1) := by decide +kernel
theorem dX1_take_73 : decode cX1_take 73 = .ok (.aload_n 0, 1) := by decide +kernel
theorem dX1_take_74 : decode cX1_take 74 = .ok (.getfield 15, 3) := by decide +kernel
theorem dX1_take_77 : decode cX1_take 77 = .ok (.irem, 1) := by decide +kernel
theorem dX1_take_78 : decode cX1_take 78 = .ok (.iastore, 1) := by decide +kernel
theorem dX1_take_79 : decode cX1_take 79 = .ok (.iinc 4 1, 3) := by decide +kernel
theorem dX1_take_82 : decode cX1_take 82 = .ok (.goto (-79), 3) := by decide +kernel
theorem dX1_take_85 : decode cX1_take 85 = .ok (.return_, 1) := by decide +kernel
theorem dX1_reduce_0 : decode cX1_reduce 0 = .ok (.aload_n 0, 1) := by decide +kernel
theorem dX1_reduce_1 : decode cX1_reduce 1 = .ok (.iconst 0, 1) := by decide +kernel
theorem dX1_reduce_2 : decode cX1_reduce 2 = .ok (.putfield 30, 3) := by decide +kernel
theorem dX1_reduce_5 : decode cX1_reduce 5 = .ok (.iconst 0, 1) := by decide +kernel
theorem dX1_reduce_6 : decode cX1_reduce 6 = .ok (.istore_n 1, 1) := by decide +kernel
theorem dX1_reduce_7 : decode cX1_reduce 7 = .ok (.iload_n 1, 1) := by decide +kernel
theorem dX1_reduce_8 : decode cX1_reduce 8 = .ok (.aload_n 0, 1) := by decide +kernel
theorem dX1_reduce_9 : decode cX1_reduce 9 = .ok (.getfield 9, 3) := by decide +kernel
theorem dX1_reduce_12 : decode cX1_reduce 12 = .ok (.if_icmp .ge 81, 3) := by decide +kernel
theorem dX1_reduce_15 : decode cX1_reduce 15 = .ok (.aload_n 0, 1) := by decide +kernel
theorem dX1_reduce_16 : decode cX1_reduce 16 = .ok (.iload_n 1, 1) := by decide +kernel
theorem dX1_reduce_17 : decode cX1_reduce 17 = .ok (.invokevirtual 36, 3) := by decide +kernel
theorem dX1_reduce_20 : decode cX1_reduce 20 = .ok (.istore_n 2, 1) := by decide +kernel
theorem dX1_reduce_21 : decode cX1_reduce 21 = .ok (.aload_n 0, 1) := by decide +kernel
theorem dX1_reduce_22 : decode cX1_reduce 22 = .ok (.getfield 23, 3) := by decide +kernel
theorem dX1_reduce_25 : decode cX1_reduce 25 = .ok (.iload_n 1, 1) := by decide +kernel
theorem dX1_reduce_26 : decode cX1_reduce 26 = .ok (.iload_n 2, 1) := by decide +kernel
theorem dX1_reduce_27 : decode cX1_reduce 27 = .ok (.iconst (-1), 1) := by decide +kernel
theorem dX1_reduce_28 : decode cX1_reduce 28 = .ok (.if_icmp .ne 7, 3) := by decide +kernel
theorem dX1_reduce_31 : decode cX1_reduce 31 = .ok (.iconst (-1), 1) := by decide +kernel
theorem dX1_reduce_32 : decode cX1_reduce 32 = .ok (.goto 7, 3) := by decide +kernel
theorem dX1_reduce_35 : decode cX1_reduce 35 = .ok (.aload_n 0, 1) := by decide +kernel
theorem dX1_reduce_36 : decode cX1_reduce 36 = .ok (.getfield 30, 3) := by decide +kernel
theorem dX1_reduce_39 : decode cX1_reduce 39 = .ok (.iastore, 1) := by decide +kernel
theorem dX1_reduce_40 : decode cX1_reduce 40 = .ok (.iload_n 2, 1) := by decide +kernel
theorem dX1_reduce_41 : decode cX1_reduce 41 = .ok (.iconst (-1), 1) := by decide +kernel
theorem dX1_reduce_42 : decode cX1_reduce 42 = .ok (.if_icmp .eq 45, 3) := by decide +kernel
theorem dX1_reduce_45 : decode cX1_reduce 45 = .ok (.aload_n 0, 1) := by decide +kernel
theorem dX1_reduce_46 : decode cX1_reduce 46 = .ok (.iload_n 2, 1) := by decide +kernel
theorem dX1_reduce_47 : decode cX1_reduce 47 = .ok (.aload_n 0, 1) := by decide +kernel
theorem dX1_reduce_48 : decode cX1_reduce 48 = .ok (.getfield 30, 3) := by decide +kernel
theorem dX1_reduce_51 : decode cX1_reduce 51 = .ok (.invokevirtual 40, 3) := by decide +kernel
theorem dX1_reduce_54 : decode cX1_reduce 54 = .ok (.aload_n 0, 1) := by decide +kernel
theorem dX1_reduce_55 : decode cX1_reduce 55 = .ok (.aload_n 0, 1) := by decide +kernel
theorem dX1_reduce_56 : decode cX1_reduce 56 = .ok (.getfield 20, 3) := by decide +kernel
theorem dX1_reduce_59 : decode cX1_reduce 59 = .ok (.aload_n 0, 1) := by decide +kernel
theorem dX1_reduce_60 : decode cX1_reduce 60 = .ok (.getfield 30, 3) := by decide +kernel
theorem dX1_reduce_63 : decode cX1_reduce 63 = .ok (.aaload, 1) := by decide +kernel
theorem dX1_reduce_64 : decode cX1_reduce 64 = .ok (.iload_n 1, 1) := by decide +kernel
theorem dX1_reduce_65 : decode cX1_reduce 65 = .ok (.invokevirtual 44, 3) := by decide +kernel
theorem dX1_reduce_68 : decode cX1_reduce 68 = .ok (.aload_n 0, 1) := by decide +kernel
theorem dX1_reduce_69 : decode cX1_reduce 69 = .ok (.aload_n 0, 1) := by decide +kernel
theorem dX1_reduce_70 : decode cX1_reduce 70 = .ok (.getfield 30, 3) := by decide +kernel
theorem dX1_reduce_73 : decode cX1_reduce 73 = .ok (.iload_n 1, 1) := by decide +kernel
theorem dX1_reduce_74 : decode cX1_reduce 74 = .ok (.invokevirtual 48, 3) := by decide +kernel
theorem dX1_reduce_77 : decode cX1_reduce 77 = .ok (.aload_n 0, 1) := by decide +kernel
theorem dX1_reduce_78 : decode cX1_reduce 78 = .ok (.dup, 1) := by decide +kernel
theorem dX1_reduce_79 : decode cX1_reduce 79 = .ok (.getfield 30, 3) := by decide +kernel
theorem dX1_reduce_82 : decode cX1_reduce 82 = .ok (.iconst 1, 1) := by decide +kernel
theorem dX1_reduce_83 : decode cX1_reduce 83 = .ok (.iadd, 1) := by decide +kernel
theorem dX1_reduce_84 : decode cX1_reduce 84 = .ok (.putfield 30, 3) := by decide +kernel
theorem dX1_reduce_87 : decode cX1_reduce 87 = .ok (.iinc 1 1, 3) := by decide +kernel
theorem dX1_reduce_90 : decode cX1_reduce 90 = .ok (.goto (-83), 3) := by decide +kernel
theorem dX1_reduce_93 : decode cX1_reduce 93 = .ok (.aload_n 0, 1) := by decide +kernel
theorem dX1_reduce_94 : decode cX1_reduce 94 = .ok (.invokevirtual 51, 3) := by decide +kernel
theorem dX1_reduce_97 : decode cX1_reduce 97 = .ok (.return_, 1) := by decide +kernel
theorem dX1_boundLamps_0 : decode cX1_boundLamps 0 = .ok (.aload_n 0, 1) := by decide +kernel
theorem dX1_boundLamps_1 : decode cX1_boundLamps 1 = .ok (.getfield 30, 3) := by decide +kernel
theorem dX1_boundLamps_4 : decode cX1_boundLamps 4 = .ok (.ireturn, 1) := by decide +kernel
theorem dX1_freeLamps_0 : decode cX1_freeLamps 0 = .ok (.aload_n 0, 1) := by decide +kernel
theorem dX1_freeLamps_1 : decode cX1_freeLamps 1 = .ok (.getfield 33, 3) := by decide +kernel
theorem dX1_freeLamps_4 : decode cX1_freeLamps 4 = .ok (.ireturn, 1) := by decide +kernel
theorem dX1_agree_0 : decode cX1_agree 0 = .ok (.aload_n 0, 1) := by decide +kernel
theorem dX1_agree_1 : decode cX1_agree 1 = .ok (.getfield 30, 3) := by decide +kernel
theorem dX1_agree_4 : decode cX1_agree 4 = .ok (.istore_n 1, 1) := by decide +kernel
theorem dX1_agree_5 : decode cX1_agree 5 = .ok (.iload_n 1, 1) := by decide +kernel
theorem dX1_agree_6 : decode cX1_agree 6 = .ok (.aload_n 0, 1) := by decide +kernel
theorem dX1_agree_7 : decode cX1_agree 7 = .ok (.getfield 9, 3) := by decide +kernel
theorem dX1_agree_10 : decode cX1_agree 10 = .ok (.if_icmp .ge 25, 3) := by decide +kernel
theorem dX1_agree_13 : decode cX1_agree 13 = .ok (.aload_n 0, 1) := by decide +kernel
theorem dX1_agree_14 : decode cX1_agree 14 = .ok (.getfield 20, 3) := by decide +kernel
theorem dX1_agree_17 : decode cX1_agree 17 = .ok (.iload_n 1, 1) := by decide +kernel
theorem dX1_agree_18 : decode cX1_agree 18 = .ok (.aaload, 1) := by decide +kernel
theorem dX1_agree_19 : decode cX1_agree 19 = .ok (.aload_n 0, 1) := by decide +kernel
theorem dX1_agree_20 : decode cX1_agree 20 = .ok (.getfield 9, 3) := by decide +kernel
theorem dX1_agree_23 : decode cX1_agree 23 = .ok (.iaload, 1) := by decide +kernel
theorem dX1_agree_24 : decode cX1_agree 24 = .ok (.ifCond .eq 5, 3) := by decide +kernel
theorem dX1_agree_27 : decode cX1_agree 27 = .ok (.iconst 0, 1) := by decide +kernel
theorem dX1_agree_28 : decode cX1_agree 28 = .ok (.ireturn, 1) := by decide +kernel
theorem dX1_agree_29 : decode cX1_agree 29 = .ok (.iinc 1 1, 3) := by decide +kernel
theorem dX1_agree_32 : decode cX1_agree 32 = .ok (.goto (-27), 3) := by decide +kernel
theorem dX1_agree_35 : decode cX1_agree 35 = .ok (.iconst 1, 1) := by decide +kernel
theorem dX1_agree_36 : decode cX1_agree 36 = .ok (.ireturn, 1) := by decide +kernel
theorem dX1_pressesOf_0 : decode cX1_pressesOf 0 = .ok (.aload_n 0, 1) := by decide +kernel
theorem dX1_pressesOf_1 : decode cX1_pressesOf 1 = .ok (.getfield 23, 3) := by decide +kernel
theorem dX1_pressesOf_4 : decode cX1_pressesOf 4 = .ok (.iload_n 1, 1) := by decide +kernel
theorem dX1_pressesOf_5 : decode cX1_pressesOf 5 = .ok (.iaload, 1) := by decide +kernel
theorem dX1_pressesOf_6 : decode cX1_pressesOf 6 = .ok (.istore_n 2, 1) := by decide +kernel
theorem dX1_pressesOf_7 : decode cX1_pressesOf 7 = .ok (.iload_n 2, 1) := by decide +kernel
theorem dX1_pressesOf_8 : decode cX1_pressesOf 8 = .ok (.iconst (-1), 1) := by decide +kernel
theorem dX1_pressesOf_9 : decode cX1_pressesOf 9 = .ok (.if_icmp .ne 7, 3) := by decide +kernel
theorem dX1_pressesOf_12 : decode cX1_pressesOf 12 = .ok (.iconst 0, 1) := by decide +kernel
theorem dX1_pressesOf_13 : decode cX1_pressesOf 13 = .ok (.goto 14, 3) := by decide +kernel
theorem dX1_pressesOf_16 : decode cX1_pressesOf 16 = .ok (.aload_n 0, 1) := by decide +kernel
theorem dX1_pressesOf_17 : decode cX1_pressesOf 17 = .ok (.getfield 20, 3) := by decide +kernel
theorem dX1_pressesOf_20 : decode cX1_pressesOf 20 = .ok (.iload_n 2, 1) := by decide +kernel
theorem dX1_pressesOf_21 : decode cX1_pressesOf 21 = .ok (.aaload, 1) := by decide +kernel
theorem dX1_pressesOf_22 : decode cX1_pressesOf 22 = .ok (.aload_n 0, 1) := by decide +kernel
theorem dX1_pressesOf_23 : decode cX1_pressesOf 23 = .ok (.getfield 9, 3) := by decide +kernel
theorem dX1_pressesOf_26 : decode cX1_pressesOf 26 = .ok (.iaload, 1) := by decide +kernel
theorem dX1_pressesOf_27 : decode cX1_pressesOf 27 = .ok (.ireturn, 1) := by decide +kernel
theorem dX1_quietPattern_0 : decode cX1_quietPattern 0 = .ok (.aload_n 0, 1) := by decide +kernel
theorem dX1_quietPattern_1 : decode cX1_quietPattern 1 = .ok (.getfield 27, 3) := by decide +kernel
theorem dX1_quietPattern_4 : decode cX1_quietPattern 4 = .ok (.iload_n 1, 1) := by decide +kernel
theorem dX1_quietPattern_5 : decode cX1_quietPattern 5 = .ok (.aaload, 1) := by decide +kernel
theorem dX1_quietPattern_6 : decode cX1_quietPattern 6 = .ok (.areturn, 1) := by decide +kernel
theorem dX1_answersUpTo_0 : decode cX1_answersUpTo 0 = .ok (.aload_n 0, 1) := by decide +kernel
theorem dX1_answersUpTo_1 : decode cX1_answersUpTo 1 = .ok (.invokevirtual 54, 3) := by decide +kernel
theorem dX1_answersUpTo_4 : decode cX1_answersUpTo 4 = .ok (.ifCond .ne 5, 3) := by decide +kernel
theorem dX1_answersUpTo_7 : decode cX1_answersUpTo 7 = .ok (.iconst 0, 1) := by decide +kernel
theorem dX1_answersUpTo_8 : decode cX1_answersUpTo 8 = .ok (.ireturn, 1) := by decide +kernel
theorem dX1_answersUpTo_9 : decode cX1_answersUpTo 9 = .ok (.iconst 1, 1) := by decide +kernel
theorem dX1_answersUpTo_10 : decode cX1_answersUpTo 10 = .ok (.istore_n 2, 1) := by decide +kernel
theorem dX1_answersUpTo_11 : decode cX1_answersUpTo 11 = .ok (.iconst 0, 1) := by decide +kernel
theorem dX1_answersUpTo_12 : decode cX1_answersUpTo 12 = .ok (.istore_n 3, 1) := by decide +kernel
theorem dX1_answersUpTo_13 : decode cX1_answersUpTo 13 = .ok (.iload_n 3, 1) := by decide +kernel
theorem dX1_answersUpTo_14 : decode cX1_answersUpTo 14 = .ok (.aload_n 0, 1) := by decide +kernel
theorem dX1_answersUpTo_15 : decode cX1_answersUpTo 15 = .ok (.getfield 33, 3) := by decide +kernel
theorem dX1_answersUpTo_18 : decode cX1_answersUpTo 18 = .ok (.if_icmp .ge 21, 3) := by decide +kernel
theorem dX1_answersUpTo_21 : decode cX1_answersUpTo 21 = .ok (.iload_n 2, 1) := by decide +kernel
theorem dX1_answersUpTo_22 : decode cX1_answersUpTo 22 = .ok (.iload_n 1, 1) := by decide +kernel
theorem dX1_answersUpTo_23 : decode cX1_answersUpTo 23 = .ok (.if_icmp .gt 16, 3) := by decide +kernel
theorem dX1_answersUpTo_26 : decode cX1_answersUpTo 26 = .ok (.iload_n 2, 1) := by decide +kernel
theorem dX1_answersUpTo_27 : decode cX1_answersUpTo 27 = .ok (.aload_n 0, 1) := by decide +kernel
theorem dX1_answersUpTo_28 : decode cX1_answersUpTo 28 = .ok (.getfield 15, 3) := by decide +kernel
theorem dX1_answersUpTo_31 : decode cX1_answersUpTo 31 = .ok (.imul, 1) := by decide +kernel
theorem dX1_answersUpTo_32 : decode cX1_answersUpTo 32 = .ok (.istore_n 2, 1) := by decide +kernel
theorem dX1_answersUpTo_33 : decode cX1_answersUpTo 33 = .ok (.iinc 3 1, 3) := by decide +kernel
theorem dX1_answersUpTo_36 : decode cX1_answersUpTo 36 = .ok (.goto (-23), 3) := by decide +kernel
theorem dX1_answersUpTo_39 : decode cX1_answersUpTo 39 = .ok (.iload_n 2, 1) := by decide +kernel
theorem dX1_answersUpTo_40 : decode cX1_answersUpTo 40 = .ok (.ireturn, 1) := by decide +kernel
theorem dX1_unusedRowWith_0 : decode cX1_unusedRowWith 0 = .ok (.aload_n 0, 1) := by decide +kernel
theorem dX1_unusedRowWith_1 : decode cX1_unusedRowWith 1 = .ok (.getfield 30, 3) := by decide +kernel
theorem dX1_unusedRowWith_4 : decode cX1_unusedRowWith 4 = .ok (.istore_n 2, 1) := by decide +kernel
theorem dX1_unusedRowWith_5 : decode cX1_unusedRowWith 5 = .ok (.iload_n 2, 1) := by decide +kernel
theorem dX1_unusedRowWith_6 : decode cX1_unusedRowWith 6 = .ok (.aload_n 0, 1) := by decide +kernel
theorem dX1_unusedRowWith_7 : decode cX1_unusedRowWith 7 = .ok (.getfield 9, 3) := by decide +kernel
theorem dX1_unusedRowWith_10 : decode cX1_unusedRowWith 10 = .ok (.if_icmp .ge 22, 3) := by decide +kernel
theorem dX1_unusedRowWith_13 : decode cX1_unusedRowWith 13 = .ok (.aload_n 0, 1) := by decide +kernel
theorem dX1_unusedRowWith_14 : decode cX1_unusedRowWith 14 = .ok (.getfield 20, 3) := by decide +kernel
theorem dX1_unusedRowWith_17 : decode cX1_unusedRowWith 17 = .ok (.iload_n 2, 1) := by decide +kernel
theorem dX1_unusedRowWith_18 : decode cX1_unusedRowWith 18 = .ok (.aaload, 1) := by decide +kernel
theorem dX1_unusedRowWith_19 : decode cX1_unusedRowWith 19 = .ok (.iload_n 1, 1) := by decide +kernel
theorem dX1_unusedRowWith_20 : decode cX1_unusedRowWith 20 = .ok (.iaload, 1) := by decide +kernel
theorem dX1_unusedRowWith_21 : decode cX1_unusedRowWith 21 = .ok (.ifCond .eq 5, 3) := by decide +kernel
theorem dX1_unusedRowWith_24 : decode cX1_unusedRowWith 24 = .ok (.iload_n 2, 1) := by decide +kernel
theorem dX1_unusedRowWith_25 : decode cX1_unusedRowWith 25 = .ok (.ireturn, 1) := by decide +kernel
theorem dX1_unusedRowWith_26 : decode cX1_unusedRowWith 26 = .ok (.iinc 2 1, 3) := by decide +kernel
theorem dX1_unusedRowWith_29 : decode cX1_unusedRowWith 29 = .ok (.goto (-24), 3) := by decide +kernel
theorem dX1_unusedRowWith_32 : decode cX1_unusedRowWith 32 = .ok (.iconst (-1), 1) := by decide +kernel
theorem dX1_unusedRowWith_33 : decode cX1_unusedRowWith 33 = .ok (.ireturn, 1) := by decide +kernel
theorem dX1_swap_0 : decode cX1_swap 0 = .ok (.aload_n 0, 1) := by decide +kernel
theorem dX1_swap_1 : decode cX1_swap 1 = .ok (.getfield 20, 3) := by decide +kernel
theorem dX1_swap_4 : decode cX1_swap 4 = .ok (.iload_n 1, 1) := by decide +kernel
theorem dX1_swap_5 : decode cX1_swap 5 = .ok (.aaload, 1) := by decide +kernel
theorem dX1_swap_6 : decode cX1_swap 6 = .ok (.astore_n 3, 1) := by decide +kernel
theorem dX1_swap_7 : decode cX1_swap 7 = .ok (.aload_n 0, 1) := by decide +kernel
theorem dX1_swap_8 : decode cX1_swap 8 = .ok (.getfield 20, 3) := by decide +kernel
theorem dX1_swap_11 : decode cX1_swap 11 = .ok (.iload_n 1, 1) := by decide +kernel
theorem dX1_swap_12 : decode cX1_swap 12 = .ok (.aload_n 0, 1) := by decide +kernel
theorem dX1_swap_13 : decode cX1_swap 13 = .ok (.getfield 20, 3) := by decide +kernel
theorem dX1_swap_16 : decode cX1_swap 16 = .ok (.iload_n 2, 1) := by decide +kernel
theorem dX1_swap_17 : decode cX1_swap 17 = .ok (.aaload, 1) := by decide +kernel
theorem dX1_swap_18 : decode cX1_swap 18 = .ok (.aastore, 1) := by decide +kernel
theorem dX1_swap_19 : decode cX1_swap 19 = .ok (.aload_n 0, 1) := by decide +kernel
theorem dX1_swap_20 : decode cX1_swap 20 = .ok (.getfield 20, 3) := by decide +kernel
theorem dX1_swap_23 : decode cX1_swap 23 = .ok (.iload_n 2, 1) := by decide +kernel
theorem dX1_swap_24 : decode cX1_swap 24 = .ok (.aload_n 3, 1) := by decide +kernel
theorem dX1_swap_25 : decode cX1_swap 25 = .ok (.aastore, 1) := by decide +kernel
theorem dX1_swap_26 : decode cX1_swap 26 = .ok (.return_, 1) := by decide +kernel
theorem dX1_makeUnit_0 : decode cX1_makeUnit 0 = .ok (.aload_n 0, 1) := by decide +kernel
theorem dX1_makeUnit_1 : decode cX1_makeUnit 1 = .ok (.aload_n 1, 1) := by decide +kernel
theorem dX1_makeUnit_2 : decode cX1_makeUnit 2 = .ok (.iload_n 2, 1) := by decide +kernel
theorem dX1_makeUnit_3 : decode cX1_makeUnit 3 = .ok (.iaload, 1) := by decide +kernel
theorem dX1_makeUnit_4 : decode cX1_makeUnit 4 = .ok (.invokevirtual 58, 3) := by decide +kernel
theorem dX1_makeUnit_7 : decode cX1_makeUnit 7 = .ok (.istore_n 3, 1) := by decide +kernel
theorem dX1_makeUnit_8 : decode cX1_makeUnit 8 = .ok (.iconst 0, 1) := by decide +kernel
theorem dX1_makeUnit_9 : decode cX1_makeUnit 9 = .ok (.istore 4, 2) := by decide +kernel
theorem dX1_makeUnit_11 : decode cX1_makeUnit 11 = .ok (.iload 4, 2) := by decide +kernel
theorem dX1_makeUnit_13 : decode cX1_makeUnit 13 = .ok (.aload_n 0, 1) := by decide +kernel
theorem dX1_makeUnit_14 : decode cX1_makeUnit 14 = .ok (.getfield 9, 3) := by decide +kernel
theorem dX1_makeUnit_17 : decode cX1_makeUnit 17 = .ok (.if_icmp .gt 24, 3) := by decide +kernel
theorem dX1_makeUnit_20 : decode cX1_makeUnit 20 = .ok (.aload_n 1, 1) := by decide +kernel
theorem dX1_makeUnit_21 : decode cX1_makeUnit 21 = .ok (.iload 4, 2) := by decide +kernel
theorem dX1_makeUnit_23 : decode cX1_makeUnit 23 = .ok (.aload_n 1, 1) := by decide +kernel
theorem dX1_makeUnit_24 : decode cX1_makeUnit 24 = .ok (.iload 4, 2) := by decide +kernel
theorem dX1_makeUnit_26 : decode cX1_makeUnit 26 = .ok (.iaload, 1) := by decide +kernel
theorem dX1_makeUnit_27 : decode cX1_makeUnit 27 = .ok (.iload_n 3, 1) := by decide +kernel
theorem dX1_makeUnit_28 : decode cX1_makeUnit 28 = .ok (.imul, 1) := by decide +kernel
theorem dX1_makeUnit_29 : decode cX1_makeUnit 29 = .ok (.aload_n 0, 1) := by decide +kernel
theorem dX1_makeUnit_30 : decode cX1_makeUnit 30 = .ok (.getfield 15, 3) := by decide +kernel
theorem dX1_makeUnit_33 : decode cX1_makeUnit 33 = .ok (.irem, 1) := by decide +kernel
theorem dX1_makeUnit_34 : decode cX1_makeUnit 34 = .ok (.iastore, 1) := by decide +kernel
theorem dX1_makeUnit_35 : decode cX1_makeUnit 35 = .ok (.iinc 4 1, 3) := by decide +kernel
theorem dX1_makeUnit_38 : decode cX1_makeUnit 38 = .ok (.goto (-27), 3) := by decide +kernel
theorem dX1_makeUnit_41 : decode cX1_makeUnit 41 = .ok (.return_, 1) := by decide +kernel
theorem dX1_inverse_0 : decode cX1_inverse 0 = .ok (.iconst 2, 1) := by decide +kernel
theorem dX1_inverse_1 : decode cX1_inverse 1 = .ok (.istore_n 2, 1) := by decide +kernel
theorem dX1_inverse_2 : decode cX1_inverse 2 = .ok (.iload_n 2, 1) := by decide +kernel
theorem dX1_inverse_3 : decode cX1_inverse 3 = .ok (.aload_n 0, 1) := by decide +kernel
theorem dX1_inverse_4 : decode cX1_inverse 4 = .ok (.getfield 15, 3) := by decide +kernel
theorem dX1_inverse_7 : decode cX1_inverse 7 = .ok (.if_icmp .ge 23, 3) := by decide +kernel
theorem dX1_inverse_10 : decode cX1_inverse 10 = .ok (.iload_n 1, 1) := by decide +kernel
theorem dX1_inverse_11 : decode cX1_inverse 11 = .ok (.iload_n 2, 1) := by decide +kernel
theorem dX1_inverse_12 : decode cX1_inverse 12 = .ok (.imul, 1) := by decide +kernel
theorem dX1_inverse_13 : decode cX1_inverse 13 = .ok (.aload_n 0, 1) := by decide +kernel
theorem dX1_inverse_14 : decode cX1_inverse 14 = .ok (.getfield 15, 3) := by decide +kernel
theorem dX1_inverse_17 : decode cX1_inverse 17 = .ok (.irem, 1) := by decide +kernel
theorem dX1_inverse_18 : decode cX1_inverse 18 = .ok (.iconst 1, 1) := by decide +kernel
theorem dX1_inverse_19 : decode cX1_inverse 19 = .ok (.if_icmp .ne 5, 3) := by decide +kernel
theorem dX1_inverse_22 : decode cX1_inverse 22 = .ok (.iload_n 2, 1) := by decide +kernel
theorem dX1_inverse_23 : decode cX1_inverse 23 = .ok (.ireturn, 1) := by decide +kernel
theorem dX1_inverse_24 : decode cX1_inverse 24 = .ok (.iinc 2 1, 3) := by decide +kernel
theorem dX1_inverse_27 : decode cX1_inverse 27 = .ok (.goto (-25), 3) := by decide +kernel
theorem dX1_inverse_30 : decode cX1_inverse 30 = .ok (.iconst 1, 1) := by decide +kernel
theorem dX1_inverse_31 : decode cX1_inverse 31 = .ok (.ireturn, 1) := by decide +kernel
theorem dX1_clearElsewhere_0 : decode cX1_clearElsewhere 0 = .ok (.iconst 0, 1) := by decide +kernel
theorem dX1_clearElsewhere_1 : decode cX1_clearElsewhere 1 = .ok (.istore_n 3, 1) := by decide +kernel
theorem dX1_clearElsewhere_2 : decode cX1_clearElsewhere 2 = .ok (.iload_n 3, 1) := by decide +kernel
theorem dX1_clearElsewhere_3 : decode cX1_clearElsewhere 3 = .ok (.aload_n 0, 1) := by decide +kernel
theorem dX1_clearElsewhere_4 : decode cX1_clearElsewhere 4 = .ok (.getfield 9, 3) := by decide +kernel
theorem dX1_clearElsewhere_7 : decode cX1_clearElsewhere 7 = .ok (.if_icmp .ge 54, 3) := by decide +kernel
theorem dX1_clearElsewhere_10 : decode cX1_clearElsewhere 10 = .ok (.iload_n 3, 1) := by decide +kernel
theorem dX1_clearElsewhere_11 : decode cX1_clearElsewhere 11 = .ok (.iload_n 1, 1) := by decide +kernel
theorem dX1_clearElsewhere_12 : decode cX1_clearElsewhere 12 = .ok (.if_icmp .eq 43, 3) := by decide +kernel
theorem dX1_clearElsewhere_15 : decode cX1_clearElsewhere 15 = .ok (.aload_n 0, 1) := by decide +kernel
theorem dX1_clearElsewhere_16 : decode cX1_clearElsewhere 16 = .ok (.getfield 20, 3) := by decide +kernel
theorem dX1_clearElsewhere_19 : decode cX1_clearElsewhere 19 = .ok (.iload_n 3, 1) := by decide +kernel
theorem dX1_clearElsewhere_20 : decode cX1_clearElsewhere 20 = .ok (.aaload, 1) := by decide +kernel
theorem dX1_clearElsewhere_21 : decode cX1_clearElsewhere 21 = .ok (.iload_n 2, 1) := by decide +kernel
theorem dX1_clearElsewhere_22 : decode cX1_clearElsewhere 22 = .ok (.iaload, 1) := by decide +kernel
theorem dX1_clearElsewhere_23 : decode cX1_clearElsewhere 23 = .ok (.ifCond .eq 32, 3) := by decide +kernel
theorem dX1_clearElsewhere_26 : decode cX1_clearElsewhere 26 = .ok (.aload_n 0, 1) := by decide +kernel
theorem dX1_clearElsewhere_27 : decode cX1_clearElsewhere 27 = .ok (.aload_n 0, 1) := by decide +kernel
theorem dX1_clearElsewhere_28 : decode cX1_clearElsewhere 28 = .ok (.getfield 20, 3) := by decide +kernel
theorem dX1_clearElsewhere_31 : decode cX1_clearElsewhere 31 = .ok (.iload_n 3, 1) := by decide +kernel
theorem dX1_clearElsewhere_32 : decode cX1_clearElsewhere 32 = .ok (.aaload, 1) := by decide +kernel
theorem dX1_clearElsewhere_33 : decode cX1_clearElsewhere 33 = .ok (.aload_n 0, 1) := by decide +kernel
theorem dX1_clearElsewhere_34 : decode cX1_clearElsewhere 34 = .ok (.getfield 20, 3) := by decide +kernel
theorem dX1_clearElsewhere_37 : decode cX1_clearElsewhere 37 = .ok (.iload_n 1, 1) := by decide +kernel
theorem dX1_clearElsewhere_38 : decode cX1_clearElsewhere 38 = .ok (.aaload, 1) := by decide +kernel
theorem dX1_clearElsewhere_39 : decode cX1_clearElsewhere 39 = .ok (.aload_n 0, 1) := by decide +kernel
theorem dX1_clearElsewhere_40 : decode cX1_clearElsewhere 40 = .ok (.getfield 15, 3) := by decide +kernel
theorem dX1_clearElsewhere_43 : decode cX1_clearElsewhere 43 = .ok (.aload_n 0, 1) := by decide +kernel
theorem dX1_clearElsewhere_44 : decode cX1_clearElsewhere 44 = .ok (.getfield 20, 3) := by decide +kernel
theorem dX1_clearElsewhere_47 : decode cX1_clearElsewhere 47 = .ok (.iload_n 3, 1) := by decide +kernel
theorem dX1_clearElsewhere_48 : decode cX1_clearElsewhere 48 = .ok (.aaload, 1) := by decide +kernel
theorem dX1_clearElsewhere_49 : decode cX1_clearElsewhere 49 = .ok (.iload_n 2, 1) := by decide +kernel
theorem dX1_clearElsewhere_50 : decode cX1_clearElsewhere 50 = .ok (.iaload, 1) := by decide +kernel
theorem dX1_clearElsewhere_51 : decode cX1_clearElsewhere 51 = .ok (.isub, 1) := by decide +kernel
theorem dX1_clearElsewhere_52 : decode cX1_clearElsewhere 52 = .ok (.invokevirtual 61, 3) := by decide +kernel
theorem dX1_clearElsewhere_55 : decode cX1_clearElsewhere 55 = .ok (.iinc 3 1, 3) := by decide +kernel
theorem dX1_clearElsewhere_58 : decode cX1_clearElsewhere 58 = .ok (.goto (-56), 3) := by decide +kernel
theorem dX1_clearElsewhere_61 : decode cX1_clearElsewhere 61 = .ok (.return_, 1) := by decide +kernel
theorem dX1_addMultiple_0 : decode cX1_addMultiple 0 = .ok (.iconst 0, 1) := by decide +kernel
theorem dX1_addMultiple_1 : decode cX1_addMultiple 1 = .ok (.istore 4, 2) := by decide +kernel
theorem dX1_addMultiple_3 : decode cX1_addMultiple 3 = .ok (.iload 4, 2) := by decide +kernel
theorem dX1_addMultiple_5 : decode cX1_addMultiple 5 = .ok (.aload_n 0, 1) := by decide +kernel
theorem dX1_addMultiple_6 : decode cX1_addMultiple 6 = .ok (.getfield 9, 3) := by decide +kernel
theorem dX1_addMultiple_9 : decode cX1_addMultiple 9 = .ok (.if_icmp .gt 29, 3) := by decide +kernel
theorem dX1_addMultiple_12 : decode cX1_addMultiple 12 = .ok (.aload_n 1, 1) := by decide +kernel
theorem dX1_addMultiple_13 : decode cX1_addMultiple 13 = .ok (.iload 4, 2) := by decide +kernel
theorem dX1_addMultiple_15 : decode cX1_addMultiple 15 = .ok (.aload_n 1, 1) := by decide +kernel
theorem dX1_addMultiple_16 : decode cX1_addMultiple 16 = .ok (.iload 4, 2) := by decide +kernel
theorem dX1_addMultiple_18 : decode cX1_addMultiple 18 = .ok (.iaload, 1) := by decide +kernel
theorem dX1_addMultiple_19 : decode cX1_addMultiple 19 = .ok (.aload_n 2, 1) := by decide +kernel
theorem dX1_addMultiple_20 : decode cX1_addMultiple 20 = .ok (.iload 4, 2) := by decide +kernel
theorem dX1_addMultiple_22 : decode cX1_addMultiple 22 = .ok (.iaload, 1) := by decide +kernel
theorem dX1_addMultiple_23 : decode cX1_addMultiple 23 = .ok (.iload_n 3, 1) := by decide +kernel
theorem dX1_addMultiple_24 : decode cX1_addMultiple 24 = .ok (.imul, 1) := by decide +kernel
theorem dX1_addMultiple_25 : decode cX1_addMultiple 25 = .ok (.iadd, 1) := by decide +kernel
theorem dX1_addMultiple_26 : decode cX1_addMultiple 26 = .ok (.aload_n 0, 1) := by decide +kernel
theorem dX1_addMultiple_27 : decode cX1_addMultiple 27 = .ok (.getfield 15, 3) := by decide +kernel
theorem dX1_addMultiple_30 : decode cX1_addMultiple 30 = .ok (.irem, 1) := by decide +kernel
theorem dX1_addMultiple_31 : decode cX1_addMultiple 31 = .ok (.iastore, 1) := by decide +kernel
theorem dX1_addMultiple_32 : decode cX1_addMultiple 32 = .ok (.iinc 4 1, 3) := by decide +kernel
theorem dX1_addMultiple_35 : decode cX1_addMultiple 35 = .ok (.goto (-32), 3) := by decide +kernel
theorem dX1_addMultiple_38 : decode cX1_addMultiple 38 = .ok (.return_, 1) := by decide +kernel
theorem dX1_readQuietPatterns_0 : decode cX1_readQuietPatterns 0 = .ok (.aload_n 0, 1) := by decide +kernel
theorem dX1_readQuietPatterns_1 : decode cX1_readQuietPatterns 1 = .ok (.iconst 0, 1) := by decide +kernel
theorem dX1_readQuietPatterns_2 : decode cX1_readQuietPatterns 2 = .ok (.putfield 33, 3) := by decide +kernel
theorem dX1_readQuietPatterns_5 : decode cX1_readQuietPatterns 5 = .ok (.iconst 0, 1) := by decide +kernel
theorem dX1_readQuietPatterns_6 : decode cX1_readQuietPatterns 6 = .ok (.istore_n 1, 1) := by decide +kernel
theorem dX1_readQuietPatterns_7 : decode cX1_readQuietPatterns 7 = .ok (.iload_n 1, 1) := by decide +kernel
theorem dX1_readQuietPatterns_8 : decode cX1_readQuietPatterns 8 = .ok (.aload_n 0, 1) := by decide +kernel
theorem dX1_readQuietPatterns_9 : decode cX1_readQuietPatterns 9 = .ok (.getfield 9, 3) := by decide +kernel
theorem dX1_readQuietPatterns_12 : decode cX1_readQuietPatterns 12 = .ok (.if_icmp .ge 43, 3) := by decide +kernel
theorem dX1_readQuietPatterns_15 : decode cX1_readQuietPatterns 15 = .ok (.aload_n 0, 1) := by decide +kernel
theorem dX1_readQuietPatterns_16 : decode cX1_readQuietPatterns 16 = .ok (.getfield 23, 3) := by decide +kernel
theorem dX1_readQuietPatterns_19 : decode cX1_readQuietPatterns 19 = .ok (.iload_n 1, 1) := by decide +kernel
theorem dX1_readQuietPatterns_20 : decode cX1_readQuietPatterns 20 = .ok (.iaload, 1) := by decide +kernel
theorem dX1_readQuietPatterns_21 : decode cX1_readQuietPatterns 21 = .ok (.iconst (-1), 1) := by decide +kernel
theorem dX1_readQuietPatterns_22 : decode cX1_readQuietPatterns 22 = .ok (.if_icmp .ne 27, 3) := by decide +kernel
theorem dX1_readQuietPatterns_25 : decode cX1_readQuietPatterns 25 = .ok (.aload_n 0, 1) := by decide +kernel
theorem dX1_readQuietPatterns_26 : decode cX1_readQuietPatterns 26 = .ok (.aload_n 0, 1) := by decide +kernel
theorem dX1_readQuietPatterns_27 : decode cX1_readQuietPatterns 27 = .ok (.getfield 27, 3) := by decide +kernel
theorem dX1_readQuietPatterns_30 : decode cX1_readQuietPatterns 30 = .ok (.aload_n 0, 1) := by decide +kernel
theorem dX1_readQuietPatterns_31 : decode cX1_readQuietPatterns 31 = .ok (.getfield 33, 3) := by decide +kernel
theorem dX1_readQuietPatterns_34 : decode cX1_readQuietPatterns 34 = .ok (.aaload, 1) := by decide +kernel
theorem dX1_readQuietPatterns_35 : decode cX1_readQuietPatterns 35 = .ok (.iload_n 1, 1) := by decide +kernel
theorem dX1_readQuietPatterns_36 : decode cX1_readQuietPatterns 36 = .ok (.invokevirtual 65, 3) := by decide +kernel
theorem dX1_readQuietPatterns_39 : decode cX1_readQuietPatterns 39 = .ok (.aload_n 0, 1) := by decide +kernel
theorem dX1_readQuietPatterns_40 : decode cX1_readQuietPatterns 40 = .ok (.dup, 1) := by decide +kernel
theorem dX1_readQuietPatterns_41 : decode cX1_readQuietPatterns 41 = .ok (.getfield 33, 3) := by decide +kernel
theorem dX1_readQuietPatterns_44 : decode cX1_readQuietPatterns 44 = .ok (.iconst 1, 1) := by decide +kernel
theorem dX1_readQuietPatterns_45 : decode cX1_readQuietPatterns 45 = .ok (.iadd, 1) := by decide +kernel
theorem dX1_readQuietPatterns_46 : decode cX1_readQuietPatterns 46 = .ok (.putfield 33, 3) := by decide +kernel
theorem dX1_readQuietPatterns_49 : decode cX1_readQuietPatterns 49 = .ok (.iinc 1 1, 3) := by decide +kernel
theorem dX1_readQuietPatterns_52 : decode cX1_readQuietPatterns 52 = .ok (.goto (-45), 3) := by decide +kernel
theorem dX1_readQuietPatterns_55 : decode cX1_readQuietPatterns 55 = .ok (.return_, 1) := by decide +kernel
theorem dX1_readQuietPattern_0 : decode cX1_readQuietPattern 0 = .ok (.iconst 0, 1) := by decide +kernel
theorem dX1_readQuietPattern_1 : decode cX1_readQuietPattern 1 = .ok (.istore_n 3, 1) := by decide +kernel
theorem dX1_readQuietPattern_2 : decode cX1_readQuietPattern 2 = .ok (.iload_n 3, 1) := by decide +kernel
theorem dX1_readQuietPattern_3 : decode cX1_readQuietPattern 3 = .ok (.aload_n 0, 1) := by decide +kernel
theorem dX1_readQuietPattern_4 : decode cX1_readQuietPattern 4 = .ok (.getfield 9, 3) := by decide +kernel
theorem dX1_readQuietPattern_7 : decode cX1_readQuietPattern 7 = .ok (.if_icmp .ge 49, 3) := by decide +kernel
theorem dX1_readQuietPattern_10 : decode cX1_readQuietPattern 10 = .ok (.aload_n 0, 1) := by decide +kernel
theorem dX1_readQuietPattern_11 : decode cX1_readQuietPattern 11 = .ok (.getfield 23, 3) := by decide +kernel
theorem dX1_readQuietPattern_14 : decode cX1_readQuietPattern 14 = .ok (.iload_n 3, 1) := by decide +kernel
theorem dX1_readQuietPattern_15 : decode cX1_readQuietPattern 15 = .ok (.iaload, 1) := by decide +kernel
theorem dX1_readQuietPattern_16 : decode cX1_readQuietPattern 16 = .ok (.istore 4, 2) := by decide +kernel
theorem dX1_readQuietPattern_18 : decode cX1_readQuietPattern 18 = .ok (.aload_n 1, 1) := by decide +kernel
theorem dX1_readQuietPattern_19 : decode cX1_readQuietPattern 19 = .ok (.iload_n 3, 1) := by decide +kernel
theorem dX1_readQuietPattern_20 : decode cX1_readQuietPattern 20 = .ok (.iload 4, 2) := by decide +kernel
theorem dX1_readQuietPattern_22 : decode cX1_readQuietPattern 22 = .ok (.iconst (-1), 1) := by decide +kernel
theorem dX1_readQuietPattern_23 : decode cX1_readQuietPattern 23 = .ok (.if_icmp .ne 7, 3) := by decide +kernel
theorem dX1_readQuietPattern_26 : decode cX1_readQuietPattern 26 = .ok (.iconst 0, 1) := by decide +kernel
theorem dX1_readQuietPattern_27 : decode cX1_readQuietPattern 27 = .ok (.goto 22, 3) := by decide +kernel
theorem dX1_readQuietPattern_30 : decode cX1_readQuietPattern 30 = .ok (.aload_n 0, 1) := by decide +kernel
theorem dX1_readQuietPattern_31 : decode cX1_readQuietPattern 31 = .ok (.getfield 15, 3) := by decide +kernel
theorem dX1_readQuietPattern_34 : decode cX1_readQuietPattern 34 = .ok (.aload_n 0, 1) := by decide +kernel
theorem dX1_readQuietPattern_35 : decode cX1_readQuietPattern 35 = .ok (.getfield 20, 3) := by decide +kernel
theorem dX1_readQuietPattern_38 : decode cX1_readQuietPattern 38 = .ok (.iload 4, 2) := by decide +kernel
theorem dX1_readQuietPattern_40 : decode cX1_readQuietPattern 40 = .ok (.aaload, 1) := by decide +kernel
theorem dX1_readQuietPattern_41 : decode cX1_readQuietPattern 41 = .ok (.iload_n 2, 1) := by decide +kernel
theorem dX1_readQuietPattern_42 : decode cX1_readQuietPattern 42 = .ok (.iaload, 1) := by decide +kernel
theorem dX1_readQuietPattern_43 : decode cX1_readQuietPattern 43 = .ok (.isub, 1) := by decide +kernel
theorem dX1_readQuietPattern_44 : decode cX1_readQuietPattern 44 = .ok (.aload_n 0, 1) := by decide +kernel
theorem dX1_readQuietPattern_45 : decode cX1_readQuietPattern 45 = .ok (.getfield 15, 3) := by decide +kernel
theorem dX1_readQuietPattern_48 : decode cX1_readQuietPattern 48 = .ok (.irem, 1) := by decide +kernel
theorem dX1_readQuietPattern_49 : decode cX1_readQuietPattern 49 = .ok (.iastore, 1) := by decide +kernel
theorem dX1_readQuietPattern_50 : decode cX1_readQuietPattern 50 = .ok (.iinc 3 1, 3) := by decide +kernel
theorem dX1_readQuietPattern_53 : decode cX1_readQuietPattern 53 = .ok (.goto (-51), 3) := by decide +kernel
theorem dX1_readQuietPattern_56 : decode cX1_readQuietPattern 56 = .ok (.aload_n 1, 1) := by decide +kernel
theorem dX1_readQuietPattern_57 : decode cX1_readQuietPattern 57 = .ok (.iload_n 2, 1) := by decide +kernel
theorem dX1_readQuietPattern_58 : decode cX1_readQuietPattern 58 = .ok (.iconst 1, 1) := by decide +kernel
theorem dX1_readQuietPattern_59 : decode cX1_readQuietPattern 59 = .ok (.iastore, 1) := by decide +kernel
theorem dX1_readQuietPattern_60 : decode cX1_readQuietPattern 60 = .ok (.return_, 1) := by decide +kernel
theorem dX2_init_0 : decode cX2_init 0 = .ok (.aload_n 0, 1) := by decide +kernel
theorem dX2_init_1 : decode cX2_init 1 = .ok (.invokespecial 3, 3) := by decide +kernel
theorem dX2_init_4 : decode cX2_init 4 = .ok (.aload_n 0, 1) := by decide +kernel
theorem dX2_init_5 : decode cX2_init 5 = .ok (.iload_n 1, 1) := by decide +kernel
theorem dX2_init_6 : decode cX2_init 6 = .ok (.putfield 9, 3) := by decide +kernel
theorem dX2_init_9 : decode cX2_init 9 = .ok (.aload_n 0, 1) := by decide +kernel
theorem dX2_init_10 : decode cX2_init 10 = .ok (.iload_n 2, 1) := by decide +kernel
theorem dX2_init_11 : decode cX2_init 11 = .ok (.putfield 15, 3) := by decide +kernel
theorem dX2_init_14 : decode cX2_init 14 = .ok (.aload_n 0, 1) := by decide +kernel
theorem dX2_init_15 : decode cX2_init 15 = .ok (.iload_n 1, 1) := by decide +kernel
theorem dX2_init_16 : decode cX2_init 16 = .ok (.newarray .int, 2) := by decide +kernel
theorem dX2_init_18 : decode cX2_init 18 = .ok (.putfield 18, 3) := by decide +kernel
theorem dX2_init_21 : decode cX2_init 21 = .ok (.aload_n 0, 1) := by decide +kernel
theorem dX2_init_22 : decode cX2_init 22 = .ok (.iload_n 1, 1) := by decide +kernel
theorem dX2_init_23 : decode cX2_init 23 = .ok (.newarray .int, 2) := by decide +kernel
theorem dX2_init_25 : decode cX2_init 25 = .ok (.putfield 22, 3) := by decide +kernel
theorem dX2_init_28 : decode cX2_init 28 = .ok (.aload_n 0, 1) := by decide +kernel
theorem dX2_init_29 : decode cX2_init 29 = .ok (.iload_n 1, 1) := by decide +kernel
theorem dX2_init_30 : decode cX2_init 30 = .ok (.newarray .int, 2) := by decide +kernel
theorem dX2_init_32 : decode cX2_init 32 = .ok (.putfield 25, 3) := by decide +kernel
theorem dX2_init_35 : decode cX2_init 35 = .ok (.aload_n 0, 1) := by decide +kernel
theorem dX2_init_36 : decode cX2_init 36 = .ok (.iconst (-1), 1) := by decide +kernel
theorem dX2_init_37 : decode cX2_init 37 = .ok (.putfield 28, 3) := by decide +kernel
theorem dX2_init_40 : decode cX2_init 40 = .ok (.return_, 1) := by decide +kernel
theorem dX2_leastTotal_0 : decode cX2_leastTotal 0 = .ok (.aload_n 0, 1) := by decide +kernel
theorem dX2_leastTotal_1 : decode cX2_leastTotal 1 = .ok (.getfield 28, 3) := by decide +kernel
theorem dX2_leastTotal_4 : decode cX2_leastTotal 4 = .ok (.ireturn, 1) := by decide +kernel
theorem dX2_leastPresses_0 : decode cX2_leastPresses 0 = .ok (.aload_n 0, 1) := by decide +kernel
theorem dX2_leastPresses_1 : decode cX2_leastPresses 1 = .ok (.getfield 22, 3) := by decide +kernel
theorem dX2_leastPresses_4 : decode cX2_leastPresses 4 = .ok (.iload_n 1, 1) := by decide +kernel
theorem dX2_leastPresses_5 : decode cX2_leastPresses 5 = .ok (.iaload, 1) := by decide +kernel
theorem dX2_leastPresses_6 : decode cX2_leastPresses 6 = .ok (.ireturn, 1) := by decide +kernel
theorem dX2_run_0 : decode cX2_run 0 = .ok (.aload_n 1, 1) := by decide +kernel
theorem dX2_run_1 : decode cX2_run 1 = .ok (.sipush 20000, 3) := by decide +kernel
theorem dX2_run_4 : decode cX2_run 4 = .ok (.invokevirtual 31, 3) := by decide +kernel
theorem dX2_run_7 : decode cX2_run 7 = .ok (.istore_n 2, 1) := by decide +kernel
theorem dX2_run_8 : decode cX2_run 8 = .ok (.iload_n 2, 1) := by decide +kernel
theorem dX2_run_9 : decode cX2_run 9 = .ok (.ifCond .ne 11, 3) := by decide +kernel
theorem dX2_run_12 : decode cX2_run 12 = .ok (.aload_n 0, 1) := by decide +kernel
theorem dX2_run_13 : decode cX2_run 13 = .ok (.iconst (-1), 1) := by decide +kernel
theorem dX2_run_14 : decode cX2_run 14 = .ok (.putfield 28, 3) := by decide +kernel
theorem dX2_run_17 : decode cX2_run 17 = .ok (.goto 46, 3) := by decide +kernel
theorem dX2_run_20 : decode cX2_run 20 = .ok (.iload_n 2, 1) := by decide +kernel
theorem dX2_run_21 : decode cX2_run 21 = .ok (.sipush 20000, 3) := by decide +kernel
theorem dX2_run_24 : decode cX2_run 24 = .ok (.if_icmp .le 12, 3) := by decide +kernel
theorem dX2_run_27 : decode cX2_run 27 = .ok (.aload_n 0, 1) := by decide +kernel
theorem dX2_run_28 : decode cX2_run 28 = .ok (.bipush (-2), 2) := by decide +kernel
theorem dX2_run_30 : decode cX2_run 30 = .ok (.putfield 28, 3) := by decide +kernel
theorem dX2_run_33 : decode cX2_run 33 = .ok (.goto 30, 3) := by decide +kernel
theorem dX2_run_36 : decode cX2_run 36 = .ok (.aload_n 0, 1) := by decide +kernel
theorem dX2_run_37 : decode cX2_run 37 = .ok (.aload_n 1, 1) := by decide +kernel
theorem dX2_run_38 : decode cX2_run 38 = .ok (.invokevirtual 37, 3) := by decide +kernel
theorem dX2_run_41 : decode cX2_run 41 = .ok (.iconst 1, 1) := by decide +kernel
theorem dX2_run_42 : decode cX2_run 42 = .ok (.istore_n 3, 1) := by decide +kernel
theorem dX2_run_43 : decode cX2_run 43 = .ok (.iload_n 3, 1) := by decide +kernel
theorem dX2_run_44 : decode cX2_run 44 = .ok (.iload_n 2, 1) := by decide +kernel
theorem dX2_run_45 : decode cX2_run 45 = .ok (.if_icmp .ge 18, 3) := by decide +kernel
theorem dX2_run_48 : decode cX2_run 48 = .ok (.aload_n 0, 1) := by decide +kernel
theorem dX2_run_49 : decode cX2_run 49 = .ok (.aload_n 1, 1) := by decide +kernel
theorem dX2_run_50 : decode cX2_run 50 = .ok (.invokevirtual 41, 3) := by decide +kernel
theorem dX2_run_53 : decode cX2_run 53 = .ok (.aload_n 0, 1) := by decide +kernel
theorem dX2_run_54 : decode cX2_run 54 = .ok (.invokevirtual 44, 3) := by decide +kernel
theorem dX2_run_57 : decode cX2_run 57 = .ok (.iinc 3 1, 3) := by decide +kernel
theorem dX2_run_60 : decode cX2_run 60 = .ok (.goto (-17), 3) := by decide +kernel
theorem dX2_run_63 : decode cX2_run 63 = .ok (.return_, 1) := by decide +kernel
theorem dX2_begin_0 : decode cX2_begin 0 = .ok (.iconst 0, 1) := by decide +kernel
theorem dX2_begin_1 : decode cX2_begin 1 = .ok (.istore_n 2, 1) := by decide +kernel
theorem dX2_begin_2 : decode cX2_begin 2 = .ok (.iload_n 2, 1) := by decide +kernel
theorem dX2_begin_3 : decode cX2_begin 3 = .ok (.aload_n 0, 1) := by decide +kernel
theorem dX2_begin_4 : decode cX2_begin 4 = .ok (.getfield 9, 3) := by decide +kernel
theorem dX2_begin_7 : decode cX2_begin 7 = .ok (.if_icmp .ge 27, 3) := by decide +kernel
theorem dX2_begin_10 : decode cX2_begin 10 = .ok (.aload_n 0, 1) := by decide +kernel
theorem dX2_begin_11 : decode cX2_begin 11 = .ok (.getfield 18, 3) := by decide +kernel
theorem dX2_begin_14 : decode cX2_begin 14 = .ok (.iload_n 2, 1) := by decide +kernel
theorem dX2_begin_15 : decode cX2_begin 15 = .ok (.aload_n 1, 1) := by decide +kernel
theorem dX2_begin_16 : decode cX2_begin 16 = .ok (.iload_n 2, 1) := by decide +kernel
theorem dX2_begin_17 : decode cX2_begin 17 = .ok (.invokevirtual 47, 3) := by decide +kernel
theorem dX2_begin_20 : decode cX2_begin 20 = .ok (.iastore, 1) := by decide +kernel
theorem dX2_begin_21 : decode cX2_begin 21 = .ok (.aload_n 0, 1) := by decide +kernel
theorem dX2_begin_22 : decode cX2_begin 22 = .ok (.getfield 25, 3) := by decide +kernel
theorem dX2_begin_25 : decode cX2_begin 25 = .ok (.iload_n 2, 1) := by decide +kernel
theorem dX2_begin_26 : decode cX2_begin 26 = .ok (.iconst 0, 1) := by decide +kernel
theorem dX2_begin_27 : decode cX2_begin 27 = .ok (.iastore, 1) := by decide +kernel
theorem dX2_begin_28 : decode cX2_begin 28 = .ok (.iinc 2 1, 3) := by decide +kernel
theorem dX2_begin_31 : decode cX2_begin 31 = .ok (.goto (-29), 3) := by decide +kernel
theorem dX2_begin_34 : decode cX2_begin 34 = .ok (.aload_n 0, 1) := by decide +kernel
theorem dX2_begin_35 : decode cX2_begin 35 = .ok (.aload_n 0, 1) := by decide +kernel
theorem dX2_begin_36 : decode cX2_begin 36 = .ok (.invokevirtual 50, 3) := by decide +kernel
theorem dX2_begin_39 : decode cX2_begin 39 = .ok (.invokevirtual 54, 3) := by decide +kernel
theorem dX2_begin_42 : decode cX2_begin 42 = .ok (.return_, 1) := by decide +kernel
theorem dX2_advance_0 : decode cX2_advance 0 = .ok (.iconst 0, 1) := by decide +kernel
theorem dX2_advance_1 : decode cX2_advance 1 = .ok (.istore_n 2, 1) := by decide +kernel
theorem dX2_advance_2 : decode cX2_advance 2 = .ok (.iload_n 2, 1) := by decide +kernel
theorem dX2_advance_3 : decode cX2_advance 3 = .ok (.aload_n 1, 1) := by decide +kernel
theorem dX2_advance_4 : decode cX2_advance 4 = .ok (.invokevirtual 58, 3) := by decide +kernel
theorem dX2_advance_7 : decode cX2_advance 7 = .ok (.if_icmp .ge 49, 3) := by decide +kernel
theorem dX2_advance_10 : decode cX2_advance 10 = .ok (.aload_n 0, 1) := by decide +kernel
theorem dX2_advance_11 : decode cX2_advance 11 = .ok (.aload_n 1, 1) := by decide +kernel
theorem dX2_advance_12 : decode cX2_advance 12 = .ok (.iload_n 2, 1) := by decide +kernel
theorem dX2_advance_13 : decode cX2_advance 13 = .ok (.invokevirtual 61, 3) := by decide +kernel
theorem dX2_advance_16 : decode cX2_advance 16 = .ok (.invokevirtual 65, 3) := by decide +kernel
theorem dX2_advance_19 : decode cX2_advance 19 = .ok (.aload_n 0, 1) := by decide +kernel
theorem dX2_advance_20 : decode cX2_advance 20 = .ok (.getfield 25, 3) := by decide +kernel
theorem dX2_advance_23 : decode cX2_advance 23 = .ok (.iload_n 2, 1) := by decide +kernel
theorem dX2_advance_24 : decode cX2_advance 24 = .ok (.dup2, 1) := by decide +kernel
theorem dX2_advance_25 : decode cX2_advance 25 = .ok (.iaload, 1) := by decide +kernel
theorem dX2_advance_26 : decode cX2_advance 26 = .ok (.iconst 1, 1) := by decide +kernel
theorem dX2_advance_27 : decode cX2_advance 27 = .ok (.iadd, 1) := by decide +kernel
theorem dX2_advance_28 : decode cX2_advance 28 = .ok (.iastore, 1) := by decide +kernel
theorem dX2_advance_29 : decode cX2_advance 29 = .ok (.aload_n 0, 1) := by decide +kernel
theorem dX2_advance_30 : decode cX2_advance 30 = .ok (.getfield 25, 3) := by decide +kernel
theorem dX2_advance_33 : decode cX2_advance 33 = .ok (.iload_n 2, 1) := by decide +kernel
theorem dX2_advance_34 : decode cX2_advance 34 = .ok (.iaload, 1) := by decide +kernel
theorem dX2_advance_35 : decode cX2_advance 35 = .ok (.aload_n 0, 1) := by decide +kernel
theorem dX2_advance_36 : decode cX2_advance 36 = .ok (.getfield 15, 3) := by decide +kernel
theorem dX2_advance_39 : decode cX2_advance 39 = .ok (.if_icmp .ge 4, 3) := by decide +kernel
theorem dX2_advance_42 : decode cX2_advance 42 = .ok (.return_, 1) := by decide +kernel
theorem dX2_advance_43 : decode cX2_advance 43 = .ok (.aload_n 0, 1) := by decide +kernel
theorem dX2_advance_44 : decode cX2_advance 44 = .ok (.getfield 25, 3) := by decide +kernel
theorem dX2_advance_47 : decode cX2_advance 47 = .ok (.iload_n 2, 1) := by decide +kernel
theorem dX2_advance_48 : decode cX2_advance 48 = .ok (.iconst 0, 1) := by decide +kernel
theorem dX2_advance_49 : decode cX2_advance 49 = .ok (.iastore, 1) := by decide +kernel
theorem dX2_advance_50 : decode cX2_advance 50 = .ok (.iinc 2 1, 3) := by decide +kernel
theorem dX2_advance_53 : decode cX2_advance 53 = .ok (.goto (-51), 3) := by decide +kernel
theorem dX2_advance_56 : decode cX2_advance 56 = .ok (.return_, 1) := by decide +kernel
theorem dX2_addToTried_0 : decode cX2_addToTried 0 = .ok (.iconst 0, 1) := by decide +kernel
theorem dX2_addToTried_1 : decode cX2_addToTried 1 = .ok (.istore_n 2, 1) := by decide +kernel
theorem dX2_addToTried_2 : decode cX2_addToTried 2 = .ok (.iload_n 2, 1) := by decide +kernel
theorem dX2_addToTried_3 : decode cX2_addToTried 3 = .ok (.aload_n 0, 1) := by decide +kernel
theorem dX2_addToTried_4 : decode cX2_addToTried 4 = .ok (.getfield 9, 3) := by decide +kernel
theorem dX2_addToTried_7 : decode cX2_addToTried 7 = .ok (.if_icmp .ge 44, 3) := by decide +kernel
theorem dX2_addToTried_10 : decode cX2_addToTried 10 = .ok (.aload_n 0, 1) := by decide +kernel
theorem dX2_addToTried_11 : decode cX2_addToTried 11 = .ok (.getfield 18, 3) := by decide +kernel
theorem dX2_addToTried_14 : decode cX2_addToTried 14 = .ok (.iload_n 2, 1) := by decide +kernel
theorem dX2_addToTried_15 : decode cX2_addToTried 15 = .ok (.iaload, 1) := by decide +kernel
theorem dX2_addToTried_16 : decode cX2_addToTried 16 = .ok (.aload_n 1, 1) := by decide +kernel
theorem dX2_addToTried_17 : decode cX2_addToTried 17 = .ok (.iload_n 2, 1) := by decide +kernel
theorem dX2_addToTried_18 : decode cX2_addToTried 18 = .ok (.iaload, 1) := by decide +kernel
theorem dX2_addToTried_19 : decode cX2_addToTried 19 = .ok (.iadd, 1) := by decide +kernel
theorem dX2_addToTried_20 : decode cX2_addToTried 20 = .ok (.istore_n 3, 1) := by decide +kernel
theorem dX2_addToTried_21 : decode cX2_addToTried 21 = .ok (.aload_n 0, 1) := by decide +kernel
theorem dX2_addToTried_22 : decode cX2_addToTried 22 = .ok (.getfield 18, 3) := by decide +kernel
theorem dX2_addToTried_25 : decode cX2_addToTried 25 = .ok (.iload_n 2, 1) := by decide +kernel
theorem dX2_addToTried_26 : decode cX2_addToTried 26 = .ok (.iload_n 3, 1) := by decide +kernel
theorem dX2_addToTried_27 : decode cX2_addToTried 27 = .ok (.aload_n 0, 1) := by decide +kernel
theorem dX2_addToTried_28 : decode cX2_addToTried 28 = .ok (.getfield 15, 3) := by decide +kernel
theorem dX2_addToTried_31 : decode cX2_addToTried 31 = .ok (.if_icmp .ge 7, 3) := by decide +kernel
theorem dX2_addToTried_34 : decode cX2_addToTried 34 = .ok (.iload_n 3, 1) := by decide +kernel
theorem dX2_addToTried_35 : decode cX2_addToTried 35 = .ok (.goto 9, 3) := by decide +kernel
theorem dX2_addToTried_38 : decode cX2_addToTried 38 = .ok (.iload_n 3, 1) := by decide +kernel
theorem dX2_addToTried_39 : decode cX2_addToTried 39 = .ok (.aload_n 0, 1) := by decide +kernel
theorem dX2_addToTried_40 : decode cX2_addToTried 40 = .ok (.getfield 15, 3) := by decide +kernel
theorem dX2_addToTried_43 : decode cX2_addToTried 43 = .ok (.isub, 1) := by decide +kernel
theorem dX2_addToTried_44 : decode cX2_addToTried 44 = .ok (.iastore, 1) := by decide +kernel
theorem dX2_addToTried_45 : decode cX2_addToTried 45 = .ok (.iinc 2 1, 3) := by decide +kernel
theorem dX2_addToTried_48 : decode cX2_addToTried 48 = .ok (.goto (-46), 3) := by decide +kernel
theorem dX2_addToTried_51 : decode cX2_addToTried 51 = .ok (.return_, 1) := by decide +kernel
theorem dX2_keepIfLess_0 : decode cX2_keepIfLess 0 = .ok (.aload_n 0, 1) := by decide +kernel
theorem dX2_keepIfLess_1 : decode cX2_keepIfLess 1 = .ok (.invokevirtual 50, 3) := by decide +kernel
theorem dX2_keepIfLess_4 : decode cX2_keepIfLess 4 = .ok (.istore_n 1, 1) := by decide +kernel
theorem dX2_keepIfLess_5 : decode cX2_keepIfLess 5 = .ok (.iload_n 1, 1) := by decide +kernel
theorem dX2_keepIfLess_6 : decode cX2_keepIfLess 6 = .ok (.aload_n 0, 1) := by decide +kernel
theorem dX2_keepIfLess_7 : decode cX2_keepIfLess 7 = .ok (.getfield 28, 3) := by decide +kernel
theorem dX2_keepIfLess_10 : decode cX2_keepIfLess 10 = .ok (.if_icmp .lt 18, 3) := by decide +kernel
theorem dX2_keepIfLess_13 : decode cX2_keepIfLess 13 = .ok (.iload_n 1, 1) := by decide +kernel
theorem dX2_keepIfLess_14 : decode cX2_keepIfLess 14 = .ok (.aload_n 0, 1) := by decide +kernel
theorem dX2_keepIfLess_15 : decode cX2_keepIfLess 15 = .ok (.getfield 28, 3) := by decide +kernel
theorem dX2_keepIfLess_18 : decode cX2_keepIfLess 18 = .ok (.if_icmp .ne 15, 3) := by decide +kernel
theorem dX2_keepIfLess_21 : decode cX2_keepIfLess 21 = .ok (.aload_n 0, 1) := by decide +kernel
theorem dX2_keepIfLess_22 : decode cX2_keepIfLess 22 = .ok (.invokevirtual 69, 3) := by decide +kernel
theorem dX2_keepIfLess_25 : decode cX2_keepIfLess 25 = .ok (.ifCond .eq 8, 3) := by decide +kernel
theorem dX2_keepIfLess_28 : decode cX2_keepIfLess 28 = .ok (.aload_n 0, 1) := by decide +kernel
theorem dX2_keepIfLess_29 : decode cX2_keepIfLess 29 = .ok (.iload_n 1, 1) := by decide +kernel
theorem dX2_keepIfLess_30 : decode cX2_keepIfLess 30 = .ok (.invokevirtual 54, 3) := by decide +kernel
theorem dX2_keepIfLess_33 : decode cX2_keepIfLess 33 = .ok (.return_, 1) := by decide +kernel
theorem dX2_totalTried_0 : decode cX2_totalTried 0 = .ok (.iconst 0, 1) := by decide +kernel
theorem dX2_totalTried_1 : decode cX2_totalTried 1 = .ok (.istore_n 1, 1) := by decide +kernel
theorem dX2_totalTried_2 : decode cX2_totalTried 2 = .ok (.iconst 0, 1) := by decide +kernel
theorem dX2_totalTried_3 : decode cX2_totalTried 3 = .ok (.istore_n 2, 1) := by decide +kernel
theorem dX2_totalTried_4 : decode cX2_totalTried 4 = .ok (.iload_n 2, 1) := by decide +kernel
theorem dX2_totalTried_5 : decode cX2_totalTried 5 = .ok (.aload_n 0, 1) := by decide +kernel
theorem dX2_totalTried_6 : decode cX2_totalTried 6 = .ok (.getfield 9, 3) := by decide +kernel
theorem dX2_totalTried_9 : decode cX2_totalTried 9 = .ok (.if_icmp .ge 18, 3) := by decide +kernel
theorem dX2_totalTried_12 : decode cX2_totalTried 12 = .ok (.iload_n 1, 1) := by decide +kernel
theorem dX2_totalTried_13 : decode cX2_totalTried 13 = .ok (.aload_n 0, 1) := by decide +kernel
theorem dX2_totalTried_14 : decode cX2_totalTried 14 = .ok (.getfield 18, 3) := by decide +kernel
theorem dX2_totalTried_17 : decode cX2_totalTried 17 = .ok (.iload_n 2, 1) := by decide +kernel
theorem dX2_totalTried_18 : decode cX2_totalTried 18 = .ok (.iaload, 1) := by decide +kernel
theorem dX2_totalTried_19 : decode cX2_totalTried 19 = .ok (.iadd, 1) := by decide +kernel
theorem dX2_totalTried_20 : decode cX2_totalTried 20 = .ok (.istore_n 1, 1) := by decide +kernel
theorem dX2_totalTried_21 : decode cX2_totalTried 21 = .ok (.iinc 2 1, 3) := by decide +kernel
theorem dX2_totalTried_24 : decode cX2_totalTried 24 = .ok (.goto (-20), 3) := by decide +kernel
theorem dX2_totalTried_27 : decode cX2_totalTried 27 = .ok (.iload_n 1, 1) := by decide +kernel
theorem dX2_totalTried_28 : decode cX2_totalTried 28 = .ok (.ireturn, 1) := by decide +kernel
theorem dX2_triedIsAhead_0 : decode cX2_triedIsAhead 0 = .ok (.iconst 0, 1) := by decide +kernel
theorem dX2_triedIsAhead_1 : decode cX2_triedIsAhead 1 = .ok (.istore_n 1, 1) := by decide +kernel
theorem dX2_triedIsAhead_2 : decode cX2_triedIsAhead 2 = .ok (.iload_n 1, 1) := by decide +kernel
theorem dX2_triedIsAhead_3 : decode cX2_triedIsAhead 3 = .ok (.aload_n 0, 1) := by decide +kernel
theorem dX2_triedIsAhead_4 : decode cX2_triedIsAhead 4 = .ok (.getfield 9, 3) := by decide +kernel
theorem dX2_triedIsAhead_7 : decode cX2_triedIsAhead 7 = .ok (.if_icmp .ge 45, 3) := by decide +kernel
theorem dX2_triedIsAhead_10 : decode cX2_triedIsAhead 10 = .ok (.aload_n 0, 1) := by decide +kernel
theorem dX2_triedIsAhead_11 : decode cX2_triedIsAhead 11 = .ok (.getfield 18, 3) := by decide +kernel
theorem dX2_triedIsAhead_14 : decode cX2_triedIsAhead 14 = .ok (.iload_n 1, 1) := by decide +kernel
theorem dX2_triedIsAhead_15 : decode cX2_triedIsAhead 15 = .ok (.iaload, 1) := by decide +kernel
theorem dX2_triedIsAhead_16 : decode cX2_triedIsAhead 16 = .ok (.aload_n 0, 1) := by decide +kernel
theorem dX2_triedIsAhead_17 : decode cX2_triedIsAhead 17 = .ok (.getfield 22, 3) := by decide +kernel
theorem dX2_triedIsAhead_20 : decode cX2_triedIsAhead 20 = .ok (.iload_n 1, 1) := by decide +kernel
theorem dX2_triedIsAhead_21 : decode cX2_triedIsAhead 21 = .ok (.iaload, 1) := by decide +kernel
theorem dX2_triedIsAhead_22 : decode cX2_triedIsAhead 22 = .ok (.if_icmp .eq 24, 3) := by decide +kernel
theorem dX2_triedIsAhead_25 : decode cX2_triedIsAhead 25 = .ok (.aload_n 0, 1) := by decide +kernel
theorem dX2_triedIsAhead_26 : decode cX2_triedIsAhead 26 = .ok (.getfield 18, 3) := by decide +kernel
theorem dX2_triedIsAhead_29 : decode cX2_triedIsAhead 29 = .ok (.iload_n 1, 1) := by decide +kernel
theorem dX2_triedIsAhead_30 : decode cX2_triedIsAhead 30 = .ok (.iaload, 1) := by decide +kernel
theorem dX2_triedIsAhead_31 : decode cX2_triedIsAhead 31 = .ok (.aload_n 0, 1) := by decide +kernel
theorem dX2_triedIsAhead_32 : decode cX2_triedIsAhead 32 = .ok (.getfield 22, 3) := by decide +kernel
theorem dX2_triedIsAhead_35 : decode cX2_triedIsAhead 35 = .ok (.iload_n 1, 1) := by decide +kernel
theorem dX2_triedIsAhead_36 : decode cX2_triedIsAhead 36 = .ok (.iaload, 1) := by decide +kernel
theorem dX2_triedIsAhead_37 : decode cX2_triedIsAhead 37 = .ok (.if_icmp .ge 7, 3) := by decide +kernel
theorem dX2_triedIsAhead_40 : decode cX2_triedIsAhead 40 = .ok (.iconst 1, 1) := by decide +kernel
theorem dX2_triedIsAhead_41 : decode cX2_triedIsAhead 41 = .ok (.goto 4, 3) := by decide +kernel
theorem dX2_triedIsAhead_44 : decode cX2_triedIsAhead 44 = .ok (.iconst 0, 1) := by decide +kernel
theorem dX2_triedIsAhead_45 : decode cX2_triedIsAhead 45 = .ok (.ireturn, 1) := by decide +kernel
theorem dX2_triedIsAhead_46 : decode cX2_triedIsAhead 46 = .ok (.iinc 1 1, 3) := by decide +kernel
theorem dX2_triedIsAhead_49 : decode cX2_triedIsAhead 49 = .ok (.goto (-47), 3) := by decide +kernel
theorem dX2_triedIsAhead_52 : decode cX2_triedIsAhead 52 = .ok (.iconst 0, 1) := by decide +kernel
theorem dX2_triedIsAhead_53 : decode cX2_triedIsAhead 53 = .ok (.ireturn, 1) := by decide +kernel
theorem dX2_keep_0 : decode cX2_keep 0 = .ok (.aload_n 0, 1) := by decide +kernel
theorem dX2_keep_1 : decode cX2_keep 1 = .ok (.iload_n 1, 1) := by decide +kernel
theorem dX2_keep_2 : decode cX2_keep 2 = .ok (.putfield 28, 3) := by decide +kernel
theorem dX2_keep_5 : decode cX2_keep 5 = .ok (.aload_n 0, 1) := by decide +kernel
theorem dX2_keep_6 : decode cX2_keep 6 = .ok (.getfield 18, 3) := by decide +kernel
theorem dX2_keep_9 : decode cX2_keep 9 = .ok (.iconst 0, 1) := by decide +kernel
theorem dX2_keep_10 : decode cX2_keep 10 = .ok (.aload_n 0, 1) := by decide +kernel
theorem dX2_keep_11 : decode cX2_keep 11 = .ok (.getfield 22, 3) := by decide +kernel
theorem dX2_keep_14 : decode cX2_keep 14 = .ok (.iconst 0, 1) := by decide +kernel
theorem dX2_keep_15 : decode cX2_keep 15 = .ok (.aload_n 0, 1) := by decide +kernel
theorem dX2_keep_16 : decode cX2_keep 16 = .ok (.getfield 9, 3) := by decide +kernel
theorem dX2_keep_19 : decode cX2_keep 19 = .ok (.invokestatic 73, 3) := by decide +kernel
theorem dX2_keep_22 : decode cX2_keep 22 = .ok (.return_, 1) := by decide +kernel
theorem dX3_init_0 : decode cX3_init 0 = .ok (.aload_n 0, 1) := by decide +kernel
theorem dX3_init_1 : decode cX3_init 1 = .ok (.invokespecial 1, 3) := by decide +kernel
theorem dX3_init_4 : decode cX3_init 4 = .ok (.aload_n 0, 1) := by decide +kernel
theorem dX3_init_5 : decode cX3_init 5 = .ok (.iconst 1, 1) := by decide +kernel
theorem dX3_init_6 : decode cX3_init 6 = .ok (.bipush 30, 2) := by decide +kernel
theorem dX3_init_8 : decode cX3_init 8 = .ok (.iload_n 1, 1) := by decide +kernel
theorem dX3_init_9 : decode cX3_init 9 = .ok (.invokestatic 9, 3) := by decide +kernel
theorem dX3_init_12 : decode cX3_init 12 = .ok (.invokestatic 15, 3) := by decide +kernel
theorem dX3_init_15 : decode cX3_init 15 = .ok (.putfield 18, 3) := by decide +kernel
theorem dX3_init_18 : decode cX3_init 18 = .ok (.aload_n 0, 1) := by decide +kernel
theorem dX3_init_19 : decode cX3_init 19 = .ok (.iload_n 2, 1) := by decide +kernel
theorem dX3_init_20 : decode cX3_init 20 = .ok (.invokestatic 22, 3) := by decide +kernel
theorem dX3_init_23 : decode cX3_init 23 = .ok (.putfield 26, 3) := by decide +kernel
theorem dX3_init_26 : decode cX3_init 26 = .ok (.aload_n 0, 1) := by decide +kernel
theorem dX3_init_27 : decode cX3_init 27 = .ok (.aload_n 0, 1) := by decide +kernel
theorem dX3_init_28 : decode cX3_init 28 = .ok (.getfield 18, 3) := by decide +kernel
theorem dX3_init_31 : decode cX3_init 31 = .ok (.newarray .int, 2) := by decide +kernel
theorem dX3_init_33 : decode cX3_init 33 = .ok (.putfield 29, 3) := by decide +kernel
theorem dX3_init_36 : decode cX3_init 36 = .ok (.aload_n 0, 1) := by decide +kernel
theorem dX3_init_37 : decode cX3_init 37 = .ok (.aload_n 0, 1) := by decide +kernel
theorem dX3_init_38 : decode cX3_init 38 = .ok (.getfield 18, 3) := by decide +kernel
theorem dX3_init_41 : decode cX3_init 41 = .ok (.newarray .int, 2) := by decide +kernel
theorem dX3_init_43 : decode cX3_init 43 = .ok (.putfield 33, 3) := by decide +kernel
theorem dX3_init_46 : decode cX3_init 46 = .ok (.aload_n 0, 1) := by decide +kernel
theorem dX3_init_47 : decode cX3_init 47 = .ok (.aload_n 0, 1) := by decide +kernel
theorem dX3_init_48 : decode cX3_init 48 = .ok (.getfield 18, 3) := by decide +kernel
theorem dX3_init_51 : decode cX3_init 51 = .ok (.newarray .int, 2) := by decide +kernel
theorem dX3_init_53 : decode cX3_init 53 = .ok (.putfield 36, 3) := by decide +kernel
theorem dX3_init_56 : decode cX3_init 56 = .ok (.iconst 0, 1) := by decide +kernel
theorem dX3_init_57 : decode cX3_init 57 = .ok (.istore_n 3, 1) := by decide +kernel
theorem dX3_init_58 : decode cX3_init 58 = .ok (.iload_n 3, 1) := by decide +kernel
theorem dX3_init_59 : decode cX3_init 59 = .ok (.aload_n 0, 1) := by decide +kernel
theorem dX3_init_60 : decode cX3_init 60 = .ok (.getfield 18, 3) := by decide +kernel
theorem dX3_init_63 : decode cX3_init 63 = .ok (.if_icmp .ge 18, 3) := by decide +kernel
theorem dX3_init_66 : decode cX3_init 66 = .ok (.aload_n 0, 1) := by decide +kernel
theorem dX3_init_67 : decode cX3_init 67 = .ok (.getfield 36, 3) := by decide +kernel
theorem dX3_init_70 : decode cX3_init 70 = .ok (.iload_n 3, 1) := by decide +kernel
theorem dX3_init_71 : decode cX3_init 71 = .ok (.iconst 1, 1) := by decide +kernel
theorem dX3_init_72 : decode cX3_init 72 = .ok (.iload_n 3, 1) := by decide +kernel
theorem dX3_init_73 : decode cX3_init 73 = .ok (.ishl, 1) := by decide +kernel
theorem dX3_init_74 : decode cX3_init 74 = .ok (.iastore, 1) := by decide +kernel
theorem dX3_init_75 : decode cX3_init 75 = .ok (.iinc 3 1, 3) := by decide +kernel
theorem dX3_init_78 : decode cX3_init 78 = .ok (.goto (-20), 3) := by decide +kernel
theorem dX3_init_81 : decode cX3_init 81 = .ok (.aload_n 0, 1) := by decide +kernel
theorem dX3_init_82 : decode cX3_init 82 = .ok (.new 39, 3) := by decide +kernel
theorem dX3_init_85 : decode cX3_init 85 = .ok (.dup, 1) := by decide +kernel
theorem dX3_init_86 : decode cX3_init 86 = .ok (.aload_n 0, 1) := by decide +kernel
theorem dX3_init_87 : decode cX3_init 87 = .ok (.getfield 18, 3) := by decide +kernel
theorem dX3_init_90 : decode cX3_init 90 = .ok (.aload_n 0, 1) := by decide +kernel
theorem dX3_init_91 : decode cX3_init 91 = .ok (.getfield 26, 3) := by decide +kernel
theorem dX3_init_94 : decode cX3_init 94 = .ok (.invokespecial 41, 3) := by decide +kernel
theorem dX3_init_97 : decode cX3_init 97 = .ok (.putfield 44, 3) := by decide +kernel
theorem dX3_init_100 : decode cX3_init 100 = .ok (.aload_n 0, 1) := by decide +kernel
theorem dX3_init_101 : decode cX3_init 101 = .ok (.new 48, 3) := by decide +kernel
theorem dX3_init_104 : decode cX3_init 104 = .ok (.dup, 1) := by decide +kernel
theorem dX3_init_105 : decode cX3_init 105 = .ok (.aload_n 0, 1) := by decide +kernel
theorem dX3_init_106 : decode cX3_init 106 = .ok (.getfield 18, 3) := by decide +kernel
theorem dX3_init_109 : decode cX3_init 109 = .ok (.aload_n 0, 1) := by decide +kernel
theorem dX3_init_110 : decode cX3_init 110 = .ok (.getfield 26, 3) := by decide +kernel
theorem dX3_init_113 : decode cX3_init 113 = .ok (.invokespecial 50, 3) := by decide +kernel
theorem dX3_init_116 : decode cX3_init 116 = .ok (.putfield 51, 3) := by decide +kernel
theorem dX3_init_119 : decode cX3_init 119 = .ok (.aload_n 0, 1) := by decide +kernel
theorem dX3_init_120 : decode cX3_init 120 = .ok (.new 55, 3) := by decide +kernel
theorem dX3_init_123 : decode cX3_init 123 = .ok (.dup, 1) := by decide +kernel
theorem dX3_init_124 : decode cX3_init 124 = .ok (.invokespecial 57, 3) := by decide +kernel
theorem dX3_init_127 : decode cX3_init 127 = .ok (.putfield 58, 3) := by decide +kernel
theorem dX3_init_130 : decode cX3_init 130 = .ok (.aload_n 0, 1) := by decide +kernel
theorem dX3_init_131 : decode cX3_init 131 = .ok (.iconst 0, 1) := by decide +kernel
theorem dX3_init_132 : decode cX3_init 132 = .ok (.putfield 62, 3) := by decide +kernel
theorem dX3_init_135 : decode cX3_init 135 = .ok (.aload_n 0, 1) := by decide +kernel
theorem dX3_init_136 : decode cX3_init 136 = .ok (.iconst 0, 1) := by decide +kernel
theorem dX3_init_137 : decode cX3_init 137 = .ok (.putfield 66, 3) := by decide +kernel
theorem dX3_init_140 : decode cX3_init 140 = .ok (.return_, 1) := by decide +kernel
theorem dX3_join_0 : decode cX3_join 0 = .ok (.aload_n 0, 1) := by decide +kernel
theorem dX3_join_1 : decode cX3_join 1 = .ok (.iload_n 1, 1) := by decide +kernel
theorem dX3_join_2 : decode cX3_join 2 = .ok (.invokevirtual 69, 3) := by decide +kernel
theorem dX3_join_5 : decode cX3_join 5 = .ok (.aload_n 0, 1) := by decide +kernel
theorem dX3_join_6 : decode cX3_join 6 = .ok (.iload_n 2, 1) := by decide +kernel
theorem dX3_join_7 : decode cX3_join 7 = .ok (.invokevirtual 69, 3) := by decide +kernel
theorem dX3_join_10 : decode cX3_join 10 = .ok (.iload_n 1, 1) := by decide +kernel
theorem dX3_join_11 : decode cX3_join 11 = .ok (.iload_n 2, 1) := by decide +kernel
theorem dX3_join_12 : decode cX3_join 12 = .ok (.if_icmp .eq 12, 3) := by decide +kernel
theorem dX3_join_15 : decode cX3_join 15 = .ok (.aload_n 0, 1) := by decide +kernel
theorem dX3_join_16 : decode cX3_join 16 = .ok (.iload_n 1, 1) := by decide +kernel
theorem dX3_join_17 : decode cX3_join 17 = .ok (.iload_n 2, 1) := by decide +kernel
theorem dX3_join_18 : decode cX3_join 18 = .ok (.invokevirtual 73, 3) := by decide +kernel
theorem dX3_join_21 : decode cX3_join 21 = .ok (.ifCond .eq 5, 3) := by decide +kernel
theorem dX3_join_24 : decode cX3_join 24 = .ok (.iconst 0, 1) := by decide +kernel
theorem dX3_join_25 : decode cX3_join 25 = .ok (.ireturn, 1) := by decide +kernel
theorem dX3_join_26 : decode cX3_join 26 = .ok (.aload_n 0, 1) := by decide +kernel
theorem dX3_join_27 : decode cX3_join 27 = .ok (.getfield 36, 3) := by decide +kernel
theorem dX3_join_30 : decode cX3_join 30 = .ok (.iload_n 1, 1) := by decide +kernel
theorem dX3_join_31 : decode cX3_join 31 = .ok (.dup2, 1) := by decide +kernel
theorem dX3_join_32 : decode cX3_join 32 = .ok (.iaload, 1) := by decide +kernel
theorem dX3_join_33 : decode cX3_join 33 = .ok (.iconst 1, 1) := by decide +kernel
theorem dX3_join_34 : decode cX3_join 34 = .ok (.iload_n 2, 1) := by decide +kernel
theorem dX3_join_35 : decode cX3_join 35 = .ok (.ishl, 1) := by decide +kernel
theorem dX3_join_36 : decode cX3_join 36 = .ok (.ior, 1) := by decide +kernel
theorem dX3_join_37 : decode cX3_join 37 = .ok (.iastore, 1) := by decide +kernel
theorem dX3_join_38 : decode cX3_join 38 = .ok (.aload_n 0, 1) := by decide +kernel
theorem dX3_join_39 : decode cX3_join 39 = .ok (.getfield 36, 3) := by decide +kernel
theorem dX3_join_42 : decode cX3_join 42 = .ok (.iload_n 2, 1) := by decide +kernel
theorem dX3_join_43 : decode cX3_join 43 = .ok (.dup2, 1) := by decide +kernel
theorem dX3_join_44 : decode cX3_join 44 = .ok (.iaload, 1) := by decide +kernel
theorem dX3_join_45 : decode cX3_join 45 = .ok (.iconst 1, 1) := by decide +kernel
theorem dX3_join_46 : decode cX3_join 46 = .ok (.iload_n 1, 1) := by decide +kernel
theorem dX3_join_47 : decode cX3_join 47 = .ok (.ishl, 1) := by decide +kernel
theorem dX3_join_48 : decode cX3_join 48 = .ok (.ior, 1) := by decide +kernel
theorem dX3_join_49 : decode cX3_join 49 = .ok (.iastore, 1) := by decide +kernel
theorem dX3_join_50 : decode cX3_join 50 = .ok (.aload_n 0, 1) := by decide +kernel
theorem dX3_join_51 : decode cX3_join 51 = .ok (.invokevirtual 77, 3) := by decide +kernel
theorem dX3_join_54 : decode cX3_join 54 = .ok (.iconst 1, 1) := by decide +kernel
theorem dX3_join_55 : decode cX3_join 55 = .ok (.ireturn, 1) := by decide +kernel
theorem dX3_self_0 : decode cX3_self 0 = .ok (.aload_n 0, 1) := by decide +kernel
theorem dX3_self_1 : decode cX3_self 1 = .ok (.iload_n 1, 1) := by decide +kernel
theorem dX3_self_2 : decode cX3_self 2 = .ok (.invokevirtual 69, 3) := by decide +kernel
theorem dX3_self_5 : decode cX3_self 5 = .ok (.aload_n 0, 1) := by decide +kernel
theorem dX3_self_6 : decode cX3_self 6 = .ok (.iload_n 1, 1) := by decide +kernel
theorem dX3_self_7 : decode cX3_self 7 = .ok (.iload_n 1, 1) := by decide +kernel
theorem dX3_self_8 : decode cX3_self 8 = .ok (.invokevirtual 73, 3) := by decide +kernel
theorem dX3_self_11 : decode cX3_self 11 = .ok (.iload_n 2, 1) := by decide +kernel
theorem dX3_self_12 : decode cX3_self 12 = .ok (.if_icmp .ne 5, 3) := by decide +kernel
theorem dX3_self_15 : decode cX3_self 15 = .ok (.iconst 0, 1) := by decide +kernel
theorem dX3_self_16 : decode cX3_self 16 = .ok (.ireturn, 1) := by decide +kernel
theorem dX3_self_17 : decode cX3_self 17 = .ok (.aload_n 0, 1) := by decide +kernel
theorem dX3_self_18 : decode cX3_self 18 = .ok (.getfield 36, 3) := by decide +kernel
theorem dX3_self_21 : decode cX3_self 21 = .ok (.iload_n 1, 1) := by decide +kernel
theorem dX3_self_22 : decode cX3_self 22 = .ok (.dup2, 1) := by decide +kernel
theorem dX3_self_23 : decode cX3_self 23 = .ok (.iaload, 1) := by decide +kernel
theorem dX3_self_24 : decode cX3_self 24 = .ok (.iconst 1, 1) := by decide +kernel
theorem dX3_self_25 : decode cX3_self 25 = .ok (.iload_n 1, 1) := by decide +kernel
theorem dX3_self_26 : decode cX3_self 26 = .ok (.ishl, 1) := by decide +kernel
theorem dX3_self_27 : decode cX3_self 27 = .ok (.ixor, 1) := by decide +kernel
theorem dX3_self_28 : decode cX3_self 28 = .ok (.iastore, 1) := by decide +kernel
theorem dX3_self_29 : decode cX3_self 29 = .ok (.aload_n 0, 1) := by decide +kernel
theorem dX3_self_30 : decode cX3_self 30 = .ok (.invokevirtual 77, 3) := by decide +kernel
theorem dX3_self_33 : decode cX3_self 33 = .ok (.iconst 1, 1) := by decide +kernel
theorem dX3_self_34 : decode cX3_self 34 = .ok (.ireturn, 1) := by decide +kernel
theorem dX3_set_0 : decode cX3_set 0 = .ok (.aload_n 0, 1) := by decide +kernel
theorem dX3_set_1 : decode cX3_set 1 = .ok (.iload_n 1, 1) := by decide +kernel
theorem dX3_set_2 : decode cX3_set 2 = .ok (.invokevirtual 69, 3) := by decide +kernel
theorem dX3_set_5 : decode cX3_set 5 = .ok (.aload_n 0, 1) := by decide +kernel
theorem dX3_set_6 : decode cX3_set 6 = .ok (.iload_n 2, 1) := by decide +kernel
theorem dX3_set_7 : decode cX3_set 7 = .ok (.invokevirtual 80, 3) := by decide +kernel
theorem dX3_set_10 : decode cX3_set 10 = .ok (.ifCond .ne 5, 3) := by decide +kernel
theorem dX3_set_13 : decode cX3_set 13 = .ok (.iconst 0, 1) := by decide +kernel
theorem dX3_set_14 : decode cX3_set 14 = .ok (.ireturn, 1) := by decide +kernel
theorem dX3_set_15 : decode cX3_set 15 = .ok (.aload_n 0, 1) := by decide +kernel
theorem dX3_set_16 : decode cX3_set 16 = .ok (.getfield 29, 3) := by decide +kernel
theorem dX3_set_19 : decode cX3_set 19 = .ok (.iload_n 1, 1) := by decide +kernel
theorem dX3_set_20 : decode cX3_set 20 = .ok (.iload_n 2, 1) := by decide +kernel
theorem dX3_set_21 : decode cX3_set 21 = .ok (.iastore, 1) := by decide +kernel
theorem dX3_set_22 : decode cX3_set 22 = .ok (.aload_n 0, 1) := by decide +kernel
theorem dX3_set_23 : decode cX3_set 23 = .ok (.invokevirtual 77, 3) := by decide +kernel
theorem dX3_set_26 : decode cX3_set 26 = .ok (.iconst 1, 1) := by decide +kernel
theorem dX3_set_27 : decode cX3_set 27 = .ok (.ireturn, 1) := by decide +kernel
theorem dX3_want_0 : decode cX3_want 0 = .ok (.aload_n 0, 1) := by decide +kernel
theorem dX3_want_1 : decode cX3_want 1 = .ok (.iload_n 1, 1) := by decide +kernel
theorem dX3_want_2 : decode cX3_want 2 = .ok (.invokevirtual 69, 3) := by decide +kernel
theorem dX3_want_5 : decode cX3_want 5 = .ok (.aload_n 0, 1) := by decide +kernel
theorem dX3_want_6 : decode cX3_want 6 = .ok (.iload_n 2, 1) := by decide +kernel
theorem dX3_want_7 : decode cX3_want 7 = .ok (.invokevirtual 80, 3) := by decide +kernel
theorem dX3_want_10 : decode cX3_want 10 = .ok (.ifCond .ne 5, 3) := by decide +kernel
theorem dX3_want_13 : decode cX3_want 13 = .ok (.iconst 0, 1) := by decide +kernel
theorem dX3_want_14 : decode cX3_want 14 = .ok (.ireturn, 1) := by decide +kernel
theorem dX3_want_15 : decode cX3_want 15 = .ok (.aload_n 0, 1) := by decide +kernel
theorem dX3_want_16 : decode cX3_want 16 = .ok (.getfield 33, 3) := by decide +kernel
theorem dX3_want_19 : decode cX3_want 19 = .ok (.iload_n 1, 1) := by decide +kernel
theorem dX3_want_20 : decode cX3_want 20 = .ok (.iload_n 2, 1) := by decide +kernel
theorem dX3_want_21 : decode cX3_want 21 = .ok (.iastore, 1) := by decide +kernel
theorem dX3_want_22 : decode cX3_want 22 = .ok (.aload_n 0, 1) := by decide +kernel
theorem dX3_want_23 : decode cX3_want 23 = .ok (.invokevirtual 77, 3) := by decide +kernel
theorem dX3_want_26 : decode cX3_want 26 = .ok (.iconst 1, 1) := by decide +kernel
theorem dX3_want_27 : decode cX3_want 27 = .ok (.ireturn, 1) := by decide +kernel
theorem dX3_press_0 : decode cX3_press 0 = .ok (.aload_n 0, 1) := by decide +kernel
theorem dX3_press_1 : decode cX3_press 1 = .ok (.iload_n 1, 1) := by decide +kernel
theorem dX3_press_2 : decode cX3_press 2 = .ok (.invokevirtual 69, 3) := by decide +kernel
theorem dX3_press_5 : decode cX3_press 5 = .ok (.iload_n 2, 1) := by decide +kernel
theorem dX3_press_6 : decode cX3_press 6 = .ok (.ifCond .lt 10, 3) := by decide +kernel
theorem dX3_press_9 : decode cX3_press 9 = .ok (.iload_n 2, 1) := by decide +kernel
theorem dX3_press_10 : decode cX3_press 10 = .ok (.sipush 1000, 3) := by decide +kernel
theorem dX3_press_13 : decode cX3_press 13 = .ok (.if_icmp .le 5, 3) := by decide +kernel
theorem dX3_press_16 : decode cX3_press 16 = .ok (.iconst 0, 1) := by decide +kernel
theorem dX3_press_17 : decode cX3_press 17 = .ok (.ireturn, 1) := by decide +kernel
theorem dX3_press_18 : decode cX3_press 18 = .ok (.iconst 0, 1) := by decide +kernel
theorem dX3_press_19 : decode cX3_press 19 = .ok (.istore_n 3, 1) := by decide +kernel
theorem dX3_press_20 : decode cX3_press 20 = .ok (.iload_n 3, 1) := by decide +kernel
theorem dX3_press_21 : decode cX3_press 21 = .ok (.aload_n 0, 1) := by decide +kernel
theorem dX3_press_22 : decode cX3_press 22 = .ok (.getfield 18, 3) := by decide +kernel
theorem dX3_press_25 : decode cX3_press 25 = .ok (.if_icmp .ge 37, 3) := by decide +kernel
theorem dX3_press_28 : decode cX3_press 28 = .ok (.aload_n 0, 1) := by decide +kernel
theorem dX3_press_29 : decode cX3_press 29 = .ok (.iload_n 1, 1) := by decide +kernel
theorem dX3_press_30 : decode cX3_press 30 = .ok (.iload_n 3, 1) := by decide +kernel
theorem dX3_press_31 : decode cX3_press 31 = .ok (.invokevirtual 73, 3) := by decide +kernel
theorem dX3_press_34 : decode cX3_press 34 = .ok (.ifCond .eq 22, 3) := by decide +kernel
theorem dX3_press_37 : decode cX3_press 37 = .ok (.aload_n 0, 1) := by decide +kernel
theorem dX3_press_38 : decode cX3_press 38 = .ok (.getfield 29, 3) := by decide +kernel
theorem dX3_press_41 : decode cX3_press 41 = .ok (.iload_n 3, 1) := by decide +kernel
theorem dX3_press_42 : decode cX3_press 42 = .ok (.aload_n 0, 1) := by decide +kernel
theorem dX3_press_43 : decode cX3_press 43 = .ok (.getfield 29, 3) := by decide +kernel
theorem dX3_press_46 : decode cX3_press 46 = .ok (.iload_n 3, 1) := by decide +kernel
theorem dX3_press_47 : decode cX3_press 47 = .ok (.iaload, 1) := by decide +kernel
theorem dX3_press_48 : decode cX3_press 48 = .ok (.iload_n 2, 1) := by decide +kernel
theorem dX3_press_49 : decode cX3_press 49 = .ok (.iadd, 1) := by decide +kernel
theorem dX3_press_50 : decode cX3_press 50 = .ok (.aload_n 0, 1) := by decide +kernel
theorem dX3_press_51 : decode cX3_press 51 = .ok (.getfield 26, 3) := by decide +kernel
theorem dX3_press_54 : decode cX3_press 54 = .ok (.irem, 1) := by decide +kernel
theorem dX3_press_55 : decode cX3_press 55 = .ok (.iastore, 1) := by decide +kernel
theorem dX3_press_56 : decode cX3_press 56 = .ok (.iinc 3 1, 3) := by decide +kernel
theorem dX3_press_59 : decode cX3_press 59 = .ok (.goto (-39), 3) := by decide +kernel
theorem dX3_press_62 : decode cX3_press 62 = .ok (.aload_n 0, 1) := by decide +kernel
theorem dX3_press_63 : decode cX3_press 63 = .ok (.invokevirtual 77, 3) := by decide +kernel
theorem dX3_press_66 : decode cX3_press 66 = .ok (.iconst 1, 1) := by decide +kernel
theorem dX3_press_67 : decode cX3_press 67 = .ok (.ireturn, 1) := by decide +kernel
theorem dX3_at_0 : decode cX3_at 0 = .ok (.aload_n 0, 1) := by decide +kernel
theorem dX3_at_1 : decode cX3_at 1 = .ok (.iload_n 1, 1) := by decide +kernel
theorem dX3_at_2 : decode cX3_at 2 = .ok (.invokevirtual 69, 3) := by decide +kernel
theorem dX3_at_5 : decode cX3_at 5 = .ok (.aload_n 0, 1) := by decide +kernel
theorem dX3_at_6 : decode cX3_at 6 = .ok (.getfield 29, 3) := by decide +kernel
theorem dX3_at_9 : decode cX3_at 9 = .ok (.iload_n 1, 1) := by decide +kernel
theorem dX3_at_10 : decode cX3_at 10 = .ok (.iaload, 1) := by decide +kernel
theorem dX3_at_11 : decode cX3_at 11 = .ok (.ireturn, 1) := by decide +kernel
theorem dX3_apart_0 : decode cX3_apart 0 = .ok (.iconst 0, 1) := by decide +kernel
theorem dX3_apart_1 : decode cX3_apart 1 = .ok (.istore_n 1, 1) := by decide +kernel
theorem dX3_apart_2 : decode cX3_apart 2 = .ok (.iconst 0, 1) := by decide +kernel
theorem dX3_apart_3 : decode cX3_apart 3 = .ok (.istore_n 2, 1) := by decide +kernel
theorem dX3_apart_4 : decode cX3_apart 4 = .ok (.iload_n 2, 1) := by decide +kernel
theorem dX3_apart_5 : decode cX3_apart 5 = .ok (.aload_n 0, 1) := by decide +kernel
theorem dX3_apart_6 : decode cX3_apart 6 = .ok (.getfield 18, 3) := by decide +kernel
theorem dX3_apart_9 : decode cX3_apart 9 = .ok (.if_icmp .ge 27, 3) := by decide +kernel
theorem dX3_apart_12 : decode cX3_apart 12 = .ok (.aload_n 0, 1) := by decide +kernel
theorem dX3_apart_13 : decode cX3_apart 13 = .ok (.getfield 29, 3) := by decide +kernel
theorem dX3_apart_16 : decode cX3_apart 16 = .ok (.iload_n 2, 1) := by decide +kernel
theorem dX3_apart_17 : decode cX3_apart 17 = .ok (.iaload, 1) := by decide +kernel
theorem dX3_apart_18 : decode cX3_apart 18 = .ok (.aload_n 0, 1) := by decide +kernel
theorem dX3_apart_19 : decode cX3_apart 19 = .ok (.getfield 33, 3) := by decide +kernel
theorem dX3_apart_22 : decode cX3_apart 22 = .ok (.iload_n 2, 1) := by decide +kernel
theorem dX3_apart_23 : decode cX3_apart 23 = .ok (.iaload, 1) := by decide +kernel
theorem dX3_apart_24 : decode cX3_apart 24 = .ok (.if_icmp .eq 6, 3) := by decide +kernel
theorem dX3_apart_27 : decode cX3_apart 27 = .ok (.iinc 1 1, 3) := by decide +kernel
theorem dX3_apart_30 : decode cX3_apart 30 = .ok (.iinc 2 1, 3) := by decide +kernel
theorem dX3_apart_33 : decode cX3_apart 33 = .ok (.goto (-29), 3) := by decide +kernel
theorem dX3_apart_36 : decode cX3_apart 36 = .ok (.iload_n 1, 1) := by decide +kernel
theorem dX3_apart_37 : decode cX3_apart 37 = .ok (.ireturn, 1) := by decide +kernel
theorem dX3_rank_0 : decode cX3_rank 0 = .ok (.aload_n 0, 1) := by decide +kernel
theorem dX3_rank_1 : decode cX3_rank 1 = .ok (.invokevirtual 84, 3) := by decide +kernel
theorem dX3_rank_4 : decode cX3_rank 4 = .ok (.aload_n 0, 1) := by decide +kernel
theorem dX3_rank_5 : decode cX3_rank 5 = .ok (.getfield 44, 3) := by decide +kernel
theorem dX3_rank_8 : decode cX3_rank 8 = .ok (.invokevirtual 87, 3) := by decide +kernel
theorem dX3_rank_11 : decode cX3_rank 11 = .ok (.ireturn, 1) := by decide +kernel
theorem dX3_solvable_0 : decode cX3_solvable 0 = .ok (.aload_n 0, 1) := by decide +kernel
theorem dX3_solvable_1 : decode cX3_solvable 1 = .ok (.invokevirtual 84, 3) := by decide +kernel
theorem dX3_solvable_4 : decode cX3_solvable 4 = .ok (.aload_n 0, 1) := by decide +kernel
theorem dX3_solvable_5 : decode cX3_solvable 5 = .ok (.getfield 44, 3) := by decide +kernel
theorem dX3_solvable_8 : decode cX3_solvable 8 = .ok (.invokevirtual 91, 3) := by decide +kernel
theorem dX3_solvable_11 : decode cX3_solvable 11 = .ok (.ireturn, 1) := by decide +kernel
theorem dX3_answer_0 : decode cX3_answer 0 = .ok (.aload_n 0, 1) := by decide +kernel
theorem dX3_answer_1 : decode cX3_answer 1 = .ok (.iload_n 1, 1) := by decide +kernel
theorem dX3_answer_2 : decode cX3_answer 2 = .ok (.invokevirtual 69, 3) := by decide +kernel
theorem dX3_answer_5 : decode cX3_answer 5 = .ok (.aload_n 0, 1) := by decide +kernel
theorem dX3_answer_6 : decode cX3_answer 6 = .ok (.invokevirtual 84, 3) := by decide +kernel
theorem dX3_answer_9 : decode cX3_answer 9 = .ok (.aload_n 0, 1) := by decide +kernel
theorem dX3_answer_10 : decode cX3_answer 10 = .ok (.getfield 44, 3) := by decide +kernel
theorem dX3_answer_13 : decode cX3_answer 13 = .ok (.invokevirtual 91, 3) := by decide +kernel
theorem dX3_answer_16 : decode cX3_answer 16 = .ok (.ifCond .eq 14, 3) := by decide +kernel
theorem dX3_answer_19 : decode cX3_answer 19 = .ok (.aload_n 0, 1) := by decide +kernel
theorem dX3_answer_20 : decode cX3_answer 20 = .ok (.getfield 44, 3) := by decide +kernel
theorem dX3_answer_23 : decode cX3_answer 23 = .ok (.iload_n 1, 1) := by decide +kernel
theorem dX3_answer_24 : decode cX3_answer 24 = .ok (.invokevirtual 95, 3) := by decide +kernel
theorem dX3_answer_27 : decode cX3_answer 27 = .ok (.goto 4, 3) := by decide +kernel
theorem dX3_answer_30 : decode cX3_answer 30 = .ok (.iconst (-1), 1) := by decide +kernel
theorem dX3_answer_31 : decode cX3_answer 31 = .ok (.ireturn, 1) := by decide +kernel
theorem dX3_quiet_0 : decode cX3_quiet 0 = .ok (.aload_n 0, 1) := by decide +kernel
theorem dX3_quiet_1 : decode cX3_quiet 1 = .ok (.iload_n 2, 1) := by decide +kernel
theorem dX3_quiet_2 : decode cX3_quiet 2 = .ok (.invokevirtual 69, 3) := by decide +kernel
theorem dX3_quiet_5 : decode cX3_quiet 5 = .ok (.aload_n 0, 1) := by decide +kernel
theorem dX3_quiet_6 : decode cX3_quiet 6 = .ok (.invokevirtual 84, 3) := by decide +kernel
theorem dX3_quiet_9 : decode cX3_quiet 9 = .ok (.iload_n 1, 1) := by decide +kernel
theorem dX3_quiet_10 : decode cX3_quiet 10 = .ok (.ifCond .lt 14, 3) := by decide +kernel
theorem dX3_quiet_13 : decode cX3_quiet 13 = .ok (.iload_n 1, 1) := by decide +kernel
theorem dX3_quiet_14 : decode cX3_quiet 14 = .ok (.aload_n 0, 1) := by decide +kernel
theorem dX3_quiet_15 : decode cX3_quiet 15 = .ok (.getfield 44, 3) := by decide +kernel
theorem dX3_quiet_18 : decode cX3_quiet 18 = .ok (.invokevirtual 98, 3) := by decide +kernel
theorem dX3_quiet_21 : decode cX3_quiet 21 = .ok (.if_icmp .lt 5, 3) := by decide +kernel
theorem dX3_quiet_24 : decode cX3_quiet 24 = .ok (.iconst (-1), 1) := by decide +kernel
theorem dX3_quiet_25 : decode cX3_quiet 25 = .ok (.ireturn, 1) := by decide +kernel
theorem dX3_quiet_26 : decode cX3_quiet 26 = .ok (.aload_n 0, 1) := by decide +kernel
theorem dX3_quiet_27 : decode cX3_quiet 27 = .ok (.getfield 44, 3) := by decide +kernel
theorem dX3_quiet_30 : decode cX3_quiet 30 = .ok (.iload_n 1, 1) := by decide +kernel
theorem dX3_quiet_31 : decode cX3_quiet 31 = .ok (.invokevirtual 101, 3) := by decide +kernel
theorem dX3_quiet_34 : decode cX3_quiet 34 = .ok (.iload_n 2, 1) := by decide +kernel
theorem dX3_quiet_35 : decode cX3_quiet 35 = .ok (.iaload, 1) := by decide +kernel
theorem dX3_quiet_36 : decode cX3_quiet 36 = .ok (.ireturn, 1) := by decide +kernel
theorem dX3_count_0 : decode cX3_count 0 = .ok (.aload_n 0, 1) := by decide +kernel
theorem dX3_count_1 : decode cX3_count 1 = .ok (.invokevirtual 84, 3) := by decide +kernel
theorem dX3_count_4 : decode cX3_count 4 = .ok (.aload_n 0, 1) := by decide +kernel
theorem dX3_count_5 : decode cX3_count 5 = .ok (.getfield 58, 3) := by decide +kernel
theorem dX3_count_8 : decode cX3_count 8 = .ok (.aload_n 0, 1) := by decide +kernel
theorem dX3_count_9 : decode cX3_count 9 = .ok (.getfield 44, 3) := by decide +kernel
theorem dX3_count_12 : decode cX3_count 12 = .ok (.invokevirtual 91, 3) := by decide +kernel
theorem dX3_count_15 : decode cX3_count 15 = .ok (.ifCond .eq 7, 3) := by decide +kernel
theorem dX3_count_18 : decode cX3_count 18 = .ok (.iconst 1, 1) := by decide +kernel
theorem dX3_count_19 : decode cX3_count 19 = .ok (.goto 4, 3) := by decide +kernel
theorem dX3_count_22 : decode cX3_count 22 = .ok (.iconst 0, 1) := by decide +kernel
theorem dX3_count_23 : decode cX3_count 23 = .ok (.invokevirtual 105, 3) := by decide +kernel
theorem dX3_count_26 : decode cX3_count 26 = .ok (.iconst 0, 1) := by decide +kernel
theorem dX3_count_27 : decode cX3_count 27 = .ok (.istore_n 2, 1) := by decide +kernel
theorem dX3_count_28 : decode cX3_count 28 = .ok (.iload_n 2, 1) := by decide +kernel
theorem dX3_count_29 : decode cX3_count 29 = .ok (.aload_n 0, 1) := by decide +kernel
theorem dX3_count_30 : decode cX3_count 30 = .ok (.getfield 44, 3) := by decide +kernel
theorem dX3_count_33 : decode cX3_count 33 = .ok (.invokevirtual 98, 3) := by decide +kernel
theorem dX3_count_36 : decode cX3_count 36 = .ok (.if_icmp .ge 20, 3) := by decide +kernel
theorem dX3_count_39 : decode cX3_count 39 = .ok (.aload_n 0, 1) := by decide +kernel
theorem dX3_count_40 : decode cX3_count 40 = .ok (.getfield 58, 3) := by decide +kernel
theorem dX3_count_43 : decode cX3_count 43 = .ok (.aload_n 0, 1) := by decide +kernel
theorem dX3_count_44 : decode cX3_count 44 = .ok (.getfield 26, 3) := by decide +kernel
theorem dX3_count_47 : decode cX3_count 47 = .ok (.invokevirtual 108, 3) := by decide +kernel
theorem dX3_count_50 : decode cX3_count 50 = .ok (.iinc 2 1, 3) := by decide +kernel
theorem dX3_count_53 : decode cX3_count 53 = .ok (.goto (-25), 3) := by decide +kernel
theorem dX3_count_56 : decode cX3_count 56 = .ok (.aload_n 0, 1) := by decide +kernel
theorem dX3_count_57 : decode cX3_count 57 = .ok (.getfield 58, 3) := by decide +kernel
theorem dX3_count_60 : decode cX3_count 60 = .ok (.iload_n 1, 1) := by decide +kernel
theorem dX3_count_61 : decode cX3_count 61 = .ok (.invokevirtual 111, 3) := by decide +kernel
theorem dX3_count_64 : decode cX3_count 64 = .ok (.ireturn, 1) := by decide +kernel
theorem dX3_fewest_0 : decode cX3_fewest 0 = .ok (.aload_n 0, 1) := by decide +kernel
theorem dX3_fewest_1 : decode cX3_fewest 1 = .ok (.invokevirtual 114, 3) := by decide +kernel
theorem dX3_fewest_4 : decode cX3_fewest 4 = .ok (.aload_n 0, 1) := by decide +kernel
theorem dX3_fewest_5 : decode cX3_fewest 5 = .ok (.getfield 51, 3) := by decide +kernel
theorem dX3_fewest_8 : decode cX3_fewest 8 = .ok (.invokevirtual 117, 3) := by decide +kernel
theorem dX3_fewest_11 : decode cX3_fewest 11 = .ok (.ireturn, 1) := by decide +kernel
theorem dX3_best_0 : decode cX3_best 0 = .ok (.aload_n 0, 1) := by decide +kernel
theorem dX3_best_1 : decode cX3_best 1 = .ok (.iload_n 1, 1) := by decide +kernel
theorem dX3_best_2 : decode cX3_best 2 = .ok (.invokevirtual 69, 3) := by decide +kernel
theorem dX3_best_5 : decode cX3_best 5 = .ok (.aload_n 0, 1) := by decide +kernel
theorem dX3_best_6 : decode cX3_best 6 = .ok (.invokevirtual 114, 3) := by decide +kernel
theorem dX3_best_9 : decode cX3_best 9 = .ok (.aload_n 0, 1) := by decide +kernel
theorem dX3_best_10 : decode cX3_best 10 = .ok (.getfield 51, 3) := by decide +kernel
theorem dX3_best_13 : decode cX3_best 13 = .ok (.invokevirtual 117, 3) := by decide +kernel
theorem dX3_best_16 : decode cX3_best 16 = .ok (.ifCond .ge 13, 3) := by decide +kernel
theorem dX3_best_19 : decode cX3_best 19 = .ok (.aload_n 0, 1) := by decide +kernel
theorem dX3_best_20 : decode cX3_best 20 = .ok (.getfield 51, 3) := by decide +kernel
theorem dX3_best_23 : decode cX3_best 23 = .ok (.invokevirtual 117, 3) := by decide +kernel
theorem dX3_best_26 : decode cX3_best 26 = .ok (.goto 11, 3) := by decide +kernel
theorem dX3_best_29 : decode cX3_best 29 = .ok (.aload_n 0, 1) := by decide +kernel
theorem dX3_best_30 : decode cX3_best 30 = .ok (.getfield 51, 3) := by decide +kernel
theorem dX3_best_33 : decode cX3_best 33 = .ok (.iload_n 1, 1) := by decide +kernel
theorem dX3_best_34 : decode cX3_best 34 = .ok (.invokevirtual 120, 3) := by decide +kernel
theorem dX3_best_37 : decode cX3_best 37 = .ok (.ireturn, 1) := by decide +kernel
theorem dX3_alone_0 : decode cX3_alone 0 = .ok (.aload_n 0, 1) := by decide +kernel
theorem dX3_alone_1 : decode cX3_alone 1 = .ok (.iload_n 1, 1) := by decide +kernel
theorem dX3_alone_2 : decode cX3_alone 2 = .ok (.invokevirtual 69, 3) := by decide +kernel
theorem dX3_alone_5 : decode cX3_alone 5 = .ok (.aload_n 0, 1) := by decide +kernel
theorem dX3_alone_6 : decode cX3_alone 6 = .ok (.invokevirtual 84, 3) := by decide +kernel
theorem dX3_alone_9 : decode cX3_alone 9 = .ok (.iconst 0, 1) := by decide +kernel
theorem dX3_alone_10 : decode cX3_alone 10 = .ok (.istore_n 2, 1) := by decide +kernel
theorem dX3_alone_11 : decode cX3_alone 11 = .ok (.iload_n 2, 1) := by decide +kernel
theorem dX3_alone_12 : decode cX3_alone 12 = .ok (.aload_n 0, 1) := by decide +kernel
theorem dX3_alone_13 : decode cX3_alone 13 = .ok (.getfield 44, 3) := by decide +kernel
theorem dX3_alone_16 : decode cX3_alone 16 = .ok (.invokevirtual 98, 3) := by decide +kernel
theorem dX3_alone_19 : decode cX3_alone 19 = .ok (.if_icmp .ge 24, 3) := by decide +kernel
theorem dX3_alone_22 : decode cX3_alone 22 = .ok (.aload_n 0, 1) := by decide +kernel
theorem dX3_alone_23 : decode cX3_alone 23 = .ok (.getfield 44, 3) := by decide +kernel
theorem dX3_alone_26 : decode cX3_alone 26 = .ok (.iload_n 2, 1) := by decide +kernel
theorem dX3_alone_27 : decode cX3_alone 27 = .ok (.invokevirtual 101, 3) := by decide +kernel
theorem dX3_alone_30 : decode cX3_alone 30 = .ok (.iload_n 1, 1) := by decide +kernel
theorem dX3_alone_31 : decode cX3_alone 31 = .ok (.iaload, 1) := by decide +kernel
theorem dX3_alone_32 : decode cX3_alone 32 = .ok (.ifCond .eq 5, 3) := by decide +kernel
theorem dX3_alone_35 : decode cX3_alone 35 = .ok (.iconst 0, 1) := by decide +kernel
theorem dX3_alone_36 : decode cX3_alone 36 = .ok (.ireturn, 1) := by decide +kernel
theorem dX3_alone_37 : decode cX3_alone 37 = .ok (.iinc 2 1, 3) := by decide +kernel
theorem dX3_alone_40 : decode cX3_alone 40 = .ok (.goto (-29), 3) := by decide +kernel
theorem dX3_alone_43 : decode cX3_alone 43 = .ok (.iconst 1, 1) := by decide +kernel
theorem dX3_alone_44 : decode cX3_alone 44 = .ok (.ireturn, 1) := by decide +kernel
theorem dX3_clear_0 : decode cX3_clear 0 = .ok (.iconst 0, 1) := by decide +kernel
theorem dX3_clear_1 : decode cX3_clear 1 = .ok (.istore_n 1, 1) := by decide +kernel
theorem dX3_clear_2 : decode cX3_clear 2 = .ok (.iload_n 1, 1) := by decide +kernel
theorem dX3_clear_3 : decode cX3_clear 3 = .ok (.aload_n 0, 1) := by decide +kernel
theorem dX3_clear_4 : decode cX3_clear 4 = .ok (.getfield 18, 3) := by decide +kernel
theorem dX3_clear_7 : decode cX3_clear 7 = .ok (.if_icmp .ge 23, 3) := by decide +kernel
theorem dX3_clear_10 : decode cX3_clear 10 = .ok (.aload_n 0, 1) := by decide +kernel
theorem dX3_clear_11 : decode cX3_clear 11 = .ok (.getfield 29, 3) := by decide +kernel
theorem dX3_clear_14 : decode cX3_clear 14 = .ok (.iload_n 1, 1) := by decide +kernel
theorem dX3_clear_15 : decode cX3_clear 15 = .ok (.iconst 0, 1) := by decide +kernel
theorem dX3_clear_16 : decode cX3_clear 16 = .ok (.iastore, 1) := by decide +kernel
theorem dX3_clear_17 : decode cX3_clear 17 = .ok (.aload_n 0, 1) := by decide +kernel
theorem dX3_clear_18 : decode cX3_clear 18 = .ok (.getfield 33, 3) := by decide +kernel
theorem dX3_clear_21 : decode cX3_clear 21 = .ok (.iload_n 1, 1) := by decide +kernel
theorem dX3_clear_22 : decode cX3_clear 22 = .ok (.iconst 0, 1) := by decide +kernel
theorem dX3_clear_23 : decode cX3_clear 23 = .ok (.iastore, 1) := by decide +kernel
theorem dX3_clear_24 : decode cX3_clear 24 = .ok (.iinc 1 1, 3) := by decide +kernel
theorem dX3_clear_27 : decode cX3_clear 27 = .ok (.goto (-25), 3) := by decide +kernel
theorem dX3_clear_30 : decode cX3_clear 30 = .ok (.aload_n 0, 1) := by decide +kernel
theorem dX3_clear_31 : decode cX3_clear 31 = .ok (.invokevirtual 77, 3) := by decide +kernel
theorem dX3_clear_34 : decode cX3_clear 34 = .ok (.return_, 1) := by decide +kernel
theorem dX3_primeFor_0 : decode cX3_primeFor 0 = .ok (.iload_n 0, 1) := by decide +kernel
theorem dX3_primeFor_1 : decode cX3_primeFor 1 = .ok (.iconst 3, 1) := by decide +kernel
theorem dX3_primeFor_2 : decode cX3_primeFor 2 = .ok (.if_icmp .ge 5, 3) := by decide +kernel
theorem dX3_primeFor_5 : decode cX3_primeFor 5 = .ok (.iconst 2, 1) := by decide +kernel
theorem dX3_primeFor_6 : decode cX3_primeFor 6 = .ok (.ireturn, 1) := by decide +kernel
theorem dX3_primeFor_7 : decode cX3_primeFor 7 = .ok (.iload_n 0, 1) := by decide +kernel
theorem dX3_primeFor_8 : decode cX3_primeFor 8 = .ok (.iconst 5, 1) := by decide +kernel
theorem dX3_primeFor_9 : decode cX3_primeFor 9 = .ok (.if_icmp .ge 5, 3) := by decide +kernel
theorem dX3_primeFor_12 : decode cX3_primeFor 12 = .ok (.iconst 3, 1) := by decide +kernel
theorem dX3_primeFor_13 : decode cX3_primeFor 13 = .ok (.ireturn, 1) := by decide +kernel
theorem dX3_primeFor_14 : decode cX3_primeFor 14 = .ok (.iload_n 0, 1) := by decide +kernel
theorem dX3_primeFor_15 : decode cX3_primeFor 15 = .ok (.bipush 7, 2) := by decide +kernel
theorem dX3_primeFor_17 : decode cX3_primeFor 17 = .ok (.if_icmp .ge 7, 3) := by decide +kernel
theorem dX3_primeFor_20 : decode cX3_primeFor 20 = .ok (.iconst 5, 1) := by decide +kernel
theorem dX3_primeFor_21 : decode cX3_primeFor 21 = .ok (.goto 5, 3) := by decide +kernel
theorem dX3_primeFor_24 : decode cX3_primeFor 24 = .ok (.bipush 7, 2) := by decide +kernel
theorem dX3_primeFor_26 : decode cX3_primeFor 26 = .ok (.ireturn, 1) := by decide +kernel
theorem dX3_mustExist_0 : decode cX3_mustExist 0 = .ok (.iload_n 1, 1) := by decide +kernel
theorem dX3_mustExist_1 : decode cX3_mustExist 1 = .ok (.ifCond .lt 11, 3) := by decide +kernel
theorem dX3_mustExist_4 : decode cX3_mustExist 4 = .ok (.iload_n 1, 1) := by decide +kernel
theorem dX3_mustExist_5 : decode cX3_mustExist 5 = .ok (.aload_n 0, 1) := by decide +kernel
theorem dX3_mustExist_6 : decode cX3_mustExist 6 = .ok (.getfield 18, 3) := by decide +kernel
theorem dX3_mustExist_9 : decode cX3_mustExist 9 = .ok (.if_icmp .lt 13, 3) := by decide +kernel
theorem dX3_mustExist_12 : decode cX3_mustExist 12 = .ok (.new 123, 3) := by decide +kernel
theorem dX3_mustExist_15 : decode cX3_mustExist 15 = .ok (.dup, 1) := by decide +kernel
theorem dX3_mustExist_16 : decode cX3_mustExist 16 = .ok (.ldc 125, 2) := by decide +kernel
theorem dX3_mustExist_18 : decode cX3_mustExist 18 = .ok (.invokespecial 127, 3) := by decide +kernel
theorem dX3_mustExist_21 : decode cX3_mustExist 21 = .ok (.athrow, 1) := by decide +kernel
theorem dX3_mustExist_22 : decode cX3_mustExist 22 = .ok (.return_, 1) := by decide +kernel
theorem dX3_isState_0 : decode cX3_isState 0 = .ok (.iload_n 1, 1) := by decide +kernel
theorem dX3_isState_1 : decode cX3_isState 1 = .ok (.ifCond .lt 15, 3) := by decide +kernel
theorem dX3_isState_4 : decode cX3_isState 4 = .ok (.iload_n 1, 1) := by decide +kernel
theorem dX3_isState_5 : decode cX3_isState 5 = .ok (.aload_n 0, 1) := by decide +kernel
theorem dX3_isState_6 : decode cX3_isState 6 = .ok (.getfield 26, 3) := by decide +kernel
theorem dX3_isState_9 : decode cX3_isState 9 = .ok (.if_icmp .ge 7, 3) := by decide +kernel
theorem dX3_isState_12 : decode cX3_isState 12 = .ok (.iconst 1, 1) := by decide +kernel
theorem dX3_isState_13 : decode cX3_isState 13 = .ok (.goto 4, 3) := by decide +kernel
theorem dX3_isState_16 : decode cX3_isState 16 = .ok (.iconst 0, 1) := by decide +kernel
theorem dX3_isState_17 : decode cX3_isState 17 = .ok (.ireturn, 1) := by decide +kernel
theorem dX3_touches_0 : decode cX3_touches 0 = .ok (.aload_n 0, 1) := by decide +kernel
theorem dX3_touches_1 : decode cX3_touches 1 = .ok (.getfield 36, 3) := by decide +kernel
theorem dX3_touches_4 : decode cX3_touches 4 = .ok (.iload_n 1, 1) := by decide +kernel
theorem dX3_touches_5 : decode cX3_touches 5 = .ok (.iaload, 1) := by decide +kernel
theorem dX3_touches_6 : decode cX3_touches 6 = .ok (.iload_n 2, 1) := by decide +kernel
theorem dX3_touches_7 : decode cX3_touches 7 = .ok (.ishr, 1) := by decide +kernel
theorem dX3_touches_8 : decode cX3_touches 8 = .ok (.iconst 1, 1) := by decide +kernel
theorem dX3_touches_9 : decode cX3_touches 9 = .ok (.iand, 1) := by decide +kernel
theorem dX3_touches_10 : decode cX3_touches 10 = .ok (.iconst 1, 1) := by decide +kernel
theorem dX3_touches_11 : decode cX3_touches 11 = .ok (.if_icmp .ne 7, 3) := by decide +kernel
theorem dX3_touches_14 : decode cX3_touches 14 = .ok (.iconst 1, 1) := by decide +kernel
theorem dX3_touches_15 : decode cX3_touches 15 = .ok (.goto 4, 3) := by decide +kernel
theorem dX3_touches_18 : decode cX3_touches 18 = .ok (.iconst 0, 1) := by decide +kernel
theorem dX3_touches_19 : decode cX3_touches 19 = .ok (.ireturn, 1) := by decide +kernel
theorem dX3_forget_0 : decode cX3_forget 0 = .ok (.aload_n 0, 1) := by decide +kernel
theorem dX3_forget_1 : decode cX3_forget 1 = .ok (.iconst 0, 1) := by decide +kernel
theorem dX3_forget_2 : decode cX3_forget 2 = .ok (.putfield 62, 3) := by decide +kernel
theorem dX3_forget_5 : decode cX3_forget 5 = .ok (.aload_n 0, 1) := by decide +kernel
theorem dX3_forget_6 : decode cX3_forget 6 = .ok (.iconst 0, 1) := by decide +kernel
theorem dX3_forget_7 : decode cX3_forget 7 = .ok (.putfield 66, 3) := by decide +kernel
theorem dX3_forget_10 : decode cX3_forget 10 = .ok (.return_, 1) := by decide +kernel
theorem dX3_work_0 : decode cX3_work 0 = .ok (.aload_n 0, 1) := by decide +kernel
theorem dX3_work_1 : decode cX3_work 1 = .ok (.getfield 62, 3) := by decide +kernel
theorem dX3_work_4 : decode cX3_work 4 = .ok (.ifCond .ne 34, 3) := by decide +kernel
theorem dX3_work_7 : decode cX3_work 7 = .ok (.aload_n 0, 1) := by decide +kernel
theorem dX3_work_8 : decode cX3_work 8 = .ok (.getfield 44, 3) := by decide +kernel
theorem dX3_work_11 : decode cX3_work 11 = .ok (.aload_n 0, 1) := by decide +kernel
theorem dX3_work_12 : decode cX3_work 12 = .ok (.getfield 36, 3) := by decide +kernel
theorem dX3_work_15 : decode cX3_work 15 = .ok (.aload_n 0, 1) := by decide +kernel
theorem dX3_work_16 : decode cX3_work 16 = .ok (.getfield 29, 3) := by decide +kernel
theorem dX3_work_19 : decode cX3_work 19 = .ok (.aload_n 0, 1) := by decide +kernel
theorem dX3_work_20 : decode cX3_work 20 = .ok (.getfield 33, 3) := by decide +kernel
theorem dX3_work_23 : decode cX3_work 23 = .ok (.invokevirtual 130, 3) := by decide +kernel
theorem dX3_work_26 : decode cX3_work 26 = .ok (.aload_n 0, 1) := by decide +kernel
theorem dX3_work_27 : decode cX3_work 27 = .ok (.getfield 44, 3) := by decide +kernel
theorem dX3_work_30 : decode cX3_work 30 = .ok (.invokevirtual 134, 3) := by decide +kernel
theorem dX3_work_33 : decode cX3_work 33 = .ok (.aload_n 0, 1) := by decide +kernel
theorem dX3_work_34 : decode cX3_work 34 = .ok (.iconst 1, 1) := by decide +kernel
theorem dX3_work_35 : decode cX3_work 35 = .ok (.putfield 62, 3) := by decide +kernel
theorem dX3_work_38 : decode cX3_work 38 = .ok (.return_, 1) := by decide +kernel
theorem dX3_seek_0 : decode cX3_seek 0 = .ok (.aload_n 0, 1) := by decide +kernel
theorem dX3_seek_1 : decode cX3_seek 1 = .ok (.invokevirtual 84, 3) := by decide +kernel
theorem dX3_seek_4 : decode cX3_seek 4 = .ok (.aload_n 0, 1) := by decide +kernel
theorem dX3_seek_5 : decode cX3_seek 5 = .ok (.getfield 66, 3) := by decide +kernel
theorem dX3_seek_8 : decode cX3_seek 8 = .ok (.ifCond .ne 19, 3) := by decide +kernel
theorem dX3_seek_11 : decode cX3_seek 11 = .ok (.aload_n 0, 1) := by decide +kernel
theorem dX3_seek_12 : decode cX3_seek 12 = .ok (.getfield 51, 3) := by decide +kernel
theorem dX3_seek_15 : decode cX3_seek 15 = .ok (.aload_n 0, 1) := by decide +kernel
theorem dX3_seek_16 : decode cX3_seek 16 = .ok (.getfield 44, 3) := by decide +kernel
theorem dX3_seek_19 : decode cX3_seek 19 = .ok (.invokevirtual 137, 3) := by decide +kernel
theorem dX3_seek_22 : decode cX3_seek 22 = .ok (.aload_n 0, 1) := by decide +kernel
theorem dX3_seek_23 : decode cX3_seek 23 = .ok (.iconst 1, 1) := by decide +kernel
theorem dX3_seek_24 : decode cX3_seek 24 = .ok (.putfield 66, 3) := by decide +kernel
theorem dX3_seek_27 : decode cX3_seek 27 = .ok (.return_, 1) := by decide +kernel
theorem dJx00060_init_a7421_0 : decode cJx00060_init_a7421 0 = .ok (.aload_n 0, 1) := by decide +kernel
theorem dJx00060_init_a7421_1 : decode cJx00060_init_a7421 1 = .ok (.aload_n 1, 1) := by decide +kernel
theorem dJx00060_init_a7421_2 : decode cJx00060_init_a7421 2 = .ok (.invokespecial 7, 3) := by decide +kernel
theorem dJx00060_init_a7421_5 : decode cJx00060_init_a7421 5 = .ok (.return_, 1) := by decide +kernel
theorem dJ9_max_7cf53_0 : decode cJ9_max_7cf53 0 = .ok (.iload_n 0, 1) := by decide +kernel
theorem dJ9_max_7cf53_1 : decode cJ9_max_7cf53 1 = .ok (.iload_n 1, 1) := by decide +kernel
theorem dJ9_max_7cf53_2 : decode cJ9_max_7cf53 2 = .ok (.if_icmp .lt 7, 3) := by decide +kernel
theorem dJ9_max_7cf53_5 : decode cJ9_max_7cf53 5 = .ok (.iload_n 0, 1) := by decide +kernel
theorem dJ9_max_7cf53_6 : decode cJ9_max_7cf53 6 = .ok (.goto 4, 3) := by decide +kernel
theorem dJ9_max_7cf53_9 : decode cJ9_max_7cf53 9 = .ok (.iload_n 1, 1) := by decide +kernel
theorem dJ9_max_7cf53_10 : decode cJ9_max_7cf53 10 = .ok (.ireturn, 1) := by decide +kernel
theorem dJ9_min_7cf53_0 : decode cJ9_min_7cf53 0 = .ok (.iload_n 0, 1) := by decide +kernel
theorem dJ9_min_7cf53_1 : decode cJ9_min_7cf53 1 = .ok (.iload_n 1, 1) := by decide +kernel
theorem dJ9_min_7cf53_2 : decode cJ9_min_7cf53 2 = .ok (.if_icmp .gt 7, 3) := by decide +kernel
theorem dJ9_min_7cf53_5 : decode cJ9_min_7cf53 5 = .ok (.iload_n 0, 1) := by decide +kernel
theorem dJ9_min_7cf53_6 : decode cJ9_min_7cf53 6 = .ok (.goto 4, 3) := by decide +kernel
theorem dJ9_min_7cf53_9 : decode cJ9_min_7cf53 9 = .ok (.iload_n 1, 1) := by decide +kernel
theorem dJ9_min_7cf53_10 : decode cJ9_min_7cf53 10 = .ok (.ireturn, 1) := by decide +kernel
end
section
theorem dX4_init_0 : decode cX4_init 0 = .ok (.aload_n 0, 1) := by decide +kernel
theorem dX4_init_1 : decode cX4_init 1 = .ok (.invokespecial 1, 3) := by decide +kernel
theorem dX4_init_4 : decode cX4_init 4 = .ok (.aload_n 0, 1) := by decide +kernel
theorem dX4_init_5 : decode cX4_init 5 = .ok (.sipush 900, 3) := by decide +kernel
theorem dX4_init_8 : decode cX4_init 8 = .ok (.newarray .boolean, 2) := by decide +kernel
theorem dX4_init_10 : decode cX4_init 10 = .ok (.putfield 7, 3) := by decide +kernel
theorem dX4_init_13 : decode cX4_init 13 = .ok (.aload_n 0, 1) := by decide +kernel
theorem dX4_init_14 : decode cX4_init 14 = .ok (.bipush 30, 2) := by decide +kernel
theorem dX4_init_16 : decode cX4_init 16 = .ok (.newarray .boolean, 2) := by decide +kernel
theorem dX4_init_18 : decode cX4_init 18 = .ok (.putfield 13, 3) := by decide +kernel
theorem dX4_init_21 : decode cX4_init 21 = .ok (.aload_n 0, 1) := by decide +kernel
theorem dX4_init_22 : decode cX4_init 22 = .ok (.bipush 30, 2) := by decide +kernel
theorem dX4_init_24 : decode cX4_init 24 = .ok (.newarray .int, 2) := by decide +kernel
theorem dX4_init_26 : decode cX4_init 26 = .ok (.putfield 16, 3) := by decide +kernel
theorem dX4_init_29 : decode cX4_init 29 = .ok (.aload_n 0, 1) := by decide +kernel
theorem dX4_init_30 : decode cX4_init 30 = .ok (.bipush 30, 2) := by decide +kernel
theorem dX4_init_32 : decode cX4_init 32 = .ok (.newarray .int, 2) := by decide +kernel
theorem dX4_init_34 : decode cX4_init 34 = .ok (.putfield 20, 3) := by decide +kernel
theorem dX4_init_37 : decode cX4_init 37 = .ok (.aload_n 0, 1) := by decide +kernel
theorem dX4_init_38 : decode cX4_init 38 = .ok (.sipush 900, 3) := by decide +kernel
theorem dX4_init_41 : decode cX4_init 41 = .ok (.newarray .int, 2) := by decide +kernel
theorem dX4_init_43 : decode cX4_init 43 = .ok (.putfield 23, 3) := by decide +kernel
theorem dX4_init_46 : decode cX4_init 46 = .ok (.aload_n 0, 1) := by decide +kernel
theorem dX4_init_47 : decode cX4_init 47 = .ok (.sipush 900, 3) := by decide +kernel
theorem dX4_init_50 : decode cX4_init 50 = .ok (.newarray .int, 2) := by decide +kernel
theorem dX4_init_52 : decode cX4_init 52 = .ok (.putfield 26, 3) := by decide +kernel
theorem dX4_init_55 : decode cX4_init 55 = .ok (.aload_n 0, 1) := by decide +kernel
theorem dX4_init_56 : decode cX4_init 56 = .ok (.bipush 30, 2) := by decide +kernel
theorem dX4_init_58 : decode cX4_init 58 = .ok (.newarray .int, 2) := by decide +kernel
theorem dX4_init_60 : decode cX4_init 60 = .ok (.putfield 29, 3) := by decide +kernel
theorem dX4_init_63 : decode cX4_init 63 = .ok (.aload_n 0, 1) := by decide +kernel
theorem dX4_init_64 : decode cX4_init 64 = .ok (.bipush 30, 2) := by decide +kernel
theorem dX4_init_66 : decode cX4_init 66 = .ok (.newarray .boolean, 2) := by decide +kernel
theorem dX4_init_68 : decode cX4_init 68 = .ok (.putfield 32, 3) := by decide +kernel
theorem dX4_init_71 : decode cX4_init 71 = .ok (.aload_n 0, 1) := by decide +kernel
theorem dX4_init_72 : decode cX4_init 72 = .ok (.bipush 30, 2) := by decide +kernel
theorem dX4_init_74 : decode cX4_init 74 = .ok (.newarray .int, 2) := by decide +kernel
theorem dX4_init_76 : decode cX4_init 76 = .ok (.putfield 35, 3) := by decide +kernel
theorem dX4_init_79 : decode cX4_init 79 = .ok (.aload_n 0, 1) := by decide +kernel
theorem dX4_init_80 : decode cX4_init 80 = .ok (.bipush 30, 2) := by decide +kernel
theorem dX4_init_82 : decode cX4_init 82 = .ok (.newarray .int, 2) := by decide +kernel
theorem dX4_init_84 : decode cX4_init 84 = .ok (.putfield 38, 3) := by decide +kernel
theorem dX4_init_87 : decode cX4_init 87 = .ok (.aload_n 0, 1) := by decide +kernel
theorem dX4_init_88 : decode cX4_init 88 = .ok (.bipush 30, 2) := by decide +kernel
theorem dX4_init_90 : decode cX4_init 90 = .ok (.newarray .int, 2) := by decide +kernel
theorem dX4_init_92 : decode cX4_init 92 = .ok (.putfield 41, 3) := by decide +kernel
theorem dX4_init_95 : decode cX4_init 95 = .ok (.aload_n 0, 1) := by decide +kernel
theorem dX4_init_96 : decode cX4_init 96 = .ok (.sipush 900, 3) := by decide +kernel
theorem dX4_init_99 : decode cX4_init 99 = .ok (.newarray .int, 2) := by decide +kernel
theorem dX4_init_101 : decode cX4_init 101 = .ok (.putfield 44, 3) := by decide +kernel
theorem dX4_init_104 : decode cX4_init 104 = .ok (.aload_n 0, 1) := by decide +kernel
theorem dX4_init_105 : decode cX4_init 105 = .ok (.bipush 30, 2) := by decide +kernel
theorem dX4_init_107 : decode cX4_init 107 = .ok (.newarray .int, 2) := by decide +kernel
theorem dX4_init_109 : decode cX4_init 109 = .ok (.putfield 47, 3) := by decide +kernel
theorem dX4_init_112 : decode cX4_init 112 = .ok (.aload_n 0, 1) := by decide +kernel
theorem dX4_init_113 : decode cX4_init 113 = .ok (.bipush 30, 2) := by decide +kernel
theorem dX4_init_115 : decode cX4_init 115 = .ok (.newarray .int, 2) := by decide +kernel
theorem dX4_init_117 : decode cX4_init 117 = .ok (.putfield 50, 3) := by decide +kernel
theorem dX4_init_120 : decode cX4_init 120 = .ok (.aload_n 0, 1) := by decide +kernel
theorem dX4_init_121 : decode cX4_init 121 = .ok (.bipush 30, 2) := by decide +kernel
theorem dX4_init_123 : decode cX4_init 123 = .ok (.newarray .int, 2) := by decide +kernel
theorem dX4_init_125 : decode cX4_init 125 = .ok (.putfield 53, 3) := by decide +kernel
theorem dX4_init_128 : decode cX4_init 128 = .ok (.aload_n 0, 1) := by decide +kernel
theorem dX4_init_129 : decode cX4_init 129 = .ok (.iload_n 1, 1) := by decide +kernel
theorem dX4_init_130 : decode cX4_init 130 = .ok (.iconst 1, 1) := by decide +kernel
theorem dX4_init_131 : decode cX4_init 131 = .ok (.if_icmp .ge 7, 3) := by decide +kernel
theorem dX4_init_134 : decode cX4_init 134 = .ok (.iconst 1, 1) := by decide +kernel
theorem dX4_init_135 : decode cX4_init 135 = .ok (.goto 15, 3) := by decide +kernel
theorem dX4_init_138 : decode cX4_init 138 = .ok (.iload_n 1, 1) := by decide +kernel
theorem dX4_init_139 : decode cX4_init 139 = .ok (.bipush 30, 2) := by decide +kernel
theorem dX4_init_141 : decode cX4_init 141 = .ok (.if_icmp .le 8, 3) := by decide +kernel
theorem dX4_init_144 : decode cX4_init 144 = .ok (.bipush 30, 2) := by decide +kernel
theorem dX4_init_146 : decode cX4_init 146 = .ok (.goto 4, 3) := by decide +kernel
theorem dX4_init_149 : decode cX4_init 149 = .ok (.iload_n 1, 1) := by decide +kernel
theorem dX4_init_150 : decode cX4_init 150 = .ok (.putfield 56, 3) := by decide +kernel
theorem dX4_init_153 : decode cX4_init 153 = .ok (.aload_n 0, 1) := by decide +kernel
theorem dX4_init_154 : decode cX4_init 154 = .ok (.iload_n 2, 1) := by decide +kernel
theorem dX4_init_155 : decode cX4_init 155 = .ok (.iconst 3, 1) := by decide +kernel
theorem dX4_init_156 : decode cX4_init 156 = .ok (.if_icmp .ge 7, 3) := by decide +kernel
theorem dX4_init_159 : decode cX4_init 159 = .ok (.iconst 2, 1) := by decide +kernel
theorem dX4_init_160 : decode cX4_init 160 = .ok (.goto 24, 3) := by decide +kernel
theorem dX4_init_163 : decode cX4_init 163 = .ok (.iload_n 2, 1) := by decide +kernel
theorem dX4_init_164 : decode cX4_init 164 = .ok (.iconst 5, 1) := by decide +kernel
theorem dX4_init_165 : decode cX4_init 165 = .ok (.if_icmp .ge 7, 3) := by decide +kernel
theorem dX4_init_168 : decode cX4_init 168 = .ok (.iconst 3, 1) := by decide +kernel
theorem dX4_init_169 : decode cX4_init 169 = .ok (.goto 15, 3) := by decide +kernel
theorem dX4_init_172 : decode cX4_init 172 = .ok (.iload_n 2, 1) := by decide +kernel
theorem dX4_init_173 : decode cX4_init 173 = .ok (.bipush 7, 2) := by decide +kernel
theorem dX4_init_175 : decode cX4_init 175 = .ok (.if_icmp .ge 7, 3) := by decide +kernel
theorem dX4_init_178 : decode cX4_init 178 = .ok (.iconst 5, 1) := by decide +kernel
theorem dX4_init_179 : decode cX4_init 179 = .ok (.goto 5, 3) := by decide +kernel
theorem dX4_init_182 : decode cX4_init 182 = .ok (.bipush 7, 2) := by decide +kernel
theorem dX4_init_184 : decode cX4_init 184 = .ok (.putfield 60, 3) := by decide +kernel
theorem dX4_init_187 : decode cX4_init 187 = .ok (.return_, 1) := by decide +kernel
theorem dX4_thrown_0 : decode cX4_thrown 0 = .ok (.aload_n 0, 1) := by decide +kernel
theorem dX4_thrown_1 : decode cX4_thrown 1 = .ok (.getfield 63, 3) := by decide +kernel
theorem dX4_thrown_4 : decode cX4_thrown 4 = .ok (.ireturn, 1) := by decide +kernel
theorem dX4_fails_0 : decode cX4_fails 0 = .ok (.aload_n 0, 1) := by decide +kernel
theorem dX4_fails_1 : decode cX4_fails 1 = .ok (.iload_n 1, 1) := by decide +kernel
theorem dX4_fails_2 : decode cX4_fails 2 = .ok (.ifCond .eq 7, 3) := by decide +kernel
theorem dX4_fails_5 : decode cX4_fails 5 = .ok (.iconst 1, 1) := by decide +kernel
theorem dX4_fails_6 : decode cX4_fails 6 = .ok (.goto 4, 3) := by decide +kernel
theorem dX4_fails_9 : decode cX4_fails 9 = .ok (.iconst 0, 1) := by decide +kernel
theorem dX4_fails_10 : decode cX4_fails 10 = .ok (.putfield 63, 3) := by decide +kernel
theorem dX4_fails_13 : decode cX4_fails 13 = .ok (.iload_n 1, 1) := by decide +kernel
theorem dX4_fails_14 : decode cX4_fails 14 = .ok (.ireturn, 1) := by decide +kernel
theorem dX4_isLamp_0 : decode cX4_isLamp 0 = .ok (.iload_n 1, 1) := by decide +kernel
theorem dX4_isLamp_1 : decode cX4_isLamp 1 = .ok (.ifCond .lt 15, 3) := by decide +kernel
theorem dX4_isLamp_4 : decode cX4_isLamp 4 = .ok (.iload_n 1, 1) := by decide +kernel
theorem dX4_isLamp_5 : decode cX4_isLamp 5 = .ok (.aload_n 0, 1) := by decide +kernel
theorem dX4_isLamp_6 : decode cX4_isLamp 6 = .ok (.getfield 56, 3) := by decide +kernel
theorem dX4_isLamp_9 : decode cX4_isLamp 9 = .ok (.if_icmp .ge 7, 3) := by decide +kernel
theorem dX4_isLamp_12 : decode cX4_isLamp 12 = .ok (.iconst 1, 1) := by decide +kernel
theorem dX4_isLamp_13 : decode cX4_isLamp 13 = .ok (.goto 4, 3) := by decide +kernel
theorem dX4_isLamp_16 : decode cX4_isLamp 16 = .ok (.iconst 0, 1) := by decide +kernel
theorem dX4_isLamp_17 : decode cX4_isLamp 17 = .ok (.ireturn, 1) := by decide +kernel
theorem dX4_isState_0 : decode cX4_isState 0 = .ok (.iload_n 1, 1) := by decide +kernel
theorem dX4_isState_1 : decode cX4_isState 1 = .ok (.ifCond .lt 15, 3) := by decide +kernel
theorem dX4_isState_4 : decode cX4_isState 4 = .ok (.iload_n 1, 1) := by decide +kernel
theorem dX4_isState_5 : decode cX4_isState 5 = .ok (.aload_n 0, 1) := by decide +kernel
theorem dX4_isState_6 : decode cX4_isState 6 = .ok (.getfield 60, 3) := by decide +kernel
theorem dX4_isState_9 : decode cX4_isState 9 = .ok (.if_icmp .ge 7, 3) := by decide +kernel
theorem dX4_isState_12 : decode cX4_isState 12 = .ok (.iconst 1, 1) := by decide +kernel
theorem dX4_isState_13 : decode cX4_isState 13 = .ok (.goto 4, 3) := by decide +kernel
theorem dX4_isState_16 : decode cX4_isState 16 = .ok (.iconst 0, 1) := by decide +kernel
theorem dX4_isState_17 : decode cX4_isState 17 = .ok (.ireturn, 1) := by decide +kernel
theorem dX4_join_0 : decode cX4_join 0 = .ok (.aload_n 0, 1) := by decide +kernel
theorem dX4_join_1 : decode cX4_join 1 = .ok (.aload_n 0, 1) := by decide +kernel
theorem dX4_join_2 : decode cX4_join 2 = .ok (.iload_n 1, 1) := by decide +kernel
theorem dX4_join_3 : decode cX4_join 3 = .ok (.invokevirtual 66, 3) := by decide +kernel
theorem dX4_join_6 : decode cX4_join 6 = .ok (.ifCond .eq 11, 3) := by decide +kernel
theorem dX4_join_9 : decode cX4_join 9 = .ok (.aload_n 0, 1) := by decide +kernel
theorem dX4_join_10 : decode cX4_join 10 = .ok (.iload_n 2, 1) := by decide +kernel
theorem dX4_join_11 : decode cX4_join 11 = .ok (.invokevirtual 66, 3) := by decide +kernel
theorem dX4_join_14 : decode cX4_join 14 = .ok (.ifCond .ne 7, 3) := by decide +kernel
theorem dX4_join_17 : decode cX4_join 17 = .ok (.iconst 1, 1) := by decide +kernel
theorem dX4_join_18 : decode cX4_join 18 = .ok (.goto 4, 3) := by decide +kernel
theorem dX4_join_21 : decode cX4_join 21 = .ok (.iconst 0, 1) := by decide +kernel
theorem dX4_join_22 : decode cX4_join 22 = .ok (.invokevirtual 70, 3) := by decide +kernel
theorem dX4_join_25 : decode cX4_join 25 = .ok (.ifCond .ne 22, 3) := by decide +kernel
theorem dX4_join_28 : decode cX4_join 28 = .ok (.iload_n 1, 1) := by decide +kernel
theorem dX4_join_29 : decode cX4_join 29 = .ok (.iload_n 2, 1) := by decide +kernel
theorem dX4_join_30 : decode cX4_join 30 = .ok (.if_icmp .eq 17, 3) := by decide +kernel
theorem dX4_join_33 : decode cX4_join 33 = .ok (.aload_n 0, 1) := by decide +kernel
theorem dX4_join_34 : decode cX4_join 34 = .ok (.getfield 7, 3) := by decide +kernel
theorem dX4_join_37 : decode cX4_join 37 = .ok (.bipush 30, 2) := by decide +kernel
theorem dX4_join_39 : decode cX4_join 39 = .ok (.iload_n 1, 1) := by decide +kernel
theorem dX4_join_40 : decode cX4_join 40 = .ok (.imul, 1) := by decide +kernel
theorem dX4_join_41 : decode cX4_join 41 = .ok (.iload_n 2, 1) := by decide +kernel
theorem dX4_join_42 : decode cX4_join 42 = .ok (.iadd, 1) := by decide +kernel
theorem dX4_join_43 : decode cX4_join 43 = .ok (.baload, 1) := by decide +kernel
theorem dX4_join_44 : decode cX4_join 44 = .ok (.ifCond .eq 5, 3) := by decide +kernel
theorem dX4_join_47 : decode cX4_join 47 = .ok (.iconst 0, 1) := by decide +kernel
theorem dX4_join_48 : decode cX4_join 48 = .ok (.ireturn, 1) := by decide +kernel
theorem dX4_join_49 : decode cX4_join 49 = .ok (.aload_n 0, 1) := by decide +kernel
theorem dX4_join_50 : decode cX4_join 50 = .ok (.getfield 7, 3) := by decide +kernel
theorem dX4_join_53 : decode cX4_join 53 = .ok (.bipush 30, 2) := by decide +kernel
theorem dX4_join_55 : decode cX4_join 55 = .ok (.iload_n 1, 1) := by decide +kernel
theorem dX4_join_56 : decode cX4_join 56 = .ok (.imul, 1) := by decide +kernel
theorem dX4_join_57 : decode cX4_join 57 = .ok (.iload_n 2, 1) := by decide +kernel
theorem dX4_join_58 : decode cX4_join 58 = .ok (.iadd, 1) := by decide +kernel
theorem dX4_join_59 : decode cX4_join 59 = .ok (.iconst 1, 1) := by decide +kernel
theorem dX4_join_60 : decode cX4_join 60 = .ok (.bastore, 1) := by decide +kernel
theorem dX4_join_61 : decode cX4_join 61 = .ok (.aload_n 0, 1) := by decide +kernel
theorem dX4_join_62 : decode cX4_join 62 = .ok (.getfield 7, 3) := by decide +kernel
theorem dX4_join_65 : decode cX4_join 65 = .ok (.bipush 30, 2) := by decide +kernel
theorem dX4_join_67 : decode cX4_join 67 = .ok (.iload_n 2, 1) := by decide +kernel
theorem dX4_join_68 : decode cX4_join 68 = .ok (.imul, 1) := by decide +kernel
theorem dX4_join_69 : decode cX4_join 69 = .ok (.iload_n 1, 1) := by decide +kernel
theorem dX4_join_70 : decode cX4_join 70 = .ok (.iadd, 1) := by decide +kernel
theorem dX4_join_71 : decode cX4_join 71 = .ok (.iconst 1, 1) := by decide +kernel
theorem dX4_join_72 : decode cX4_join 72 = .ok (.bastore, 1) := by decide +kernel
theorem dX4_join_73 : decode cX4_join 73 = .ok (.aload_n 0, 1) := by decide +kernel
theorem dX4_join_74 : decode cX4_join 74 = .ok (.iconst 0, 1) := by decide +kernel
theorem dX4_join_75 : decode cX4_join 75 = .ok (.putfield 74, 3) := by decide +kernel
theorem dX4_join_78 : decode cX4_join 78 = .ok (.iconst 1, 1) := by decide +kernel
theorem dX4_join_79 : decode cX4_join 79 = .ok (.ireturn, 1) := by decide +kernel
theorem dX4_self_0 : decode cX4_self 0 = .ok (.aload_n 0, 1) := by decide +kernel
theorem dX4_self_1 : decode cX4_self 1 = .ok (.aload_n 0, 1) := by decide +kernel
theorem dX4_self_2 : decode cX4_self 2 = .ok (.iload_n 1, 1) := by decide +kernel
theorem dX4_self_3 : decode cX4_self 3 = .ok (.invokevirtual 66, 3) := by decide +kernel
theorem dX4_self_6 : decode cX4_self 6 = .ok (.ifCond .ne 7, 3) := by decide +kernel
theorem dX4_self_9 : decode cX4_self 9 = .ok (.iconst 1, 1) := by decide +kernel
theorem dX4_self_10 : decode cX4_self 10 = .ok (.goto 4, 3) := by decide +kernel
theorem dX4_self_13 : decode cX4_self 13 = .ok (.iconst 0, 1) := by decide +kernel
theorem dX4_self_14 : decode cX4_self 14 = .ok (.invokevirtual 70, 3) := by decide +kernel
theorem dX4_self_17 : decode cX4_self 17 = .ok (.ifCond .ne 13, 3) := by decide +kernel
theorem dX4_self_20 : decode cX4_self 20 = .ok (.aload_n 0, 1) := by decide +kernel
theorem dX4_self_21 : decode cX4_self 21 = .ok (.getfield 13, 3) := by decide +kernel
theorem dX4_self_24 : decode cX4_self 24 = .ok (.iload_n 1, 1) := by decide +kernel
theorem dX4_self_25 : decode cX4_self 25 = .ok (.baload, 1) := by decide +kernel
theorem dX4_self_26 : decode cX4_self 26 = .ok (.iload_n 2, 1) := by decide +kernel
theorem dX4_self_27 : decode cX4_self 27 = .ok (.if_icmp .eq 5, 3) := by decide +kernel
theorem dX4_self_30 : decode cX4_self 30 = .ok (.iconst 0, 1) := by decide +kernel
theorem dX4_self_31 : decode cX4_self 31 = .ok (.ireturn, 1) := by decide +kernel
theorem dX4_self_32 : decode cX4_self 32 = .ok (.aload_n 0, 1) := by decide +kernel
theorem dX4_self_33 : decode cX4_self 33 = .ok (.getfield 13, 3) := by decide +kernel
theorem dX4_self_36 : decode cX4_self 36 = .ok (.iload_n 1, 1) := by decide +kernel
theorem dX4_self_37 : decode cX4_self 37 = .ok (.iload_n 2, 1) := by decide +kernel
theorem dX4_self_38 : decode cX4_self 38 = .ok (.ifCond .ne 7, 3) := by decide +kernel
theorem dX4_self_41 : decode cX4_self 41 = .ok (.iconst 1, 1) := by decide +kernel
theorem dX4_self_42 : decode cX4_self 42 = .ok (.goto 4, 3) := by decide +kernel
theorem dX4_self_45 : decode cX4_self 45 = .ok (.iconst 0, 1) := by decide +kernel
theorem dX4_self_46 : decode cX4_self 46 = .ok (.bastore, 1) := by decide +kernel
theorem dX4_self_47 : decode cX4_self 47 = .ok (.aload_n 0, 1) := by decide +kernel
theorem dX4_self_48 : decode cX4_self 48 = .ok (.iconst 0, 1) := by decide +kernel
theorem dX4_self_49 : decode cX4_self 49 = .ok (.putfield 74, 3) := by decide +kernel
theorem dX4_self_52 : decode cX4_self 52 = .ok (.iconst 1, 1) := by decide +kernel
theorem dX4_self_53 : decode cX4_self 53 = .ok (.ireturn, 1) := by decide +kernel
theorem dX4_set_0 : decode cX4_set 0 = .ok (.aload_n 0, 1) := by decide +kernel
theorem dX4_set_1 : decode cX4_set 1 = .ok (.aload_n 0, 1) := by decide +kernel
theorem dX4_set_2 : decode cX4_set 2 = .ok (.iload_n 1, 1) := by decide +kernel
theorem dX4_set_3 : decode cX4_set 3 = .ok (.invokevirtual 66, 3) := by decide +kernel
theorem dX4_set_6 : decode cX4_set 6 = .ok (.ifCond .ne 7, 3) := by decide +kernel
theorem dX4_set_9 : decode cX4_set 9 = .ok (.iconst 1, 1) := by decide +kernel
theorem dX4_set_10 : decode cX4_set 10 = .ok (.goto 4, 3) := by decide +kernel
theorem dX4_set_13 : decode cX4_set 13 = .ok (.iconst 0, 1) := by decide +kernel
theorem dX4_set_14 : decode cX4_set 14 = .ok (.invokevirtual 70, 3) := by decide +kernel
theorem dX4_set_17 : decode cX4_set 17 = .ok (.ifCond .ne 11, 3) := by decide +kernel
theorem dX4_set_20 : decode cX4_set 20 = .ok (.aload_n 0, 1) := by decide +kernel
theorem dX4_set_21 : decode cX4_set 21 = .ok (.iload_n 2, 1) := by decide +kernel
theorem dX4_set_22 : decode cX4_set 22 = .ok (.invokevirtual 78, 3) := by decide +kernel
theorem dX4_set_25 : decode cX4_set 25 = .ok (.ifCond .ne 5, 3) := by decide +kernel
theorem dX4_set_28 : decode cX4_set 28 = .ok (.iconst 0, 1) := by decide +kernel
theorem dX4_set_29 : decode cX4_set 29 = .ok (.ireturn, 1) := by decide +kernel
theorem dX4_set_30 : decode cX4_set 30 = .ok (.aload_n 0, 1) := by decide +kernel
theorem dX4_set_31 : decode cX4_set 31 = .ok (.getfield 16, 3) := by decide +kernel
theorem dX4_set_34 : decode cX4_set 34 = .ok (.iload_n 1, 1) := by decide +kernel
theorem dX4_set_35 : decode cX4_set 35 = .ok (.iload_n 2, 1) := by decide +kernel
theorem dX4_set_36 : decode cX4_set 36 = .ok (.iastore, 1) := by decide +kernel
theorem dX4_set_37 : decode cX4_set 37 = .ok (.iconst 1, 1) := by decide +kernel
theorem dX4_set_38 : decode cX4_set 38 = .ok (.ireturn, 1) := by decide +kernel
theorem dX4_want_0 : decode cX4_want 0 = .ok (.aload_n 0, 1) := by decide +kernel
theorem dX4_want_1 : decode cX4_want 1 = .ok (.aload_n 0, 1) := by decide +kernel
theorem dX4_want_2 : decode cX4_want 2 = .ok (.iload_n 1, 1) := by decide +kernel
theorem dX4_want_3 : decode cX4_want 3 = .ok (.invokevirtual 66, 3) := by decide +kernel
theorem dX4_want_6 : decode cX4_want 6 = .ok (.ifCond .ne 7, 3) := by decide +kernel
theorem dX4_want_9 : decode cX4_want 9 = .ok (.iconst 1, 1) := by decide +kernel
theorem dX4_want_10 : decode cX4_want 10 = .ok (.goto 4, 3) := by decide +kernel
theorem dX4_want_13 : decode cX4_want 13 = .ok (.iconst 0, 1) := by decide +kernel
theorem dX4_want_14 : decode cX4_want 14 = .ok (.invokevirtual 70, 3) := by decide +kernel
theorem dX4_want_17 : decode cX4_want 17 = .ok (.ifCond .ne 11, 3) := by decide +kernel
theorem dX4_want_20 : decode cX4_want 20 = .ok (.aload_n 0, 1) := by decide +kernel
theorem dX4_want_21 : decode cX4_want 21 = .ok (.iload_n 2, 1) := by decide +kernel
theorem dX4_want_22 : decode cX4_want 22 = .ok (.invokevirtual 78, 3) := by decide +kernel
theorem dX4_want_25 : decode cX4_want 25 = .ok (.ifCond .ne 5, 3) := by decide +kernel
theorem dX4_want_28 : decode cX4_want 28 = .ok (.iconst 0, 1) := by decide +kernel
theorem dX4_want_29 : decode cX4_want 29 = .ok (.ireturn, 1) := by decide +kernel
theorem dX4_want_30 : decode cX4_want 30 = .ok (.aload_n 0, 1) := by decide +kernel
theorem dX4_want_31 : decode cX4_want 31 = .ok (.getfield 20, 3) := by decide +kernel
theorem dX4_want_34 : decode cX4_want 34 = .ok (.iload_n 1, 1) := by decide +kernel
theorem dX4_want_35 : decode cX4_want 35 = .ok (.iload_n 2, 1) := by decide +kernel
theorem dX4_want_36 : decode cX4_want 36 = .ok (.iastore, 1) := by decide +kernel
theorem dX4_want_37 : decode cX4_want 37 = .ok (.iconst 1, 1) := by decide +kernel
theorem dX4_want_38 : decode cX4_want 38 = .ok (.ireturn, 1) := by decide +kernel
theorem dX4_effect_0 : decode cX4_effect 0 = .ok (.iload_n 1, 1) := by decide +kernel
theorem dX4_effect_1 : decode cX4_effect 1 = .ok (.iload_n 2, 1) := by decide +kernel
theorem dX4_effect_2 : decode cX4_effect 2 = .ok (.if_icmp .ne 20, 3) := by decide +kernel
theorem dX4_effect_5 : decode cX4_effect 5 = .ok (.aload_n 0, 1) := by decide +kernel
theorem dX4_effect_6 : decode cX4_effect 6 = .ok (.getfield 13, 3) := by decide +kernel
theorem dX4_effect_9 : decode cX4_effect 9 = .ok (.iload_n 1, 1) := by decide +kernel
theorem dX4_effect_10 : decode cX4_effect 10 = .ok (.baload, 1) := by decide +kernel
theorem dX4_effect_11 : decode cX4_effect 11 = .ok (.ifCond .eq 7, 3) := by decide +kernel
theorem dX4_effect_14 : decode cX4_effect 14 = .ok (.iconst 0, 1) := by decide +kernel
theorem dX4_effect_15 : decode cX4_effect 15 = .ok (.goto 26, 3) := by decide +kernel
theorem dX4_effect_18 : decode cX4_effect 18 = .ok (.iconst 1, 1) := by decide +kernel
theorem dX4_effect_19 : decode cX4_effect 19 = .ok (.goto 22, 3) := by decide +kernel
theorem dX4_effect_22 : decode cX4_effect 22 = .ok (.aload_n 0, 1) := by decide +kernel
theorem dX4_effect_23 : decode cX4_effect 23 = .ok (.getfield 7, 3) := by decide +kernel
theorem dX4_effect_26 : decode cX4_effect 26 = .ok (.bipush 30, 2) := by decide +kernel
theorem dX4_effect_28 : decode cX4_effect 28 = .ok (.iload_n 1, 1) := by decide +kernel
theorem dX4_effect_29 : decode cX4_effect 29 = .ok (.imul, 1) := by decide +kernel
theorem dX4_effect_30 : decode cX4_effect 30 = .ok (.iload_n 2, 1) := by decide +kernel
theorem dX4_effect_31 : decode cX4_effect 31 = .ok (.iadd, 1) := by decide +kernel
theorem dX4_effect_32 : decode cX4_effect 32 = .ok (.baload, 1) := by decide +kernel
theorem dX4_effect_33 : decode cX4_effect 33 = .ok (.ifCond .eq 7, 3) := by decide +kernel
theorem dX4_effect_36 : decode cX4_effect 36 = .ok (.iconst 1, 1) := by decide +kernel
theorem dX4_effect_37 : decode cX4_effect 37 = .ok (.goto 4, 3) := by decide +kernel
theorem dX4_effect_40 : decode cX4_effect 40 = .ok (.iconst 0, 1) := by decide +kernel
theorem dX4_effect_41 : decode cX4_effect 41 = .ok (.ireturn, 1) := by decide +kernel
theorem dX4_press_0 : decode cX4_press 0 = .ok (.aload_n 0, 1) := by decide +kernel
theorem dX4_press_1 : decode cX4_press 1 = .ok (.aload_n 0, 1) := by decide +kernel
theorem dX4_press_2 : decode cX4_press 2 = .ok (.iload_n 1, 1) := by decide +kernel
theorem dX4_press_3 : decode cX4_press 3 = .ok (.invokevirtual 66, 3) := by decide +kernel
theorem dX4_press_6 : decode cX4_press 6 = .ok (.ifCond .ne 7, 3) := by decide +kernel
theorem dX4_press_9 : decode cX4_press 9 = .ok (.iconst 1, 1) := by decide +kernel
theorem dX4_press_10 : decode cX4_press 10 = .ok (.goto 4, 3) := by decide +kernel
theorem dX4_press_13 : decode cX4_press 13 = .ok (.iconst 0, 1) := by decide +kernel
theorem dX4_press_14 : decode cX4_press 14 = .ok (.invokevirtual 70, 3) := by decide +kernel
theorem dX4_press_17 : decode cX4_press 17 = .ok (.ifCond .ne 14, 3) := by decide +kernel
theorem dX4_press_20 : decode cX4_press 20 = .ok (.iload_n 2, 1) := by decide +kernel
theorem dX4_press_21 : decode cX4_press 21 = .ok (.ifCond .lt 10, 3) := by decide +kernel
theorem dX4_press_24 : decode cX4_press 24 = .ok (.iload_n 2, 1) := by decide +kernel
theorem dX4_press_25 : decode cX4_press 25 = .ok (.sipush 1000, 3) := by decide +kernel
theorem dX4_press_28 : decode cX4_press 28 = .ok (.if_icmp .le 5, 3) := by decide +kernel
theorem dX4_press_31 : decode cX4_press 31 = .ok (.iconst 0, 1) := by decide +kernel
theorem dX4_press_32 : decode cX4_press 32 = .ok (.ireturn, 1) := by decide +kernel
theorem dX4_press_33 : decode cX4_press 33 = .ok (.iconst 0, 1) := by decide +kernel
theorem dX4_press_34 : decode cX4_press 34 = .ok (.istore_n 3, 1) := by decide +kernel
theorem dX4_press_35 : decode cX4_press 35 = .ok (.iload_n 3, 1) := by decide +kernel
theorem dX4_press_36 : decode cX4_press 36 = .ok (.aload_n 0, 1) := by decide +kernel
theorem dX4_press_37 : decode cX4_press 37 = .ok (.getfield 56, 3) := by decide +kernel
theorem dX4_press_40 : decode cX4_press 40 = .ok (.if_icmp .ge 35, 3) := by decide +kernel
theorem dX4_press_43 : decode cX4_press 43 = .ok (.aload_n 0, 1) := by decide +kernel
theorem dX4_press_44 : decode cX4_press 44 = .ok (.getfield 16, 3) := by decide +kernel
theorem dX4_press_47 : decode cX4_press 47 = .ok (.iload_n 3, 1) := by decide +kernel
theorem dX4_press_48 : decode cX4_press 48 = .ok (.aload_n 0, 1) := by decide +kernel
theorem dX4_press_49 : decode cX4_press 49 = .ok (.getfield 16, 3) := by decide +kernel
theorem dX4_press_52 : decode cX4_press 52 = .ok (.iload_n 3, 1) := by decide +kernel
theorem dX4_press_53 : decode cX4_press 53 = .ok (.iaload, 1) := by decide +kernel
theorem dX4_press_54 : decode cX4_press 54 = .ok (.iload_n 2, 1) := by decide +kernel
theorem dX4_press_55 : decode cX4_press 55 = .ok (.aload_n 0, 1) := by decide +kernel
theorem dX4_press_56 : decode cX4_press 56 = .ok (.iload_n 1, 1) := by decide +kernel
theorem dX4_press_57 : decode cX4_press 57 = .ok (.iload_n 3, 1) := by decide +kernel
theorem dX4_press_58 : decode cX4_press 58 = .ok (.invokevirtual 81, 3) := by decide +kernel
theorem dX4_press_61 : decode cX4_press 61 = .ok (.imul, 1) := by decide +kernel
theorem dX4_press_62 : decode cX4_press 62 = .ok (.iadd, 1) := by decide +kernel
theorem dX4_press_63 : decode cX4_press 63 = .ok (.aload_n 0, 1) := by decide +kernel
theorem dX4_press_64 : decode cX4_press 64 = .ok (.getfield 60, 3) := by decide +kernel
theorem dX4_press_67 : decode cX4_press 67 = .ok (.irem, 1) := by decide +kernel
theorem dX4_press_68 : decode cX4_press 68 = .ok (.iastore, 1) := by decide +kernel
theorem dX4_press_69 : decode cX4_press 69 = .ok (.iinc 3 1, 3) := by decide +kernel
theorem dX4_press_72 : decode cX4_press 72 = .ok (.goto (-37), 3) := by decide +kernel
theorem dX4_press_75 : decode cX4_press 75 = .ok (.iconst 1, 1) := by decide +kernel
theorem dX4_press_76 : decode cX4_press 76 = .ok (.ireturn, 1) := by decide +kernel
theorem dX4_at_0 : decode cX4_at 0 = .ok (.aload_n 0, 1) := by decide +kernel
theorem dX4_at_1 : decode cX4_at 1 = .ok (.aload_n 0, 1) := by decide +kernel
theorem dX4_at_2 : decode cX4_at 2 = .ok (.iload_n 1, 1) := by decide +kernel
theorem dX4_at_3 : decode cX4_at 3 = .ok (.invokevirtual 66, 3) := by decide +kernel
theorem dX4_at_6 : decode cX4_at 6 = .ok (.ifCond .ne 7, 3) := by decide +kernel
theorem dX4_at_9 : decode cX4_at 9 = .ok (.iconst 1, 1) := by decide +kernel
theorem dX4_at_10 : decode cX4_at 10 = .ok (.goto 4, 3) := by decide +kernel
theorem dX4_at_13 : decode cX4_at 13 = .ok (.iconst 0, 1) := by decide +kernel
theorem dX4_at_14 : decode cX4_at 14 = .ok (.invokevirtual 70, 3) := by decide +kernel
theorem dX4_at_17 : decode cX4_at 17 = .ok (.ifCond .eq 7, 3) := by decide +kernel
theorem dX4_at_20 : decode cX4_at 20 = .ok (.iconst 0, 1) := by decide +kernel
theorem dX4_at_21 : decode cX4_at 21 = .ok (.goto 9, 3) := by decide +kernel
theorem dX4_at_24 : decode cX4_at 24 = .ok (.aload_n 0, 1) := by decide +kernel
theorem dX4_at_25 : decode cX4_at 25 = .ok (.getfield 16, 3) := by decide +kernel
theorem dX4_at_28 : decode cX4_at 28 = .ok (.iload_n 1, 1) := by decide +kernel
theorem dX4_at_29 : decode cX4_at 29 = .ok (.iaload, 1) := by decide +kernel
theorem dX4_at_30 : decode cX4_at 30 = .ok (.ireturn, 1) := by decide +kernel
theorem dX4_apart_0 : decode cX4_apart 0 = .ok (.aload_n 0, 1) := by decide +kernel
theorem dX4_apart_1 : decode cX4_apart 1 = .ok (.iconst 0, 1) := by decide +kernel
theorem dX4_apart_2 : decode cX4_apart 2 = .ok (.putfield 63, 3) := by decide +kernel
theorem dX4_apart_5 : decode cX4_apart 5 = .ok (.iconst 0, 1) := by decide +kernel
theorem dX4_apart_6 : decode cX4_apart 6 = .ok (.istore_n 1, 1) := by decide +kernel
theorem dX4_apart_7 : decode cX4_apart 7 = .ok (.iconst 0, 1) := by decide +kernel
theorem dX4_apart_8 : decode cX4_apart 8 = .ok (.istore_n 2, 1) := by decide +kernel
theorem dX4_apart_9 : decode cX4_apart 9 = .ok (.iload_n 2, 1) := by decide +kernel
theorem dX4_apart_10 : decode cX4_apart 10 = .ok (.aload_n 0, 1) := by decide +kernel
theorem dX4_apart_11 : decode cX4_apart 11 = .ok (.getfield 56, 3) := by decide +kernel
theorem dX4_apart_14 : decode cX4_apart 14 = .ok (.if_icmp .ge 32, 3) := by decide +kernel
theorem dX4_apart_17 : decode cX4_apart 17 = .ok (.iload_n 1, 1) := by decide +kernel
theorem dX4_apart_18 : decode cX4_apart 18 = .ok (.aload_n 0, 1) := by decide +kernel
theorem dX4_apart_19 : decode cX4_apart 19 = .ok (.getfield 16, 3) := by decide +kernel
theorem dX4_apart_22 : decode cX4_apart 22 = .ok (.iload_n 2, 1) := by decide +kernel
theorem dX4_apart_23 : decode cX4_apart 23 = .ok (.iaload, 1) := by decide +kernel
theorem dX4_apart_24 : decode cX4_apart 24 = .ok (.aload_n 0, 1) := by decide +kernel
theorem dX4_apart_25 : decode cX4_apart 25 = .ok (.getfield 20, 3) := by decide +kernel
theorem dX4_apart_28 : decode cX4_apart 28 = .ok (.iload_n 2, 1) := by decide +kernel
theorem dX4_apart_29 : decode cX4_apart 29 = .ok (.iaload, 1) := by decide +kernel
theorem dX4_apart_30 : decode cX4_apart 30 = .ok (.if_icmp .ne 7, 3) := by decide +kernel
theorem dX4_apart_33 : decode cX4_apart 33 = .ok (.iconst 0, 1) := by decide +kernel
theorem dX4_apart_34 : decode cX4_apart 34 = .ok (.goto 4, 3) := by decide +kernel
theorem dX4_apart_37 : decode cX4_apart 37 = .ok (.iconst 1, 1) := by decide +kernel
theorem dX4_apart_38 : decode cX4_apart 38 = .ok (.iadd, 1) := by decide +kernel
theorem dX4_apart_39 : decode cX4_apart 39 = .ok (.istore_n 1, 1) := by decide +kernel
theorem dX4_apart_40 : decode cX4_apart 40 = .ok (.iinc 2 1, 3) := by decide +kernel
theorem dX4_apart_43 : decode cX4_apart 43 = .ok (.goto (-34), 3) := by decide +kernel
theorem dX4_apart_46 : decode cX4_apart 46 = .ok (.iload_n 1, 1) := by decide +kernel
theorem dX4_apart_47 : decode cX4_apart 47 = .ok (.ireturn, 1) := by decide +kernel
theorem dX4_clear_0 : decode cX4_clear 0 = .ok (.aload_n 0, 1) := by decide +kernel
theorem dX4_clear_1 : decode cX4_clear 1 = .ok (.iconst 0, 1) := by decide +kernel
theorem dX4_clear_2 : decode cX4_clear 2 = .ok (.putfield 63, 3) := by decide +kernel
theorem dX4_clear_5 : decode cX4_clear 5 = .ok (.iconst 0, 1) := by decide +kernel
theorem dX4_clear_6 : decode cX4_clear 6 = .ok (.istore_n 1, 1) := by decide +kernel
theorem dX4_clear_7 : decode cX4_clear 7 = .ok (.iload_n 1, 1) := by decide +kernel
theorem dX4_clear_8 : decode cX4_clear 8 = .ok (.aload_n 0, 1) := by decide +kernel
theorem dX4_clear_9 : decode cX4_clear 9 = .ok (.getfield 56, 3) := by decide +kernel
theorem dX4_clear_12 : decode cX4_clear 12 = .ok (.if_icmp .ge 23, 3) := by decide +kernel
theorem dX4_clear_15 : decode cX4_clear 15 = .ok (.aload_n 0, 1) := by decide +kernel
theorem dX4_clear_16 : decode cX4_clear 16 = .ok (.getfield 16, 3) := by decide +kernel
theorem dX4_clear_19 : decode cX4_clear 19 = .ok (.iload_n 1, 1) := by decide +kernel
theorem dX4_clear_20 : decode cX4_clear 20 = .ok (.iconst 0, 1) := by decide +kernel
theorem dX4_clear_21 : decode cX4_clear 21 = .ok (.iastore, 1) := by decide +kernel
theorem dX4_clear_22 : decode cX4_clear 22 = .ok (.aload_n 0, 1) := by decide +kernel
theorem dX4_clear_23 : decode cX4_clear 23 = .ok (.getfield 20, 3) := by decide +kernel
theorem dX4_clear_26 : decode cX4_clear 26 = .ok (.iload_n 1, 1) := by decide +kernel
theorem dX4_clear_27 : decode cX4_clear 27 = .ok (.iconst 0, 1) := by decide +kernel
theorem dX4_clear_28 : decode cX4_clear 28 = .ok (.iastore, 1) := by decide +kernel
theorem dX4_clear_29 : decode cX4_clear 29 = .ok (.iinc 1 1, 3) := by decide +kernel
theorem dX4_clear_32 : decode cX4_clear 32 = .ok (.goto (-25), 3) := by decide +kernel
theorem dX4_clear_35 : decode cX4_clear 35 = .ok (.return_, 1) := by decide +kernel
theorem dX4_inverse_0 : decode cX4_inverse 0 = .ok (.iconst 1, 1) := by decide +kernel
theorem dX4_inverse_1 : decode cX4_inverse 1 = .ok (.istore_n 2, 1) := by decide +kernel
theorem dX4_inverse_2 : decode cX4_inverse 2 = .ok (.iload_n 1, 1) := by decide +kernel
theorem dX4_inverse_3 : decode cX4_inverse 3 = .ok (.iload_n 2, 1) := by decide +kernel
theorem dX4_inverse_4 : decode cX4_inverse 4 = .ok (.imul, 1) := by decide +kernel
theorem dX4_inverse_5 : decode cX4_inverse 5 = .ok (.aload_n 0, 1) := by decide +kernel
theorem dX4_inverse_6 : decode cX4_inverse 6 = .ok (.getfield 60, 3) := by decide +kernel
theorem dX4_inverse_9 : decode cX4_inverse 9 = .ok (.irem, 1) := by decide +kernel
theorem dX4_inverse_10 : decode cX4_inverse 10 = .ok (.iconst 1, 1) := by decide +kernel
theorem dX4_inverse_11 : decode cX4_inverse 11 = .ok (.if_icmp .eq 9, 3) := by decide +kernel
theorem dX4_inverse_14 : decode cX4_inverse 14 = .ok (.iinc 2 1, 3) := by decide +kernel
theorem dX4_inverse_17 : decode cX4_inverse 17 = .ok (.goto (-15), 3) := by decide +kernel
theorem dX4_inverse_20 : decode cX4_inverse 20 = .ok (.iload_n 2, 1) := by decide +kernel
theorem dX4_inverse_21 : decode cX4_inverse 21 = .ok (.ireturn, 1) := by decide +kernel
theorem dX4_takeApart_0 : decode cX4_takeApart 0 = .ok (.iconst 0, 1) := by decide +kernel
theorem dX4_takeApart_1 : decode cX4_takeApart 1 = .ok (.istore_n 1, 1) := by decide +kernel
theorem dX4_takeApart_2 : decode cX4_takeApart 2 = .ok (.iload_n 1, 1) := by decide +kernel
theorem dX4_takeApart_3 : decode cX4_takeApart 3 = .ok (.aload_n 0, 1) := by decide +kernel
theorem dX4_takeApart_4 : decode cX4_takeApart 4 = .ok (.getfield 56, 3) := by decide +kernel
theorem dX4_takeApart_7 : decode cX4_takeApart 7 = .ok (.if_icmp .ge 16, 3) := by decide +kernel
theorem dX4_takeApart_10 : decode cX4_takeApart 10 = .ok (.aload_n 0, 1) := by decide +kernel
theorem dX4_takeApart_11 : decode cX4_takeApart 11 = .ok (.getfield 38, 3) := by decide +kernel
theorem dX4_takeApart_14 : decode cX4_takeApart 14 = .ok (.iload_n 1, 1) := by decide +kernel
theorem dX4_takeApart_15 : decode cX4_takeApart 15 = .ok (.iconst 0, 1) := by decide +kernel
theorem dX4_takeApart_16 : decode cX4_takeApart 16 = .ok (.iastore, 1) := by decide +kernel
theorem dX4_takeApart_17 : decode cX4_takeApart 17 = .ok (.iinc 1 1, 3) := by decide +kernel
theorem dX4_takeApart_20 : decode cX4_takeApart 20 = .ok (.goto (-18), 3) := by decide +kernel
theorem dX4_takeApart_23 : decode cX4_takeApart 23 = .ok (.iconst 0, 1) := by decide +kernel
theorem dX4_takeApart_24 : decode cX4_takeApart 24 = .ok (.istore_n 1, 1) := by decide +kernel
theorem dX4_takeApart_25 : decode cX4_takeApart 25 = .ok (.iload_n 1, 1) := by decide +kernel
theorem dX4_takeApart_26 : decode cX4_takeApart 26 = .ok (.aload_n 0, 1) := by decide +kernel
theorem dX4_takeApart_27 : decode cX4_takeApart 27 = .ok (.getfield 85, 3) := by decide +kernel
theorem dX4_takeApart_30 : decode cX4_takeApart 30 = .ok (.if_icmp .ge 130, 3) := by decide +kernel
theorem dX4_takeApart_33 : decode cX4_takeApart 33 = .ok (.aload_n 0, 1) := by decide +kernel
theorem dX4_takeApart_34 : decode cX4_takeApart 34 = .ok (.getfield 35, 3) := by decide +kernel
theorem dX4_takeApart_37 : decode cX4_takeApart 37 = .ok (.aload_n 0, 1) := by decide +kernel
theorem dX4_takeApart_38 : decode cX4_takeApart 38 = .ok (.getfield 29, 3) := by decide +kernel
theorem dX4_takeApart_41 : decode cX4_takeApart 41 = .ok (.iload_n 1, 1) := by decide +kernel
theorem dX4_takeApart_42 : decode cX4_takeApart 42 = .ok (.iaload, 1) := by decide +kernel
theorem dX4_takeApart_43 : decode cX4_takeApart 43 = .ok (.iaload, 1) := by decide +kernel
theorem dX4_takeApart_44 : decode cX4_takeApart 44 = .ok (.aload_n 0, 1) := by decide +kernel
theorem dX4_takeApart_45 : decode cX4_takeApart 45 = .ok (.aload_n 0, 1) := by decide +kernel
theorem dX4_takeApart_46 : decode cX4_takeApart 46 = .ok (.getfield 23, 3) := by decide +kernel
theorem dX4_takeApart_49 : decode cX4_takeApart 49 = .ok (.bipush 30, 2) := by decide +kernel
theorem dX4_takeApart_51 : decode cX4_takeApart 51 = .ok (.iload_n 1, 1) := by decide +kernel
theorem dX4_takeApart_52 : decode cX4_takeApart 52 = .ok (.imul, 1) := by decide +kernel
theorem dX4_takeApart_53 : decode cX4_takeApart 53 = .ok (.aload_n 0, 1) := by decide +kernel
theorem dX4_takeApart_54 : decode cX4_takeApart 54 = .ok (.getfield 29, 3) := by decide +kernel
theorem dX4_takeApart_57 : decode cX4_takeApart 57 = .ok (.iload_n 1, 1) := by decide +kernel
theorem dX4_takeApart_58 : decode cX4_takeApart 58 = .ok (.iaload, 1) := by decide +kernel
theorem dX4_takeApart_59 : decode cX4_takeApart 59 = .ok (.iadd, 1) := by decide +kernel
theorem dX4_takeApart_60 : decode cX4_takeApart 60 = .ok (.iaload, 1) := by decide +kernel
theorem dX4_takeApart_61 : decode cX4_takeApart 61 = .ok (.invokevirtual 88, 3) := by decide +kernel
theorem dX4_takeApart_64 : decode cX4_takeApart 64 = .ok (.imul, 1) := by decide +kernel
theorem dX4_takeApart_65 : decode cX4_takeApart 65 = .ok (.aload_n 0, 1) := by decide +kernel
theorem dX4_takeApart_66 : decode cX4_takeApart 66 = .ok (.getfield 60, 3) := by decide +kernel
theorem dX4_takeApart_69 : decode cX4_takeApart 69 = .ok (.irem, 1) := by decide +kernel
theorem dX4_takeApart_70 : decode cX4_takeApart 70 = .ok (.istore_n 2, 1) := by decide +kernel
theorem dX4_takeApart_71 : decode cX4_takeApart 71 = .ok (.iconst 0, 1) := by decide +kernel
theorem dX4_takeApart_72 : decode cX4_takeApart 72 = .ok (.istore_n 3, 1) := by decide +kernel
theorem dX4_takeApart_73 : decode cX4_takeApart 73 = .ok (.iload_n 3, 1) := by decide +kernel
theorem dX4_takeApart_74 : decode cX4_takeApart 74 = .ok (.aload_n 0, 1) := by decide +kernel
theorem dX4_takeApart_75 : decode cX4_takeApart 75 = .ok (.getfield 56, 3) := by decide +kernel
theorem dX4_takeApart_78 : decode cX4_takeApart 78 = .ok (.if_icmp .ge 76, 3) := by decide +kernel
theorem dX4_takeApart_81 : decode cX4_takeApart 81 = .ok (.aload_n 0, 1) := by decide +kernel
theorem dX4_takeApart_82 : decode cX4_takeApart 82 = .ok (.getfield 35, 3) := by decide +kernel
theorem dX4_takeApart_85 : decode cX4_takeApart 85 = .ok (.iload_n 3, 1) := by decide +kernel
theorem dX4_takeApart_86 : decode cX4_takeApart 86 = .ok (.aload_n 0, 1) := by decide +kernel
theorem dX4_takeApart_87 : decode cX4_takeApart 87 = .ok (.getfield 35, 3) := by decide +kernel
theorem dX4_takeApart_90 : decode cX4_takeApart 90 = .ok (.iload_n 3, 1) := by decide +kernel
theorem dX4_takeApart_91 : decode cX4_takeApart 91 = .ok (.iaload, 1) := by decide +kernel
theorem dX4_takeApart_92 : decode cX4_takeApart 92 = .ok (.aload_n 0, 1) := by decide +kernel
theorem dX4_takeApart_93 : decode cX4_takeApart 93 = .ok (.getfield 60, 3) := by decide +kernel
theorem dX4_takeApart_96 : decode cX4_takeApart 96 = .ok (.iload_n 2, 1) := by decide +kernel
theorem dX4_takeApart_97 : decode cX4_takeApart 97 = .ok (.isub, 1) := by decide +kernel
theorem dX4_takeApart_98 : decode cX4_takeApart 98 = .ok (.aload_n 0, 1) := by decide +kernel
theorem dX4_takeApart_99 : decode cX4_takeApart 99 = .ok (.getfield 23, 3) := by decide +kernel
theorem dX4_takeApart_102 : decode cX4_takeApart 102 = .ok (.bipush 30, 2) := by decide +kernel
theorem dX4_takeApart_104 : decode cX4_takeApart 104 = .ok (.iload_n 1, 1) := by decide +kernel
theorem dX4_takeApart_105 : decode cX4_takeApart 105 = .ok (.imul, 1) := by decide +kernel
theorem dX4_takeApart_106 : decode cX4_takeApart 106 = .ok (.iload_n 3, 1) := by decide +kernel
theorem dX4_takeApart_107 : decode cX4_takeApart 107 = .ok (.iadd, 1) := by decide +kernel
theorem dX4_takeApart_108 : decode cX4_takeApart 108 = .ok (.iaload, 1) := by decide +kernel
theorem dX4_takeApart_109 : decode cX4_takeApart 109 = .ok (.imul, 1) := by decide +kernel
theorem dX4_takeApart_110 : decode cX4_takeApart 110 = .ok (.iadd, 1) := by decide +kernel
theorem dX4_takeApart_111 : decode cX4_takeApart 111 = .ok (.aload_n 0, 1) := by decide +kernel
theorem dX4_takeApart_112 : decode cX4_takeApart 112 = .ok (.getfield 60, 3) := by decide +kernel
theorem dX4_takeApart_115 : decode cX4_takeApart 115 = .ok (.irem, 1) := by decide +kernel
theorem dX4_takeApart_116 : decode cX4_takeApart 116 = .ok (.iastore, 1) := by decide +kernel
theorem dX4_takeApart_117 : decode cX4_takeApart 117 = .ok (.aload_n 0, 1) := by decide +kernel
theorem dX4_takeApart_118 : decode cX4_takeApart 118 = .ok (.getfield 38, 3) := by decide +kernel
theorem dX4_takeApart_121 : decode cX4_takeApart 121 = .ok (.iload_n 3, 1) := by decide +kernel
theorem dX4_takeApart_122 : decode cX4_takeApart 122 = .ok (.aload_n 0, 1) := by decide +kernel
theorem dX4_takeApart_123 : decode cX4_takeApart 123 = .ok (.getfield 38, 3) := by decide +kernel
theorem dX4_takeApart_126 : decode cX4_takeApart 126 = .ok (.iload_n 3, 1) := by decide +kernel
theorem dX4_takeApart_127 : decode cX4_takeApart 127 = .ok (.iaload, 1) := by decide +kernel
theorem dX4_takeApart_128 : decode cX4_takeApart 128 = .ok (.iload_n 2, 1) := by decide +kernel
theorem dX4_takeApart_129 : decode cX4_takeApart 129 = .ok (.aload_n 0, 1) := by decide +kernel
theorem dX4_takeApart_130 : decode cX4_takeApart 130 = .ok (.getfield 26, 3) := by decide +kernel
theorem dX4_takeApart_133 : decode cX4_takeApart 133 = .ok (.bipush 30, 2) := by decide +kernel
theorem dX4_takeApart_135 : decode cX4_takeApart 135 = .ok (.iload_n 1, 1) := by decide +kernel
theorem dX4_takeApart_136 : decode cX4_takeApart 136 = .ok (.imul, 1) := by decide +kernel
theorem dX4_takeApart_137 : decode cX4_takeApart 137 = .ok (.iload_n 3, 1) := by decide +kernel
theorem dX4_takeApart_138 : decode cX4_takeApart 138 = .ok (.iadd, 1) := by decide +kernel
theorem dX4_takeApart_139 : decode cX4_takeApart 139 = .ok (.iaload, 1) := by decide +kernel
theorem dX4_takeApart_140 : decode cX4_takeApart 140 = .ok (.imul, 1) := by decide +kernel
theorem dX4_takeApart_141 : decode cX4_takeApart 141 = .ok (.iadd, 1) := by decide +kernel
theorem dX4_takeApart_142 : decode cX4_takeApart 142 = .ok (.aload_n 0, 1) := by decide +kernel
theorem dX4_takeApart_143 : decode cX4_takeApart 143 = .ok (.getfield 60, 3) := by decide +kernel
theorem dX4_takeApart_146 : decode cX4_takeApart 146 = .ok (.irem, 1) := by decide +kernel
theorem dX4_takeApart_147 : decode cX4_takeApart 147 = .ok (.iastore, 1) := by decide +kernel
theorem dX4_takeApart_148 : decode cX4_takeApart 148 = .ok (.iinc 3 1, 3) := by decide +kernel
theorem dX4_takeApart_151 : decode cX4_takeApart 151 = .ok (.goto (-78), 3) := by decide +kernel
theorem dX4_takeApart_154 : decode cX4_takeApart 154 = .ok (.iinc 1 1, 3) := by decide +kernel
theorem dX4_takeApart_157 : decode cX4_takeApart 157 = .ok (.goto (-132), 3) := by decide +kernel
theorem dX4_takeApart_160 : decode cX4_takeApart 160 = .ok (.return_, 1) := by decide +kernel
theorem dX4_left_0 : decode cX4_left 0 = .ok (.iconst 0, 1) := by decide +kernel
theorem dX4_left_1 : decode cX4_left 1 = .ok (.istore_n 1, 1) := by decide +kernel
theorem dX4_left_2 : decode cX4_left 2 = .ok (.iload_n 1, 1) := by decide +kernel
theorem dX4_left_3 : decode cX4_left 3 = .ok (.aload_n 0, 1) := by decide +kernel
theorem dX4_left_4 : decode cX4_left 4 = .ok (.getfield 56, 3) := by decide +kernel
theorem dX4_left_7 : decode cX4_left 7 = .ok (.if_icmp .ge 20, 3) := by decide +kernel
theorem dX4_left_10 : decode cX4_left 10 = .ok (.aload_n 0, 1) := by decide +kernel
theorem dX4_left_11 : decode cX4_left 11 = .ok (.getfield 35, 3) := by decide +kernel
theorem dX4_left_14 : decode cX4_left 14 = .ok (.iload_n 1, 1) := by decide +kernel
theorem dX4_left_15 : decode cX4_left 15 = .ok (.iaload, 1) := by decide +kernel
theorem dX4_left_16 : decode cX4_left 16 = .ok (.ifCond .eq 5, 3) := by decide +kernel
theorem dX4_left_19 : decode cX4_left 19 = .ok (.iload_n 1, 1) := by decide +kernel
theorem dX4_left_20 : decode cX4_left 20 = .ok (.ireturn, 1) := by decide +kernel
theorem dX4_left_21 : decode cX4_left 21 = .ok (.iinc 1 1, 3) := by decide +kernel
theorem dX4_left_24 : decode cX4_left 24 = .ok (.goto (-22), 3) := by decide +kernel
theorem dX4_left_27 : decode cX4_left 27 = .ok (.iconst (-1), 1) := by decide +kernel
theorem dX4_left_28 : decode cX4_left 28 = .ok (.ireturn, 1) := by decide +kernel
theorem dX4_know_0 : decode cX4_know 0 = .ok (.aload_n 0, 1) := by decide +kernel
theorem dX4_know_1 : decode cX4_know 1 = .ok (.getfield 74, 3) := by decide +kernel
theorem dX4_know_4 : decode cX4_know 4 = .ok (.ifCond .eq 4, 3) := by decide +kernel
theorem dX4_know_7 : decode cX4_know 7 = .ok (.return_, 1) := by decide +kernel
theorem dX4_know_8 : decode cX4_know 8 = .ok (.aload_n 0, 1) := by decide +kernel
theorem dX4_know_9 : decode cX4_know 9 = .ok (.iconst 1, 1) := by decide +kernel
theorem dX4_know_10 : decode cX4_know 10 = .ok (.putfield 74, 3) := by decide +kernel
theorem dX4_know_13 : decode cX4_know 13 = .ok (.aload_n 0, 1) := by decide +kernel
theorem dX4_know_14 : decode cX4_know 14 = .ok (.iconst 0, 1) := by decide +kernel
theorem dX4_know_15 : decode cX4_know 15 = .ok (.putfield 85, 3) := by decide +kernel
theorem dX4_know_18 : decode cX4_know 18 = .ok (.iconst 0, 1) := by decide +kernel
theorem dX4_know_19 : decode cX4_know 19 = .ok (.istore_n 1, 1) := by decide +kernel
theorem dX4_know_20 : decode cX4_know 20 = .ok (.iconst 0, 1) := by decide +kernel
theorem dX4_know_21 : decode cX4_know 21 = .ok (.istore_n 2, 1) := by decide +kernel
theorem dX4_know_22 : decode cX4_know 22 = .ok (.iload_n 2, 1) := by decide +kernel
theorem dX4_know_23 : decode cX4_know 23 = .ok (.aload_n 0, 1) := by decide +kernel
theorem dX4_know_24 : decode cX4_know 24 = .ok (.getfield 56, 3) := by decide +kernel
theorem dX4_know_27 : decode cX4_know 27 = .ok (.if_icmp .ge 230, 3) := by decide +kernel
theorem dX4_know_30 : decode cX4_know 30 = .ok (.iconst 0, 1) := by decide +kernel
theorem dX4_know_31 : decode cX4_know 31 = .ok (.istore_n 3, 1) := by decide +kernel
theorem dX4_know_32 : decode cX4_know 32 = .ok (.iload_n 3, 1) := by decide +kernel
theorem dX4_know_33 : decode cX4_know 33 = .ok (.aload_n 0, 1) := by decide +kernel
theorem dX4_know_34 : decode cX4_know 34 = .ok (.getfield 56, 3) := by decide +kernel
theorem dX4_know_37 : decode cX4_know 37 = .ok (.if_icmp .ge 21, 3) := by decide +kernel
theorem dX4_know_40 : decode cX4_know 40 = .ok (.aload_n 0, 1) := by decide +kernel
theorem dX4_know_41 : decode cX4_know 41 = .ok (.getfield 35, 3) := by decide +kernel
theorem dX4_know_44 : decode cX4_know 44 = .ok (.iload_n 3, 1) := by decide +kernel
theorem dX4_know_45 : decode cX4_know 45 = .ok (.aload_n 0, 1) := by decide +kernel
theorem dX4_know_46 : decode cX4_know 46 = .ok (.iload_n 2, 1) := by decide +kernel
theorem dX4_know_47 : decode cX4_know 47 = .ok (.iload_n 3, 1) := by decide +kernel
theorem dX4_know_48 : decode cX4_know 48 = .ok (.invokevirtual 81, 3) := by decide +kernel
theorem dX4_know_51 : decode cX4_know 51 = .ok (.iastore, 1) := by decide +kernel
theorem dX4_know_52 : decode cX4_know 52 = .ok (.iinc 3 1, 3) := by decide +kernel
theorem dX4_know_55 : decode cX4_know 55 = .ok (.goto (-23), 3) := by decide +kernel
theorem dX4_know_58 : decode cX4_know 58 = .ok (.aload_n 0, 1) := by decide +kernel
theorem dX4_know_59 : decode cX4_know 59 = .ok (.invokevirtual 92, 3) := by decide +kernel
theorem dX4_know_62 : decode cX4_know 62 = .ok (.aload_n 0, 1) := by decide +kernel
theorem dX4_know_63 : decode cX4_know 63 = .ok (.invokevirtual 95, 3) := by decide +kernel
theorem dX4_know_66 : decode cX4_know 66 = .ok (.istore_n 3, 1) := by decide +kernel
theorem dX4_know_67 : decode cX4_know 67 = .ok (.aload_n 0, 1) := by decide +kernel
theorem dX4_know_68 : decode cX4_know 68 = .ok (.getfield 32, 3) := by decide +kernel
theorem dX4_know_71 : decode cX4_know 71 = .ok (.iload_n 2, 1) := by decide +kernel
theorem dX4_know_72 : decode cX4_know 72 = .ok (.iload_n 3, 1) := by decide +kernel
theorem dX4_know_73 : decode cX4_know 73 = .ok (.ifCond .lt 7, 3) := by decide +kernel
theorem dX4_know_76 : decode cX4_know 76 = .ok (.iconst 1, 1) := by decide +kernel
theorem dX4_know_77 : decode cX4_know 77 = .ok (.goto 4, 3) := by decide +kernel
theorem dX4_know_80 : decode cX4_know 80 = .ok (.iconst 0, 1) := by decide +kernel
theorem dX4_know_81 : decode cX4_know 81 = .ok (.bastore, 1) := by decide +kernel
theorem dX4_know_82 : decode cX4_know 82 = .ok (.iload_n 3, 1) := by decide +kernel
theorem dX4_know_83 : decode cX4_know 83 = .ok (.ifCond .lt 108, 3) := by decide +kernel
theorem dX4_know_86 : decode cX4_know 86 = .ok (.iconst 0, 1) := by decide +kernel
theorem dX4_know_87 : decode cX4_know 87 = .ok (.istore 4, 2) := by decide +kernel
theorem dX4_know_89 : decode cX4_know 89 = .ok (.iload 4, 2) := by decide +kernel
theorem dX4_know_91 : decode cX4_know 91 = .ok (.aload_n 0, 1) := by decide +kernel
theorem dX4_know_92 : decode cX4_know 92 = .ok (.getfield 56, 3) := by decide +kernel
theorem dX4_know_95 : decode cX4_know 95 = .ok (.if_icmp .ge 73, 3) := by decide +kernel
theorem dX4_know_98 : decode cX4_know 98 = .ok (.aload_n 0, 1) := by decide +kernel
theorem dX4_know_99 : decode cX4_know 99 = .ok (.getfield 23, 3) := by decide +kernel
theorem dX4_know_102 : decode cX4_know 102 = .ok (.bipush 30, 2) := by decide +kernel
theorem dX4_know_104 : decode cX4_know 104 = .ok (.aload_n 0, 1) := by decide +kernel
theorem dX4_know_105 : decode cX4_know 105 = .ok (.getfield 85, 3) := by decide +kernel
theorem dX4_know_108 : decode cX4_know 108 = .ok (.imul, 1) := by decide +kernel
theorem dX4_know_109 : decode cX4_know 109 = .ok (.iload 4, 2) := by decide +kernel
theorem dX4_know_111 : decode cX4_know 111 = .ok (.iadd, 1) := by decide +kernel
theorem dX4_know_112 : decode cX4_know 112 = .ok (.aload_n 0, 1) := by decide +kernel
theorem dX4_know_113 : decode cX4_know 113 = .ok (.getfield 35, 3) := by decide +kernel
theorem dX4_know_116 : decode cX4_know 116 = .ok (.iload 4, 2) := by decide +kernel
theorem dX4_know_118 : decode cX4_know 118 = .ok (.iaload, 1) := by decide +kernel
theorem dX4_know_119 : decode cX4_know 119 = .ok (.iastore, 1) := by decide +kernel
theorem dX4_know_120 : decode cX4_know 120 = .ok (.aload_n 0, 1) := by decide +kernel
theorem dX4_know_121 : decode cX4_know 121 = .ok (.getfield 26, 3) := by decide +kernel
theorem dX4_know_124 : decode cX4_know 124 = .ok (.bipush 30, 2) := by decide +kernel
theorem dX4_know_126 : decode cX4_know 126 = .ok (.aload_n 0, 1) := by decide +kernel
theorem dX4_know_127 : decode cX4_know 127 = .ok (.getfield 85, 3) := by decide +kernel
theorem dX4_know_130 : decode cX4_know 130 = .ok (.imul, 1) := by decide +kernel
theorem dX4_know_131 : decode cX4_know 131 = .ok (.iload 4, 2) := by decide +kernel
theorem dX4_know_133 : decode cX4_know 133 = .ok (.iadd, 1) := by decide +kernel
theorem dX4_know_134 : decode cX4_know 134 = .ok (.iload 4, 2) := by decide +kernel
theorem dX4_know_136 : decode cX4_know 136 = .ok (.iload_n 2, 1) := by decide +kernel
theorem dX4_know_137 : decode cX4_know 137 = .ok (.if_icmp .ne 7, 3) := by decide +kernel
theorem dX4_know_140 : decode cX4_know 140 = .ok (.iconst 1, 1) := by decide +kernel
theorem dX4_know_141 : decode cX4_know 141 = .ok (.goto 20, 3) := by decide +kernel
theorem dX4_know_144 : decode cX4_know 144 = .ok (.aload_n 0, 1) := by decide +kernel
theorem dX4_know_145 : decode cX4_know 145 = .ok (.getfield 60, 3) := by decide +kernel
theorem dX4_know_148 : decode cX4_know 148 = .ok (.aload_n 0, 1) := by decide +kernel
theorem dX4_know_149 : decode cX4_know 149 = .ok (.getfield 38, 3) := by decide +kernel
theorem dX4_know_152 : decode cX4_know 152 = .ok (.iload 4, 2) := by decide +kernel
theorem dX4_know_154 : decode cX4_know 154 = .ok (.iaload, 1) := by decide +kernel
theorem dX4_know_155 : decode cX4_know 155 = .ok (.isub, 1) := by decide +kernel
theorem dX4_know_156 : decode cX4_know 156 = .ok (.aload_n 0, 1) := by decide +kernel
theorem dX4_know_157 : decode cX4_know 157 = .ok (.getfield 60, 3) := by decide +kernel
theorem dX4_know_160 : decode cX4_know 160 = .ok (.irem, 1) := by decide +kernel
theorem dX4_know_161 : decode cX4_know 161 = .ok (.iastore, 1) := by decide +kernel
theorem dX4_know_162 : decode cX4_know 162 = .ok (.iinc 4 1, 3) := by decide +kernel
theorem dX4_know_165 : decode cX4_know 165 = .ok (.goto (-76), 3) := by decide +kernel
theorem dX4_know_168 : decode cX4_know 168 = .ok (.aload_n 0, 1) := by decide +kernel
theorem dX4_know_169 : decode cX4_know 169 = .ok (.getfield 29, 3) := by decide +kernel
theorem dX4_know_172 : decode cX4_know 172 = .ok (.aload_n 0, 1) := by decide +kernel
theorem dX4_know_173 : decode cX4_know 173 = .ok (.getfield 85, 3) := by decide +kernel
theorem dX4_know_176 : decode cX4_know 176 = .ok (.iload_n 3, 1) := by decide +kernel
theorem dX4_know_177 : decode cX4_know 177 = .ok (.iastore, 1) := by decide +kernel
theorem dX4_know_178 : decode cX4_know 178 = .ok (.aload_n 0, 1) := by decide +kernel
theorem dX4_know_179 : decode cX4_know 179 = .ok (.dup, 1) := by decide +kernel
theorem dX4_know_180 : decode cX4_know 180 = .ok (.getfield 85, 3) := by decide +kernel
theorem dX4_know_183 : decode cX4_know 183 = .ok (.iconst 1, 1) := by decide +kernel
theorem dX4_know_184 : decode cX4_know 184 = .ok (.iadd, 1) := by decide +kernel
theorem dX4_know_185 : decode cX4_know 185 = .ok (.putfield 85, 3) := by decide +kernel
theorem dX4_know_188 : decode cX4_know 188 = .ok (.goto 63, 3) := by decide +kernel
theorem dX4_know_191 : decode cX4_know 191 = .ok (.iconst 0, 1) := by decide +kernel
theorem dX4_know_192 : decode cX4_know 192 = .ok (.istore 4, 2) := by decide +kernel
theorem dX4_know_194 : decode cX4_know 194 = .ok (.iload 4, 2) := by decide +kernel
theorem dX4_know_196 : decode cX4_know 196 = .ok (.aload_n 0, 1) := by decide +kernel
theorem dX4_know_197 : decode cX4_know 197 = .ok (.getfield 56, 3) := by decide +kernel
theorem dX4_know_200 : decode cX4_know 200 = .ok (.if_icmp .ge 48, 3) := by decide +kernel
theorem dX4_know_203 : decode cX4_know 203 = .ok (.aload_n 0, 1) := by decide +kernel
theorem dX4_know_204 : decode cX4_know 204 = .ok (.getfield 44, 3) := by decide +kernel
theorem dX4_know_207 : decode cX4_know 207 = .ok (.bipush 30, 2) := by decide +kernel
theorem dX4_know_209 : decode cX4_know 209 = .ok (.iload_n 1, 1) := by decide +kernel
theorem dX4_know_210 : decode cX4_know 210 = .ok (.imul, 1) := by decide +kernel
theorem dX4_know_211 : decode cX4_know 211 = .ok (.iload 4, 2) := by decide +kernel
theorem dX4_know_213 : decode cX4_know 213 = .ok (.iadd, 1) := by decide +kernel
theorem dX4_know_214 : decode cX4_know 214 = .ok (.iload 4, 2) := by decide +kernel
theorem dX4_know_216 : decode cX4_know 216 = .ok (.iload_n 2, 1) := by decide +kernel
theorem dX4_know_217 : decode cX4_know 217 = .ok (.if_icmp .ne 7, 3) := by decide +kernel
theorem dX4_know_220 : decode cX4_know 220 = .ok (.iconst 1, 1) := by decide +kernel
theorem dX4_know_221 : decode cX4_know 221 = .ok (.goto 20, 3) := by decide +kernel
theorem dX4_know_224 : decode cX4_know 224 = .ok (.aload_n 0, 1) := by decide +kernel
theorem dX4_know_225 : decode cX4_know 225 = .ok (.getfield 60, 3) := by decide +kernel
theorem dX4_know_228 : decode cX4_know 228 = .ok (.aload_n 0, 1) := by decide +kernel
theorem dX4_know_229 : decode cX4_know 229 = .ok (.getfield 38, 3) := by decide +kernel
theorem dX4_know_232 : decode cX4_know 232 = .ok (.iload 4, 2) := by decide +kernel
theorem dX4_know_234 : decode cX4_know 234 = .ok (.iaload, 1) := by decide +kernel
theorem dX4_know_235 : decode cX4_know 235 = .ok (.isub, 1) := by decide +kernel
theorem dX4_know_236 : decode cX4_know 236 = .ok (.aload_n 0, 1) := by decide +kernel
theorem dX4_know_237 : decode cX4_know 237 = .ok (.getfield 60, 3) := by decide +kernel
theorem dX4_know_240 : decode cX4_know 240 = .ok (.irem, 1) := by decide +kernel
theorem dX4_know_241 : decode cX4_know 241 = .ok (.iastore, 1) := by decide +kernel
theorem dX4_know_242 : decode cX4_know 242 = .ok (.iinc 4 1, 3) := by decide +kernel
theorem dX4_know_245 : decode cX4_know 245 = .ok (.goto (-51), 3) := by decide +kernel
theorem dX4_know_248 : decode cX4_know 248 = .ok (.iinc 1 1, 3) := by decide +kernel
theorem dX4_know_251 : decode cX4_know 251 = .ok (.iinc 2 1, 3) := by decide +kernel
theorem dX4_know_254 : decode cX4_know 254 = .ok (.goto (-232), 3) := by decide +kernel
theorem dX4_know_257 : decode cX4_know 257 = .ok (.return_, 1) := by decide +kernel
theorem dX4_rank_0 : decode cX4_rank 0 = .ok (.aload_n 0, 1) := by decide +kernel
theorem dX4_rank_1 : decode cX4_rank 1 = .ok (.iconst 0, 1) := by decide +kernel
theorem dX4_rank_2 : decode cX4_rank 2 = .ok (.putfield 63, 3) := by decide +kernel
theorem dX4_rank_5 : decode cX4_rank 5 = .ok (.aload_n 0, 1) := by decide +kernel
theorem dX4_rank_6 : decode cX4_rank 6 = .ok (.invokevirtual 99, 3) := by decide +kernel
theorem dX4_rank_9 : decode cX4_rank 9 = .ok (.aload_n 0, 1) := by decide +kernel
theorem dX4_rank_10 : decode cX4_rank 10 = .ok (.getfield 85, 3) := by decide +kernel
theorem dX4_rank_13 : decode cX4_rank 13 = .ok (.ireturn, 1) := by decide +kernel
theorem dX4_answers_0 : decode cX4_answers 0 = .ok (.aload_n 0, 1) := by decide +kernel
theorem dX4_answers_1 : decode cX4_answers 1 = .ok (.invokevirtual 99, 3) := by decide +kernel
theorem dX4_answers_4 : decode cX4_answers 4 = .ok (.iconst 0, 1) := by decide +kernel
theorem dX4_answers_5 : decode cX4_answers 5 = .ok (.istore_n 1, 1) := by decide +kernel
theorem dX4_answers_6 : decode cX4_answers 6 = .ok (.iload_n 1, 1) := by decide +kernel
theorem dX4_answers_7 : decode cX4_answers 7 = .ok (.aload_n 0, 1) := by decide +kernel
theorem dX4_answers_8 : decode cX4_answers 8 = .ok (.getfield 56, 3) := by decide +kernel
theorem dX4_answers_11 : decode cX4_answers 11 = .ok (.if_icmp .ge 38, 3) := by decide +kernel
theorem dX4_answers_14 : decode cX4_answers 14 = .ok (.aload_n 0, 1) := by decide +kernel
theorem dX4_answers_15 : decode cX4_answers 15 = .ok (.getfield 35, 3) := by decide +kernel
theorem dX4_answers_18 : decode cX4_answers 18 = .ok (.iload_n 1, 1) := by decide +kernel
theorem dX4_answers_19 : decode cX4_answers 19 = .ok (.aload_n 0, 1) := by decide +kernel
theorem dX4_answers_20 : decode cX4_answers 20 = .ok (.getfield 20, 3) := by decide +kernel
theorem dX4_answers_23 : decode cX4_answers 23 = .ok (.iload_n 1, 1) := by decide +kernel
theorem dX4_answers_24 : decode cX4_answers 24 = .ok (.iaload, 1) := by decide +kernel
theorem dX4_answers_25 : decode cX4_answers 25 = .ok (.aload_n 0, 1) := by decide +kernel
theorem dX4_answers_26 : decode cX4_answers 26 = .ok (.getfield 60, 3) := by decide +kernel
theorem dX4_answers_29 : decode cX4_answers 29 = .ok (.iadd, 1) := by decide +kernel
theorem dX4_answers_30 : decode cX4_answers 30 = .ok (.aload_n 0, 1) := by decide +kernel
theorem dX4_answers_31 : decode cX4_answers 31 = .ok (.getfield 16, 3) := by decide +kernel
theorem dX4_answers_34 : decode cX4_answers 34 = .ok (.iload_n 1, 1) := by decide +kernel
theorem dX4_answers_35 : decode cX4_answers 35 = .ok (.iaload, 1) := by decide +kernel
theorem dX4_answers_36 : decode cX4_answers 36 = .ok (.isub, 1) := by decide +kernel
theorem dX4_answers_37 : decode cX4_answers 37 = .ok (.aload_n 0, 1) := by decide +kernel
theorem dX4_answers_38 : decode cX4_answers 38 = .ok (.getfield 60, 3) := by decide +kernel
theorem dX4_answers_41 : decode cX4_answers 41 = .ok (.irem, 1) := by decide +kernel
theorem dX4_answers_42 : decode cX4_answers 42 = .ok (.iastore, 1) := by decide +kernel
theorem dX4_answers_43 : decode cX4_answers 43 = .ok (.iinc 1 1, 3) := by decide +kernel
theorem dX4_answers_46 : decode cX4_answers 46 = .ok (.goto (-40), 3) := by decide +kernel
theorem dX4_answers_49 : decode cX4_answers 49 = .ok (.aload_n 0, 1) := by decide +kernel
theorem dX4_answers_50 : decode cX4_answers 50 = .ok (.invokevirtual 92, 3) := by decide +kernel
theorem dX4_answers_53 : decode cX4_answers 53 = .ok (.iconst 0, 1) := by decide +kernel
theorem dX4_answers_54 : decode cX4_answers 54 = .ok (.istore_n 1, 1) := by decide +kernel
theorem dX4_answers_55 : decode cX4_answers 55 = .ok (.iload_n 1, 1) := by decide +kernel
theorem dX4_answers_56 : decode cX4_answers 56 = .ok (.aload_n 0, 1) := by decide +kernel
theorem dX4_answers_57 : decode cX4_answers 57 = .ok (.getfield 56, 3) := by decide +kernel
theorem dX4_answers_60 : decode cX4_answers 60 = .ok (.if_icmp .ge 21, 3) := by decide +kernel
theorem dX4_answers_63 : decode cX4_answers 63 = .ok (.aload_n 0, 1) := by decide +kernel
theorem dX4_answers_64 : decode cX4_answers 64 = .ok (.getfield 41, 3) := by decide +kernel
theorem dX4_answers_67 : decode cX4_answers 67 = .ok (.iload_n 1, 1) := by decide +kernel
theorem dX4_answers_68 : decode cX4_answers 68 = .ok (.aload_n 0, 1) := by decide +kernel
theorem dX4_answers_69 : decode cX4_answers 69 = .ok (.getfield 38, 3) := by decide +kernel
theorem dX4_answers_72 : decode cX4_answers 72 = .ok (.iload_n 1, 1) := by decide +kernel
theorem dX4_answers_73 : decode cX4_answers 73 = .ok (.iaload, 1) := by decide +kernel
theorem dX4_answers_74 : decode cX4_answers 74 = .ok (.iastore, 1) := by decide +kernel
theorem dX4_answers_75 : decode cX4_answers 75 = .ok (.iinc 1 1, 3) := by decide +kernel
theorem dX4_answers_78 : decode cX4_answers 78 = .ok (.goto (-23), 3) := by decide +kernel
theorem dX4_answers_81 : decode cX4_answers 81 = .ok (.aload_n 0, 1) := by decide +kernel
theorem dX4_answers_82 : decode cX4_answers 82 = .ok (.invokevirtual 95, 3) := by decide +kernel
theorem dX4_answers_85 : decode cX4_answers 85 = .ok (.ifCond .ge 7, 3) := by decide +kernel
theorem dX4_answers_88 : decode cX4_answers 88 = .ok (.iconst 1, 1) := by decide +kernel
theorem dX4_answers_89 : decode cX4_answers 89 = .ok (.goto 4, 3) := by decide +kernel
theorem dX4_answers_92 : decode cX4_answers 92 = .ok (.iconst 0, 1) := by decide +kernel
theorem dX4_answers_93 : decode cX4_answers 93 = .ok (.ireturn, 1) := by decide +kernel
theorem dX4_solvable_0 : decode cX4_solvable 0 = .ok (.aload_n 0, 1) := by decide +kernel
theorem dX4_solvable_1 : decode cX4_solvable 1 = .ok (.iconst 0, 1) := by decide +kernel
theorem dX4_solvable_2 : decode cX4_solvable 2 = .ok (.putfield 63, 3) := by decide +kernel
theorem dX4_solvable_5 : decode cX4_solvable 5 = .ok (.aload_n 0, 1) := by decide +kernel
theorem dX4_solvable_6 : decode cX4_solvable 6 = .ok (.invokevirtual 102, 3) := by decide +kernel
theorem dX4_solvable_9 : decode cX4_solvable 9 = .ok (.ireturn, 1) := by decide +kernel
theorem dX4_answer_0 : decode cX4_answer 0 = .ok (.aload_n 0, 1) := by decide +kernel
theorem dX4_answer_1 : decode cX4_answer 1 = .ok (.aload_n 0, 1) := by decide +kernel
theorem dX4_answer_2 : decode cX4_answer 2 = .ok (.iload_n 1, 1) := by decide +kernel
theorem dX4_answer_3 : decode cX4_answer 3 = .ok (.invokevirtual 66, 3) := by decide +kernel
theorem dX4_answer_6 : decode cX4_answer 6 = .ok (.ifCond .ne 7, 3) := by decide +kernel
theorem dX4_answer_9 : decode cX4_answer 9 = .ok (.iconst 1, 1) := by decide +kernel
theorem dX4_answer_10 : decode cX4_answer 10 = .ok (.goto 4, 3) := by decide +kernel
theorem dX4_answer_13 : decode cX4_answer 13 = .ok (.iconst 0, 1) := by decide +kernel
theorem dX4_answer_14 : decode cX4_answer 14 = .ok (.invokevirtual 70, 3) := by decide +kernel
theorem dX4_answer_17 : decode cX4_answer 17 = .ok (.ifCond .eq 5, 3) := by decide +kernel
theorem dX4_answer_20 : decode cX4_answer 20 = .ok (.iconst 0, 1) := by decide +kernel
theorem dX4_answer_21 : decode cX4_answer 21 = .ok (.ireturn, 1) := by decide +kernel
theorem dX4_answer_22 : decode cX4_answer 22 = .ok (.aload_n 0, 1) := by decide +kernel
theorem dX4_answer_23 : decode cX4_answer 23 = .ok (.invokevirtual 102, 3) := by decide +kernel
theorem dX4_answer_26 : decode cX4_answer 26 = .ok (.ifCond .eq 12, 3) := by decide +kernel
theorem dX4_answer_29 : decode cX4_answer 29 = .ok (.aload_n 0, 1) := by decide +kernel
theorem dX4_answer_30 : decode cX4_answer 30 = .ok (.getfield 41, 3) := by decide +kernel
theorem dX4_answer_33 : decode cX4_answer 33 = .ok (.iload_n 1, 1) := by decide +kernel
theorem dX4_answer_34 : decode cX4_answer 34 = .ok (.iaload, 1) := by decide +kernel
theorem dX4_answer_35 : decode cX4_answer 35 = .ok (.goto 4, 3) := by decide +kernel
theorem dX4_answer_38 : decode cX4_answer 38 = .ok (.iconst (-1), 1) := by decide +kernel
theorem dX4_answer_39 : decode cX4_answer 39 = .ok (.ireturn, 1) := by decide +kernel
theorem dX4_quiet_0 : decode cX4_quiet 0 = .ok (.aload_n 0, 1) := by decide +kernel
theorem dX4_quiet_1 : decode cX4_quiet 1 = .ok (.aload_n 0, 1) := by decide +kernel
theorem dX4_quiet_2 : decode cX4_quiet 2 = .ok (.iload_n 2, 1) := by decide +kernel
theorem dX4_quiet_3 : decode cX4_quiet 3 = .ok (.invokevirtual 66, 3) := by decide +kernel
theorem dX4_quiet_6 : decode cX4_quiet 6 = .ok (.ifCond .ne 7, 3) := by decide +kernel
theorem dX4_quiet_9 : decode cX4_quiet 9 = .ok (.iconst 1, 1) := by decide +kernel
theorem dX4_quiet_10 : decode cX4_quiet 10 = .ok (.goto 4, 3) := by decide +kernel
theorem dX4_quiet_13 : decode cX4_quiet 13 = .ok (.iconst 0, 1) := by decide +kernel
theorem dX4_quiet_14 : decode cX4_quiet 14 = .ok (.invokevirtual 70, 3) := by decide +kernel
theorem dX4_quiet_17 : decode cX4_quiet 17 = .ok (.ifCond .eq 5, 3) := by decide +kernel
theorem dX4_quiet_20 : decode cX4_quiet 20 = .ok (.iconst 0, 1) := by decide +kernel
theorem dX4_quiet_21 : decode cX4_quiet 21 = .ok (.ireturn, 1) := by decide +kernel
theorem dX4_quiet_22 : decode cX4_quiet 22 = .ok (.aload_n 0, 1) := by decide +kernel
theorem dX4_quiet_23 : decode cX4_quiet 23 = .ok (.invokevirtual 99, 3) := by decide +kernel
theorem dX4_quiet_26 : decode cX4_quiet 26 = .ok (.iload_n 1, 1) := by decide +kernel
theorem dX4_quiet_27 : decode cX4_quiet 27 = .ok (.ifCond .lt 16, 3) := by decide +kernel
theorem dX4_quiet_30 : decode cX4_quiet 30 = .ok (.iload_n 1, 1) := by decide +kernel
theorem dX4_quiet_31 : decode cX4_quiet 31 = .ok (.aload_n 0, 1) := by decide +kernel
theorem dX4_quiet_32 : decode cX4_quiet 32 = .ok (.getfield 56, 3) := by decide +kernel
theorem dX4_quiet_35 : decode cX4_quiet 35 = .ok (.aload_n 0, 1) := by decide +kernel
theorem dX4_quiet_36 : decode cX4_quiet 36 = .ok (.getfield 85, 3) := by decide +kernel
theorem dX4_quiet_39 : decode cX4_quiet 39 = .ok (.isub, 1) := by decide +kernel
theorem dX4_quiet_40 : decode cX4_quiet 40 = .ok (.if_icmp .lt 7, 3) := by decide +kernel
theorem dX4_quiet_43 : decode cX4_quiet 43 = .ok (.iconst (-1), 1) := by decide +kernel
theorem dX4_quiet_44 : decode cX4_quiet 44 = .ok (.goto 14, 3) := by decide +kernel
theorem dX4_quiet_47 : decode cX4_quiet 47 = .ok (.aload_n 0, 1) := by decide +kernel
theorem dX4_quiet_48 : decode cX4_quiet 48 = .ok (.getfield 44, 3) := by decide +kernel
theorem dX4_quiet_51 : decode cX4_quiet 51 = .ok (.bipush 30, 2) := by decide +kernel
theorem dX4_quiet_53 : decode cX4_quiet 53 = .ok (.iload_n 1, 1) := by decide +kernel
theorem dX4_quiet_54 : decode cX4_quiet 54 = .ok (.imul, 1) := by decide +kernel
theorem dX4_quiet_55 : decode cX4_quiet 55 = .ok (.iload_n 2, 1) := by decide +kernel
theorem dX4_quiet_56 : decode cX4_quiet 56 = .ok (.iadd, 1) := by decide +kernel
theorem dX4_quiet_57 : decode cX4_quiet 57 = .ok (.iaload, 1) := by decide +kernel
theorem dX4_quiet_58 : decode cX4_quiet 58 = .ok (.ireturn, 1) := by decide +kernel
theorem dX4_count_0 : decode cX4_count 0 = .ok (.aload_n 0, 1) := by decide +kernel
theorem dX4_count_1 : decode cX4_count 1 = .ok (.iconst 0, 1) := by decide +kernel
theorem dX4_count_2 : decode cX4_count 2 = .ok (.putfield 63, 3) := by decide +kernel
theorem dX4_count_5 : decode cX4_count 5 = .ok (.aload_n 0, 1) := by decide +kernel
theorem dX4_count_6 : decode cX4_count 6 = .ok (.invokevirtual 102, 3) := by decide +kernel
theorem dX4_count_9 : decode cX4_count 9 = .ok (.istore_n 2, 1) := by decide +kernel
theorem dX4_count_10 : decode cX4_count 10 = .ok (.aload_n 0, 1) := by decide +kernel
theorem dX4_count_11 : decode cX4_count 11 = .ok (.getfield 53, 3) := by decide +kernel
theorem dX4_count_14 : decode cX4_count 14 = .ok (.iconst 0, 1) := by decide +kernel
theorem dX4_count_15 : decode cX4_count 15 = .ok (.iload_n 2, 1) := by decide +kernel
theorem dX4_count_16 : decode cX4_count 16 = .ok (.ifCond .eq 7, 3) := by decide +kernel
theorem dX4_count_19 : decode cX4_count 19 = .ok (.iconst 1, 1) := by decide +kernel
theorem dX4_count_20 : decode cX4_count 20 = .ok (.goto 4, 3) := by decide +kernel
theorem dX4_count_23 : decode cX4_count 23 = .ok (.iconst 0, 1) := by decide +kernel
theorem dX4_count_24 : decode cX4_count 24 = .ok (.iastore, 1) := by decide +kernel
theorem dX4_count_25 : decode cX4_count 25 = .ok (.iconst 1, 1) := by decide +kernel
theorem dX4_count_26 : decode cX4_count 26 = .ok (.istore_n 3, 1) := by decide +kernel
theorem dX4_count_27 : decode cX4_count 27 = .ok (.iconst 0, 1) := by decide +kernel
theorem dX4_count_28 : decode cX4_count 28 = .ok (.istore 4, 2) := by decide +kernel
theorem dX4_count_30 : decode cX4_count 30 = .ok (.iload 4, 2) := by decide +kernel
theorem dX4_count_32 : decode cX4_count 32 = .ok (.aload_n 0, 1) := by decide +kernel
theorem dX4_count_33 : decode cX4_count 33 = .ok (.getfield 56, 3) := by decide +kernel
theorem dX4_count_36 : decode cX4_count 36 = .ok (.aload_n 0, 1) := by decide +kernel
theorem dX4_count_37 : decode cX4_count 37 = .ok (.getfield 85, 3) := by decide +kernel
theorem dX4_count_40 : decode cX4_count 40 = .ok (.isub, 1) := by decide +kernel
theorem dX4_count_41 : decode cX4_count 41 = .ok (.if_icmp .ge 86, 3) := by decide +kernel
theorem dX4_count_44 : decode cX4_count 44 = .ok (.iload_n 2, 1) := by decide +kernel
theorem dX4_count_45 : decode cX4_count 45 = .ok (.ifCond .eq 82, 3) := by decide +kernel
theorem dX4_count_48 : decode cX4_count 48 = .ok (.iconst 0, 1) := by decide +kernel
theorem dX4_count_49 : decode cX4_count 49 = .ok (.istore 5, 2) := by decide +kernel
theorem dX4_count_51 : decode cX4_count 51 = .ok (.iconst 0, 1) := by decide +kernel
theorem dX4_count_52 : decode cX4_count 52 = .ok (.istore 6, 2) := by decide +kernel
theorem dX4_count_54 : decode cX4_count 54 = .ok (.iload 6, 2) := by decide +kernel
theorem dX4_count_56 : decode cX4_count 56 = .ok (.iload_n 3, 1) := by decide +kernel
theorem dX4_count_57 : decode cX4_count 57 = .ok (.if_icmp .ge 45, 3) := by decide +kernel
theorem dX4_count_60 : decode cX4_count 60 = .ok (.aload_n 0, 1) := by decide +kernel
theorem dX4_count_61 : decode cX4_count 61 = .ok (.getfield 53, 3) := by decide +kernel
theorem dX4_count_64 : decode cX4_count 64 = .ok (.iload 6, 2) := by decide +kernel
theorem dX4_count_66 : decode cX4_count 66 = .ok (.iaload, 1) := by decide +kernel
theorem dX4_count_67 : decode cX4_count 67 = .ok (.aload_n 0, 1) := by decide +kernel
theorem dX4_count_68 : decode cX4_count 68 = .ok (.getfield 60, 3) := by decide +kernel
theorem dX4_count_71 : decode cX4_count 71 = .ok (.imul, 1) := by decide +kernel
theorem dX4_count_72 : decode cX4_count 72 = .ok (.iload 5, 2) := by decide +kernel
theorem dX4_count_74 : decode cX4_count 74 = .ok (.iadd, 1) := by decide +kernel
theorem dX4_count_75 : decode cX4_count 75 = .ok (.istore 7, 2) := by decide +kernel
theorem dX4_count_77 : decode cX4_count 77 = .ok (.aload_n 0, 1) := by decide +kernel
theorem dX4_count_78 : decode cX4_count 78 = .ok (.getfield 53, 3) := by decide +kernel
theorem dX4_count_81 : decode cX4_count 81 = .ok (.iload 6, 2) := by decide +kernel
theorem dX4_count_83 : decode cX4_count 83 = .ok (.iload 7, 2) := by decide +kernel
theorem dX4_count_85 : decode cX4_count 85 = .ok (.bipush 10, 2) := by decide +kernel
theorem dX4_count_87 : decode cX4_count 87 = .ok (.irem, 1) := by decide +kernel
theorem dX4_count_88 : decode cX4_count 88 = .ok (.iastore, 1) := by decide +kernel
theorem dX4_count_89 : decode cX4_count 89 = .ok (.iload 7, 2) := by decide +kernel
theorem dX4_count_91 : decode cX4_count 91 = .ok (.bipush 10, 2) := by decide +kernel
theorem dX4_count_93 : decode cX4_count 93 = .ok (.idiv, 1) := by decide +kernel
theorem dX4_count_94 : decode cX4_count 94 = .ok (.istore 5, 2) := by decide +kernel
theorem dX4_count_96 : decode cX4_count 96 = .ok (.iinc 6 1, 3) := by decide +kernel
theorem dX4_count_99 : decode cX4_count 99 = .ok (.goto (-45), 3) := by decide +kernel
theorem dX4_count_102 : decode cX4_count 102 = .ok (.iload 5, 2) := by decide +kernel
theorem dX4_count_104 : decode cX4_count 104 = .ok (.ifCond .ne 6, 3) := by decide +kernel
theorem dX4_count_107 : decode cX4_count 107 = .ok (.goto 14, 3) := by decide +kernel
theorem dX4_count_110 : decode cX4_count 110 = .ok (.aload_n 0, 1) := by decide +kernel
theorem dX4_count_111 : decode cX4_count 111 = .ok (.getfield 53, 3) := by decide +kernel
theorem dX4_count_114 : decode cX4_count 114 = .ok (.iload_n 3, 1) := by decide +kernel
theorem dX4_count_115 : decode cX4_count 115 = .ok (.iload 5, 2) := by decide +kernel
theorem dX4_count_117 : decode cX4_count 117 = .ok (.iastore, 1) := by decide +kernel
theorem dX4_count_118 : decode cX4_count 118 = .ok (.iinc 3 1, 3) := by decide +kernel
theorem dX4_count_121 : decode cX4_count 121 = .ok (.iinc 4 1, 3) := by decide +kernel
theorem dX4_count_124 : decode cX4_count 124 = .ok (.goto (-94), 3) := by decide +kernel
theorem dX4_count_127 : decode cX4_count 127 = .ok (.iload_n 1, 1) := by decide +kernel
theorem dX4_count_128 : decode cX4_count 128 = .ok (.ifCond .lt 17, 3) := by decide +kernel
theorem dX4_count_131 : decode cX4_count 131 = .ok (.iload_n 1, 1) := by decide +kernel
theorem dX4_count_132 : decode cX4_count 132 = .ok (.iload_n 3, 1) := by decide +kernel
theorem dX4_count_133 : decode cX4_count 133 = .ok (.if_icmp .ge 12, 3) := by decide +kernel
theorem dX4_count_136 : decode cX4_count 136 = .ok (.aload_n 0, 1) := by decide +kernel
theorem dX4_count_137 : decode cX4_count 137 = .ok (.getfield 53, 3) := by decide +kernel
theorem dX4_count_140 : decode cX4_count 140 = .ok (.iload_n 1, 1) := by decide +kernel
theorem dX4_count_141 : decode cX4_count 141 = .ok (.iaload, 1) := by decide +kernel
theorem dX4_count_142 : decode cX4_count 142 = .ok (.goto 4, 3) := by decide +kernel
theorem dX4_count_145 : decode cX4_count 145 = .ok (.iconst (-1), 1) := by decide +kernel
theorem dX4_count_146 : decode cX4_count 146 = .ok (.ireturn, 1) := by decide +kernel
theorem dX4_findBest_0 : decode cX4_findBest 0 = .ok (.aload_n 0, 1) := by decide +kernel
theorem dX4_findBest_1 : decode cX4_findBest 1 = .ok (.invokevirtual 102, 3) := by decide +kernel
theorem dX4_findBest_4 : decode cX4_findBest 4 = .ok (.ifCond .ne 5, 3) := by decide +kernel
theorem dX4_findBest_7 : decode cX4_findBest 7 = .ok (.iconst (-1), 1) := by decide +kernel
theorem dX4_findBest_8 : decode cX4_findBest 8 = .ok (.ireturn, 1) := by decide +kernel
theorem dX4_findBest_9 : decode cX4_findBest 9 = .ok (.iconst 1, 1) := by decide +kernel
theorem dX4_findBest_10 : decode cX4_findBest 10 = .ok (.istore_n 1, 1) := by decide +kernel
theorem dX4_findBest_11 : decode cX4_findBest 11 = .ok (.iconst 0, 1) := by decide +kernel
theorem dX4_findBest_12 : decode cX4_findBest 12 = .ok (.istore_n 2, 1) := by decide +kernel
theorem dX4_findBest_13 : decode cX4_findBest 13 = .ok (.iload_n 2, 1) := by decide +kernel
theorem dX4_findBest_14 : decode cX4_findBest 14 = .ok (.aload_n 0, 1) := by decide +kernel
theorem dX4_findBest_15 : decode cX4_findBest 15 = .ok (.getfield 56, 3) := by decide +kernel
theorem dX4_findBest_18 : decode cX4_findBest 18 = .ok (.aload_n 0, 1) := by decide +kernel
theorem dX4_findBest_19 : decode cX4_findBest 19 = .ok (.getfield 85, 3) := by decide +kernel
theorem dX4_findBest_22 : decode cX4_findBest 22 = .ok (.isub, 1) := by decide +kernel
theorem dX4_findBest_23 : decode cX4_findBest 23 = .ok (.if_icmp .ge 26, 3) := by decide +kernel
theorem dX4_findBest_26 : decode cX4_findBest 26 = .ok (.iload_n 1, 1) := by decide +kernel
theorem dX4_findBest_27 : decode cX4_findBest 27 = .ok (.aload_n 0, 1) := by decide +kernel
theorem dX4_findBest_28 : decode cX4_findBest 28 = .ok (.getfield 60, 3) := by decide +kernel
theorem dX4_findBest_31 : decode cX4_findBest 31 = .ok (.imul, 1) := by decide +kernel
theorem dX4_findBest_32 : decode cX4_findBest 32 = .ok (.istore_n 1, 1) := by decide +kernel
theorem dX4_findBest_33 : decode cX4_findBest 33 = .ok (.iload_n 1, 1) := by decide +kernel
theorem dX4_findBest_34 : decode cX4_findBest 34 = .ok (.sipush 20000, 3) := by decide +kernel
theorem dX4_findBest_37 : decode cX4_findBest 37 = .ok (.if_icmp .le 6, 3) := by decide +kernel
theorem dX4_findBest_40 : decode cX4_findBest 40 = .ok (.bipush (-2), 2) := by decide +kernel
theorem dX4_findBest_42 : decode cX4_findBest 42 = .ok (.ireturn, 1) := by decide +kernel
theorem dX4_findBest_43 : decode cX4_findBest 43 = .ok (.iinc 2 1, 3) := by decide +kernel
theorem dX4_findBest_46 : decode cX4_findBest 46 = .ok (.goto (-33), 3) := by decide +kernel
theorem dX4_findBest_49 : decode cX4_findBest 49 = .ok (.iconst (-1), 1) := by decide +kernel
theorem dX4_findBest_50 : decode cX4_findBest 50 = .ok (.istore_n 2, 1) := by decide +kernel
theorem dX4_findBest_51 : decode cX4_findBest 51 = .ok (.iconst 0, 1) := by decide +kernel
theorem dX4_findBest_52 : decode cX4_findBest 52 = .ok (.istore_n 3, 1) := by decide +kernel
theorem dX4_findBest_53 : decode cX4_findBest 53 = .ok (.iload_n 3, 1) := by decide +kernel
theorem dX4_findBest_54 : decode cX4_findBest 54 = .ok (.iload_n 1, 1) := by decide +kernel
theorem dX4_findBest_55 : decode cX4_findBest 55 = .ok (.if_icmp .ge 77, 3) := by decide +kernel
theorem dX4_findBest_58 : decode cX4_findBest 58 = .ok (.aload_n 0, 1) := by decide +kernel
theorem dX4_findBest_59 : decode cX4_findBest 59 = .ok (.iload_n 3, 1) := by decide +kernel
theorem dX4_findBest_60 : decode cX4_findBest 60 = .ok (.invokevirtual 106, 3) := by decide +kernel
theorem dX4_findBest_63 : decode cX4_findBest 63 = .ok (.istore 4, 2) := by decide +kernel
theorem dX4_findBest_65 : decode cX4_findBest 65 = .ok (.iload_n 2, 1) := by decide +kernel
theorem dX4_findBest_66 : decode cX4_findBest 66 = .ok (.ifCond .lt 25, 3) := by decide +kernel
theorem dX4_findBest_69 : decode cX4_findBest 69 = .ok (.iload 4, 2) := by decide +kernel
theorem dX4_findBest_71 : decode cX4_findBest 71 = .ok (.iload_n 2, 1) := by decide +kernel
theorem dX4_findBest_72 : decode cX4_findBest 72 = .ok (.if_icmp .gt 54, 3) := by decide +kernel
theorem dX4_findBest_75 : decode cX4_findBest 75 = .ok (.iload 4, 2) := by decide +kernel
theorem dX4_findBest_77 : decode cX4_findBest 77 = .ok (.iload_n 2, 1) := by decide +kernel
theorem dX4_findBest_78 : decode cX4_findBest 78 = .ok (.if_icmp .ne 13, 3) := by decide +kernel
theorem dX4_findBest_81 : decode cX4_findBest 81 = .ok (.aload_n 0, 1) := by decide +kernel
theorem dX4_findBest_82 : decode cX4_findBest 82 = .ok (.invokevirtual 109, 3) := by decide +kernel
theorem dX4_findBest_85 : decode cX4_findBest 85 = .ok (.ifCond .ne 6, 3) := by decide +kernel
theorem dX4_findBest_88 : decode cX4_findBest 88 = .ok (.goto 38, 3) := by decide +kernel
theorem dX4_findBest_91 : decode cX4_findBest 91 = .ok (.iload 4, 2) := by decide +kernel
theorem dX4_findBest_93 : decode cX4_findBest 93 = .ok (.istore_n 2, 1) := by decide +kernel
theorem dX4_findBest_94 : decode cX4_findBest 94 = .ok (.iconst 0, 1) := by decide +kernel
theorem dX4_findBest_95 : decode cX4_findBest 95 = .ok (.istore 5, 2) := by decide +kernel
theorem dX4_findBest_97 : decode cX4_findBest 97 = .ok (.iload 5, 2) := by decide +kernel
theorem dX4_findBest_99 : decode cX4_findBest 99 = .ok (.aload_n 0, 1) := by decide +kernel
theorem dX4_findBest_100 : decode cX4_findBest 100 = .ok (.getfield 56, 3) := by decide +kernel
theorem dX4_findBest_103 : decode cX4_findBest 103 = .ok (.if_icmp .ge 23, 3) := by decide +kernel
theorem dX4_findBest_106 : decode cX4_findBest 106 = .ok (.aload_n 0, 1) := by decide +kernel
theorem dX4_findBest_107 : decode cX4_findBest 107 = .ok (.getfield 47, 3) := by decide +kernel
theorem dX4_findBest_110 : decode cX4_findBest 110 = .ok (.iload 5, 2) := by decide +kernel
theorem dX4_findBest_112 : decode cX4_findBest 112 = .ok (.aload_n 0, 1) := by decide +kernel
theorem dX4_findBest_113 : decode cX4_findBest 113 = .ok (.getfield 50, 3) := by decide +kernel
theorem dX4_findBest_116 : decode cX4_findBest 116 = .ok (.iload 5, 2) := by decide +kernel
theorem dX4_findBest_118 : decode cX4_findBest 118 = .ok (.iaload, 1) := by decide +kernel
theorem dX4_findBest_119 : decode cX4_findBest 119 = .ok (.iastore, 1) := by decide +kernel
theorem dX4_findBest_120 : decode cX4_findBest 120 = .ok (.iinc 5 1, 3) := by decide +kernel
theorem dX4_findBest_123 : decode cX4_findBest 123 = .ok (.goto (-26), 3) := by decide +kernel
theorem dX4_findBest_126 : decode cX4_findBest 126 = .ok (.iinc 3 1, 3) := by decide +kernel
theorem dX4_findBest_129 : decode cX4_findBest 129 = .ok (.goto (-76), 3) := by decide +kernel
theorem dX4_findBest_132 : decode cX4_findBest 132 = .ok (.iload_n 2, 1) := by decide +kernel
theorem dX4_findBest_133 : decode cX4_findBest 133 = .ok (.ireturn, 1) := by decide +kernel
theorem dX4_tryWay_0 : decode cX4_tryWay 0 = .ok (.iconst 0, 1) := by decide +kernel
theorem dX4_tryWay_1 : decode cX4_tryWay 1 = .ok (.istore_n 2, 1) := by decide +kernel
theorem dX4_tryWay_2 : decode cX4_tryWay 2 = .ok (.iload_n 2, 1) := by decide +kernel
theorem dX4_tryWay_3 : decode cX4_tryWay 3 = .ok (.aload_n 0, 1) := by decide +kernel
theorem dX4_tryWay_4 : decode cX4_tryWay 4 = .ok (.getfield 56, 3) := by decide +kernel
theorem dX4_tryWay_7 : decode cX4_tryWay 7 = .ok (.if_icmp .ge 21, 3) := by decide +kernel
theorem dX4_tryWay_10 : decode cX4_tryWay 10 = .ok (.aload_n 0, 1) := by decide +kernel
theorem dX4_tryWay_11 : decode cX4_tryWay 11 = .ok (.getfield 50, 3) := by decide +kernel
theorem dX4_tryWay_14 : decode cX4_tryWay 14 = .ok (.iload_n 2, 1) := by decide +kernel
theorem dX4_tryWay_15 : decode cX4_tryWay 15 = .ok (.aload_n 0, 1) := by decide +kernel
theorem dX4_tryWay_16 : decode cX4_tryWay 16 = .ok (.getfield 41, 3) := by decide +kernel
theorem dX4_tryWay_19 : decode cX4_tryWay 19 = .ok (.iload_n 2, 1) := by decide +kernel
theorem dX4_tryWay_20 : decode cX4_tryWay 20 = .ok (.iaload, 1) := by decide +kernel
theorem dX4_tryWay_21 : decode cX4_tryWay 21 = .ok (.iastore, 1) := by decide +kernel
theorem dX4_tryWay_22 : decode cX4_tryWay 22 = .ok (.iinc 2 1, 3) := by decide +kernel
theorem dX4_tryWay_25 : decode cX4_tryWay 25 = .ok (.goto (-23), 3) := by decide +kernel
theorem dX4_tryWay_28 : decode cX4_tryWay 28 = .ok (.iload_n 1, 1) := by decide +kernel
theorem dX4_tryWay_29 : decode cX4_tryWay 29 = .ok (.istore_n 2, 1) := by decide +kernel
theorem dX4_tryWay_30 : decode cX4_tryWay 30 = .ok (.iconst 0, 1) := by decide +kernel
theorem dX4_tryWay_31 : decode cX4_tryWay 31 = .ok (.istore_n 3, 1) := by decide +kernel
theorem dX4_tryWay_32 : decode cX4_tryWay 32 = .ok (.iload_n 2, 1) := by decide +kernel
theorem dX4_tryWay_33 : decode cX4_tryWay 33 = .ok (.ifCond .le 82, 3) := by decide +kernel
theorem dX4_tryWay_36 : decode cX4_tryWay 36 = .ok (.iload_n 2, 1) := by decide +kernel
theorem dX4_tryWay_37 : decode cX4_tryWay 37 = .ok (.aload_n 0, 1) := by decide +kernel
theorem dX4_tryWay_38 : decode cX4_tryWay 38 = .ok (.getfield 60, 3) := by decide +kernel
theorem dX4_tryWay_41 : decode cX4_tryWay 41 = .ok (.irem, 1) := by decide +kernel
theorem dX4_tryWay_42 : decode cX4_tryWay 42 = .ok (.istore 4, 2) := by decide +kernel
theorem dX4_tryWay_44 : decode cX4_tryWay 44 = .ok (.iload_n 2, 1) := by decide +kernel
theorem dX4_tryWay_45 : decode cX4_tryWay 45 = .ok (.aload_n 0, 1) := by decide +kernel
theorem dX4_tryWay_46 : decode cX4_tryWay 46 = .ok (.getfield 60, 3) := by decide +kernel
theorem dX4_tryWay_49 : decode cX4_tryWay 49 = .ok (.idiv, 1) := by decide +kernel
theorem dX4_tryWay_50 : decode cX4_tryWay 50 = .ok (.istore_n 2, 1) := by decide +kernel
theorem dX4_tryWay_51 : decode cX4_tryWay 51 = .ok (.iconst 0, 1) := by decide +kernel
theorem dX4_tryWay_52 : decode cX4_tryWay 52 = .ok (.istore 5, 2) := by decide +kernel
theorem dX4_tryWay_54 : decode cX4_tryWay 54 = .ok (.iload 5, 2) := by decide +kernel
theorem dX4_tryWay_56 : decode cX4_tryWay 56 = .ok (.aload_n 0, 1) := by decide +kernel
theorem dX4_tryWay_57 : decode cX4_tryWay 57 = .ok (.getfield 56, 3) := by decide +kernel
theorem dX4_tryWay_60 : decode cX4_tryWay 60 = .ok (.if_icmp .ge 49, 3) := by decide +kernel
theorem dX4_tryWay_63 : decode cX4_tryWay 63 = .ok (.iload 4, 2) := by decide +kernel
theorem dX4_tryWay_65 : decode cX4_tryWay 65 = .ok (.ifCond .le 44, 3) := by decide +kernel
theorem dX4_tryWay_68 : decode cX4_tryWay 68 = .ok (.aload_n 0, 1) := by decide +kernel
theorem dX4_tryWay_69 : decode cX4_tryWay 69 = .ok (.getfield 50, 3) := by decide +kernel
theorem dX4_tryWay_72 : decode cX4_tryWay 72 = .ok (.iload 5, 2) := by decide +kernel
theorem dX4_tryWay_74 : decode cX4_tryWay 74 = .ok (.aload_n 0, 1) := by decide +kernel
theorem dX4_tryWay_75 : decode cX4_tryWay 75 = .ok (.getfield 50, 3) := by decide +kernel
theorem dX4_tryWay_78 : decode cX4_tryWay 78 = .ok (.iload 5, 2) := by decide +kernel
theorem dX4_tryWay_80 : decode cX4_tryWay 80 = .ok (.iaload, 1) := by decide +kernel
theorem dX4_tryWay_81 : decode cX4_tryWay 81 = .ok (.iload 4, 2) := by decide +kernel
theorem dX4_tryWay_83 : decode cX4_tryWay 83 = .ok (.aload_n 0, 1) := by decide +kernel
theorem dX4_tryWay_84 : decode cX4_tryWay 84 = .ok (.getfield 44, 3) := by decide +kernel
theorem dX4_tryWay_87 : decode cX4_tryWay 87 = .ok (.bipush 30, 2) := by decide +kernel
theorem dX4_tryWay_89 : decode cX4_tryWay 89 = .ok (.iload_n 3, 1) := by decide +kernel
theorem dX4_tryWay_90 : decode cX4_tryWay 90 = .ok (.imul, 1) := by decide +kernel
theorem dX4_tryWay_91 : decode cX4_tryWay 91 = .ok (.iload 5, 2) := by decide +kernel
theorem dX4_tryWay_93 : decode cX4_tryWay 93 = .ok (.iadd, 1) := by decide +kernel
theorem dX4_tryWay_94 : decode cX4_tryWay 94 = .ok (.iaload, 1) := by decide +kernel
theorem dX4_tryWay_95 : decode cX4_tryWay 95 = .ok (.imul, 1) := by decide +kernel
theorem dX4_tryWay_96 : decode cX4_tryWay 96 = .ok (.iadd, 1) := by decide +kernel
theorem dX4_tryWay_97 : decode cX4_tryWay 97 = .ok (.aload_n 0, 1) := by decide +kernel
theorem dX4_tryWay_98 : decode cX4_tryWay 98 = .ok (.getfield 60, 3) := by decide +kernel
theorem dX4_tryWay_101 : decode cX4_tryWay 101 = .ok (.irem, 1) := by decide +kernel
theorem dX4_tryWay_102 : decode cX4_tryWay 102 = .ok (.iastore, 1) := by decide +kernel
theorem dX4_tryWay_103 : decode cX4_tryWay 103 = .ok (.iinc 5 1, 3) := by decide +kernel
theorem dX4_tryWay_106 : decode cX4_tryWay 106 = .ok (.goto (-52), 3) := by decide +kernel
theorem dX4_tryWay_109 : decode cX4_tryWay 109 = .ok (.iinc 3 1, 3) := by decide +kernel
theorem dX4_tryWay_112 : decode cX4_tryWay 112 = .ok (.goto (-80), 3) := by decide +kernel
theorem dX4_tryWay_115 : decode cX4_tryWay 115 = .ok (.iconst 0, 1) := by decide +kernel
theorem dX4_tryWay_116 : decode cX4_tryWay 116 = .ok (.istore_n 3, 1) := by decide +kernel
theorem dX4_tryWay_117 : decode cX4_tryWay 117 = .ok (.iconst 0, 1) := by decide +kernel
theorem dX4_tryWay_118 : decode cX4_tryWay 118 = .ok (.istore 4, 2) := by decide +kernel
theorem dX4_tryWay_120 : decode cX4_tryWay 120 = .ok (.iload 4, 2) := by decide +kernel
theorem dX4_tryWay_122 : decode cX4_tryWay 122 = .ok (.aload_n 0, 1) := by decide +kernel
theorem dX4_tryWay_123 : decode cX4_tryWay 123 = .ok (.getfield 56, 3) := by decide +kernel
theorem dX4_tryWay_126 : decode cX4_tryWay 126 = .ok (.if_icmp .ge 19, 3) := by decide +kernel
theorem dX4_tryWay_129 : decode cX4_tryWay 129 = .ok (.iload_n 3, 1) := by decide +kernel
theorem dX4_tryWay_130 : decode cX4_tryWay 130 = .ok (.aload_n 0, 1) := by decide +kernel
theorem dX4_tryWay_131 : decode cX4_tryWay 131 = .ok (.getfield 50, 3) := by decide +kernel
theorem dX4_tryWay_134 : decode cX4_tryWay 134 = .ok (.iload 4, 2) := by decide +kernel
theorem dX4_tryWay_136 : decode cX4_tryWay 136 = .ok (.iaload, 1) := by decide +kernel
theorem dX4_tryWay_137 : decode cX4_tryWay 137 = .ok (.iadd, 1) := by decide +kernel
theorem dX4_tryWay_138 : decode cX4_tryWay 138 = .ok (.istore_n 3, 1) := by decide +kernel
theorem dX4_tryWay_139 : decode cX4_tryWay 139 = .ok (.iinc 4 1, 3) := by decide +kernel
theorem dX4_tryWay_142 : decode cX4_tryWay 142 = .ok (.goto (-22), 3) := by decide +kernel
theorem dX4_tryWay_145 : decode cX4_tryWay 145 = .ok (.iload_n 3, 1) := by decide +kernel
theorem dX4_tryWay_146 : decode cX4_tryWay 146 = .ok (.ireturn, 1) := by decide +kernel
theorem dX4_isLess_0 : decode cX4_isLess 0 = .ok (.iconst 0, 1) := by decide +kernel
theorem dX4_isLess_1 : decode cX4_isLess 1 = .ok (.istore_n 1, 1) := by decide +kernel
theorem dX4_isLess_2 : decode cX4_isLess 2 = .ok (.iload_n 1, 1) := by decide +kernel
theorem dX4_isLess_3 : decode cX4_isLess 3 = .ok (.aload_n 0, 1) := by decide +kernel
theorem dX4_isLess_4 : decode cX4_isLess 4 = .ok (.getfield 56, 3) := by decide +kernel
theorem dX4_isLess_7 : decode cX4_isLess 7 = .ok (.if_icmp .ge 45, 3) := by decide +kernel
theorem dX4_isLess_10 : decode cX4_isLess 10 = .ok (.aload_n 0, 1) := by decide +kernel
theorem dX4_isLess_11 : decode cX4_isLess 11 = .ok (.getfield 50, 3) := by decide +kernel
theorem dX4_isLess_14 : decode cX4_isLess 14 = .ok (.iload_n 1, 1) := by decide +kernel
theorem dX4_isLess_15 : decode cX4_isLess 15 = .ok (.iaload, 1) := by decide +kernel
theorem dX4_isLess_16 : decode cX4_isLess 16 = .ok (.aload_n 0, 1) := by decide +kernel
theorem dX4_isLess_17 : decode cX4_isLess 17 = .ok (.getfield 47, 3) := by decide +kernel
theorem dX4_isLess_20 : decode cX4_isLess 20 = .ok (.iload_n 1, 1) := by decide +kernel
theorem dX4_isLess_21 : decode cX4_isLess 21 = .ok (.iaload, 1) := by decide +kernel
theorem dX4_isLess_22 : decode cX4_isLess 22 = .ok (.if_icmp .eq 24, 3) := by decide +kernel
theorem dX4_isLess_25 : decode cX4_isLess 25 = .ok (.aload_n 0, 1) := by decide +kernel
theorem dX4_isLess_26 : decode cX4_isLess 26 = .ok (.getfield 50, 3) := by decide +kernel
theorem dX4_isLess_29 : decode cX4_isLess 29 = .ok (.iload_n 1, 1) := by decide +kernel
theorem dX4_isLess_30 : decode cX4_isLess 30 = .ok (.iaload, 1) := by decide +kernel
theorem dX4_isLess_31 : decode cX4_isLess 31 = .ok (.aload_n 0, 1) := by decide +kernel
theorem dX4_isLess_32 : decode cX4_isLess 32 = .ok (.getfield 47, 3) := by decide +kernel
theorem dX4_isLess_35 : decode cX4_isLess 35 = .ok (.iload_n 1, 1) := by decide +kernel
theorem dX4_isLess_36 : decode cX4_isLess 36 = .ok (.iaload, 1) := by decide +kernel
theorem dX4_isLess_37 : decode cX4_isLess 37 = .ok (.if_icmp .ge 7, 3) := by decide +kernel
theorem dX4_isLess_40 : decode cX4_isLess 40 = .ok (.iconst 1, 1) := by decide +kernel
theorem dX4_isLess_41 : decode cX4_isLess 41 = .ok (.goto 4, 3) := by decide +kernel
theorem dX4_isLess_44 : decode cX4_isLess 44 = .ok (.iconst 0, 1) := by decide +kernel
theorem dX4_isLess_45 : decode cX4_isLess 45 = .ok (.ireturn, 1) := by decide +kernel
theorem dX4_isLess_46 : decode cX4_isLess 46 = .ok (.iinc 1 1, 3) := by decide +kernel
theorem dX4_isLess_49 : decode cX4_isLess 49 = .ok (.goto (-47), 3) := by decide +kernel
theorem dX4_isLess_52 : decode cX4_isLess 52 = .ok (.iconst 0, 1) := by decide +kernel
theorem dX4_isLess_53 : decode cX4_isLess 53 = .ok (.ireturn, 1) := by decide +kernel
theorem dX4_fewest_0 : decode cX4_fewest 0 = .ok (.aload_n 0, 1) := by decide +kernel
theorem dX4_fewest_1 : decode cX4_fewest 1 = .ok (.iconst 0, 1) := by decide +kernel
theorem dX4_fewest_2 : decode cX4_fewest 2 = .ok (.putfield 63, 3) := by decide +kernel
theorem dX4_fewest_5 : decode cX4_fewest 5 = .ok (.aload_n 0, 1) := by decide +kernel
theorem dX4_fewest_6 : decode cX4_fewest 6 = .ok (.invokevirtual 112, 3) := by decide +kernel
theorem dX4_fewest_9 : decode cX4_fewest 9 = .ok (.ireturn, 1) := by decide +kernel
theorem dX4_best_0 : decode cX4_best 0 = .ok (.aload_n 0, 1) := by decide +kernel
theorem dX4_best_1 : decode cX4_best 1 = .ok (.aload_n 0, 1) := by decide +kernel
theorem dX4_best_2 : decode cX4_best 2 = .ok (.iload_n 1, 1) := by decide +kernel
theorem dX4_best_3 : decode cX4_best 3 = .ok (.invokevirtual 66, 3) := by decide +kernel
theorem dX4_best_6 : decode cX4_best 6 = .ok (.ifCond .ne 7, 3) := by decide +kernel
theorem dX4_best_9 : decode cX4_best 9 = .ok (.iconst 1, 1) := by decide +kernel
theorem dX4_best_10 : decode cX4_best 10 = .ok (.goto 4, 3) := by decide +kernel
theorem dX4_best_13 : decode cX4_best 13 = .ok (.iconst 0, 1) := by decide +kernel
theorem dX4_best_14 : decode cX4_best 14 = .ok (.invokevirtual 70, 3) := by decide +kernel
theorem dX4_best_17 : decode cX4_best 17 = .ok (.ifCond .eq 5, 3) := by decide +kernel
theorem dX4_best_20 : decode cX4_best 20 = .ok (.iconst 0, 1) := by decide +kernel
theorem dX4_best_21 : decode cX4_best 21 = .ok (.ireturn, 1) := by decide +kernel
theorem dX4_best_22 : decode cX4_best 22 = .ok (.aload_n 0, 1) := by decide +kernel
theorem dX4_best_23 : decode cX4_best 23 = .ok (.invokevirtual 112, 3) := by decide +kernel
theorem dX4_best_26 : decode cX4_best 26 = .ok (.istore_n 2, 1) := by decide +kernel
theorem dX4_best_27 : decode cX4_best 27 = .ok (.iload_n 2, 1) := by decide +kernel
theorem dX4_best_28 : decode cX4_best 28 = .ok (.ifCond .ge 7, 3) := by decide +kernel
theorem dX4_best_31 : decode cX4_best 31 = .ok (.iload_n 2, 1) := by decide +kernel
theorem dX4_best_32 : decode cX4_best 32 = .ok (.goto 9, 3) := by decide +kernel
theorem dX4_best_35 : decode cX4_best 35 = .ok (.aload_n 0, 1) := by decide +kernel
theorem dX4_best_36 : decode cX4_best 36 = .ok (.getfield 47, 3) := by decide +kernel
theorem dX4_best_39 : decode cX4_best 39 = .ok (.iload_n 1, 1) := by decide +kernel
theorem dX4_best_40 : decode cX4_best 40 = .ok (.iaload, 1) := by decide +kernel
theorem dX4_best_41 : decode cX4_best 41 = .ok (.ireturn, 1) := by decide +kernel
theorem dX4_alone_0 : decode cX4_alone 0 = .ok (.aload_n 0, 1) := by decide +kernel
theorem dX4_alone_1 : decode cX4_alone 1 = .ok (.aload_n 0, 1) := by decide +kernel
theorem dX4_alone_2 : decode cX4_alone 2 = .ok (.iload_n 1, 1) := by decide +kernel
theorem dX4_alone_3 : decode cX4_alone 3 = .ok (.invokevirtual 66, 3) := by decide +kernel
theorem dX4_alone_6 : decode cX4_alone 6 = .ok (.ifCond .ne 7, 3) := by decide +kernel
theorem dX4_alone_9 : decode cX4_alone 9 = .ok (.iconst 1, 1) := by decide +kernel
theorem dX4_alone_10 : decode cX4_alone 10 = .ok (.goto 4, 3) := by decide +kernel
theorem dX4_alone_13 : decode cX4_alone 13 = .ok (.iconst 0, 1) := by decide +kernel
theorem dX4_alone_14 : decode cX4_alone 14 = .ok (.invokevirtual 70, 3) := by decide +kernel
theorem dX4_alone_17 : decode cX4_alone 17 = .ok (.ifCond .eq 5, 3) := by decide +kernel
theorem dX4_alone_20 : decode cX4_alone 20 = .ok (.iconst 0, 1) := by decide +kernel
theorem dX4_alone_21 : decode cX4_alone 21 = .ok (.ireturn, 1) := by decide +kernel
theorem dX4_alone_22 : decode cX4_alone 22 = .ok (.aload_n 0, 1) := by decide +kernel
theorem dX4_alone_23 : decode cX4_alone 23 = .ok (.invokevirtual 99, 3) := by decide +kernel
theorem dX4_alone_26 : decode cX4_alone 26 = .ok (.iconst 0, 1) := by decide +kernel
theorem dX4_alone_27 : decode cX4_alone 27 = .ok (.istore_n 2, 1) := by decide +kernel
theorem dX4_alone_28 : decode cX4_alone 28 = .ok (.iload_n 2, 1) := by decide +kernel
theorem dX4_alone_29 : decode cX4_alone 29 = .ok (.aload_n 0, 1) := by decide +kernel
theorem dX4_alone_30 : decode cX4_alone 30 = .ok (.getfield 56, 3) := by decide +kernel
theorem dX4_alone_33 : decode cX4_alone 33 = .ok (.if_icmp .ge 25, 3) := by decide +kernel
theorem dX4_alone_36 : decode cX4_alone 36 = .ok (.aload_n 0, 1) := by decide +kernel
theorem dX4_alone_37 : decode cX4_alone 37 = .ok (.getfield 35, 3) := by decide +kernel
theorem dX4_alone_40 : decode cX4_alone 40 = .ok (.iload_n 2, 1) := by decide +kernel
theorem dX4_alone_41 : decode cX4_alone 41 = .ok (.iload_n 2, 1) := by decide +kernel
theorem dX4_alone_42 : decode cX4_alone 42 = .ok (.iload_n 1, 1) := by decide +kernel
theorem dX4_alone_43 : decode cX4_alone 43 = .ok (.if_icmp .ne 7, 3) := by decide +kernel
theorem dX4_alone_46 : decode cX4_alone 46 = .ok (.iconst 1, 1) := by decide +kernel
theorem dX4_alone_47 : decode cX4_alone 47 = .ok (.goto 4, 3) := by decide +kernel
theorem dX4_alone_50 : decode cX4_alone 50 = .ok (.iconst 0, 1) := by decide +kernel
theorem dX4_alone_51 : decode cX4_alone 51 = .ok (.iastore, 1) := by decide +kernel
theorem dX4_alone_52 : decode cX4_alone 52 = .ok (.iinc 2 1, 3) := by decide +kernel
theorem dX4_alone_55 : decode cX4_alone 55 = .ok (.goto (-27), 3) := by decide +kernel
theorem dX4_alone_58 : decode cX4_alone 58 = .ok (.aload_n 0, 1) := by decide +kernel
theorem dX4_alone_59 : decode cX4_alone 59 = .ok (.invokevirtual 92, 3) := by decide +kernel
theorem dX4_alone_62 : decode cX4_alone 62 = .ok (.aload_n 0, 1) := by decide +kernel
theorem dX4_alone_63 : decode cX4_alone 63 = .ok (.invokevirtual 95, 3) := by decide +kernel
theorem dX4_alone_66 : decode cX4_alone 66 = .ok (.ifCond .ge 7, 3) := by decide +kernel
theorem dX4_alone_69 : decode cX4_alone 69 = .ok (.iconst 1, 1) := by decide +kernel
theorem dX4_alone_70 : decode cX4_alone 70 = .ok (.goto 4, 3) := by decide +kernel
theorem dX4_alone_73 : decode cX4_alone 73 = .ok (.iconst 0, 1) := by decide +kernel
theorem dX4_alone_74 : decode cX4_alone 74 = .ok (.ireturn, 1) := by decide +kernel
end
section
theorem dL_cell_0 : decode cL_cell 0 = .ok (.iload_n 1, 1) := by decide +kernel
theorem dL_cell_1 : decode cL_cell 1 = .ok (.aload_n 0, 1) := by decide +kernel
theorem dL_cell_2 : decode cL_cell 2 = .ok (.arraylength, 1) := by decide +kernel
theorem dL_cell_3 : decode cL_cell 3 = .ok (.if_icmp .ge 9, 3) := by decide +kernel
theorem dL_cell_6 : decode cL_cell 6 = .ok (.aload_n 0, 1) := by decide +kernel
theorem dL_cell_7 : decode cL_cell 7 = .ok (.iload_n 1, 1) := by decide +kernel
theorem dL_cell_8 : decode cL_cell 8 = .ok (.iaload, 1) := by decide +kernel
theorem dL_cell_9 : decode cL_cell 9 = .ok (.goto 4, 3) := by decide +kernel
theorem dL_cell_12 : decode cL_cell 12 = .ok (.iconst 0, 1) := by decide +kernel
theorem dL_cell_13 : decode cL_cell 13 = .ok (.ireturn, 1) := by decide +kernel
theorem dL_join_0 : decode cL_join 0 = .ok (.aload_n 3, 1) := by decide +kernel
theorem dL_join_1 : decode cL_join 1 = .ok (.iconst 0, 1) := by decide +kernel
theorem dL_join_2 : decode cL_join 2 = .ok (.aload_n 0, 1) := by decide +kernel
theorem dL_join_3 : decode cL_join 3 = .ok (.iload_n 1, 1) := by decide +kernel
theorem dL_join_4 : decode cL_join 4 = .ok (.iload_n 2, 1) := by decide +kernel
theorem dL_join_5 : decode cL_join 5 = .ok (.invokevirtual 7, 3) := by decide +kernel
theorem dL_join_8 : decode cL_join 8 = .ok (.ifCond .eq 7, 3) := by decide +kernel
theorem dL_join_11 : decode cL_join 11 = .ok (.lconst 1, 1) := by decide +kernel
theorem dL_join_12 : decode cL_join 12 = .ok (.goto 4, 3) := by decide +kernel
theorem dL_join_15 : decode cL_join 15 = .ok (.lconst 0, 1) := by decide +kernel
theorem dL_join_16 : decode cL_join 16 = .ok (.lastore, 1) := by decide +kernel
theorem dL_join_17 : decode cL_join 17 = .ok (.goto 7, 3) := by decide +kernel
theorem dL_join_20 : decode cL_join 20 = .ok (.astore 4, 2) := by decide +kernel
theorem dL_join_22 : decode cL_join 22 = .ok (.iconst 1, 1) := by decide +kernel
theorem dL_join_23 : decode cL_join 23 = .ok (.ireturn, 1) := by decide +kernel
theorem dL_join_24 : decode cL_join 24 = .ok (.iconst 0, 1) := by decide +kernel
theorem dL_join_25 : decode cL_join 25 = .ok (.ireturn, 1) := by decide +kernel
theorem dL_self_0 : decode cL_self 0 = .ok (.aload_n 3, 1) := by decide +kernel
theorem dL_self_1 : decode cL_self 1 = .ok (.iconst 0, 1) := by decide +kernel
theorem dL_self_2 : decode cL_self 2 = .ok (.aload_n 0, 1) := by decide +kernel
theorem dL_self_3 : decode cL_self 3 = .ok (.iload_n 1, 1) := by decide +kernel
theorem dL_self_4 : decode cL_self 4 = .ok (.iload_n 2, 1) := by decide +kernel
theorem dL_self_5 : decode cL_self 5 = .ok (.invokevirtual 15, 3) := by decide +kernel
theorem dL_self_8 : decode cL_self 8 = .ok (.ifCond .eq 7, 3) := by decide +kernel
theorem dL_self_11 : decode cL_self 11 = .ok (.lconst 1, 1) := by decide +kernel
theorem dL_self_12 : decode cL_self 12 = .ok (.goto 4, 3) := by decide +kernel
theorem dL_self_15 : decode cL_self 15 = .ok (.lconst 0, 1) := by decide +kernel
theorem dL_self_16 : decode cL_self 16 = .ok (.lastore, 1) := by decide +kernel
theorem dL_self_17 : decode cL_self 17 = .ok (.goto 7, 3) := by decide +kernel
theorem dL_self_20 : decode cL_self 20 = .ok (.astore 4, 2) := by decide +kernel
theorem dL_self_22 : decode cL_self 22 = .ok (.iconst 1, 1) := by decide +kernel
theorem dL_self_23 : decode cL_self 23 = .ok (.ireturn, 1) := by decide +kernel
theorem dL_self_24 : decode cL_self 24 = .ok (.iconst 0, 1) := by decide +kernel
theorem dL_self_25 : decode cL_self 25 = .ok (.ireturn, 1) := by decide +kernel
theorem dL_set_0 : decode cL_set 0 = .ok (.aload_n 3, 1) := by decide +kernel
theorem dL_set_1 : decode cL_set 1 = .ok (.iconst 0, 1) := by decide +kernel
theorem dL_set_2 : decode cL_set 2 = .ok (.aload_n 0, 1) := by decide +kernel
theorem dL_set_3 : decode cL_set 3 = .ok (.iload_n 1, 1) := by decide +kernel
theorem dL_set_4 : decode cL_set 4 = .ok (.iload_n 2, 1) := by decide +kernel
theorem dL_set_5 : decode cL_set 5 = .ok (.invokevirtual 19, 3) := by decide +kernel
theorem dL_set_8 : decode cL_set 8 = .ok (.ifCond .eq 7, 3) := by decide +kernel
theorem dL_set_11 : decode cL_set 11 = .ok (.lconst 1, 1) := by decide +kernel
theorem dL_set_12 : decode cL_set 12 = .ok (.goto 4, 3) := by decide +kernel
theorem dL_set_15 : decode cL_set 15 = .ok (.lconst 0, 1) := by decide +kernel
theorem dL_set_16 : decode cL_set 16 = .ok (.lastore, 1) := by decide +kernel
theorem dL_set_17 : decode cL_set 17 = .ok (.goto 7, 3) := by decide +kernel
theorem dL_set_20 : decode cL_set 20 = .ok (.astore 4, 2) := by decide +kernel
theorem dL_set_22 : decode cL_set 22 = .ok (.iconst 1, 1) := by decide +kernel
theorem dL_set_23 : decode cL_set 23 = .ok (.ireturn, 1) := by decide +kernel
theorem dL_set_24 : decode cL_set 24 = .ok (.iconst 0, 1) := by decide +kernel
theorem dL_set_25 : decode cL_set 25 = .ok (.ireturn, 1) := by decide +kernel
theorem dL_want_0 : decode cL_want 0 = .ok (.aload_n 3, 1) := by decide +kernel
theorem dL_want_1 : decode cL_want 1 = .ok (.iconst 0, 1) := by decide +kernel
theorem dL_want_2 : decode cL_want 2 = .ok (.aload_n 0, 1) := by decide +kernel
theorem dL_want_3 : decode cL_want 3 = .ok (.iload_n 1, 1) := by decide +kernel
theorem dL_want_4 : decode cL_want 4 = .ok (.iload_n 2, 1) := by decide +kernel
theorem dL_want_5 : decode cL_want 5 = .ok (.invokevirtual 22, 3) := by decide +kernel
theorem dL_want_8 : decode cL_want 8 = .ok (.ifCond .eq 7, 3) := by decide +kernel
theorem dL_want_11 : decode cL_want 11 = .ok (.lconst 1, 1) := by decide +kernel
theorem dL_want_12 : decode cL_want 12 = .ok (.goto 4, 3) := by decide +kernel
theorem dL_want_15 : decode cL_want 15 = .ok (.lconst 0, 1) := by decide +kernel
theorem dL_want_16 : decode cL_want 16 = .ok (.lastore, 1) := by decide +kernel
theorem dL_want_17 : decode cL_want 17 = .ok (.goto 7, 3) := by decide +kernel
theorem dL_want_20 : decode cL_want 20 = .ok (.astore 4, 2) := by decide +kernel
theorem dL_want_22 : decode cL_want 22 = .ok (.iconst 1, 1) := by decide +kernel
theorem dL_want_23 : decode cL_want 23 = .ok (.ireturn, 1) := by decide +kernel
theorem dL_want_24 : decode cL_want 24 = .ok (.iconst 0, 1) := by decide +kernel
theorem dL_want_25 : decode cL_want 25 = .ok (.ireturn, 1) := by decide +kernel
theorem dL_press_0 : decode cL_press 0 = .ok (.aload_n 3, 1) := by decide +kernel
theorem dL_press_1 : decode cL_press 1 = .ok (.iconst 0, 1) := by decide +kernel
theorem dL_press_2 : decode cL_press 2 = .ok (.aload_n 0, 1) := by decide +kernel
theorem dL_press_3 : decode cL_press 3 = .ok (.iload_n 1, 1) := by decide +kernel
theorem dL_press_4 : decode cL_press 4 = .ok (.iload_n 2, 1) := by decide +kernel
theorem dL_press_5 : decode cL_press 5 = .ok (.invokevirtual 25, 3) := by decide +kernel
theorem dL_press_8 : decode cL_press 8 = .ok (.ifCond .eq 7, 3) := by decide +kernel
theorem dL_press_11 : decode cL_press 11 = .ok (.lconst 1, 1) := by decide +kernel
theorem dL_press_12 : decode cL_press 12 = .ok (.goto 4, 3) := by decide +kernel
theorem dL_press_15 : decode cL_press 15 = .ok (.lconst 0, 1) := by decide +kernel
theorem dL_press_16 : decode cL_press 16 = .ok (.lastore, 1) := by decide +kernel
theorem dL_press_17 : decode cL_press 17 = .ok (.goto 7, 3) := by decide +kernel
theorem dL_press_20 : decode cL_press 20 = .ok (.astore 4, 2) := by decide +kernel
theorem dL_press_22 : decode cL_press 22 = .ok (.iconst 1, 1) := by decide +kernel
theorem dL_press_23 : decode cL_press 23 = .ok (.ireturn, 1) := by decide +kernel
theorem dL_press_24 : decode cL_press 24 = .ok (.iconst 0, 1) := by decide +kernel
theorem dL_press_25 : decode cL_press 25 = .ok (.ireturn, 1) := by decide +kernel
theorem dL_at_0 : decode cL_at 0 = .ok (.aload_n 2, 1) := by decide +kernel
theorem dL_at_1 : decode cL_at 1 = .ok (.iconst 0, 1) := by decide +kernel
theorem dL_at_2 : decode cL_at 2 = .ok (.aload_n 0, 1) := by decide +kernel
theorem dL_at_3 : decode cL_at 3 = .ok (.iload_n 1, 1) := by decide +kernel
theorem dL_at_4 : decode cL_at 4 = .ok (.invokevirtual 28, 3) := by decide +kernel
theorem dL_at_7 : decode cL_at 7 = .ok (.i2l, 1) := by decide +kernel
theorem dL_at_8 : decode cL_at 8 = .ok (.lastore, 1) := by decide +kernel
theorem dL_at_9 : decode cL_at 9 = .ok (.goto 6, 3) := by decide +kernel
theorem dL_at_12 : decode cL_at 12 = .ok (.astore_n 3, 1) := by decide +kernel
theorem dL_at_13 : decode cL_at 13 = .ok (.iconst 1, 1) := by decide +kernel
theorem dL_at_14 : decode cL_at 14 = .ok (.ireturn, 1) := by decide +kernel
theorem dL_at_15 : decode cL_at 15 = .ok (.iconst 0, 1) := by decide +kernel
theorem dL_at_16 : decode cL_at 16 = .ok (.ireturn, 1) := by decide +kernel
theorem dL_answer_0 : decode cL_answer 0 = .ok (.aload_n 2, 1) := by decide +kernel
theorem dL_answer_1 : decode cL_answer 1 = .ok (.iconst 0, 1) := by decide +kernel
theorem dL_answer_2 : decode cL_answer 2 = .ok (.aload_n 0, 1) := by decide +kernel
theorem dL_answer_3 : decode cL_answer 3 = .ok (.iload_n 1, 1) := by decide +kernel
theorem dL_answer_4 : decode cL_answer 4 = .ok (.invokevirtual 32, 3) := by decide +kernel
theorem dL_answer_7 : decode cL_answer 7 = .ok (.i2l, 1) := by decide +kernel
theorem dL_answer_8 : decode cL_answer 8 = .ok (.lastore, 1) := by decide +kernel
theorem dL_answer_9 : decode cL_answer 9 = .ok (.goto 6, 3) := by decide +kernel
theorem dL_answer_12 : decode cL_answer 12 = .ok (.astore_n 3, 1) := by decide +kernel
theorem dL_answer_13 : decode cL_answer 13 = .ok (.iconst 1, 1) := by decide +kernel
theorem dL_answer_14 : decode cL_answer 14 = .ok (.ireturn, 1) := by decide +kernel
theorem dL_answer_15 : decode cL_answer 15 = .ok (.iconst 0, 1) := by decide +kernel
theorem dL_answer_16 : decode cL_answer 16 = .ok (.ireturn, 1) := by decide +kernel
theorem dL_quiet_0 : decode cL_quiet 0 = .ok (.aload_n 3, 1) := by decide +kernel
theorem dL_quiet_1 : decode cL_quiet 1 = .ok (.iconst 0, 1) := by decide +kernel
theorem dL_quiet_2 : decode cL_quiet 2 = .ok (.aload_n 0, 1) := by decide +kernel
theorem dL_quiet_3 : decode cL_quiet 3 = .ok (.iload_n 1, 1) := by decide +kernel
theorem dL_quiet_4 : decode cL_quiet 4 = .ok (.iload_n 2, 1) := by decide +kernel
theorem dL_quiet_5 : decode cL_quiet 5 = .ok (.invokevirtual 35, 3) := by decide +kernel
theorem dL_quiet_8 : decode cL_quiet 8 = .ok (.i2l, 1) := by decide +kernel
theorem dL_quiet_9 : decode cL_quiet 9 = .ok (.lastore, 1) := by decide +kernel
theorem dL_quiet_10 : decode cL_quiet 10 = .ok (.goto 7, 3) := by decide +kernel
theorem dL_quiet_13 : decode cL_quiet 13 = .ok (.astore 4, 2) := by decide +kernel
theorem dL_quiet_15 : decode cL_quiet 15 = .ok (.iconst 1, 1) := by decide +kernel
theorem dL_quiet_16 : decode cL_quiet 16 = .ok (.ireturn, 1) := by decide +kernel
theorem dL_quiet_17 : decode cL_quiet 17 = .ok (.iconst 0, 1) := by decide +kernel
theorem dL_quiet_18 : decode cL_quiet 18 = .ok (.ireturn, 1) := by decide +kernel
theorem dL_best_0 : decode cL_best 0 = .ok (.aload_n 2, 1) := by decide +kernel
theorem dL_best_1 : decode cL_best 1 = .ok (.iconst 0, 1) := by decide +kernel
theorem dL_best_2 : decode cL_best 2 = .ok (.aload_n 0, 1) := by decide +kernel
theorem dL_best_3 : decode cL_best 3 = .ok (.iload_n 1, 1) := by decide +kernel
theorem dL_best_4 : decode cL_best 4 = .ok (.invokevirtual 39, 3) := by decide +kernel
theorem dL_best_7 : decode cL_best 7 = .ok (.i2l, 1) := by decide +kernel
theorem dL_best_8 : decode cL_best 8 = .ok (.lastore, 1) := by decide +kernel
theorem dL_best_9 : decode cL_best 9 = .ok (.goto 6, 3) := by decide +kernel
theorem dL_best_12 : decode cL_best 12 = .ok (.astore_n 3, 1) := by decide +kernel
theorem dL_best_13 : decode cL_best 13 = .ok (.iconst 1, 1) := by decide +kernel
theorem dL_best_14 : decode cL_best 14 = .ok (.ireturn, 1) := by decide +kernel
theorem dL_best_15 : decode cL_best 15 = .ok (.iconst 0, 1) := by decide +kernel
theorem dL_best_16 : decode cL_best 16 = .ok (.ireturn, 1) := by decide +kernel
theorem dL_alone_0 : decode cL_alone 0 = .ok (.aload_n 2, 1) := by decide +kernel
theorem dL_alone_1 : decode cL_alone 1 = .ok (.iconst 0, 1) := by decide +kernel
theorem dL_alone_2 : decode cL_alone 2 = .ok (.aload_n 0, 1) := by decide +kernel
theorem dL_alone_3 : decode cL_alone 3 = .ok (.iload_n 1, 1) := by decide +kernel
theorem dL_alone_4 : decode cL_alone 4 = .ok (.invokevirtual 42, 3) := by decide +kernel
theorem dL_alone_7 : decode cL_alone 7 = .ok (.ifCond .eq 7, 3) := by decide +kernel
theorem dL_alone_10 : decode cL_alone 10 = .ok (.lconst 1, 1) := by decide +kernel
theorem dL_alone_11 : decode cL_alone 11 = .ok (.goto 4, 3) := by decide +kernel
theorem dL_alone_14 : decode cL_alone 14 = .ok (.lconst 0, 1) := by decide +kernel
theorem dL_alone_15 : decode cL_alone 15 = .ok (.lastore, 1) := by decide +kernel
theorem dL_alone_16 : decode cL_alone 16 = .ok (.goto 6, 3) := by decide +kernel
theorem dL_alone_19 : decode cL_alone 19 = .ok (.astore_n 3, 1) := by decide +kernel
theorem dL_alone_20 : decode cL_alone 20 = .ok (.iconst 1, 1) := by decide +kernel
theorem dL_alone_21 : decode cL_alone 21 = .ok (.ireturn, 1) := by decide +kernel
theorem dL_alone_22 : decode cL_alone 22 = .ok (.iconst 0, 1) := by decide +kernel
theorem dL_alone_23 : decode cL_alone 23 = .ok (.ireturn, 1) := by decide +kernel
theorem dL_law_0 : decode cL_law 0 = .ok (.new 8, 3) := by decide +kernel
theorem dL_law_3 : decode cL_law 3 = .ok (.dup, 1) := by decide +kernel
theorem dL_law_4 : decode cL_law 4 = .ok (.aload_n 0, 1) := by decide +kernel
theorem dL_law_5 : decode cL_law 5 = .ok (.iconst 0, 1) := by decide +kernel
theorem dL_law_6 : decode cL_law 6 = .ok (.invokestatic 46, 3) := by decide +kernel
theorem dL_law_9 : decode cL_law 9 = .ok (.aload_n 0, 1) := by decide +kernel
theorem dL_law_10 : decode cL_law 10 = .ok (.iconst 1, 1) := by decide +kernel
theorem dL_law_11 : decode cL_law 11 = .ok (.invokestatic 46, 3) := by decide +kernel
theorem dL_law_14 : decode cL_law 14 = .ok (.invokespecial 52, 3) := by decide +kernel
theorem dL_law_17 : decode cL_law 17 = .ok (.astore_n 1, 1) := by decide +kernel
theorem dL_law_18 : decode cL_law 18 = .ok (.new 55, 3) := by decide +kernel
theorem dL_law_21 : decode cL_law 21 = .ok (.dup, 1) := by decide +kernel
theorem dL_law_22 : decode cL_law 22 = .ok (.aload_n 0, 1) := by decide +kernel
theorem dL_law_23 : decode cL_law 23 = .ok (.iconst 0, 1) := by decide +kernel
theorem dL_law_24 : decode cL_law 24 = .ok (.invokestatic 46, 3) := by decide +kernel
theorem dL_law_27 : decode cL_law 27 = .ok (.aload_n 0, 1) := by decide +kernel
theorem dL_law_28 : decode cL_law 28 = .ok (.iconst 1, 1) := by decide +kernel
theorem dL_law_29 : decode cL_law 29 = .ok (.invokestatic 46, 3) := by decide +kernel
theorem dL_law_32 : decode cL_law 32 = .ok (.invokespecial 57, 3) := by decide +kernel
theorem dL_law_35 : decode cL_law 35 = .ok (.astore_n 2, 1) := by decide +kernel
theorem dL_law_36 : decode cL_law 36 = .ok (.iconst 1, 1) := by decide +kernel
theorem dL_law_37 : decode cL_law 37 = .ok (.newarray .long, 2) := by decide +kernel
theorem dL_law_39 : decode cL_law 39 = .ok (.astore_n 3, 1) := by decide +kernel
theorem dL_law_40 : decode cL_law 40 = .ok (.iconst 2, 1) := by decide +kernel
theorem dL_law_41 : decode cL_law 41 = .ok (.istore 4, 2) := by decide +kernel
theorem dL_law_43 : decode cL_law 43 = .ok (.iload 4, 2) := by decide +kernel
theorem dL_law_45 : decode cL_law 45 = .ok (.aload_n 0, 1) := by decide +kernel
theorem dL_law_46 : decode cL_law 46 = .ok (.arraylength, 1) := by decide +kernel
theorem dL_law_47 : decode cL_law 47 = .ok (.iconst 3, 1) := by decide +kernel
theorem dL_law_48 : decode cL_law 48 = .ok (.isub, 1) := by decide +kernel
theorem dL_law_49 : decode cL_law 49 = .ok (.if_icmp .gt 871, 3) := by decide +kernel
theorem dL_law_52 : decode cL_law 52 = .ok (.aload_n 0, 1) := by decide +kernel
theorem dL_law_53 : decode cL_law 53 = .ok (.iload 4, 2) := by decide +kernel
theorem dL_law_55 : decode cL_law 55 = .ok (.iaload, 1) := by decide +kernel
theorem dL_law_56 : decode cL_law 56 = .ok (.bipush 15, 2) := by decide +kernel
theorem dL_law_58 : decode cL_law 58 = .ok (.iand, 1) := by decide +kernel
theorem dL_law_59 : decode cL_law 59 = .ok (.tableswitch 855 0 15 #[77, 152, 243, 318, 393, 468, 524, 537, 550, 563, 619, 687, 712, 725, 781, 844], 77) := by decide +kernel
theorem dL_law_136 : decode cL_law 136 = .ok (.aload_n 1, 1) := by decide +kernel
theorem dL_law_137 : decode cL_law 137 = .ok (.aload_n 0, 1) := by decide +kernel
theorem dL_law_138 : decode cL_law 138 = .ok (.iload 4, 2) := by decide +kernel
theorem dL_law_140 : decode cL_law 140 = .ok (.iconst 1, 1) := by decide +kernel
theorem dL_law_141 : decode cL_law 141 = .ok (.iadd, 1) := by decide +kernel
theorem dL_law_142 : decode cL_law 142 = .ok (.iaload, 1) := by decide +kernel
theorem dL_law_143 : decode cL_law 143 = .ok (.aload_n 0, 1) := by decide +kernel
theorem dL_law_144 : decode cL_law 144 = .ok (.iload 4, 2) := by decide +kernel
theorem dL_law_146 : decode cL_law 146 = .ok (.iconst 2, 1) := by decide +kernel
theorem dL_law_147 : decode cL_law 147 = .ok (.iadd, 1) := by decide +kernel
theorem dL_law_148 : decode cL_law 148 = .ok (.iaload, 1) := by decide +kernel
theorem dL_law_149 : decode cL_law 149 = .ok (.aload_n 3, 1) := by decide +kernel
theorem dL_law_150 : decode cL_law 150 = .ok (.invokestatic 58, 3) := by decide +kernel
theorem dL_law_153 : decode cL_law 153 = .ok (.istore 5, 2) := by decide +kernel
theorem dL_law_155 : decode cL_law 155 = .ok (.aload_n 2, 1) := by decide +kernel
theorem dL_law_156 : decode cL_law 156 = .ok (.aload_n 0, 1) := by decide +kernel
theorem dL_law_157 : decode cL_law 157 = .ok (.iload 4, 2) := by decide +kernel
theorem dL_law_159 : decode cL_law 159 = .ok (.iconst 1, 1) := by decide +kernel
theorem dL_law_160 : decode cL_law 160 = .ok (.iadd, 1) := by decide +kernel
theorem dL_law_161 : decode cL_law 161 = .ok (.iaload, 1) := by decide +kernel
theorem dL_law_162 : decode cL_law 162 = .ok (.aload_n 0, 1) := by decide +kernel
theorem dL_law_163 : decode cL_law 163 = .ok (.iload 4, 2) := by decide +kernel
theorem dL_law_165 : decode cL_law 165 = .ok (.iconst 2, 1) := by decide +kernel
theorem dL_law_166 : decode cL_law 166 = .ok (.iadd, 1) := by decide +kernel
theorem dL_law_167 : decode cL_law 167 = .ok (.iaload, 1) := by decide +kernel
theorem dL_law_168 : decode cL_law 168 = .ok (.invokevirtual 61, 3) := by decide +kernel
theorem dL_law_171 : decode cL_law 171 = .ok (.istore 6, 2) := by decide +kernel
theorem dL_law_173 : decode cL_law 173 = .ok (.aload_n 2, 1) := by decide +kernel
theorem dL_law_174 : decode cL_law 174 = .ok (.invokevirtual 62, 3) := by decide +kernel
theorem dL_law_177 : decode cL_law 177 = .ok (.iload 5, 2) := by decide +kernel
theorem dL_law_179 : decode cL_law 179 = .ok (.if_icmp .eq 5, 3) := by decide +kernel
theorem dL_law_182 : decode cL_law 182 = .ok (.iconst 0, 1) := by decide +kernel
theorem dL_law_183 : decode cL_law 183 = .ok (.ireturn, 1) := by decide +kernel
theorem dL_law_184 : decode cL_law 184 = .ok (.iload 5, 2) := by decide +kernel
theorem dL_law_186 : decode cL_law 186 = .ok (.ifCond .ne 22, 3) := by decide +kernel
theorem dL_law_189 : decode cL_law 189 = .ok (.aload_n 3, 1) := by decide +kernel
theorem dL_law_190 : decode cL_law 190 = .ok (.iconst 0, 1) := by decide +kernel
theorem dL_law_191 : decode cL_law 191 = .ok (.laload, 1) := by decide +kernel
theorem dL_law_192 : decode cL_law 192 = .ok (.iload 6, 2) := by decide +kernel
theorem dL_law_194 : decode cL_law 194 = .ok (.ifCond .eq 7, 3) := by decide +kernel
theorem dL_law_197 : decode cL_law 197 = .ok (.lconst 1, 1) := by decide +kernel
theorem dL_law_198 : decode cL_law 198 = .ok (.goto 4, 3) := by decide +kernel
theorem dL_law_201 : decode cL_law 201 = .ok (.lconst 0, 1) := by decide +kernel
theorem dL_law_202 : decode cL_law 202 = .ok (.lcmp, 1) := by decide +kernel
theorem dL_law_203 : decode cL_law 203 = .ok (.ifCond .eq 5, 3) := by decide +kernel
theorem dL_law_206 : decode cL_law 206 = .ok (.iconst 0, 1) := by decide +kernel
theorem dL_law_207 : decode cL_law 207 = .ok (.ireturn, 1) := by decide +kernel
theorem dL_law_208 : decode cL_law 208 = .ok (.goto 706, 3) := by decide +kernel
theorem dL_law_211 : decode cL_law 211 = .ok (.aload_n 1, 1) := by decide +kernel
theorem dL_law_212 : decode cL_law 212 = .ok (.aload_n 0, 1) := by decide +kernel
theorem dL_law_213 : decode cL_law 213 = .ok (.iload 4, 2) := by decide +kernel
theorem dL_law_215 : decode cL_law 215 = .ok (.iconst 1, 1) := by decide +kernel
theorem dL_law_216 : decode cL_law 216 = .ok (.iadd, 1) := by decide +kernel
theorem dL_law_217 : decode cL_law 217 = .ok (.iaload, 1) := by decide +kernel
theorem dL_law_218 : decode cL_law 218 = .ok (.aload_n 0, 1) := by decide +kernel
theorem dL_law_219 : decode cL_law 219 = .ok (.iload 4, 2) := by decide +kernel
theorem dL_law_221 : decode cL_law 221 = .ok (.iconst 2, 1) := by decide +kernel
theorem dL_law_222 : decode cL_law 222 = .ok (.iadd, 1) := by decide +kernel
theorem dL_law_223 : decode cL_law 223 = .ok (.iaload, 1) := by decide +kernel
theorem dL_law_224 : decode cL_law 224 = .ok (.ifCond .eq 7, 3) := by decide +kernel
theorem dL_law_227 : decode cL_law 227 = .ok (.iconst 1, 1) := by decide +kernel
theorem dL_law_228 : decode cL_law 228 = .ok (.goto 4, 3) := by decide +kernel
theorem dL_law_231 : decode cL_law 231 = .ok (.iconst 0, 1) := by decide +kernel
theorem dL_law_232 : decode cL_law 232 = .ok (.aload_n 3, 1) := by decide +kernel
theorem dL_law_233 : decode cL_law 233 = .ok (.invokestatic 66, 3) := by decide +kernel
theorem dL_law_236 : decode cL_law 236 = .ok (.istore 5, 2) := by decide +kernel
theorem dL_law_238 : decode cL_law 238 = .ok (.aload_n 2, 1) := by decide +kernel
theorem dL_law_239 : decode cL_law 239 = .ok (.aload_n 0, 1) := by decide +kernel
theorem dL_law_240 : decode cL_law 240 = .ok (.iload 4, 2) := by decide +kernel
theorem dL_law_242 : decode cL_law 242 = .ok (.iconst 1, 1) := by decide +kernel
theorem dL_law_243 : decode cL_law 243 = .ok (.iadd, 1) := by decide +kernel
theorem dL_law_244 : decode cL_law 244 = .ok (.iaload, 1) := by decide +kernel
theorem dL_law_245 : decode cL_law 245 = .ok (.aload_n 0, 1) := by decide +kernel
theorem dL_law_246 : decode cL_law 246 = .ok (.iload 4, 2) := by decide +kernel
theorem dL_law_248 : decode cL_law 248 = .ok (.iconst 2, 1) := by decide +kernel
theorem dL_law_249 : decode cL_law 249 = .ok (.iadd, 1) := by decide +kernel
theorem dL_law_250 : decode cL_law 250 = .ok (.iaload, 1) := by decide +kernel
theorem dL_law_251 : decode cL_law 251 = .ok (.ifCond .eq 7, 3) := by decide +kernel
theorem dL_law_254 : decode cL_law 254 = .ok (.iconst 1, 1) := by decide +kernel
theorem dL_law_255 : decode cL_law 255 = .ok (.goto 4, 3) := by decide +kernel
theorem dL_law_258 : decode cL_law 258 = .ok (.iconst 0, 1) := by decide +kernel
theorem dL_law_259 : decode cL_law 259 = .ok (.invokevirtual 69, 3) := by decide +kernel
theorem dL_law_262 : decode cL_law 262 = .ok (.istore 6, 2) := by decide +kernel
theorem dL_law_264 : decode cL_law 264 = .ok (.aload_n 2, 1) := by decide +kernel
theorem dL_law_265 : decode cL_law 265 = .ok (.invokevirtual 62, 3) := by decide +kernel
theorem dL_law_268 : decode cL_law 268 = .ok (.iload 5, 2) := by decide +kernel
theorem dL_law_270 : decode cL_law 270 = .ok (.if_icmp .eq 5, 3) := by decide +kernel
theorem dL_law_273 : decode cL_law 273 = .ok (.iconst 0, 1) := by decide +kernel
theorem dL_law_274 : decode cL_law 274 = .ok (.ireturn, 1) := by decide +kernel
theorem dL_law_275 : decode cL_law 275 = .ok (.iload 5, 2) := by decide +kernel
theorem dL_law_277 : decode cL_law 277 = .ok (.ifCond .ne 22, 3) := by decide +kernel
theorem dL_law_280 : decode cL_law 280 = .ok (.aload_n 3, 1) := by decide +kernel
theorem dL_law_281 : decode cL_law 281 = .ok (.iconst 0, 1) := by decide +kernel
theorem dL_law_282 : decode cL_law 282 = .ok (.laload, 1) := by decide +kernel
theorem dL_law_283 : decode cL_law 283 = .ok (.iload 6, 2) := by decide +kernel
theorem dL_law_285 : decode cL_law 285 = .ok (.ifCond .eq 7, 3) := by decide +kernel
theorem dL_law_288 : decode cL_law 288 = .ok (.lconst 1, 1) := by decide +kernel
theorem dL_law_289 : decode cL_law 289 = .ok (.goto 4, 3) := by decide +kernel
theorem dL_law_292 : decode cL_law 292 = .ok (.lconst 0, 1) := by decide +kernel
theorem dL_law_293 : decode cL_law 293 = .ok (.lcmp, 1) := by decide +kernel
theorem dL_law_294 : decode cL_law 294 = .ok (.ifCond .eq 5, 3) := by decide +kernel
theorem dL_law_297 : decode cL_law 297 = .ok (.iconst 0, 1) := by decide +kernel
theorem dL_law_298 : decode cL_law 298 = .ok (.ireturn, 1) := by decide +kernel
theorem dL_law_299 : decode cL_law 299 = .ok (.goto 615, 3) := by decide +kernel
theorem dL_law_302 : decode cL_law 302 = .ok (.aload_n 1, 1) := by decide +kernel
theorem dL_law_303 : decode cL_law 303 = .ok (.aload_n 0, 1) := by decide +kernel
theorem dL_law_304 : decode cL_law 304 = .ok (.iload 4, 2) := by decide +kernel
theorem dL_law_306 : decode cL_law 306 = .ok (.iconst 1, 1) := by decide +kernel
theorem dL_law_307 : decode cL_law 307 = .ok (.iadd, 1) := by decide +kernel
theorem dL_law_308 : decode cL_law 308 = .ok (.iaload, 1) := by decide +kernel
theorem dL_law_309 : decode cL_law 309 = .ok (.aload_n 0, 1) := by decide +kernel
theorem dL_law_310 : decode cL_law 310 = .ok (.iload 4, 2) := by decide +kernel
theorem dL_law_312 : decode cL_law 312 = .ok (.iconst 2, 1) := by decide +kernel
theorem dL_law_313 : decode cL_law 313 = .ok (.iadd, 1) := by decide +kernel
theorem dL_law_314 : decode cL_law 314 = .ok (.iaload, 1) := by decide +kernel
theorem dL_law_315 : decode cL_law 315 = .ok (.aload_n 3, 1) := by decide +kernel
theorem dL_law_316 : decode cL_law 316 = .ok (.invokestatic 70, 3) := by decide +kernel
theorem dL_law_319 : decode cL_law 319 = .ok (.istore 5, 2) := by decide +kernel
theorem dL_law_321 : decode cL_law 321 = .ok (.aload_n 2, 1) := by decide +kernel
theorem dL_law_322 : decode cL_law 322 = .ok (.aload_n 0, 1) := by decide +kernel
theorem dL_law_323 : decode cL_law 323 = .ok (.iload 4, 2) := by decide +kernel
theorem dL_law_325 : decode cL_law 325 = .ok (.iconst 1, 1) := by decide +kernel
theorem dL_law_326 : decode cL_law 326 = .ok (.iadd, 1) := by decide +kernel
theorem dL_law_327 : decode cL_law 327 = .ok (.iaload, 1) := by decide +kernel
theorem dL_law_328 : decode cL_law 328 = .ok (.aload_n 0, 1) := by decide +kernel
theorem dL_law_329 : decode cL_law 329 = .ok (.iload 4, 2) := by decide +kernel
theorem dL_law_331 : decode cL_law 331 = .ok (.iconst 2, 1) := by decide +kernel
theorem dL_law_332 : decode cL_law 332 = .ok (.iadd, 1) := by decide +kernel
theorem dL_law_333 : decode cL_law 333 = .ok (.iaload, 1) := by decide +kernel
theorem dL_law_334 : decode cL_law 334 = .ok (.invokevirtual 72, 3) := by decide +kernel
theorem dL_law_337 : decode cL_law 337 = .ok (.istore 6, 2) := by decide +kernel
theorem dL_law_339 : decode cL_law 339 = .ok (.aload_n 2, 1) := by decide +kernel
theorem dL_law_340 : decode cL_law 340 = .ok (.invokevirtual 62, 3) := by decide +kernel
theorem dL_law_343 : decode cL_law 343 = .ok (.iload 5, 2) := by decide +kernel
theorem dL_law_345 : decode cL_law 345 = .ok (.if_icmp .eq 5, 3) := by decide +kernel
theorem dL_law_348 : decode cL_law 348 = .ok (.iconst 0, 1) := by decide +kernel
theorem dL_law_349 : decode cL_law 349 = .ok (.ireturn, 1) := by decide +kernel
theorem dL_law_350 : decode cL_law 350 = .ok (.iload 5, 2) := by decide +kernel
theorem dL_law_352 : decode cL_law 352 = .ok (.ifCond .ne 22, 3) := by decide +kernel
theorem dL_law_355 : decode cL_law 355 = .ok (.aload_n 3, 1) := by decide +kernel
theorem dL_law_356 : decode cL_law 356 = .ok (.iconst 0, 1) := by decide +kernel
theorem dL_law_357 : decode cL_law 357 = .ok (.laload, 1) := by decide +kernel
theorem dL_law_358 : decode cL_law 358 = .ok (.iload 6, 2) := by decide +kernel
theorem dL_law_360 : decode cL_law 360 = .ok (.ifCond .eq 7, 3) := by decide +kernel
theorem dL_law_363 : decode cL_law 363 = .ok (.lconst 1, 1) := by decide +kernel
theorem dL_law_364 : decode cL_law 364 = .ok (.goto 4, 3) := by decide +kernel
theorem dL_law_367 : decode cL_law 367 = .ok (.lconst 0, 1) := by decide +kernel
theorem dL_law_368 : decode cL_law 368 = .ok (.lcmp, 1) := by decide +kernel
theorem dL_law_369 : decode cL_law 369 = .ok (.ifCond .eq 5, 3) := by decide +kernel
theorem dL_law_372 : decode cL_law 372 = .ok (.iconst 0, 1) := by decide +kernel
theorem dL_law_373 : decode cL_law 373 = .ok (.ireturn, 1) := by decide +kernel
theorem dL_law_374 : decode cL_law 374 = .ok (.goto 540, 3) := by decide +kernel
theorem dL_law_377 : decode cL_law 377 = .ok (.aload_n 1, 1) := by decide +kernel
theorem dL_law_378 : decode cL_law 378 = .ok (.aload_n 0, 1) := by decide +kernel
theorem dL_law_379 : decode cL_law 379 = .ok (.iload 4, 2) := by decide +kernel
theorem dL_law_381 : decode cL_law 381 = .ok (.iconst 1, 1) := by decide +kernel
theorem dL_law_382 : decode cL_law 382 = .ok (.iadd, 1) := by decide +kernel
theorem dL_law_383 : decode cL_law 383 = .ok (.iaload, 1) := by decide +kernel
theorem dL_law_384 : decode cL_law 384 = .ok (.aload_n 0, 1) := by decide +kernel
theorem dL_law_385 : decode cL_law 385 = .ok (.iload 4, 2) := by decide +kernel
theorem dL_law_387 : decode cL_law 387 = .ok (.iconst 2, 1) := by decide +kernel
theorem dL_law_388 : decode cL_law 388 = .ok (.iadd, 1) := by decide +kernel
theorem dL_law_389 : decode cL_law 389 = .ok (.iaload, 1) := by decide +kernel
theorem dL_law_390 : decode cL_law 390 = .ok (.aload_n 3, 1) := by decide +kernel
theorem dL_law_391 : decode cL_law 391 = .ok (.invokestatic 73, 3) := by decide +kernel
theorem dL_law_394 : decode cL_law 394 = .ok (.istore 5, 2) := by decide +kernel
theorem dL_law_396 : decode cL_law 396 = .ok (.aload_n 2, 1) := by decide +kernel
theorem dL_law_397 : decode cL_law 397 = .ok (.aload_n 0, 1) := by decide +kernel
theorem dL_law_398 : decode cL_law 398 = .ok (.iload 4, 2) := by decide +kernel
theorem dL_law_400 : decode cL_law 400 = .ok (.iconst 1, 1) := by decide +kernel
theorem dL_law_401 : decode cL_law 401 = .ok (.iadd, 1) := by decide +kernel
theorem dL_law_402 : decode cL_law 402 = .ok (.iaload, 1) := by decide +kernel
theorem dL_law_403 : decode cL_law 403 = .ok (.aload_n 0, 1) := by decide +kernel
theorem dL_law_404 : decode cL_law 404 = .ok (.iload 4, 2) := by decide +kernel
theorem dL_law_406 : decode cL_law 406 = .ok (.iconst 2, 1) := by decide +kernel
theorem dL_law_407 : decode cL_law 407 = .ok (.iadd, 1) := by decide +kernel
theorem dL_law_408 : decode cL_law 408 = .ok (.iaload, 1) := by decide +kernel
theorem dL_law_409 : decode cL_law 409 = .ok (.invokevirtual 75, 3) := by decide +kernel
theorem dL_law_412 : decode cL_law 412 = .ok (.istore 6, 2) := by decide +kernel
theorem dL_law_414 : decode cL_law 414 = .ok (.aload_n 2, 1) := by decide +kernel
theorem dL_law_415 : decode cL_law 415 = .ok (.invokevirtual 62, 3) := by decide +kernel
theorem dL_law_418 : decode cL_law 418 = .ok (.iload 5, 2) := by decide +kernel
theorem dL_law_420 : decode cL_law 420 = .ok (.if_icmp .eq 5, 3) := by decide +kernel
theorem dL_law_423 : decode cL_law 423 = .ok (.iconst 0, 1) := by decide +kernel
theorem dL_law_424 : decode cL_law 424 = .ok (.ireturn, 1) := by decide +kernel
theorem dL_law_425 : decode cL_law 425 = .ok (.iload 5, 2) := by decide +kernel
theorem dL_law_427 : decode cL_law 427 = .ok (.ifCond .ne 22, 3) := by decide +kernel
theorem dL_law_430 : decode cL_law 430 = .ok (.aload_n 3, 1) := by decide +kernel
theorem dL_law_431 : decode cL_law 431 = .ok (.iconst 0, 1) := by decide +kernel
theorem dL_law_432 : decode cL_law 432 = .ok (.laload, 1) := by decide +kernel
theorem dL_law_433 : decode cL_law 433 = .ok (.iload 6, 2) := by decide +kernel
theorem dL_law_435 : decode cL_law 435 = .ok (.ifCond .eq 7, 3) := by decide +kernel
theorem dL_law_438 : decode cL_law 438 = .ok (.lconst 1, 1) := by decide +kernel
theorem dL_law_439 : decode cL_law 439 = .ok (.goto 4, 3) := by decide +kernel
theorem dL_law_442 : decode cL_law 442 = .ok (.lconst 0, 1) := by decide +kernel
theorem dL_law_443 : decode cL_law 443 = .ok (.lcmp, 1) := by decide +kernel
theorem dL_law_444 : decode cL_law 444 = .ok (.ifCond .eq 5, 3) := by decide +kernel
theorem dL_law_447 : decode cL_law 447 = .ok (.iconst 0, 1) := by decide +kernel
theorem dL_law_448 : decode cL_law 448 = .ok (.ireturn, 1) := by decide +kernel
theorem dL_law_449 : decode cL_law 449 = .ok (.goto 465, 3) := by decide +kernel
theorem dL_law_452 : decode cL_law 452 = .ok (.aload_n 1, 1) := by decide +kernel
theorem dL_law_453 : decode cL_law 453 = .ok (.aload_n 0, 1) := by decide +kernel
theorem dL_law_454 : decode cL_law 454 = .ok (.iload 4, 2) := by decide +kernel
theorem dL_law_456 : decode cL_law 456 = .ok (.iconst 1, 1) := by decide +kernel
theorem dL_law_457 : decode cL_law 457 = .ok (.iadd, 1) := by decide +kernel
theorem dL_law_458 : decode cL_law 458 = .ok (.iaload, 1) := by decide +kernel
theorem dL_law_459 : decode cL_law 459 = .ok (.aload_n 0, 1) := by decide +kernel
theorem dL_law_460 : decode cL_law 460 = .ok (.iload 4, 2) := by decide +kernel
theorem dL_law_462 : decode cL_law 462 = .ok (.iconst 2, 1) := by decide +kernel
theorem dL_law_463 : decode cL_law 463 = .ok (.iadd, 1) := by decide +kernel
theorem dL_law_464 : decode cL_law 464 = .ok (.iaload, 1) := by decide +kernel
theorem dL_law_465 : decode cL_law 465 = .ok (.aload_n 3, 1) := by decide +kernel
theorem dL_law_466 : decode cL_law 466 = .ok (.invokestatic 76, 3) := by decide +kernel
theorem dL_law_469 : decode cL_law 469 = .ok (.istore 5, 2) := by decide +kernel
theorem dL_law_471 : decode cL_law 471 = .ok (.aload_n 2, 1) := by decide +kernel
theorem dL_law_472 : decode cL_law 472 = .ok (.aload_n 0, 1) := by decide +kernel
theorem dL_law_473 : decode cL_law 473 = .ok (.iload 4, 2) := by decide +kernel
theorem dL_law_475 : decode cL_law 475 = .ok (.iconst 1, 1) := by decide +kernel
theorem dL_law_476 : decode cL_law 476 = .ok (.iadd, 1) := by decide +kernel
theorem dL_law_477 : decode cL_law 477 = .ok (.iaload, 1) := by decide +kernel
theorem dL_law_478 : decode cL_law 478 = .ok (.aload_n 0, 1) := by decide +kernel
theorem dL_law_479 : decode cL_law 479 = .ok (.iload 4, 2) := by decide +kernel
theorem dL_law_481 : decode cL_law 481 = .ok (.iconst 2, 1) := by decide +kernel
theorem dL_law_482 : decode cL_law 482 = .ok (.iadd, 1) := by decide +kernel
theorem dL_law_483 : decode cL_law 483 = .ok (.iaload, 1) := by decide +kernel
theorem dL_law_484 : decode cL_law 484 = .ok (.invokevirtual 78, 3) := by decide +kernel
theorem dL_law_487 : decode cL_law 487 = .ok (.istore 6, 2) := by decide +kernel
theorem dL_law_489 : decode cL_law 489 = .ok (.aload_n 2, 1) := by decide +kernel
theorem dL_law_490 : decode cL_law 490 = .ok (.invokevirtual 62, 3) := by decide +kernel
theorem dL_law_493 : decode cL_law 493 = .ok (.iload 5, 2) := by decide +kernel
theorem dL_law_495 : decode cL_law 495 = .ok (.if_icmp .eq 5, 3) := by decide +kernel
theorem dL_law_498 : decode cL_law 498 = .ok (.iconst 0, 1) := by decide +kernel
theorem dL_law_499 : decode cL_law 499 = .ok (.ireturn, 1) := by decide +kernel
theorem dL_law_500 : decode cL_law 500 = .ok (.iload 5, 2) := by decide +kernel
theorem dL_law_502 : decode cL_law 502 = .ok (.ifCond .ne 22, 3) := by decide +kernel
theorem dL_law_505 : decode cL_law 505 = .ok (.aload_n 3, 1) := by decide +kernel
theorem dL_law_506 : decode cL_law 506 = .ok (.iconst 0, 1) := by decide +kernel
theorem dL_law_507 : decode cL_law 507 = .ok (.laload, 1) := by decide +kernel
theorem dL_law_508 : decode cL_law 508 = .ok (.iload 6, 2) := by decide +kernel
theorem dL_law_510 : decode cL_law 510 = .ok (.ifCond .eq 7, 3) := by decide +kernel
theorem dL_law_513 : decode cL_law 513 = .ok (.lconst 1, 1) := by decide +kernel
theorem dL_law_514 : decode cL_law 514 = .ok (.goto 4, 3) := by decide +kernel
theorem dL_law_517 : decode cL_law 517 = .ok (.lconst 0, 1) := by decide +kernel
theorem dL_law_518 : decode cL_law 518 = .ok (.lcmp, 1) := by decide +kernel
theorem dL_law_519 : decode cL_law 519 = .ok (.ifCond .eq 5, 3) := by decide +kernel
theorem dL_law_522 : decode cL_law 522 = .ok (.iconst 0, 1) := by decide +kernel
theorem dL_law_523 : decode cL_law 523 = .ok (.ireturn, 1) := by decide +kernel
theorem dL_law_524 : decode cL_law 524 = .ok (.goto 390, 3) := by decide +kernel
theorem dL_law_527 : decode cL_law 527 = .ok (.aload_n 1, 1) := by decide +kernel
theorem dL_law_528 : decode cL_law 528 = .ok (.aload_n 0, 1) := by decide +kernel
theorem dL_law_529 : decode cL_law 529 = .ok (.iload 4, 2) := by decide +kernel
theorem dL_law_531 : decode cL_law 531 = .ok (.iconst 1, 1) := by decide +kernel
theorem dL_law_532 : decode cL_law 532 = .ok (.iadd, 1) := by decide +kernel
theorem dL_law_533 : decode cL_law 533 = .ok (.iaload, 1) := by decide +kernel
theorem dL_law_534 : decode cL_law 534 = .ok (.aload_n 3, 1) := by decide +kernel
theorem dL_law_535 : decode cL_law 535 = .ok (.invokestatic 79, 3) := by decide +kernel
theorem dL_law_538 : decode cL_law 538 = .ok (.istore 5, 2) := by decide +kernel
theorem dL_law_540 : decode cL_law 540 = .ok (.aload_n 2, 1) := by decide +kernel
theorem dL_law_541 : decode cL_law 541 = .ok (.aload_n 0, 1) := by decide +kernel
theorem dL_law_542 : decode cL_law 542 = .ok (.iload 4, 2) := by decide +kernel
theorem dL_law_544 : decode cL_law 544 = .ok (.iconst 1, 1) := by decide +kernel
theorem dL_law_545 : decode cL_law 545 = .ok (.iadd, 1) := by decide +kernel
theorem dL_law_546 : decode cL_law 546 = .ok (.iaload, 1) := by decide +kernel
theorem dL_law_547 : decode cL_law 547 = .ok (.invokevirtual 82, 3) := by decide +kernel
theorem dL_law_550 : decode cL_law 550 = .ok (.istore 6, 2) := by decide +kernel
theorem dL_law_552 : decode cL_law 552 = .ok (.aload_n 2, 1) := by decide +kernel
theorem dL_law_553 : decode cL_law 553 = .ok (.invokevirtual 62, 3) := by decide +kernel
theorem dL_law_556 : decode cL_law 556 = .ok (.iload 5, 2) := by decide +kernel
theorem dL_law_558 : decode cL_law 558 = .ok (.if_icmp .eq 5, 3) := by decide +kernel
theorem dL_law_561 : decode cL_law 561 = .ok (.iconst 0, 1) := by decide +kernel
theorem dL_law_562 : decode cL_law 562 = .ok (.ireturn, 1) := by decide +kernel
theorem dL_law_563 : decode cL_law 563 = .ok (.iload 5, 2) := by decide +kernel
theorem dL_law_565 : decode cL_law 565 = .ok (.ifCond .ne 15, 3) := by decide +kernel
theorem dL_law_568 : decode cL_law 568 = .ok (.aload_n 3, 1) := by decide +kernel
theorem dL_law_569 : decode cL_law 569 = .ok (.iconst 0, 1) := by decide +kernel
theorem dL_law_570 : decode cL_law 570 = .ok (.laload, 1) := by decide +kernel
theorem dL_law_571 : decode cL_law 571 = .ok (.iload 6, 2) := by decide +kernel
theorem dL_law_573 : decode cL_law 573 = .ok (.i2l, 1) := by decide +kernel
theorem dL_law_574 : decode cL_law 574 = .ok (.lcmp, 1) := by decide +kernel
theorem dL_law_575 : decode cL_law 575 = .ok (.ifCond .eq 5, 3) := by decide +kernel
theorem dL_law_578 : decode cL_law 578 = .ok (.iconst 0, 1) := by decide +kernel
theorem dL_law_579 : decode cL_law 579 = .ok (.ireturn, 1) := by decide +kernel
theorem dL_law_580 : decode cL_law 580 = .ok (.goto 334, 3) := by decide +kernel
theorem dL_law_583 : decode cL_law 583 = .ok (.aload_n 1, 1) := by decide +kernel
theorem dL_law_584 : decode cL_law 584 = .ok (.invokevirtual 83, 3) := by decide +kernel
theorem dL_law_587 : decode cL_law 587 = .ok (.aload_n 2, 1) := by decide +kernel
theorem dL_law_588 : decode cL_law 588 = .ok (.invokevirtual 86, 3) := by decide +kernel
theorem dL_law_591 : decode cL_law 591 = .ok (.if_icmp .eq 323, 3) := by decide +kernel
theorem dL_law_594 : decode cL_law 594 = .ok (.iconst 0, 1) := by decide +kernel
theorem dL_law_595 : decode cL_law 595 = .ok (.ireturn, 1) := by decide +kernel
theorem dL_law_596 : decode cL_law 596 = .ok (.aload_n 1, 1) := by decide +kernel
theorem dL_law_597 : decode cL_law 597 = .ok (.invokevirtual 87, 3) := by decide +kernel
theorem dL_law_600 : decode cL_law 600 = .ok (.aload_n 2, 1) := by decide +kernel
theorem dL_law_601 : decode cL_law 601 = .ok (.invokevirtual 90, 3) := by decide +kernel
theorem dL_law_604 : decode cL_law 604 = .ok (.if_icmp .eq 310, 3) := by decide +kernel
theorem dL_law_607 : decode cL_law 607 = .ok (.iconst 0, 1) := by decide +kernel
theorem dL_law_608 : decode cL_law 608 = .ok (.ireturn, 1) := by decide +kernel
theorem dL_law_609 : decode cL_law 609 = .ok (.aload_n 1, 1) := by decide +kernel
theorem dL_law_610 : decode cL_law 610 = .ok (.invokevirtual 91, 3) := by decide +kernel
theorem dL_law_613 : decode cL_law 613 = .ok (.aload_n 2, 1) := by decide +kernel
theorem dL_law_614 : decode cL_law 614 = .ok (.invokevirtual 95, 3) := by decide +kernel
theorem dL_law_617 : decode cL_law 617 = .ok (.if_icmp .eq 297, 3) := by decide +kernel
theorem dL_law_620 : decode cL_law 620 = .ok (.iconst 0, 1) := by decide +kernel
theorem dL_law_621 : decode cL_law 621 = .ok (.ireturn, 1) := by decide +kernel
theorem dL_law_622 : decode cL_law 622 = .ok (.aload_n 1, 1) := by decide +kernel
theorem dL_law_623 : decode cL_law 623 = .ok (.aload_n 0, 1) := by decide +kernel
theorem dL_law_624 : decode cL_law 624 = .ok (.iload 4, 2) := by decide +kernel
theorem dL_law_626 : decode cL_law 626 = .ok (.iconst 1, 1) := by decide +kernel
theorem dL_law_627 : decode cL_law 627 = .ok (.iadd, 1) := by decide +kernel
theorem dL_law_628 : decode cL_law 628 = .ok (.iaload, 1) := by decide +kernel
theorem dL_law_629 : decode cL_law 629 = .ok (.aload_n 3, 1) := by decide +kernel
theorem dL_law_630 : decode cL_law 630 = .ok (.invokestatic 96, 3) := by decide +kernel
theorem dL_law_633 : decode cL_law 633 = .ok (.istore 5, 2) := by decide +kernel
theorem dL_law_635 : decode cL_law 635 = .ok (.aload_n 2, 1) := by decide +kernel
theorem dL_law_636 : decode cL_law 636 = .ok (.aload_n 0, 1) := by decide +kernel
theorem dL_law_637 : decode cL_law 637 = .ok (.iload 4, 2) := by decide +kernel
theorem dL_law_639 : decode cL_law 639 = .ok (.iconst 1, 1) := by decide +kernel
theorem dL_law_640 : decode cL_law 640 = .ok (.iadd, 1) := by decide +kernel
theorem dL_law_641 : decode cL_law 641 = .ok (.iaload, 1) := by decide +kernel
theorem dL_law_642 : decode cL_law 642 = .ok (.invokevirtual 98, 3) := by decide +kernel
theorem dL_law_645 : decode cL_law 645 = .ok (.istore 6, 2) := by decide +kernel
theorem dL_law_647 : decode cL_law 647 = .ok (.aload_n 2, 1) := by decide +kernel
theorem dL_law_648 : decode cL_law 648 = .ok (.invokevirtual 62, 3) := by decide +kernel
theorem dL_law_651 : decode cL_law 651 = .ok (.iload 5, 2) := by decide +kernel
theorem dL_law_653 : decode cL_law 653 = .ok (.if_icmp .eq 5, 3) := by decide +kernel
theorem dL_law_656 : decode cL_law 656 = .ok (.iconst 0, 1) := by decide +kernel
theorem dL_law_657 : decode cL_law 657 = .ok (.ireturn, 1) := by decide +kernel
theorem dL_law_658 : decode cL_law 658 = .ok (.iload 5, 2) := by decide +kernel
theorem dL_law_660 : decode cL_law 660 = .ok (.ifCond .ne 15, 3) := by decide +kernel
theorem dL_law_663 : decode cL_law 663 = .ok (.aload_n 3, 1) := by decide +kernel
theorem dL_law_664 : decode cL_law 664 = .ok (.iconst 0, 1) := by decide +kernel
theorem dL_law_665 : decode cL_law 665 = .ok (.laload, 1) := by decide +kernel
theorem dL_law_666 : decode cL_law 666 = .ok (.iload 6, 2) := by decide +kernel
theorem dL_law_668 : decode cL_law 668 = .ok (.i2l, 1) := by decide +kernel
theorem dL_law_669 : decode cL_law 669 = .ok (.lcmp, 1) := by decide +kernel
theorem dL_law_670 : decode cL_law 670 = .ok (.ifCond .eq 5, 3) := by decide +kernel
theorem dL_law_673 : decode cL_law 673 = .ok (.iconst 0, 1) := by decide +kernel
theorem dL_law_674 : decode cL_law 674 = .ok (.ireturn, 1) := by decide +kernel
theorem dL_law_675 : decode cL_law 675 = .ok (.goto 239, 3) := by decide +kernel
theorem dL_law_678 : decode cL_law 678 = .ok (.aload_n 1, 1) := by decide +kernel
theorem dL_law_679 : decode cL_law 679 = .ok (.aload_n 0, 1) := by decide +kernel
theorem dL_law_680 : decode cL_law 680 = .ok (.iload 4, 2) := by decide +kernel
theorem dL_law_682 : decode cL_law 682 = .ok (.iconst 1, 1) := by decide +kernel
theorem dL_law_683 : decode cL_law 683 = .ok (.iadd, 1) := by decide +kernel
theorem dL_law_684 : decode cL_law 684 = .ok (.iaload, 1) := by decide +kernel
theorem dL_law_685 : decode cL_law 685 = .ok (.aload_n 0, 1) := by decide +kernel
theorem dL_law_686 : decode cL_law 686 = .ok (.iload 4, 2) := by decide +kernel
theorem dL_law_688 : decode cL_law 688 = .ok (.iconst 2, 1) := by decide +kernel
theorem dL_law_689 : decode cL_law 689 = .ok (.iadd, 1) := by decide +kernel
theorem dL_law_690 : decode cL_law 690 = .ok (.iaload, 1) := by decide +kernel
theorem dL_law_691 : decode cL_law 691 = .ok (.aload_n 3, 1) := by decide +kernel
theorem dL_law_692 : decode cL_law 692 = .ok (.invokestatic 99, 3) := by decide +kernel
theorem dL_law_695 : decode cL_law 695 = .ok (.istore 5, 2) := by decide +kernel
theorem dL_law_697 : decode cL_law 697 = .ok (.aload_n 2, 1) := by decide +kernel
theorem dL_law_698 : decode cL_law 698 = .ok (.aload_n 0, 1) := by decide +kernel
theorem dL_law_699 : decode cL_law 699 = .ok (.iload 4, 2) := by decide +kernel
theorem dL_law_701 : decode cL_law 701 = .ok (.iconst 1, 1) := by decide +kernel
theorem dL_law_702 : decode cL_law 702 = .ok (.iadd, 1) := by decide +kernel
theorem dL_law_703 : decode cL_law 703 = .ok (.iaload, 1) := by decide +kernel
theorem dL_law_704 : decode cL_law 704 = .ok (.aload_n 0, 1) := by decide +kernel
theorem dL_law_705 : decode cL_law 705 = .ok (.iload 4, 2) := by decide +kernel
theorem dL_law_707 : decode cL_law 707 = .ok (.iconst 2, 1) := by decide +kernel
theorem dL_law_708 : decode cL_law 708 = .ok (.iadd, 1) := by decide +kernel
theorem dL_law_709 : decode cL_law 709 = .ok (.iaload, 1) := by decide +kernel
theorem dL_law_710 : decode cL_law 710 = .ok (.invokevirtual 101, 3) := by decide +kernel
theorem dL_law_713 : decode cL_law 713 = .ok (.istore 6, 2) := by decide +kernel
theorem dL_law_715 : decode cL_law 715 = .ok (.aload_n 2, 1) := by decide +kernel
theorem dL_law_716 : decode cL_law 716 = .ok (.invokevirtual 62, 3) := by decide +kernel
theorem dL_law_719 : decode cL_law 719 = .ok (.iload 5, 2) := by decide +kernel
theorem dL_law_721 : decode cL_law 721 = .ok (.if_icmp .eq 5, 3) := by decide +kernel
theorem dL_law_724 : decode cL_law 724 = .ok (.iconst 0, 1) := by decide +kernel
theorem dL_law_725 : decode cL_law 725 = .ok (.ireturn, 1) := by decide +kernel
theorem dL_law_726 : decode cL_law 726 = .ok (.iload 5, 2) := by decide +kernel
theorem dL_law_728 : decode cL_law 728 = .ok (.ifCond .ne 15, 3) := by decide +kernel
theorem dL_law_731 : decode cL_law 731 = .ok (.aload_n 3, 1) := by decide +kernel
theorem dL_law_732 : decode cL_law 732 = .ok (.iconst 0, 1) := by decide +kernel
theorem dL_law_733 : decode cL_law 733 = .ok (.laload, 1) := by decide +kernel
theorem dL_law_734 : decode cL_law 734 = .ok (.iload 6, 2) := by decide +kernel
theorem dL_law_736 : decode cL_law 736 = .ok (.i2l, 1) := by decide +kernel
theorem dL_law_737 : decode cL_law 737 = .ok (.lcmp, 1) := by decide +kernel
theorem dL_law_738 : decode cL_law 738 = .ok (.ifCond .eq 5, 3) := by decide +kernel
theorem dL_law_741 : decode cL_law 741 = .ok (.iconst 0, 1) := by decide +kernel
theorem dL_law_742 : decode cL_law 742 = .ok (.ireturn, 1) := by decide +kernel
theorem dL_law_743 : decode cL_law 743 = .ok (.goto 171, 3) := by decide +kernel
theorem dL_law_746 : decode cL_law 746 = .ok (.aload_n 1, 1) := by decide +kernel
theorem dL_law_747 : decode cL_law 747 = .ok (.aload_n 0, 1) := by decide +kernel
theorem dL_law_748 : decode cL_law 748 = .ok (.iload 4, 2) := by decide +kernel
theorem dL_law_750 : decode cL_law 750 = .ok (.iconst 1, 1) := by decide +kernel
theorem dL_law_751 : decode cL_law 751 = .ok (.iadd, 1) := by decide +kernel
theorem dL_law_752 : decode cL_law 752 = .ok (.iaload, 1) := by decide +kernel
theorem dL_law_753 : decode cL_law 753 = .ok (.invokevirtual 102, 3) := by decide +kernel
theorem dL_law_756 : decode cL_law 756 = .ok (.aload_n 2, 1) := by decide +kernel
theorem dL_law_757 : decode cL_law 757 = .ok (.aload_n 0, 1) := by decide +kernel
theorem dL_law_758 : decode cL_law 758 = .ok (.iload 4, 2) := by decide +kernel
theorem dL_law_760 : decode cL_law 760 = .ok (.iconst 1, 1) := by decide +kernel
theorem dL_law_761 : decode cL_law 761 = .ok (.iadd, 1) := by decide +kernel
theorem dL_law_762 : decode cL_law 762 = .ok (.iaload, 1) := by decide +kernel
theorem dL_law_763 : decode cL_law 763 = .ok (.invokevirtual 105, 3) := by decide +kernel
theorem dL_law_766 : decode cL_law 766 = .ok (.if_icmp .eq 148, 3) := by decide +kernel
theorem dL_law_769 : decode cL_law 769 = .ok (.iconst 0, 1) := by decide +kernel
theorem dL_law_770 : decode cL_law 770 = .ok (.ireturn, 1) := by decide +kernel
theorem dL_law_771 : decode cL_law 771 = .ok (.aload_n 1, 1) := by decide +kernel
theorem dL_law_772 : decode cL_law 772 = .ok (.invokevirtual 106, 3) := by decide +kernel
theorem dL_law_775 : decode cL_law 775 = .ok (.aload_n 2, 1) := by decide +kernel
theorem dL_law_776 : decode cL_law 776 = .ok (.invokevirtual 109, 3) := by decide +kernel
theorem dL_law_779 : decode cL_law 779 = .ok (.if_icmp .eq 135, 3) := by decide +kernel
theorem dL_law_782 : decode cL_law 782 = .ok (.iconst 0, 1) := by decide +kernel
theorem dL_law_783 : decode cL_law 783 = .ok (.ireturn, 1) := by decide +kernel
theorem dL_law_784 : decode cL_law 784 = .ok (.aload_n 1, 1) := by decide +kernel
theorem dL_law_785 : decode cL_law 785 = .ok (.aload_n 0, 1) := by decide +kernel
theorem dL_law_786 : decode cL_law 786 = .ok (.iload 4, 2) := by decide +kernel
theorem dL_law_788 : decode cL_law 788 = .ok (.iconst 1, 1) := by decide +kernel
theorem dL_law_789 : decode cL_law 789 = .ok (.iadd, 1) := by decide +kernel
theorem dL_law_790 : decode cL_law 790 = .ok (.iaload, 1) := by decide +kernel
theorem dL_law_791 : decode cL_law 791 = .ok (.aload_n 3, 1) := by decide +kernel
theorem dL_law_792 : decode cL_law 792 = .ok (.invokestatic 110, 3) := by decide +kernel
theorem dL_law_795 : decode cL_law 795 = .ok (.istore 5, 2) := by decide +kernel
theorem dL_law_797 : decode cL_law 797 = .ok (.aload_n 2, 1) := by decide +kernel
theorem dL_law_798 : decode cL_law 798 = .ok (.aload_n 0, 1) := by decide +kernel
theorem dL_law_799 : decode cL_law 799 = .ok (.iload 4, 2) := by decide +kernel
theorem dL_law_801 : decode cL_law 801 = .ok (.iconst 1, 1) := by decide +kernel
theorem dL_law_802 : decode cL_law 802 = .ok (.iadd, 1) := by decide +kernel
theorem dL_law_803 : decode cL_law 803 = .ok (.iaload, 1) := by decide +kernel
theorem dL_law_804 : decode cL_law 804 = .ok (.invokevirtual 112, 3) := by decide +kernel
theorem dL_law_807 : decode cL_law 807 = .ok (.istore 6, 2) := by decide +kernel
theorem dL_law_809 : decode cL_law 809 = .ok (.aload_n 2, 1) := by decide +kernel
theorem dL_law_810 : decode cL_law 810 = .ok (.invokevirtual 62, 3) := by decide +kernel
theorem dL_law_813 : decode cL_law 813 = .ok (.iload 5, 2) := by decide +kernel
theorem dL_law_815 : decode cL_law 815 = .ok (.if_icmp .eq 5, 3) := by decide +kernel
theorem dL_law_818 : decode cL_law 818 = .ok (.iconst 0, 1) := by decide +kernel
theorem dL_law_819 : decode cL_law 819 = .ok (.ireturn, 1) := by decide +kernel
theorem dL_law_820 : decode cL_law 820 = .ok (.iload 5, 2) := by decide +kernel
theorem dL_law_822 : decode cL_law 822 = .ok (.ifCond .ne 15, 3) := by decide +kernel
theorem dL_law_825 : decode cL_law 825 = .ok (.aload_n 3, 1) := by decide +kernel
theorem dL_law_826 : decode cL_law 826 = .ok (.iconst 0, 1) := by decide +kernel
theorem dL_law_827 : decode cL_law 827 = .ok (.laload, 1) := by decide +kernel
theorem dL_law_828 : decode cL_law 828 = .ok (.iload 6, 2) := by decide +kernel
theorem dL_law_830 : decode cL_law 830 = .ok (.i2l, 1) := by decide +kernel
theorem dL_law_831 : decode cL_law 831 = .ok (.lcmp, 1) := by decide +kernel
theorem dL_law_832 : decode cL_law 832 = .ok (.ifCond .eq 5, 3) := by decide +kernel
theorem dL_law_835 : decode cL_law 835 = .ok (.iconst 0, 1) := by decide +kernel
theorem dL_law_836 : decode cL_law 836 = .ok (.ireturn, 1) := by decide +kernel
theorem dL_law_837 : decode cL_law 837 = .ok (.goto 77, 3) := by decide +kernel
theorem dL_law_840 : decode cL_law 840 = .ok (.aload_n 1, 1) := by decide +kernel
theorem dL_law_841 : decode cL_law 841 = .ok (.aload_n 0, 1) := by decide +kernel
theorem dL_law_842 : decode cL_law 842 = .ok (.iload 4, 2) := by decide +kernel
theorem dL_law_844 : decode cL_law 844 = .ok (.iconst 1, 1) := by decide +kernel
theorem dL_law_845 : decode cL_law 845 = .ok (.iadd, 1) := by decide +kernel
theorem dL_law_846 : decode cL_law 846 = .ok (.iaload, 1) := by decide +kernel
theorem dL_law_847 : decode cL_law 847 = .ok (.aload_n 3, 1) := by decide +kernel
theorem dL_law_848 : decode cL_law 848 = .ok (.invokestatic 113, 3) := by decide +kernel
theorem dL_law_851 : decode cL_law 851 = .ok (.istore 5, 2) := by decide +kernel
theorem dL_law_853 : decode cL_law 853 = .ok (.aload_n 2, 1) := by decide +kernel
theorem dL_law_854 : decode cL_law 854 = .ok (.aload_n 0, 1) := by decide +kernel
theorem dL_law_855 : decode cL_law 855 = .ok (.iload 4, 2) := by decide +kernel
theorem dL_law_857 : decode cL_law 857 = .ok (.iconst 1, 1) := by decide +kernel
theorem dL_law_858 : decode cL_law 858 = .ok (.iadd, 1) := by decide +kernel
theorem dL_law_859 : decode cL_law 859 = .ok (.iaload, 1) := by decide +kernel
theorem dL_law_860 : decode cL_law 860 = .ok (.invokevirtual 115, 3) := by decide +kernel
theorem dL_law_863 : decode cL_law 863 = .ok (.istore 6, 2) := by decide +kernel
theorem dL_law_865 : decode cL_law 865 = .ok (.aload_n 2, 1) := by decide +kernel
theorem dL_law_866 : decode cL_law 866 = .ok (.invokevirtual 62, 3) := by decide +kernel
theorem dL_law_869 : decode cL_law 869 = .ok (.iload 5, 2) := by decide +kernel
theorem dL_law_871 : decode cL_law 871 = .ok (.if_icmp .eq 5, 3) := by decide +kernel
theorem dL_law_874 : decode cL_law 874 = .ok (.iconst 0, 1) := by decide +kernel
theorem dL_law_875 : decode cL_law 875 = .ok (.ireturn, 1) := by decide +kernel
theorem dL_law_876 : decode cL_law 876 = .ok (.iload 5, 2) := by decide +kernel
theorem dL_law_878 : decode cL_law 878 = .ok (.ifCond .ne 22, 3) := by decide +kernel
theorem dL_law_881 : decode cL_law 881 = .ok (.aload_n 3, 1) := by decide +kernel
theorem dL_law_882 : decode cL_law 882 = .ok (.iconst 0, 1) := by decide +kernel
theorem dL_law_883 : decode cL_law 883 = .ok (.laload, 1) := by decide +kernel
theorem dL_law_884 : decode cL_law 884 = .ok (.iload 6, 2) := by decide +kernel
theorem dL_law_886 : decode cL_law 886 = .ok (.ifCond .eq 7, 3) := by decide +kernel
theorem dL_law_889 : decode cL_law 889 = .ok (.lconst 1, 1) := by decide +kernel
theorem dL_law_890 : decode cL_law 890 = .ok (.goto 4, 3) := by decide +kernel
theorem dL_law_893 : decode cL_law 893 = .ok (.lconst 0, 1) := by decide +kernel
theorem dL_law_894 : decode cL_law 894 = .ok (.lcmp, 1) := by decide +kernel
theorem dL_law_895 : decode cL_law 895 = .ok (.ifCond .eq 5, 3) := by decide +kernel
theorem dL_law_898 : decode cL_law 898 = .ok (.iconst 0, 1) := by decide +kernel
theorem dL_law_899 : decode cL_law 899 = .ok (.ireturn, 1) := by decide +kernel
theorem dL_law_900 : decode cL_law 900 = .ok (.goto 14, 3) := by decide +kernel
theorem dL_law_903 : decode cL_law 903 = .ok (.aload_n 1, 1) := by decide +kernel
theorem dL_law_904 : decode cL_law 904 = .ok (.invokevirtual 116, 3) := by decide +kernel
theorem dL_law_907 : decode cL_law 907 = .ok (.aload_n 2, 1) := by decide +kernel
theorem dL_law_908 : decode cL_law 908 = .ok (.invokevirtual 119, 3) := by decide +kernel
theorem dL_law_911 : decode cL_law 911 = .ok (.goto 3, 3) := by decide +kernel
theorem dL_law_914 : decode cL_law 914 = .ok (.iinc 4 3, 3) := by decide +kernel
theorem dL_law_917 : decode cL_law 917 = .ok (.goto (-874), 3) := by decide +kernel
theorem dL_law_920 : decode cL_law 920 = .ok (.iconst 1, 1) := by decide +kernel
theorem dL_law_921 : decode cL_law 921 = .ok (.ireturn, 1) := by decide +kernel
end
section
theorem zz_last : True := trivial
end
