section
-- ===== PART A: goes FIRST, ahead of the names: the tables' words, and 'selects' of the private methods out of them =====
/-- a private method of a class that the tables say can be made, by its rows of tables_1 -/
def lw_okq (q : MethodName × Nat) : Prop := (q.1.cls ≠ "java/lang/invoke/MethodHandle" ∧ q.1.cls ≠ "java/lang/invoke/VarHandle") ∧ Cond.instantiable q.1.cls q.2 ∈ tables_1 ∧ Cond.privateMethod q.1 ∈ tables_1 ∧ Cond.instanceMethod q.1 ∈ tables_1
theorem lw_p0 : lw_okq (⟨"ShelfMarks", "folderAt", "(I)I"⟩, 8) := ⟨⟨by decide +kernel, by decide +kernel⟩, List.mem_of_getElem? (i := 11) (by decide +kernel), List.mem_of_getElem? (i := 55) (by decide +kernel), List.mem_of_getElem? (i := 56) (by decide +kernel)⟩
theorem lw_p1 : lw_okq (⟨"ShelfMarks", "isPlace", "(I)Z"⟩, 8) := ⟨⟨by decide +kernel, by decide +kernel⟩, List.mem_of_getElem? (i := 11) (by decide +kernel), List.mem_of_getElem? (i := 59) (by decide +kernel), List.mem_of_getElem? (i := 60) (by decide +kernel)⟩
theorem lw_p2 : lw_okq (⟨"ShelfMarks", "placeOf", "(I)I"⟩, 8) := ⟨⟨by decide +kernel, by decide +kernel⟩, List.mem_of_getElem? (i := 11) (by decide +kernel), List.mem_of_getElem? (i := 67) (by decide +kernel), List.mem_of_getElem? (i := 68) (by decide +kernel)⟩
theorem lw_p3 : lw_okq (⟨"ShelfMarks", "marksBelow", "(I)I"⟩, 8) := ⟨⟨by decide +kernel, by decide +kernel⟩, List.mem_of_getElem? (i := 11) (by decide +kernel), List.mem_of_getElem? (i := 75) (by decide +kernel), List.mem_of_getElem? (i := 76) (by decide +kernel)⟩
theorem lw_p4 : lw_okq (⟨"ShelfMarks", "requireThatOneMayCome", "()V"⟩, 8) := ⟨⟨by decide +kernel, by decide +kernel⟩, List.mem_of_getElem? (i := 11) (by decide +kernel), List.mem_of_getElem? (i := 95) (by decide +kernel), List.mem_of_getElem? (i := 96) (by decide +kernel)⟩
theorem lw_p5 : lw_okq (⟨"java/lang/Throwable", "fillInStackTrace", "(I)Ljava/lang/Throwable;"⟩, 6) := ⟨⟨by decide +kernel, by decide +kernel⟩, List.mem_of_getElem? (i := 137) (by decide +kernel), List.mem_of_getElem? (i := 135) (by decide +kernel), List.mem_of_getElem? (i := 136) (by decide +kernel)⟩
theorem lw_p6 : lw_okq (⟨"ShelfMarks", "nextNumber", "()I"⟩, 8) := ⟨⟨by decide +kernel, by decide +kernel⟩, List.mem_of_getElem? (i := 11) (by decide +kernel), List.mem_of_getElem? (i := 167) (by decide +kernel), List.mem_of_getElem? (i := 168) (by decide +kernel)⟩
theorem lw_p7 : lw_okq (⟨"ShelfMarks", "putIn", "(II)V"⟩, 8) := ⟨⟨by decide +kernel, by decide +kernel⟩, List.mem_of_getElem? (i := 11) (by decide +kernel), List.mem_of_getElem? (i := 171) (by decide +kernel), List.mem_of_getElem? (i := 172) (by decide +kernel)⟩
theorem lw_p8 : lw_okq (⟨"ShelfMarks", "movesByPuttingIn", "(I)I"⟩, 8) := ⟨⟨by decide +kernel, by decide +kernel⟩, List.mem_of_getElem? (i := 11) (by decide +kernel), List.mem_of_getElem? (i := 175) (by decide +kernel), List.mem_of_getElem? (i := 176) (by decide +kernel)⟩
theorem lw_p9 : lw_okq (⟨"ShelfMarks", "hasFreeMark", "(I)Z"⟩, 8) := ⟨⟨by decide +kernel, by decide +kernel⟩, List.mem_of_getElem? (i := 11) (by decide +kernel), List.mem_of_getElem? (i := 179) (by decide +kernel), List.mem_of_getElem? (i := 180) (by decide +kernel)⟩
theorem lw_p10 : lw_okq (⟨"ShelfMarks", "markAt", "(I)I"⟩, 8) := ⟨⟨by decide +kernel, by decide +kernel⟩, List.mem_of_getElem? (i := 11) (by decide +kernel), List.mem_of_getElem? (i := 183) (by decide +kernel), List.mem_of_getElem? (i := 184) (by decide +kernel)⟩
theorem lw_p11 : lw_okq (⟨"ShelfMarks", "levelToSpread", "(I)I"⟩, 8) := ⟨⟨by decide +kernel, by decide +kernel⟩, List.mem_of_getElem? (i := 11) (by decide +kernel), List.mem_of_getElem? (i := 187) (by decide +kernel), List.mem_of_getElem? (i := 188) (by decide +kernel)⟩
theorem lw_p12 : lw_okq (⟨"ShelfMarks", "shelfToSpread", "(II)I"⟩, 8) := ⟨⟨by decide +kernel, by decide +kernel⟩, List.mem_of_getElem? (i := 11) (by decide +kernel), List.mem_of_getElem? (i := 191) (by decide +kernel), List.mem_of_getElem? (i := 192) (by decide +kernel)⟩
theorem lw_p13 : lw_okq (⟨"ShelfMarks", "isLoaded", "(II)Z"⟩, 8) := ⟨⟨by decide +kernel, by decide +kernel⟩, List.mem_of_getElem? (i := 11) (by decide +kernel), List.mem_of_getElem? (i := 198) (by decide +kernel), List.mem_of_getElem? (i := 199) (by decide +kernel)⟩
theorem lw_p14 : lw_okq (⟨"ShelfMarks", "foldersOn", "(II)I"⟩, 8) := ⟨⟨by decide +kernel, by decide +kernel⟩, List.mem_of_getElem? (i := 11) (by decide +kernel), List.mem_of_getElem? (i := 202) (by decide +kernel), List.mem_of_getElem? (i := 203) (by decide +kernel)⟩
theorem lw_p15 : lw_okq (⟨"ShelfMarks", "insertAt", "(III)V"⟩, 8) := ⟨⟨by decide +kernel, by decide +kernel⟩, List.mem_of_getElem? (i := 11) (by decide +kernel), List.mem_of_getElem? (i := 215) (by decide +kernel), List.mem_of_getElem? (i := 216) (by decide +kernel)⟩
def lw_privs_1 : List (MethodName × Nat) := [(⟨"ShelfMarks", "folderAt", "(I)I"⟩, 8), (⟨"ShelfMarks", "isPlace", "(I)Z"⟩, 8), (⟨"ShelfMarks", "placeOf", "(I)I"⟩, 8), (⟨"ShelfMarks", "marksBelow", "(I)I"⟩, 8), (⟨"ShelfMarks", "requireThatOneMayCome", "()V"⟩, 8), (⟨"java/lang/Throwable", "fillInStackTrace", "(I)Ljava/lang/Throwable;"⟩, 6), (⟨"ShelfMarks", "nextNumber", "()I"⟩, 8), (⟨"ShelfMarks", "putIn", "(II)V"⟩, 8), (⟨"ShelfMarks", "movesByPuttingIn", "(I)I"⟩, 8), (⟨"ShelfMarks", "hasFreeMark", "(I)Z"⟩, 8), (⟨"ShelfMarks", "markAt", "(I)I"⟩, 8), (⟨"ShelfMarks", "levelToSpread", "(I)I"⟩, 8), (⟨"ShelfMarks", "shelfToSpread", "(II)I"⟩, 8), (⟨"ShelfMarks", "isLoaded", "(II)Z"⟩, 8), (⟨"ShelfMarks", "foldersOn", "(II)I"⟩, 8), (⟨"ShelfMarks", "insertAt", "(III)V"⟩, 8)]
theorem lw_r1 : ∀ q ∈ lw_privs_1, lw_okq q := List.forall_mem_cons.mpr ⟨lw_p0, List.forall_mem_cons.mpr ⟨lw_p1, List.forall_mem_cons.mpr ⟨lw_p2, List.forall_mem_cons.mpr ⟨lw_p3, List.forall_mem_cons.mpr ⟨lw_p4, List.forall_mem_cons.mpr ⟨lw_p5, List.forall_mem_cons.mpr ⟨lw_p6, List.forall_mem_cons.mpr ⟨lw_p7, List.forall_mem_cons.mpr ⟨lw_p8, List.forall_mem_cons.mpr ⟨lw_p9, List.forall_mem_cons.mpr ⟨lw_p10, List.forall_mem_cons.mpr ⟨lw_p11, List.forall_mem_cons.mpr ⟨lw_p12, List.forall_mem_cons.mpr ⟨lw_p13, List.forall_mem_cons.mpr ⟨lw_p14, List.forall_mem_cons.mpr ⟨lw_p15, fun _ h => absurd h List.not_mem_nil⟩⟩⟩⟩⟩⟩⟩⟩⟩⟩⟩⟩⟩⟩⟩⟩
theorem lw_p16 : lw_okq (⟨"ShelfMarks", "set", "(III)V"⟩, 8) := ⟨⟨by decide +kernel, by decide +kernel⟩, List.mem_of_getElem? (i := 11) (by decide +kernel), List.mem_of_getElem? (i := 219) (by decide +kernel), List.mem_of_getElem? (i := 220) (by decide +kernel)⟩
theorem lw_p17 : lw_okq (⟨"ShelfMarks", "spreadOut", "(II)V"⟩, 8) := ⟨⟨by decide +kernel, by decide +kernel⟩, List.mem_of_getElem? (i := 11) (by decide +kernel), List.mem_of_getElem? (i := 223) (by decide +kernel), List.mem_of_getElem? (i := 224) (by decide +kernel)⟩
theorem lw_p18 : lw_okq (⟨"ShelfMarks", "countSpread", "(I)V"⟩, 8) := ⟨⟨by decide +kernel, by decide +kernel⟩, List.mem_of_getElem? (i := 11) (by decide +kernel), List.mem_of_getElem? (i := 227) (by decide +kernel), List.mem_of_getElem? (i := 228) (by decide +kernel)⟩
theorem lw_p19 : lw_okq (⟨"ShelfMarks", "requirePlace", "(I)I"⟩, 8) := ⟨⟨by decide +kernel, by decide +kernel⟩, List.mem_of_getElem? (i := 11) (by decide +kernel), List.mem_of_getElem? (i := 239) (by decide +kernel), List.mem_of_getElem? (i := 240) (by decide +kernel)⟩
theorem lw_p20 : lw_okq (⟨"ShelfMarks", "sendReadersOn", "(II)V"⟩, 8) := ⟨⟨by decide +kernel, by decide +kernel⟩, List.mem_of_getElem? (i := 11) (by decide +kernel), List.mem_of_getElem? (i := 266) (by decide +kernel), List.mem_of_getElem? (i := 267) (by decide +kernel)⟩
theorem lw_p21 : lw_okq (⟨"ShelfMarks", "removeAt", "(I)V"⟩, 8) := ⟨⟨by decide +kernel, by decide +kernel⟩, List.mem_of_getElem? (i := 11) (by decide +kernel), List.mem_of_getElem? (i := 270) (by decide +kernel), List.mem_of_getElem? (i := 271) (by decide +kernel)⟩
theorem lw_p22 : lw_okq (⟨"ShelfMarks", "readersAt", "(I)I"⟩, 8) := ⟨⟨by decide +kernel, by decide +kernel⟩, List.mem_of_getElem? (i := 11) (by decide +kernel), List.mem_of_getElem? (i := 380) (by decide +kernel), List.mem_of_getElem? (i := 381) (by decide +kernel)⟩
theorem lw_p23 : lw_okq (⟨"ShelfMarksModel", "isFull", "()Z"⟩, 10) := ⟨⟨by decide +kernel, by decide +kernel⟩, List.mem_of_getElem? (i := 405) (by decide +kernel), List.mem_of_getElem? (i := 451) (by decide +kernel), List.mem_of_getElem? (i := 452) (by decide +kernel)⟩
theorem lw_p24 : lw_okq (⟨"ShelfMarksModel", "comes", "(I)I"⟩, 10) := ⟨⟨by decide +kernel, by decide +kernel⟩, List.mem_of_getElem? (i := 405) (by decide +kernel), List.mem_of_getElem? (i := 455) (by decide +kernel), List.mem_of_getElem? (i := 456) (by decide +kernel)⟩
theorem lw_p25 : lw_okq (⟨"ShelfMarksModel", "puts", "(II)V"⟩, 10) := ⟨⟨by decide +kernel, by decide +kernel⟩, List.mem_of_getElem? (i := 405) (by decide +kernel), List.mem_of_getElem? (i := 459) (by decide +kernel), List.mem_of_getElem? (i := 460) (by decide +kernel)⟩
theorem lw_p26 : lw_okq (⟨"ShelfMarksModel", "markAhead", "(I)I"⟩, 10) := ⟨⟨by decide +kernel, by decide +kernel⟩, List.mem_of_getElem? (i := 405) (by decide +kernel), List.mem_of_getElem? (i := 463) (by decide +kernel), List.mem_of_getElem? (i := 464) (by decide +kernel)⟩
theorem lw_p27 : lw_okq (⟨"ShelfMarksModel", "markBehind", "(I)I"⟩, 10) := ⟨⟨by decide +kernel, by decide +kernel⟩, List.mem_of_getElem? (i := 405) (by decide +kernel), List.mem_of_getElem? (i := 467) (by decide +kernel), List.mem_of_getElem? (i := 468) (by decide +kernel)⟩
theorem lw_p28 : lw_okq (⟨"ShelfMarksModel", "levelWithout", "(II)I"⟩, 10) := ⟨⟨by decide +kernel, by decide +kernel⟩, List.mem_of_getElem? (i := 405) (by decide +kernel), List.mem_of_getElem? (i := 471) (by decide +kernel), List.mem_of_getElem? (i := 472) (by decide +kernel)⟩
theorem lw_p29 : lw_okq (⟨"ShelfMarksModel", "loadWithout", "(III)I"⟩, 10) := ⟨⟨by decide +kernel, by decide +kernel⟩, List.mem_of_getElem? (i := 405) (by decide +kernel), List.mem_of_getElem? (i := 475) (by decide +kernel), List.mem_of_getElem? (i := 476) (by decide +kernel)⟩
theorem lw_p30 : lw_okq (⟨"ShelfMarksModel", "spreads", "(III)V"⟩, 10) := ⟨⟨by decide +kernel, by decide +kernel⟩, List.mem_of_getElem? (i := 405) (by decide +kernel), List.mem_of_getElem? (i := 482) (by decide +kernel), List.mem_of_getElem? (i := 483) (by decide +kernel)⟩
theorem lw_p31 : lw_okq (⟨"ShelfMarksModel", "known", "(I)Z"⟩, 10) := ⟨⟨by decide +kernel, by decide +kernel⟩, List.mem_of_getElem? (i := 405) (by decide +kernel), List.mem_of_getElem? (i := 490) (by decide +kernel), List.mem_of_getElem? (i := 491) (by decide +kernel)⟩
def lw_privs_2 : List (MethodName × Nat) := [(⟨"ShelfMarks", "set", "(III)V"⟩, 8), (⟨"ShelfMarks", "spreadOut", "(II)V"⟩, 8), (⟨"ShelfMarks", "countSpread", "(I)V"⟩, 8), (⟨"ShelfMarks", "requirePlace", "(I)I"⟩, 8), (⟨"ShelfMarks", "sendReadersOn", "(II)V"⟩, 8), (⟨"ShelfMarks", "removeAt", "(I)V"⟩, 8), (⟨"ShelfMarks", "readersAt", "(I)I"⟩, 8), (⟨"ShelfMarksModel", "isFull", "()Z"⟩, 10), (⟨"ShelfMarksModel", "comes", "(I)I"⟩, 10), (⟨"ShelfMarksModel", "puts", "(II)V"⟩, 10), (⟨"ShelfMarksModel", "markAhead", "(I)I"⟩, 10), (⟨"ShelfMarksModel", "markBehind", "(I)I"⟩, 10), (⟨"ShelfMarksModel", "levelWithout", "(II)I"⟩, 10), (⟨"ShelfMarksModel", "loadWithout", "(III)I"⟩, 10), (⟨"ShelfMarksModel", "spreads", "(III)V"⟩, 10), (⟨"ShelfMarksModel", "known", "(I)Z"⟩, 10)]
theorem lw_r2 : ∀ q ∈ lw_privs_2, lw_okq q := List.forall_mem_cons.mpr ⟨lw_p16, List.forall_mem_cons.mpr ⟨lw_p17, List.forall_mem_cons.mpr ⟨lw_p18, List.forall_mem_cons.mpr ⟨lw_p19, List.forall_mem_cons.mpr ⟨lw_p20, List.forall_mem_cons.mpr ⟨lw_p21, List.forall_mem_cons.mpr ⟨lw_p22, List.forall_mem_cons.mpr ⟨lw_p23, List.forall_mem_cons.mpr ⟨lw_p24, List.forall_mem_cons.mpr ⟨lw_p25, List.forall_mem_cons.mpr ⟨lw_p26, List.forall_mem_cons.mpr ⟨lw_p27, List.forall_mem_cons.mpr ⟨lw_p28, List.forall_mem_cons.mpr ⟨lw_p29, List.forall_mem_cons.mpr ⟨lw_p30, List.forall_mem_cons.mpr ⟨lw_p31, fun _ h => absurd h List.not_mem_nil⟩⟩⟩⟩⟩⟩⟩⟩⟩⟩⟩⟩⟩⟩⟩⟩
theorem lw_p32 : lw_okq (⟨"ShelfMarksModel", "place", "(I)I"⟩, 10) := ⟨⟨by decide +kernel, by decide +kernel⟩, List.mem_of_getElem? (i := 405) (by decide +kernel), List.mem_of_getElem? (i := 494) (by decide +kernel), List.mem_of_getElem? (i := 495) (by decide +kernel)⟩
theorem lw_p33 : lw_okq (⟨"ShelfMarksModel", "behind", "(I)I"⟩, 10) := ⟨⟨by decide +kernel, by decide +kernel⟩, List.mem_of_getElem? (i := 405) (by decide +kernel), List.mem_of_getElem? (i := 502) (by decide +kernel), List.mem_of_getElem? (i := 503) (by decide +kernel)⟩
theorem lw_p34 : lw_okq (⟨"ShelfMarksModel", "lifts", "(I)V"⟩, 10) := ⟨⟨by decide +kernel, by decide +kernel⟩, List.mem_of_getElem? (i := 405) (by decide +kernel), List.mem_of_getElem? (i := 506) (by decide +kernel), List.mem_of_getElem? (i := 507) (by decide +kernel)⟩
theorem lw_p35 : lw_okq (⟨"ShelfMarksModel", "between", "(II)I"⟩, 10) := ⟨⟨by decide +kernel, by decide +kernel⟩, List.mem_of_getElem? (i := 405) (by decide +kernel), List.mem_of_getElem? (i := 542) (by decide +kernel), List.mem_of_getElem? (i := 543) (by decide +kernel)⟩
theorem lw_p36 : lw_okq (⟨"ShelfMarksModel", "loadOf", "(II)I"⟩, 10) := ⟨⟨by decide +kernel, by decide +kernel⟩, List.mem_of_getElem? (i := 405) (by decide +kernel), List.mem_of_getElem? (i := 561) (by decide +kernel), List.mem_of_getElem? (i := 562) (by decide +kernel)⟩
theorem lw_p37 : lw_okq (⟨"ShelfMarksModel", "levelFor", "(I)I"⟩, 10) := ⟨⟨by decide +kernel, by decide +kernel⟩, List.mem_of_getElem? (i := 405) (by decide +kernel), List.mem_of_getElem? (i := 573) (by decide +kernel), List.mem_of_getElem? (i := 574) (by decide +kernel)⟩
def lw_privs_3 : List (MethodName × Nat) := [(⟨"ShelfMarksModel", "place", "(I)I"⟩, 10), (⟨"ShelfMarksModel", "behind", "(I)I"⟩, 10), (⟨"ShelfMarksModel", "lifts", "(I)V"⟩, 10), (⟨"ShelfMarksModel", "between", "(II)I"⟩, 10), (⟨"ShelfMarksModel", "loadOf", "(II)I"⟩, 10), (⟨"ShelfMarksModel", "levelFor", "(I)I"⟩, 10)]
theorem lw_r3 : ∀ q ∈ lw_privs_3, lw_okq q := List.forall_mem_cons.mpr ⟨lw_p32, List.forall_mem_cons.mpr ⟨lw_p33, List.forall_mem_cons.mpr ⟨lw_p34, List.forall_mem_cons.mpr ⟨lw_p35, List.forall_mem_cons.mpr ⟨lw_p36, List.forall_mem_cons.mpr ⟨lw_p37, fun _ h => absurd h List.not_mem_nil⟩⟩⟩⟩⟩⟩
def lw_privs : List (MethodName × Nat) := lw_privs_1 ++ (lw_privs_2 ++ (lw_privs_3))
def lw_tbl : List Cond := k2_sels lw_privs ++ tables_1
theorem lw_privs_ok : ∀ q ∈ lw_privs, lw_okq q := by
  show ∀ q ∈ lw_privs_1 ++ (lw_privs_2 ++ (lw_privs_3)), lw_okq q
  exact List.forall_mem_append.mpr ⟨lw_r1, List.forall_mem_append.mpr ⟨lw_r2, lw_r3⟩⟩
end
section
/-! ===== BEGIN words of one list among another's, by their places ===== -/
theorem goodIn_r {big : List Cond} (ws : List Cond) (ps : List Nat) (hp : ws = ps.filterMap (fun i => big[i]?)) (h : ws.all goodWord = true) : GoodIn big ws := by
  intro w hw
  have h1 := List.all_eq_true.mp h w hw
  rw [hp] at hw
  obtain ⟨i, -, hi⟩ := List.mem_filterMap.mp hw
  have hm : w ∈ big := by first | exact List.mem_of_getElem? hi | exact List.getElem?_mem hi
  exact ⟨hm, good_of_word h1⟩
theorem goodIn_app {big a b : List Cond} (ha : GoodIn big a) (hb : GoodIn big b) : GoodIn big (a ++ b) := fun w h => (List.mem_append.mp h).elim (ha w) (hb w)
theorem goodIn_ca {big a b : List Cond} {c : Cond} (ha : GoodIn big (c :: a)) (hb : GoodIn big b) : GoodIn big (c :: (a ++ b)) := fun w h => (List.mem_cons.mp h).elim (fun e => ha w (List.mem_cons.mpr (Or.inl e))) (fun h => (List.mem_append.mp h).elim (fun h => ha w (List.mem_cons.mpr (Or.inr h))) (hb w))
theorem goodIn_sub {big ws : List Cond} (hm : ∀ w ∈ ws, w ∈ big) (h : ws.all goodWord = true) : GoodIn big ws := fun w hw => ⟨hm w hw, good_of_word (List.all_eq_true.mp h w hw)⟩
/-! ===== END ===== -/

/-! ===== BEGIN exceptions that leave a method, and their catching by the caller (launches without stack traces) ===== -/
section VXA
/-! The laws vx_back, vx_callV, vx_callS, vx_callSW, vx_throw0, vx_throwS follow proofs of the library, with one case more: JvmDerived/Free/Laws.lean (Back.of_free), Shelf42/LK1.lean (callV, callS), Shelf/KitTraced.lean (throwNew0V, throwNewS). -/
/-- where a method has thrown q: the class by its name, the cell, what was written, the world -/
def vx_T (XC : String → State → State → Prop) (st : State) (q : Addr) (t : State) (mc ms : Nat) (free : Addr → Prop) : Prop :=
  ∃ (E : String) (ce : Cell) (L : List Loc), XC E st t ∧ t.heap[q]? = some ce ∧ ce.vm = .none ∧ st.vm.findClass E = some ce.cls ∧ st.WarmedH t.vm ∧ st.sameButNew ({ t with vm := st.vm } : State) L mc ms ∧ ∀ z ∈ L, free z.base
def vx_Q (Qc : Array Value → State → Outcome → State → Prop) (XC : String → State → State → Prop) (mc ms : Nat) (free : Addr → Prop) : Array Value → State → Outcome → State → Prop := fun a st o t =>
  (Qc a st o t ∧ ∃ L, FrameEnd st o t L mc ms ∧ ∀ q ∈ L, free q.base) ∨ ∃ q, o = .threw q ∧ vx_T XC st q t mc ms free
/-- a callee that returns or throws -/
def vx_Met (l : Launch) (y : MethodName) (ws : List Cond) (rm : Room) (Pc : Array Value → State → Prop) (Qc : Array Value → State → Outcome → State → Prop) (XC : String → State → State → Prop) (mc ms : Nat) (free : Addr → Prop) : Prop :=
  MetFree l y (headSpec ws rm) Pc (fun _ _ _ _ _ => True) (vx_Q Qc XC mc ms free)
def vx_Post (XC : String → State → State → Prop) (mc ms : Nat) (free : Addr → Prop) : Pt → Array Value → Addr → Pt → Prop := fun A a q B =>
  ∃ (g : JFrame) (mk : MethodId) (t : State) (L : List Loc) (E : String) (ce : Cell), B.U.heap = t.heap ∧ B.U.vm = t.vm ∧ XC E (A.U.calling g mk a) t ∧ t.heap[q]? = some ce ∧ ce.vm = .none ∧ A.U.vm.findClass E = some ce.cls ∧ B.locs = A.locs ++ L ∧ (∀ z ∈ L, free z.base) ∧ B.cells = A.cells + mc ∧ B.slots = A.slots + ms
def vx_Back (l : Launch) (R : Room) (p : Program) (e : Env) (below : List Frame) (s : State) (sargs : Array Value) (y : MethodName) (len W9 : Nat)
    (Pre : Pt → Array Value → Prop) (Post : Pt → Array Value → Option Value → Pt → Prop) (PostX : Pt → Array Value → Addr → Pt → Prop) : Prop :=
  ∀ (m : MethodId) (meth : Method) (c : Code) (A : Pt) (g : JFrame) (ig : Instr) (mk : MethodId) (a : Array Value),
    Stand p l e R s m sargs below meth c A.U A.locs A.cells A.slots → g.method = m → g.locals.size = c.maxLocals → decode c.code g.pc = .ok (ig, len) →
    2 * g.monitorRoom + (g.stack.map fun v => v.category).sum ≤ W9 → A.U.methodNamed? y = some mk → Pre A a →
    (∃ (v : Option Value) (B : Pt), Stand p l e R s m sargs below meth c B.U B.locs B.cells B.slots ∧ Post A a v B ∧
      Steps p.tables e below (doInvoke e (A.U.setTop g) [] mk a).1 (B.U.setTop { g with pc := g.pc + len, stack := v.toList ++ g.stack })) ∨
    (∃ (q : Addr) (B : Pt), Stand p l e R s m sargs below meth c B.U B.locs B.cells B.slots ∧ PostX A a q B ∧
      Steps p.tables e below (doInvoke e (A.U.setTop g) [] mk a).1 ((B.U.setTop g).pushFrame (.throwing q)))
section Payer
variable {l : Launch} {R : Room} {p : Program} {e : Env} {below : List Frame} {s : State} {sargs : Array Value} {y : MethodName} {len W9 : Nat}
theorem vx_back {ws : List Cond} {rm : Room} {Pc : Array Value → State → Prop} {Qc : Array Value → State → Outcome → State → Prop} {XC : String → State → State → Prop} {mc ms : Nat} {free : Addr → Prop} {bytes : ByteArray} {maxL : Nat} {ret : Option FieldType}
    (hM : vx_Met l y ws rm Pc Qc XC mc ms free) (hblind : FrameBlind Pc) (hrc : rm.cells = mc) (hrs : rm.slots = ms)
    (hframes : rm.frames + 1 ≤ R.frames) (hlocals : W9 + (maxL + 11) + rm.locals ≤ R.locals)
    (hws : ∀ w ∈ ws, ∀ a' U, s.WarmedH U.vm → w.before a' U = true) (hcode : Cond.code y bytes maxL ret ∈ ws) (hinit : ∀ a' U, s.WarmedH U.vm → (Cond.initialized y.cls).before a' U = true) :
    vx_Back l R p e below s sargs y len W9 (PreOf R mc ms Pc) (PostOf Qc mc ms free) (vx_Post XC mc ms free) := by
  intro m meth c A g ig mk a X hg hsize hdg hW hn hp
  have h1 : (headSpec ws rm).pre.before a A.U = true := atoms_intro fun w hw => hws w hw _ _ X.warmed
  have h2 : (Cond.code y bytes maxL ret).before a A.U = true := hws _ hcode _ _ X.warmed
  have h3 : (Cond.initialized y.cls).before a A.U = true := hinit _ _ X.warmed
  have h4 : A.cells + (headSpec ws rm).room.cells ≤ R.cells := by rw [show (headSpec ws rm).room.cells = mc from hrc]; exact hp.1
  have h5 : A.slots + (headSpec ws rm).room.slots ≤ R.slots := by rw [show (headSpec ws rm).room.slots = ms from hrs]; exact hp.2.1
  have hPc : Pc a (A.U.calling g mk a) := hblind _ _ _ _ hp.2.2
  obtain ⟨U, Ls, c0, s0⟩ := A
  dsimp only [Pt.U, Pt.locs, Pt.cells, Pt.slots] at h1 h2 h3 h4 h5 X hn hPc ⊢
  obtain ⟨methY, cY, hmY, hcY, -, hlY, -, -, -, -⟩ := Cond.code_spec hn h2
  obtain ⟨kY, hkY, -⟩ := className_of_methodNamed hn
  have hinitY : kY.init = .initialized := Cond.initialized_spec (findClass_of_methodNamed hn) hkY h3
  have h : At U g.method c below := by rw [hg]; exact X.here
  have hlocals9 : W9 + (maxL + 11) + (headSpec ws rm).room.locals ≤ R.locals := hlocals
  have happ : (headSpec ws rm).appliesLoose y e.platform (U.calling g mk a) = true :=
    Spec.appliesLoose_calling (g := g) h hdg hn hkY hinitY
      (X.room_calling (g := g) (R' := (headSpec ws rm).room) hsize hmY hcY hframes (by rw [hlY]; omega) h4 h5) h1
  obtain ⟨mid, hmid⟩ := h.above
  have hfr : (U.setTop g).frames = (.java g :: mid) ++ below := by rw [State.frames_setTop' g h.top, hmid]; rfl
  obtain ⟨o, s₂, hsteps, -, hend, hq⟩ := Steps.callFree hM p X.admits X.cas X.clock (acts := []) hfr happ hPc trivial
  have hq' : vx_Q Qc XC mc ms free a (U.calling g mk a) o s₂ := hq
  rw [State.frames_setTop' g h.top] at hend
  obtain ⟨g₀, hg0⟩ := Option.isSome_iff_exists.mp h.top
  obtain ⟨r, hr⟩ := State.topJava?_eq_some.mp hg0
  have hr' : (({ U with heap := s₂.heap, slotsUsed := s₂.slotsUsed } : State).setVm s₂.vm).frames = .java g₀ :: r := hr
  rcases hq' with ⟨hqc, L, hfe, hL⟩ | ⟨q, rfl, E, ce, L, hx, hce, hcv, hcl, hW₂, hsm, hL⟩
  · obtain ⟨⟨v, rfl⟩, hW₂, e2, q2, q3, q4, q5, q6⟩ := id hfe
    have e3 : s₂ = ({ (U.calling g mk a).setFrames s₂.frames with heap := s₂.heap, slotsUsed := s₂.slotsUsed } : State).setVm s₂.vm := by
      have : s₂ = ({ s₂ with vm := (U.calling g mk a).vm } : State).setVm s₂.vm := rfl
      rw [e2] at this
      exact this
    obtain ⟨c₂, i₂, len₂, hc₂, hd₂, hf₂⟩ := hend
    have hW' : U.WarmedH s₂.vm := hW₂
    have hcc : c₂ = c := by
      have h1 : s₂.code? g.method = U.code? g.method := by
        rw [State.code?_eq, State.code?_eq, hW'.alike.method?]
      exact Option.some.inj (hc₂.symm.trans (h1.trans h.code))
    subst hcc
    have hlen : len₂ = len := by rw [hdg] at hd₂; cases hd₂; rfl
    subst hlen
    have hs₂ : s₂ = (({ U with heap := s₂.heap, slotsUsed := s₂.slotsUsed } : State).setVm s₂.vm).setTop { g with pc := g.pc + len₂, stack := v.toList ++ g.stack } := by
      refine e3.trans ?_
      rw [hf₂, State.calling_eq h.top, State.setFrames_setFrames, State.setTop_of_frames _ hr', hr]
      rfl
    have hsame : U.sameButNew ({ U with heap := s₂.heap, slotsUsed := s₂.slotsUsed } : State) L mc ms := by
      refine ⟨?_, q2, q3, q4, q5, q6⟩
      obtain ⟨t, ht, -⟩ := State.frames_cons hr
      show ({ U with heap := s₂.heap, slotsUsed := s₂.slotsUsed } : State) = { U.setFrames U.frames with heap := s₂.heap, slotsUsed := s₂.slotsUsed }
      rw [State.setFrames_self ht]
    subst hg
    refine Or.inl ⟨v, ⟨(({ U with heap := s₂.heap, slotsUsed := s₂.slotsUsed } : State).setVm s₂.vm), Ls ++ L, c0 + mc, s0 + ms⟩,
      ⟨X.admits, X.cas, X.clock, X.frames, X.room, X.hears, X.method, X.code, (X.here.setHeapUsed s₂.heap s₂.slotsUsed).setVm hW'.alike, X.tail, State.WarmedH.trans X.warmed hW', X.limits, X.bytes, X.same.trans (hsame.setVm s.vm)⟩,
      ⟨g, mk, s₂, L, rfl, rfl, hqc, rfl, hL, rfl, rfl⟩, ?_⟩
    show Steps p.tables e below _ ((({ U with heap := s₂.heap, slotsUsed := s₂.slotsUsed } : State).setVm s₂.vm).setTop { g with pc := g.pc + len₂, stack := v.toList ++ g.stack })
    rw [← hs₂]
    exact hsteps
  · obtain ⟨e2, q2, q3, q4, q5, q6⟩ := id hsm
    have e3 : s₂ = ({ (U.calling g mk a).setFrames s₂.frames with heap := s₂.heap, slotsUsed := s₂.slotsUsed } : State).setVm s₂.vm := by
      have : s₂ = ({ s₂ with vm := (U.calling g mk a).vm } : State).setVm s₂.vm := rfl
      rw [e2] at this
      exact this
    have hf₂ : s₂.frames = .throwing q :: .java g :: U.frames.tail := hend
    have hW' : U.WarmedH s₂.vm := hW₂
    have hs₂ : s₂ = ((({ U with heap := s₂.heap, slotsUsed := s₂.slotsUsed } : State).setVm s₂.vm).setTop g).pushFrame (.throwing q) := by
      refine e3.trans ?_
      rw [hf₂, State.calling_eq h.top, State.setFrames_setFrames, State.pushFrame, State.frames_setTop _ hr', State.setTop_of_frames _ hr', State.setFrames_setFrames, hr]
      rfl
    have hsame : U.sameButNew ({ U with heap := s₂.heap, slotsUsed := s₂.slotsUsed } : State) L mc ms := by
      refine ⟨?_, q2, q3, q4, q5, q6⟩
      obtain ⟨t, ht, -⟩ := State.frames_cons hr
      show ({ U with heap := s₂.heap, slotsUsed := s₂.slotsUsed } : State) = { U.setFrames U.frames with heap := s₂.heap, slotsUsed := s₂.slotsUsed }
      rw [State.setFrames_self ht]
    subst hg
    refine Or.inr ⟨q, ⟨(({ U with heap := s₂.heap, slotsUsed := s₂.slotsUsed } : State).setVm s₂.vm), Ls ++ L, c0 + mc, s0 + ms⟩,
      ⟨X.admits, X.cas, X.clock, X.frames, X.room, X.hears, X.method, X.code, (X.here.setHeapUsed s₂.heap s₂.slotsUsed).setVm hW'.alike, X.tail, State.WarmedH.trans X.warmed hW', X.limits, X.bytes, X.same.trans (hsame.setVm s.vm)⟩,
      ⟨g, mk, s₂, L, E, ce, rfl, rfl, hx, hce, hcv, hcl, rfl, hL, rfl, rfl⟩, ?_⟩
    show Steps p.tables e below _ (((({ U with heap := s₂.heap, slotsUsed := s₂.slotsUsed } : State).setVm s₂.vm).setTop g).pushFrame (.throwing q))
    rw [← hs₂]
    exact hsteps
end Payer
section Calls
variable {p : Program} {l : Launch} {e : Env} {R : Room} {s : State} {m : MethodId} {args : Array Value} {below : List Frame} {meth : Method} {c : Code} {T : State} {locs : List Loc} {cells slots : Nat}
theorem vx_callV (X : Stand p l e R s m args below meth c T locs cells slots) (hexec : p.tables.exec = Jvm.exec) {own C : String} {index : Nat} {y : MethodName} {bytes : ByteArray} {maxL : Nat} {ret : Option FieldType}
    (hown : s.vm.findClass own = some m.cls) (hlink : (Cond.methodLink own index y).before args s = true) (hinst : (Cond.instanceMethod y).before args s = true) (hsel : (Cond.selects C y y).before args s = true)
    (hcode : (Cond.code y bytes maxL ret).before args s = true) (hy : y.cls ≠ "java/lang/invoke/MethodHandle" ∧ y.cls ≠ "java/lang/invoke/VarHandle")
    {W9 : Nat} {Pre : Pt → Array Value → Prop} {Post : Pt → Array Value → Option Value → Pt → Prop} {PostX : Pt → Array Value → Addr → Pt → Prop} (hK : vx_Back l R p e below s args y 3 W9 Pre Post PostX)
    {b : Addr} {cellB : Cell} (hcell : T.heap[b]? = some cellB) (hobj : cellB.vm.isStatics = false) (hcls : s.vm.findClass C = some cellB.cls)
    {g : JFrame} (hg : g.method = m) (hsize : g.locals.size = c.maxLocals) {argsL rest : List Value} (hlen : ∀ sig, parseMethodDescriptor y.desc = some sig → argsL.length = sig.parameters.length)
    (hstack : g.stack = argsL.reverse ++ .ref b :: rest) (hW : 2 * g.monitorRoom + (rest.map fun v => v.category).sum ≤ W9) (hdg : decode c.code g.pc = .ok (.invokevirtual index, 3))
    (hpre : ∀ vm₁, s.WarmedH vm₁ → Pre ⟨T.setVm vm₁, locs, cells, slots⟩ (Value.ref b :: argsL).toArray) :
    (∃ (v : Option Value) (vm₁ : Vm) (B : Pt), s.WarmedH vm₁ ∧ Stand p l e R s m args below meth c B.U B.locs B.cells B.slots ∧ Post ⟨T.setVm vm₁, locs, cells, slots⟩ (Value.ref b :: argsL).toArray v B ∧
      ∀ target, Steps p.tables e below (B.U.setTop { g with pc := g.pc + 3, stack := v.toList ++ rest }) target → Steps p.tables e below (T.setTop g) target) ∨
    (∃ (q : Addr) (vm₁ : Vm) (B : Pt), s.WarmedH vm₁ ∧ Stand p l e R s m args below meth c B.U B.locs B.cells B.slots ∧ PostX ⟨T.setVm vm₁, locs, cells, slots⟩ (Value.ref b :: argsL).toArray q B ∧
      Steps p.tables e below (T.setTop g) ((B.U.setTop { g with stack := rest }).pushFrame (.throwing q))) := by
  obtain ⟨mk, methM, hnamed, hmethM, hstM, habM⟩ := Cond.instanceMethod_spec hinst
  obtain ⟨methM', cM, hmethM', -, -, -, -, -, -, hsigM⟩ := Cond.code_spec hnamed hcode
  cases hmethM.symm.trans hmethM'
  obtain ⟨c2, r2, m2, q1, q2, q3, q4, kP, hkP, hkPi⟩ := Cond.selects_spec hsel
  cases hcls.symm.trans q1
  cases (State.methodFound?_of_named hnamed hy).symm.trans q2
  cases hnamed.symm.trans q3
  have hselP : selectMethod e.platform s.vm cellB.cls mk = .method mk := by rw [Launch.admits_selectMethod X.admits]; exact q4
  obtain ⟨vm₁, X₁, hstep₁⟩ := X.invokevirtual hexec hown hlink hnamed hmethM hstM hkP hkPi hy (a := b) (cell := cellB) hcell
    (fun z h => by rw [h] at hobj; cases hobj) hselP hmethM habM hkP hkPi (g := g) hg (argsL := argsL) (rest := rest) (hlen _ hsigM) hstack hdg
  rcases hK m meth c ⟨T.setVm vm₁, locs, cells, slots⟩ { g with stack := rest } (.invokevirtual index) mk (Value.ref b :: argsL).toArray X₁ hg hsize hdg hW (X₁.named hnamed) (hpre vm₁ X₁.warmed) with ⟨v, B, X', hpost, hsteps⟩ | ⟨q, B, X', hpost, hsteps⟩
  · exact Or.inl ⟨v, vm₁, B, X₁.warmed, X', hpost, fun target h => hstep₁ _ fun acts => by rw [doInvoke_state]; exact hsteps.trans h⟩
  · exact Or.inr ⟨q, vm₁, B, X₁.warmed, X', hpost, hstep₁ _ fun acts => by rw [doInvoke_state]; exact hsteps⟩
theorem vx_callS (X : Stand p l e R s m args below meth c T locs cells slots) (hexec : p.tables.exec = Jvm.exec) {own : String} {index : Nat} {y : MethodName} {bytes : ByteArray} {maxL : Nat} {ret : Option FieldType}
    (hown : s.vm.findClass own = some m.cls) (hlink : (Cond.methodLink own index y).before args s = true) (hstat : (Cond.static y).before args s = true) (hinit : (Cond.initialized y.cls).before args s = true)
    (hcode : (Cond.code y bytes maxL ret).before args s = true) (hy : y.cls ≠ "java/lang/invoke/MethodHandle" ∧ y.cls ≠ "java/lang/invoke/VarHandle")
    {W9 : Nat} {Pre : Pt → Array Value → Prop} {Post : Pt → Array Value → Option Value → Pt → Prop} {PostX : Pt → Array Value → Addr → Pt → Prop} (hK : vx_Back l R p e below s args y 3 W9 Pre Post PostX)
    {g : JFrame} (hg : g.method = m) (hsize : g.locals.size = c.maxLocals) {argsL rest : List Value} (hlen : ∀ sig, parseMethodDescriptor y.desc = some sig → argsL.length = sig.parameters.length)
    (hstack : g.stack = argsL.reverse ++ rest) (hW : 2 * g.monitorRoom + (rest.map fun v => v.category).sum ≤ W9) (hdg : decode c.code g.pc = .ok (.invokestatic index, 3))
    (hpre : ∀ vm₁, s.WarmedH vm₁ → Pre ⟨T.setVm vm₁, locs, cells, slots⟩ argsL.toArray) :
    (∃ (v : Option Value) (vm₁ : Vm) (B : Pt), s.WarmedH vm₁ ∧ Stand p l e R s m args below meth c B.U B.locs B.cells B.slots ∧ Post ⟨T.setVm vm₁, locs, cells, slots⟩ argsL.toArray v B ∧
      ∀ target, Steps p.tables e below (B.U.setTop { g with pc := g.pc + 3, stack := v.toList ++ rest }) target → Steps p.tables e below (T.setTop g) target) ∨
    (∃ (q : Addr) (vm₁ : Vm) (B : Pt), s.WarmedH vm₁ ∧ Stand p l e R s m args below meth c B.U B.locs B.cells B.slots ∧ PostX ⟨T.setVm vm₁, locs, cells, slots⟩ argsL.toArray q B ∧
      Steps p.tables e below (T.setTop g) ((B.U.setTop { g with stack := rest }).pushFrame (.throwing q))) := by
  obtain ⟨mk, hnamed⟩ := Cond.code_named hcode
  obtain ⟨methM, cM, hmethM, -, -, -, -, -, -, hsigM⟩ := Cond.code_spec hnamed hcode
  have hstatic : methM.isStatic = true := Cond.static_spec hnamed hmethM hstat
  obtain ⟨kP, hkP, -⟩ := className_of_methodNamed hnamed
  have hinitP : kP.init = .initialized := Cond.initialized_spec (findClass_of_methodNamed hnamed) hkP hinit
  obtain ⟨vm₁, X₁, hstep₁⟩ := X.invokestatic hexec hown hlink hnamed hmethM hstatic hkP hinitP hy (g := g) hg (argsL := argsL) (rest := rest) (hlen _ hsigM) hstack hdg
  rcases hK m meth c ⟨T.setVm vm₁, locs, cells, slots⟩ { g with stack := rest } (.invokestatic index) mk argsL.toArray X₁ hg hsize hdg hW (X₁.named hnamed) (hpre vm₁ X₁.warmed) with ⟨v, B, X', hpost, hsteps⟩ | ⟨q, B, X', hpost, hsteps⟩
  · exact Or.inl ⟨v, vm₁, B, X₁.warmed, X', hpost, fun target h => hstep₁ _ fun acts => by rw [doInvoke_state]; exact hsteps.trans h⟩
  · exact Or.inr ⟨q, vm₁, B, X₁.warmed, X', hpost, hstep₁ _ fun acts => by rw [doInvoke_state]; exact hsteps⟩
end Calls
theorem vx_cls {s : State} {T : State} {vm₁ : Vm} {E : String} {k : ClassId} (hW : s.WarmedH vm₁) (h : (T.setVm vm₁).vm.findClass E = some k) : s.vm.findClass E = some k := by
  have h1 : vm₁.findClass E = some k := h
  rw [hW.alike.findClass] at h1
  exact h1
/-- the method's frame g, with q thrown over it -/
def vx_W (p : Program) (l : Launch) (e : Env) (R : Room) (s : State) (m : MethodId) (args : Array Value) (below : List Frame) (meth : Method) (c : Code) (H : Heap) (locs : List Loc) (cells slots : Nat) (Q : State → Prop) (g : JFrame) (q : Addr) : Prop :=
  ∀ T : State, T.heap = H → Stand p l e R s m args below meth c T locs cells slots → ∃ t, Steps p.tables e below ((T.setTop g).pushFrame (.throwing q)) t ∧ Q t
def vx_Run (p : Program) (l : Launch) (e : Env) (R : Room) (s : State) (m : MethodId) (args : Array Value) (below : List Frame) (meth : Method) (c : Code) (H : Heap) (locs : List Loc) (cells slots mc ms : Nat) (g : JFrame) (rest : List Value) (Qa : State → Outcome → State → Prop) (XC : String → State → State → Prop) (free : Addr → Prop) : Prop :=
  ∀ T : State, T.heap = H → Stand p l e R s m args below meth c T locs cells slots →
    (∃ (v : Option Value) (st₀ t T' : State) (L : List Loc), st₀.heap = H ∧ Stand p l e R s m args below meth c T' (locs ++ L) (cells + mc) (slots + ms) ∧ (∀ q ∈ L, free q.base) ∧ T'.heap = t.heap ∧ T'.vm = t.vm ∧ Qa st₀ (.returned v) t ∧
      Goes p e below T g T' { g with pc := g.pc + 3, stack := v.toList ++ rest }) ∨
    (∃ (q : Addr) (st₀ t T' : State) (L : List Loc) (E : String) (ce : Cell), st₀.heap = H ∧ Stand p l e R s m args below meth c T' (locs ++ L) (cells + mc) (slots + ms) ∧ (∀ z ∈ L, free z.base) ∧ T'.heap = t.heap ∧ T'.vm = t.vm ∧ XC E st₀ t ∧ t.heap[q]? = some ce ∧ ce.vm = .none ∧ s.vm.findClass E = some ce.cls ∧
      Steps p.tables e below (T.setTop g) ((T'.setTop { g with stack := rest }).pushFrame (.throwing q)))
def vx_X {S : Type} (px : S → Prop) (B : String → S → State → Prop) (A : Nat → Prop) : String → State → State → Prop := fun E st t => ∃ u : S, px u ∧ B E u t ∧ va_F A st t
section Runs
variable {p : Program} {l : Launch} {e : Env} {R : Room} {s : State} {m : MethodId} {args : Array Value} {below : List Frame} {meth : Method} {c : Code} {H : Heap} {locs : List Loc} {cells slots : Nat}
variable {y : MethodName} {bytes cc : ByteArray} {maxL nL mc ms n index : Nat} {ret : Option FieldType} {ws : List Cond} {rm : Room} {Pc : Array Value → State → Prop} {Qc : Array Value → State → Outcome → State → Prop} {XC : String → State → State → Prop} {free : Addr → Prop} {Ts : List Cond} {own C : String} {b : Addr} {As rest : List Value} {g : JFrame}
theorem vx_callBack (cb : CallB R s args own index y bytes maxL ret ws rm mc ms n) (hM : vx_Met l y ws rm Pc Qc XC mc ms free) (hbl : FrameBlind Pc) : vx_Back l R p e below s args y 3 8 (PreOf R mc ms Pc) (PostOf Qc mc ms free) (vx_Post XC mc ms free) := by
  obtain ⟨hrc, hrs, hfr, hlo, hws, hcw, -, hini, -⟩ := cb
  exact vx_back (bytes := bytes) (maxL := maxL) (ret := ret) hM hbl hrc hrs hfr hlo hws hcw (fun a' U hW => word_at hW (Or.inl (by first | rfl | simp [Cond.onTables, Cond.keeps, Cond.steady])) hini)
theorem vx_runV (S : CallFix p m c cc nL s args Ts own) (hM : vx_Met l y ws rm Pc Qc XC mc ms free) (cw : CallW R s args own C index y bytes maxL ret ws rm mc ms n) (hp : PreV s H C b Pc As)
    (hg : g.method = m) (hn : As.length = n) (hsize : g.locals.size = nL) (hstack : g.stack = As.reverse ++ .ref b :: rest) (hW : 2 * g.monitorRoom + (rest.map fun v => v.category).sum ≤ 8) (hdg : decode cc g.pc = .ok (.invokevirtual index, 3)) (hf : cells + mc ≤ R.cells ∧ slots + ms ≤ R.slots) :
    vx_Run p l e R s m args below meth c H locs cells slots mc ms g rest (Qc (Value.ref b :: As).toArray) XC free := by
  have hK : vx_Back l R p e below s args y 3 8 (PreOf R mc ms Pc) (PostOf Qc mc ms free) (vx_Post XC mc ms free) := vx_callBack cw.1 hM hp.1
  obtain ⟨⟨-, -, -, -, -, -, hcode, -, hy, hlen, hl⟩, hin, hse⟩ := cw
  obtain ⟨hx, hb, hml, ho, -⟩ := S
  obtain ⟨-, ⟨cellB, hcB, hoB, hclB⟩, hPc⟩ := hp
  intro T hT X
  rcases vx_callV X hx (C := C) (bytes := bytes) (maxL := maxL) (ret := ret) ho hl hin hse hcode hy hK (by rw [hT]; exact hcB) hoB hclB hg (hsize.trans hml.symm) (argsL := As) (rest := rest) (fun sig h => hn.trans (hlen sig h)) hstack hW (by rw [hb]; exact hdg)
    (fun vm₁ hW₁ => ⟨hf.1, hf.2, hPc (T.setVm vm₁) hT hW₁⟩) with ⟨v, vm₁, ⟨U', l2, c2, s2⟩, hW₁, X', ⟨g', mk, t, L, e1, e2, hq, h1, hL, h2, h3⟩, st⟩ | ⟨q, vm₁, ⟨U', l2, c2, s2⟩, hW₁, X', ⟨g', mk, t, L, E, ce, e1, e2, hq, hce, hcv, hcl, h1, hL, h2, h3⟩, st⟩
  · dsimp only [Pt.U, Pt.locs, Pt.cells, Pt.slots] at X' e1 e2 h1 h2 h3 st
    subst h1; subst h2; subst h3
    exact Or.inl ⟨v, (T.setVm vm₁).calling g' mk (Value.ref b :: As).toArray, t, U', L, hT, X', hL, e1, e2, hq, st⟩
  · dsimp only [Pt.U, Pt.locs, Pt.cells, Pt.slots] at X' e1 e2 h1 h2 h3 st hcl
    subst h1; subst h2; subst h3
    exact Or.inr ⟨q, (T.setVm vm₁).calling g' mk (Value.ref b :: As).toArray, t, U', L, E, ce, hT, X', hL, e1, e2, hq, hce, hcv, vx_cls hW₁ hcl, st⟩
theorem vx_runS (S : CallFix p m c cc nL s args Ts own) (hM : vx_Met l y ws rm Pc Qc XC mc ms free) (cw : CallB R s args own index y bytes maxL ret ws rm mc ms n ∧ (Cond.static y).before args s = true) (hp : PreS s H Pc As)
    (hg : g.method = m) (hn : As.length = n) (hsize : g.locals.size = nL) (hstack : g.stack = As.reverse ++ rest) (hW : 2 * g.monitorRoom + (rest.map fun v => v.category).sum ≤ 8) (hdg : decode cc g.pc = .ok (.invokestatic index, 3)) (hf : cells + mc ≤ R.cells ∧ slots + ms ≤ R.slots) :
    vx_Run p l e R s m args below meth c H locs cells slots mc ms g rest (Qc As.toArray) XC free := by
  have hK : vx_Back l R p e below s args y 3 8 (PreOf R mc ms Pc) (PostOf Qc mc ms free) (vx_Post XC mc ms free) := vx_callBack cw.1 hM hp.1
  obtain ⟨⟨-, -, -, -, -, -, hcode, hini, hy, hlen, hl⟩, hstt⟩ := cw
  obtain ⟨hx, hb, hml, ho, -⟩ := S
  intro T hT X
  rcases vx_callS X hx (bytes := bytes) (maxL := maxL) (ret := ret) ho hl hstt hini hcode hy hK hg (hsize.trans hml.symm) (argsL := As) (rest := rest) (fun sig h => hn.trans (hlen sig h)) hstack hW (by rw [hb]; exact hdg)
    (fun vm₁ hW₁ => ⟨hf.1, hf.2, hp.2 (T.setVm vm₁) hT hW₁⟩) with ⟨v, vm₁, ⟨U', l2, c2, s2⟩, hW₁, X', ⟨g', mk, t, L, e1, e2, hq, h1, hL, h2, h3⟩, st⟩ | ⟨q, vm₁, ⟨U', l2, c2, s2⟩, hW₁, X', ⟨g', mk, t, L, E, ce, e1, e2, hq, hce, hcv, hcl, h1, hL, h2, h3⟩, st⟩
  · dsimp only [Pt.U, Pt.locs, Pt.cells, Pt.slots] at X' e1 e2 h1 h2 h3 st
    subst h1; subst h2; subst h3
    exact Or.inl ⟨v, (T.setVm vm₁).calling g' mk As.toArray, t, U', L, hT, X', hL, e1, e2, hq, st⟩
  · dsimp only [Pt.U, Pt.locs, Pt.cells, Pt.slots] at X' e1 e2 h1 h2 h3 st hcl
    subst h1; subst h2; subst h3
    exact Or.inr ⟨q, (T.setVm vm₁).calling g' mk As.toArray, t, U', L, E, ce, hT, X', hL, e1, e2, hq, hce, hcv, vx_cls hW₁ hcl, st⟩
end Runs
section Rows
variable {p : Program} {l : Launch} {e : Env} {R : Room} {s : State} {m : MethodId} {args : Array Value} {below : List Frame} {meth : Method} {c : Code} {H : Heap} {locs : List Loc} {cells slots : Nat} {Q : State → Prop}
variable {mc ms : Nat} {free : Addr → Prop} {A0 A1 : Nat → Prop} {H0 : Heap} {a : Array Value} {pc : Nat} {ls : Array Slot} {st0 rest : List Value}
theorem vx_keep {st₀ t T' : State} {L : List Loc} (h0 : st₀.heap = H) (e1 : T'.heap = t.heap) (hS : va_S A0 H0 H locs) (hA : ∀ q, q < H.size → A1 q → A0 q) (hf : ∀ q, free q → A0 q) (hL : ∀ q ∈ L, free q.base) (hF : va_F A1 st₀ t) :
    H.size ≤ T'.heap.size ∧ (∀ q : Nat, q < H.size → ¬ A1 q → T'.heap[q]? = H[q]?) ∧ va_S A0 H0 T'.heap (locs ++ L) := by
  obtain ⟨hz, hk⟩ := hF
  rw [h0] at hz hk
  exact ⟨by rw [e1]; exact hz, fun q h1 h2 => by rw [e1]; exact hk q h1 h2,
    ⟨Nat.le_trans hS.1 (by rw [e1]; exact hz), fun q h1 h2 => by rw [e1, hk q (Nat.lt_of_lt_of_le h1 hS.1) (fun z => h2 (hA q (Nat.lt_of_lt_of_le h1 hS.1) z))]; exact hS.2.1 q h1 h2, fun q hq => by
      rcases List.mem_append.mp hq with h | h
      · exact hS.2.2 q h
      · exact hf _ (hL q h)⟩⟩
theorem vx_calli {S SX : Type} {post : Int32 → S → Prop} {px : SX → Prop} {B : S → State → Prop} {BX : String → SX → State → Prop} {AX : Nat → Prop} (hr : vx_Run p l e R s m args below meth c H locs cells slots mc ms (F0 m pc ls st0) rest (va_Qi post B A1 a) (vx_X px BX AX) free) (hS : va_S A0 H0 H locs) (hA : ∀ q, q < H.size → A1 q → A0 q) (hf : ∀ q, free q → A0 q) (hAX : ∀ q, q < H.size → AX q → A0 q)
    (kx : ∀ (E : String) (ce : Cell) (q9 : Addr) (u : SX) (t : State) (H1 : Heap) (locs1 : List Loc), t.heap = H1 → s.vm.Alike t.vm → px u → BX E u t → H.size ≤ H1.size → (∀ q : Nat, q < H.size → ¬ AX q → H1[q]? = H[q]?) → va_S A0 H0 H1 locs1 → H1[q9]? = some ce → ce.vm = .none → s.vm.findClass E = some ce.cls → vx_W p l e R s m args below meth c H1 locs1 (cells + mc) (slots + ms) Q (F0 m pc ls rest) q9)
    (kk : ∀ (r : Int32) (u : S) (t : State) (H1 : Heap) (locs1 : List Loc), t.heap = H1 → s.vm.Alike t.vm → post r u → B u t → H.size ≤ H1.size → (∀ q : Nat, q < H.size → ¬ A1 q → H1[q]? = H[q]?) → va_S A0 H0 H1 locs1 → W p l e R s m args below meth c H1 locs1 (cells + mc) (slots + ms) Q (F0 m (pc + 3) ls (.int r :: rest))) : W p l e R s m args below meth c H locs cells slots Q (F0 m pc ls st0) := by
  intro T hT X
  rcases hr T hT X with ⟨v, st₀, t, T', L, h0, X', hL, e1, e2, ⟨⟨r, u, hv, hp, hb⟩, hF⟩, st⟩ | ⟨q, st₀, t, T', L, E, ce, h0, X', hL, e1, e2, ⟨u, hp, hb, hF⟩, hce, hcv, hcl, st⟩
  · cases hv
    obtain ⟨k1, k2, k3⟩ := vx_keep h0 e1 hS hA hf hL hF
    obtain ⟨t2, a1, b1⟩ := kk r u t T'.heap (locs ++ L) e1.symm (by rw [← e2]; exact X'.warmed.alike) hp hb k1 k2 k3 T' rfl X'
    exact ⟨t2, st t2 a1, b1⟩
  · obtain ⟨k1, k2, k3⟩ := vx_keep h0 e1 hS hAX hf hL hF
    obtain ⟨t2, a1, b1⟩ := kx E ce q u t T'.heap (locs ++ L) e1.symm (by rw [← e2]; exact X'.warmed.alike) hp hb k1 k2 k3 (by rw [e1]; exact hce) hcv hcl T' rfl X'
    exact ⟨t2, st.trans a1, b1⟩
theorem vx_calll {S SX : Type} {post : Int64 → S → Prop} {px : SX → Prop} {B : S → State → Prop} {BX : String → SX → State → Prop} {AX : Nat → Prop} (hr : vx_Run p l e R s m args below meth c H locs cells slots mc ms (F0 m pc ls st0) rest (va_Ql post B A1 a) (vx_X px BX AX) free) (hS : va_S A0 H0 H locs) (hA : ∀ q, q < H.size → A1 q → A0 q) (hf : ∀ q, free q → A0 q) (hAX : ∀ q, q < H.size → AX q → A0 q)
    (kx : ∀ (E : String) (ce : Cell) (q9 : Addr) (u : SX) (t : State) (H1 : Heap) (locs1 : List Loc), t.heap = H1 → s.vm.Alike t.vm → px u → BX E u t → H.size ≤ H1.size → (∀ q : Nat, q < H.size → ¬ AX q → H1[q]? = H[q]?) → va_S A0 H0 H1 locs1 → H1[q9]? = some ce → ce.vm = .none → s.vm.findClass E = some ce.cls → vx_W p l e R s m args below meth c H1 locs1 (cells + mc) (slots + ms) Q (F0 m pc ls rest) q9)
    (kk : ∀ (r : Int64) (u : S) (t : State) (H1 : Heap) (locs1 : List Loc), t.heap = H1 → s.vm.Alike t.vm → post r u → B u t → H.size ≤ H1.size → (∀ q : Nat, q < H.size → ¬ A1 q → H1[q]? = H[q]?) → va_S A0 H0 H1 locs1 → W p l e R s m args below meth c H1 locs1 (cells + mc) (slots + ms) Q (F0 m (pc + 3) ls (.long r :: rest))) : W p l e R s m args below meth c H locs cells slots Q (F0 m pc ls st0) := by
  intro T hT X
  rcases hr T hT X with ⟨v, st₀, t, T', L, h0, X', hL, e1, e2, ⟨⟨r, u, hv, hp, hb⟩, hF⟩, st⟩ | ⟨q, st₀, t, T', L, E, ce, h0, X', hL, e1, e2, ⟨u, hp, hb, hF⟩, hce, hcv, hcl, st⟩
  · cases hv
    obtain ⟨k1, k2, k3⟩ := vx_keep h0 e1 hS hA hf hL hF
    obtain ⟨t2, a1, b1⟩ := kk r u t T'.heap (locs ++ L) e1.symm (by rw [← e2]; exact X'.warmed.alike) hp hb k1 k2 k3 T' rfl X'
    exact ⟨t2, st t2 a1, b1⟩
  · obtain ⟨k1, k2, k3⟩ := vx_keep h0 e1 hS hAX hf hL hF
    obtain ⟨t2, a1, b1⟩ := kx E ce q u t T'.heap (locs ++ L) e1.symm (by rw [← e2]; exact X'.warmed.alike) hp hb k1 k2 k3 (by rw [e1]; exact hce) hcv hcl T' rfl X'
    exact ⟨t2, st.trans a1, b1⟩
theorem vx_callf {S SX : Type} {post : UInt32 → S → Prop} {px : SX → Prop} {B : S → State → Prop} {BX : String → SX → State → Prop} {AX : Nat → Prop} (hr : vx_Run p l e R s m args below meth c H locs cells slots mc ms (F0 m pc ls st0) rest (va_Qf post B A1 a) (vx_X px BX AX) free) (hS : va_S A0 H0 H locs) (hA : ∀ q, q < H.size → A1 q → A0 q) (hf : ∀ q, free q → A0 q) (hAX : ∀ q, q < H.size → AX q → A0 q)
    (kx : ∀ (E : String) (ce : Cell) (q9 : Addr) (u : SX) (t : State) (H1 : Heap) (locs1 : List Loc), t.heap = H1 → s.vm.Alike t.vm → px u → BX E u t → H.size ≤ H1.size → (∀ q : Nat, q < H.size → ¬ AX q → H1[q]? = H[q]?) → va_S A0 H0 H1 locs1 → H1[q9]? = some ce → ce.vm = .none → s.vm.findClass E = some ce.cls → vx_W p l e R s m args below meth c H1 locs1 (cells + mc) (slots + ms) Q (F0 m pc ls rest) q9)
    (kk : ∀ (r : UInt32) (u : S) (t : State) (H1 : Heap) (locs1 : List Loc), t.heap = H1 → s.vm.Alike t.vm → post r u → B u t → H.size ≤ H1.size → (∀ q : Nat, q < H.size → ¬ A1 q → H1[q]? = H[q]?) → va_S A0 H0 H1 locs1 → W p l e R s m args below meth c H1 locs1 (cells + mc) (slots + ms) Q (F0 m (pc + 3) ls (.float r :: rest))) : W p l e R s m args below meth c H locs cells slots Q (F0 m pc ls st0) := by
  intro T hT X
  rcases hr T hT X with ⟨v, st₀, t, T', L, h0, X', hL, e1, e2, ⟨⟨r, u, hv, hp, hb⟩, hF⟩, st⟩ | ⟨q, st₀, t, T', L, E, ce, h0, X', hL, e1, e2, ⟨u, hp, hb, hF⟩, hce, hcv, hcl, st⟩
  · cases hv
    obtain ⟨k1, k2, k3⟩ := vx_keep h0 e1 hS hA hf hL hF
    obtain ⟨t2, a1, b1⟩ := kk r u t T'.heap (locs ++ L) e1.symm (by rw [← e2]; exact X'.warmed.alike) hp hb k1 k2 k3 T' rfl X'
    exact ⟨t2, st t2 a1, b1⟩
  · obtain ⟨k1, k2, k3⟩ := vx_keep h0 e1 hS hAX hf hL hF
    obtain ⟨t2, a1, b1⟩ := kx E ce q u t T'.heap (locs ++ L) e1.symm (by rw [← e2]; exact X'.warmed.alike) hp hb k1 k2 k3 (by rw [e1]; exact hce) hcv hcl T' rfl X'
    exact ⟨t2, st.trans a1, b1⟩
theorem vx_calld {S SX : Type} {post : UInt64 → S → Prop} {px : SX → Prop} {B : S → State → Prop} {BX : String → SX → State → Prop} {AX : Nat → Prop} (hr : vx_Run p l e R s m args below meth c H locs cells slots mc ms (F0 m pc ls st0) rest (va_Qd post B A1 a) (vx_X px BX AX) free) (hS : va_S A0 H0 H locs) (hA : ∀ q, q < H.size → A1 q → A0 q) (hf : ∀ q, free q → A0 q) (hAX : ∀ q, q < H.size → AX q → A0 q)
    (kx : ∀ (E : String) (ce : Cell) (q9 : Addr) (u : SX) (t : State) (H1 : Heap) (locs1 : List Loc), t.heap = H1 → s.vm.Alike t.vm → px u → BX E u t → H.size ≤ H1.size → (∀ q : Nat, q < H.size → ¬ AX q → H1[q]? = H[q]?) → va_S A0 H0 H1 locs1 → H1[q9]? = some ce → ce.vm = .none → s.vm.findClass E = some ce.cls → vx_W p l e R s m args below meth c H1 locs1 (cells + mc) (slots + ms) Q (F0 m pc ls rest) q9)
    (kk : ∀ (r : UInt64) (u : S) (t : State) (H1 : Heap) (locs1 : List Loc), t.heap = H1 → s.vm.Alike t.vm → post r u → B u t → H.size ≤ H1.size → (∀ q : Nat, q < H.size → ¬ A1 q → H1[q]? = H[q]?) → va_S A0 H0 H1 locs1 → W p l e R s m args below meth c H1 locs1 (cells + mc) (slots + ms) Q (F0 m (pc + 3) ls (.double r :: rest))) : W p l e R s m args below meth c H locs cells slots Q (F0 m pc ls st0) := by
  intro T hT X
  rcases hr T hT X with ⟨v, st₀, t, T', L, h0, X', hL, e1, e2, ⟨⟨r, u, hv, hp, hb⟩, hF⟩, st⟩ | ⟨q, st₀, t, T', L, E, ce, h0, X', hL, e1, e2, ⟨u, hp, hb, hF⟩, hce, hcv, hcl, st⟩
  · cases hv
    obtain ⟨k1, k2, k3⟩ := vx_keep h0 e1 hS hA hf hL hF
    obtain ⟨t2, a1, b1⟩ := kk r u t T'.heap (locs ++ L) e1.symm (by rw [← e2]; exact X'.warmed.alike) hp hb k1 k2 k3 T' rfl X'
    exact ⟨t2, st t2 a1, b1⟩
  · obtain ⟨k1, k2, k3⟩ := vx_keep h0 e1 hS hAX hf hL hF
    obtain ⟨t2, a1, b1⟩ := kx E ce q u t T'.heap (locs ++ L) e1.symm (by rw [← e2]; exact X'.warmed.alike) hp hb k1 k2 k3 (by rw [e1]; exact hce) hcv hcl T' rfl X'
    exact ⟨t2, st.trans a1, b1⟩
theorem vx_callv {S SX : Type} {post : S → Prop} {px : SX → Prop} {B : S → State → Prop} {BX : String → SX → State → Prop} {AX : Nat → Prop} (hr : vx_Run p l e R s m args below meth c H locs cells slots mc ms (F0 m pc ls st0) rest (va_Qv post B A1 a) (vx_X px BX AX) free) (hS : va_S A0 H0 H locs) (hA : ∀ q, q < H.size → A1 q → A0 q) (hf : ∀ q, free q → A0 q) (hAX : ∀ q, q < H.size → AX q → A0 q)
    (kx : ∀ (E : String) (ce : Cell) (q9 : Addr) (u : SX) (t : State) (H1 : Heap) (locs1 : List Loc), t.heap = H1 → s.vm.Alike t.vm → px u → BX E u t → H.size ≤ H1.size → (∀ q : Nat, q < H.size → ¬ AX q → H1[q]? = H[q]?) → va_S A0 H0 H1 locs1 → H1[q9]? = some ce → ce.vm = .none → s.vm.findClass E = some ce.cls → vx_W p l e R s m args below meth c H1 locs1 (cells + mc) (slots + ms) Q (F0 m pc ls rest) q9)
    (kk : ∀ (u : S) (t : State) (H1 : Heap) (locs1 : List Loc), t.heap = H1 → s.vm.Alike t.vm → post u → B u t → H.size ≤ H1.size → (∀ q : Nat, q < H.size → ¬ A1 q → H1[q]? = H[q]?) → va_S A0 H0 H1 locs1 → W p l e R s m args below meth c H1 locs1 (cells + mc) (slots + ms) Q (F0 m (pc + 3) ls (rest))) : W p l e R s m args below meth c H locs cells slots Q (F0 m pc ls st0) := by
  intro T hT X
  rcases hr T hT X with ⟨v, st₀, t, T', L, h0, X', hL, e1, e2, ⟨⟨u, hv, hp, hb⟩, hF⟩, st⟩ | ⟨q, st₀, t, T', L, E, ce, h0, X', hL, e1, e2, ⟨u, hp, hb, hF⟩, hce, hcv, hcl, st⟩
  · cases hv
    obtain ⟨k1, k2, k3⟩ := vx_keep h0 e1 hS hA hf hL hF
    obtain ⟨t2, a1, b1⟩ := kk u t T'.heap (locs ++ L) e1.symm (by rw [← e2]; exact X'.warmed.alike) hp hb k1 k2 k3 T' rfl X'
    exact ⟨t2, st t2 a1, b1⟩
  · obtain ⟨k1, k2, k3⟩ := vx_keep h0 e1 hS hAX hf hL hF
    obtain ⟨t2, a1, b1⟩ := kx E ce q u t T'.heap (locs ++ L) e1.symm (by rw [← e2]; exact X'.warmed.alike) hp hb k1 k2 k3 (by rw [e1]; exact hce) hcv hcl T' rfl X'
    exact ⟨t2, st.trans a1, b1⟩
/-- caught by the row x of this method's table; the rows ahead don't take it -/
theorem vx_catch {own name : String} {E : String} {ce : Cell} {q : Addr} (hown : s.vm.findClass own = some m.cls) (pre : List ExceptionTableEntry) (x : ExceptionTableEntry) (suf : List ExceptionTableEntry) (hsplit : c.exceptionTable.toList = pre ++ x :: suf)
    (hpass : ∀ z ∈ pre, covers z pc = false ∨ (z.catchType ≠ 0 ∧ ∃ nm : String, (Cond.classLink own z.catchType nm).before args s = true ∧ va_Nc E nm s)) (hx : covers x pc = true) (h0 : x.catchType ≠ 0)
    (hlink : (Cond.classLink own x.catchType name).before args s = true) (hcast : (Cond.castable E name).before args s = true) (hcell : H[q]? = some ce) (hv : ce.vm = .none) (hcl : s.vm.findClass E = some ce.cls)
    (kk : W p l e R s m args below meth c H locs cells slots Q (F0 m x.handlerPc ls [.ref q])) : vx_W p l e R s m args below meth c H locs cells slots Q (F0 m pc ls rest) q := by
  intro T hT X
  have hpl : e.platform.magicAccessors = ({} : Platform).magicAccessors := by rw [X.admits.platform]
  obtain ⟨c3, c4, hc3, hc4, hasg⟩ := Cond.castable_spec hcast
  cases Option.some.inj (hc3.symm.trans hcl)
  obtain ⟨c5, hc5, hcl5⟩ := Cond.classLink_spec hown hlink e.platform hpl
  cases Option.some.inj (hc4.symm.trans hc5)
  obtain ⟨vm', X', st⟩ := X.thenCaughtThrough q (g := F0 m pc ls rest) rfl (Steps.refl _) (by rw [hT]; exact hcell) (by rw [hv]; rfl) (by obtain ⟨k9, h9, -⟩ := Vm.findClass_spec hcl; exact ⟨k9, h9⟩) pre x suf hsplit
    (fun z hz => by
      rcases hpass z hz with h | ⟨hz0, nm, hl1, hn1⟩
      · exact Or.inl h
      · obtain ⟨c6, hc6, hcl6⟩ := Cond.classLink_spec hown hl1 e.platform hpl
        obtain ⟨a8, b8, h1, h2, h3⟩ := hn1
        cases Option.some.inj (h1.symm.trans hcl)
        cases Option.some.inj (h2.symm.trans hc6)
        exact Or.inr ⟨hz0, _, hcl6, h3⟩) hx (Or.inr ⟨h0, c4, hcl5, hasg⟩)
  obtain ⟨t, a1, b1⟩ := kk (T.setVm vm') hT X'
  exact ⟨t, st.trans a1, b1⟩
end Rows
section Ends
variable {p : Program} {l : Launch} {e : Env} {R : Room} {s : State} {m : MethodId} {args : Array Value} {below : List Frame} {meth : Method} {c : Code} {H : Heap} {locs : List Loc} {cells slots : Nat} {Q : State → Prop}
variable {mc ms : Nat} {free : Addr → Prop} {A0 A1 : Nat → Prop} {H0 : Heap} {a : Array Value} {ls : Array Slot} {st0 rest : List Value}
variable {Qc : Array Value → State → Outcome → State → Prop} {XC : String → State → State → Prop}
/-- what a body that may throw owes at its end -/
def vx_MQ (below : List Frame) (Qc : Array Value → State → Outcome → State → Prop) (XC : String → State → State → Prop) (a : Array Value) (s : State) (mc ms : Nat) (free : Addr → Prop) : State → Prop := fun t =>
  ∃ o, t.status = .running ∧ Ended t below o ∧ vx_Q Qc XC mc ms free a s o t
theorem vx_ret {g : JFrame} {mc ms : Nat} (k : W p l e R s m args below meth c H locs cells slots (MQ below Qc args s mc ms free) g) : W p l e R s m args below meth c H locs cells slots (vx_MQ below Qc XC args s mc ms free) g := by
  intro T hT X
  obtain ⟨t, a1, o, b1, b2, b3, b4⟩ := k T hT X
  exact ⟨t, a1, o, b1, b2, Or.inl ⟨b3, b4⟩⟩
/-- not caught here: it goes on to the caller -/
theorem vx_widen {g : JFrame} {q : Addr} {k n : Nat} (h1 : cells ≤ k) (h2 : slots ≤ n) (kk : vx_W p l e R s m args below meth c H locs k n Q g q) : vx_W p l e R s m args below meth c H locs cells slots Q g q := fun T hT X => kk T hT (stand_widen X h1 h2)
theorem vx_out {pc : Nat} {E : String} {ce : Cell} {q : Addr} {mc ms : Nat} (hout : ∀ x ∈ c.exceptionTable.toList, covers x pc = false) (hlocks : meth.locks = false) (hcell : H[q]? = some ce) (hv : ce.vm = .none) (hcl : s.vm.findClass E = some ce.cls)
    (hx : ∀ t : State, t.heap = H → s.vm.Alike t.vm → XC E s t) (hf : ∀ z ∈ locs, free z.base) (hc : cells ≤ mc) (hs : slots ≤ ms) :
    vx_W p l e R s m args below meth c H locs cells slots (vx_MQ below Qc XC args s mc ms free) (F0 m pc ls rest) q := by
  intro T hT X
  obtain ⟨st1, hrun, hend, hW, hsm⟩ := X.leaveThrown q (g := F0 m pc ls rest) rfl rfl rfl hout hlocks
  have hcell9 : (T.setFrames (.throwing q :: below)).heap[q]? = some ce := by
    show T.heap[q]? = some ce
    rw [hT]; exact hcell
  exact ⟨_, st1, .threw q, hrun, hend, Or.inr ⟨q, rfl, E, ce, locs, hx _ hT hW.alike, hcell9, hv, hcl, hW, hsm.mono hc hs, hf⟩⟩
theorem vx_frame {U : State} {k n : Nat} (h : s.sameButNew ({ U with vm := s.vm } : State) locs k n) : s.heap.size ≤ U.heap.size ∧ ∀ q : Nat, q < s.heap.size → (∀ z ∈ locs, z.base ≠ q) → U.heap[q]? = s.heap[q]? := by
  obtain ⟨-, h2, -, -, -, h6⟩ := h
  refine ⟨h2, fun q hq hz => ?_⟩
  obtain ⟨c9, e1, e2, e3, e4⟩ := h6 q _ (Array.getElem?_eq_getElem hq)
  have hs : c9.slots = (s.heap[q]).slots := Array.ext_getElem? fun i => e4 i fun hm => hz _ hm rfl
  have h9 : c9 = s.heap[q] := by
    rw [hs] at e2
    exact e2
  have e5 : U.heap[q]? = some c9 := e1
  rw [e5, h9, Array.getElem?_eq_getElem hq]
/-- the words of a throw but the four that speak of the heap -/
def vx_no (w : Cond) : Bool := decide (w ≠ .isRef (.static Bundle.tN "UNASSIGNED_STACK" Bundle.steD)) && decide (w ≠ .isRef (.static Bundle.tN "SUPPRESSED_SENTINEL" Bundle.listD)) && decide (w ≠ .laysStatic Bundle.tN "UNASSIGNED_STACK" Bundle.steD) && decide (w ≠ .laysStatic Bundle.tN "SUPPRESSED_SENTINEL" Bundle.listD)
def vx_at0 (own : String) (ic : Nat) (X : String) (names : List String) : List Cond := (Bundle.ownAtoms0 own ic X names).filter vx_no
def vx_atS (own : String) (ic : Nat) (X : String) (names : List String) : List Cond := (Bundle.ownAtoms own ic X names).filter vx_no
/-- a word that the tables alone decide, or a good one -/
def vx_ot (w : Cond) : Bool := w.onTables || goodWord w
theorem vx_ot_at {args a' : Array Value} {s U : State} {w : Cond} (hW : s.WarmedH U.vm) (hvm : s.vm = U.vm) (hg : vx_ot w = true) (h : w.before args s = true) : w.before a' U = true := by
  simp only [vx_ot, Bool.or_eq_true] at hg
  rcases hg with hg | hg
  · exact va_tabs hg hvm h
  · exact word_at hW (good_of_word hg) h
/-- a list's words: the good ones out of the method's own list, the others by premises of their own -/
theorem vx_hat {args : Array Value} {s : State} {L B : List Cond} (h1 : ∀ w ∈ L.filter goodWord, w.before args s = true) (h2 : ∀ w ∈ L.filter (fun w => !goodWord w), w ∈ B) (h3 : ∀ w ∈ B, w.before args s = true) : ∀ w ∈ L, w.before args s = true := by
  intro w hw
  by_cases g : goodWord w = true
  · exact h1 w (List.mem_filter.mpr ⟨hw, g⟩)
  · refine h3 w (h2 w (List.mem_filter.mpr ⟨hw, ?_⟩))
    show (!goodWord w) = true
    cases hgw : goodWord w
    · rfl
    · exact absurd hgw g
theorem vx_c {args : Array Value} {s : State} {w : Cond} {B : List Cond} (h : w.before args s = true) (t : ∀ w ∈ B, w.before args s = true) : ∀ w' ∈ w :: B, w'.before args s = true := fun w' h' => (List.mem_cons.mp h').elim (fun e => by rw [e]; exact h) (t w')
theorem vx_n {args : Array Value} {s : State} : ∀ w ∈ ([] : List Cond), w.before args s = true := fun _ h => nomatch h
theorem vx_own {args : Array Value} {s : State} {L : List Cond} (h1 : ∀ w ∈ L.filter vx_no, w.before args s = true)
    (hU : (Cond.isRef (.static Bundle.tN "UNASSIGNED_STACK" Bundle.steD)).before args s = true) (hN : (Cond.isRef (.static Bundle.tN "SUPPRESSED_SENTINEL" Bundle.listD)).before args s = true)
    (lU : (Cond.laysStatic Bundle.tN "UNASSIGNED_STACK" Bundle.steD).before args s = true) (lN : (Cond.laysStatic Bundle.tN "SUPPRESSED_SENTINEL" Bundle.listD).before args s = true) : ∀ w ∈ L, w.before args s = true := by
  intro w hw
  by_cases e1 : w = .isRef (.static Bundle.tN "UNASSIGNED_STACK" Bundle.steD)
  · rw [e1]; exact hU
  · by_cases e2 : w = .isRef (.static Bundle.tN "SUPPRESSED_SENTINEL" Bundle.listD)
    · rw [e2]; exact hN
    · by_cases e3 : w = .laysStatic Bundle.tN "UNASSIGNED_STACK" Bundle.steD
      · rw [e3]; exact lU
      · by_cases e4 : w = .laysStatic Bundle.tN "SUPPRESSED_SENTINEL" Bundle.listD
        · rw [e4]; exact lN
        · exact h1 w (List.mem_filter.mpr ⟨hw, by unfold vx_no; rw [decide_eq_true e1, decide_eq_true e2, decide_eq_true e3, decide_eq_true e4]; rfl⟩)
/-- where a static field lies, its class's statics cell in H -/
def vx_L (C n d : String) (A : Nat → Prop) (U : State) (H : Heap) : Prop := ∃ (c : ClassId) (k : Class) (i : Nat) (f : Field) (a : Nat) (cell : Cell), U.vm.findClass C = some c ∧ U.fieldFound? C n d = some (c, k, i, f) ∧ f.isStatic = true ∧ k.statics = some a ∧ H[a]? = some cell ∧ cell.vm.isStatics = true ∧ cell.cls = c ∧ f.slot < cell.slots.size ∧ k.staticTypes[f.slot]? = some f.type ∧ ¬ A a
theorem vx_L.moved {C n d : String} {A : Nat → Prop} {u U : State} {H : Heap} (hvm : u.vm.Alike U.vm) (h : vx_L C n d A u H) : vx_L C n d A U H := by
  obtain ⟨c, k, i, f, a, cell, h1, h2, h3, h4, h5, h6, h7, h8, h9, h10⟩ := h
  obtain ⟨k', hi', he⟩ := State.fieldFound?_setVm hvm h2
  exact ⟨c, k', i, f, a, cell, by rw [hvm.findClass]; exact h1, hi', h3, by rw [he]; exact h4, h5, h6, h7, h8, by rw [he]; exact h9, h10⟩
theorem vx_L.kept {C n d : String} {A : Nat → Prop} {U : State} {H H1 : Heap} (h : vx_L C n d A U H) (hq : ∀ a : Nat, a < H.size → ¬ A a → H1[a]? = H[a]?) : vx_L C n d A U H1 := by
  obtain ⟨c, k, i, f, a, cell, h1, h2, h3, h4, h5, h6, h7, h8, h9, h10⟩ := h
  exact ⟨c, k, i, f, a, cell, h1, h2, h3, h4, by rw [hq a (Array.getElem?_eq_some_iff.mp h5).1 h10]; exact h5, h6, h7, h8, h9, h10⟩
theorem vx_L.narrow {C n d : String} {A B : Nat → Prop} {U : State} {H : Heap} (h : vx_L C n d A U H) (hAB : ∀ q, B q → A q) : vx_L C n d B U H := by
  obtain ⟨c, k, i, f, a, cell, h1, h2, h3, h4, h5, h6, h7, h8, h9, h10⟩ := h
  exact ⟨c, k, i, f, a, cell, h1, h2, h3, h4, h5, h6, h7, h8, h9, fun z => h10 (hAB _ z)⟩
theorem vx_L.word {C n d : String} {A : Nat → Prop} {s : State} {args : Array Value} (h : vx_L C n d A s s.heap) : (Cond.laysStatic C n d).before args s = true := by
  obtain ⟨c, k, i, f, a, cell, h1, h2, h3, h4, h5, h6, h7, h8, h9, -⟩ := h
  show (Cond.laysStatic C n d).holds args s none s [] = true
  exact Cond.laysStatic_of h1 h2 h3 h4 h5 h6 h7 h8 h9
/-- .. and what it holds: null or some reference -/
def vx_Zq (C n d : String) (A : Nat → Prop) (U : State) (H : Heap) : Prop := va_Zq C n d A U H ∧ vx_L C n d A U H
theorem vx_Zq.moved {C n d : String} {A : Nat → Prop} {u U : State} {H : Heap} (hvm : u.vm.Alike U.vm) (h : vx_Zq C n d A u H) : vx_Zq C n d A U H := ⟨va_Zq.moved hvm h.1, vx_L.moved hvm h.2⟩
theorem vx_Zq.kept {C n d : String} {A : Nat → Prop} {U : State} {H H1 : Heap} (h : vx_Zq C n d A U H) (hq : ∀ a : Nat, a < H.size → ¬ A a → H1[a]? = H[a]?) : vx_Zq C n d A U H1 := ⟨va_Zq.kept h.1 hq, vx_L.kept h.2 hq⟩
theorem vx_Zq.narrow {C n d : String} {A B : Nat → Prop} {U : State} {H : Heap} (h : vx_Zq C n d A U H) (hAB : ∀ q, B q → A q) : vx_Zq C n d B U H := ⟨va_Zq.narrow h.1 hAB, vx_L.narrow h.2 hAB⟩
theorem vx_Zqof {args : Array Value} {s : State} {C n d : String} {A : Nat → Prop} (hl : (Cond.laysStatic C n d).before args s = true) (hini : (Cond.initialized C).before args s = true) (h : (Cond.isRef (.static C n d)).before args s = true) (hA : ∀ a : Nat, a < s.heap.size → ¬ A a) : vx_Zq C n d A s s.heap := by
  refine ⟨va_Zqof hl hini h hA, ?_⟩
  obtain ⟨c, k, i, f, a, cell, h1, h2, h3, h4, h5, h6, h7, h8, h9⟩ := Cond.laysStatic_spec hl
  exact ⟨c, k, i, f, a, cell, h1, h2, h3, h4, h5, h6, h7, h8, h9, hA a (Array.getElem?_eq_some_iff.mp h5).1⟩
theorem vx_isRef {C n d : String} {v : Value} {A : Nat → Prop} {s : State} {args : Array Value} (h : va_Z C n d v A s s.heap) (hv : v.isRef = true) : (Cond.isRef (.static C n d)).before args s = true := by
  obtain ⟨cf, kf, fi, f, a, cell, h1, h2, h3, h4, h5, h6, h7, -⟩ := h
  have he : (Term.static C n d).eval args s none [] s = some v := by
    simp [Term.eval, State.fieldNamed?, h1, h2, h4, h5, h6, h7]
  simp only [Cond.before, Cond.holds, Cond.value, he]
  cases v <;> simp_all [Value.isRef]
theorem vx_isRefq {C n d : String} {A : Nat → Prop} {s : State} {args : Array Value} (h : va_Zq C n d A s s.heap) : (Cond.isRef (.static C n d)).before args s = true := by
  rcases h with h | ⟨t, h⟩
  · exact vx_isRef h rfl
  · exact vx_isRef h rfl
/-- the same frame, seen from here: as if the method were called anew in this heap -/
theorem vx_rebase {T : State} (X : Stand p l e R s m args below meth c T locs cells slots) {R' : Room} (hf : R'.frames ≤ R.frames) (hl : R'.locals ≤ R.locals) (hc : cells + R'.cells ≤ R.cells) (hs : slots + R'.slots ≤ R.slots) :
    Stand p l e R' ((T.setVm s.vm).setFrames (.invoking m args :: below)) m args below meth c T [] 0 0 := by
  have htop : (T.setVm s.vm).topJava?.isSome := X.here.top
  have hF : ((T.setVm s.vm).setFrames (.invoking m args :: below)).frames = .invoking m args :: below := State.frames_setFrames _ (State.cur_lt_of_top htop)
  obtain ⟨g₀, hg0⟩ := Option.isSome_iff_exists.mp htop
  obtain ⟨r, hr⟩ := State.topJava?_eq_some.mp hg0
  have hl9 : e.platform.stackLimits (T.setVm s.vm).me = e.platform.stackLimits s.me := X.limits
  have hb9 : (T.setVm s.vm).me.stackBytes = s.me.stackBytes := X.bytes
  refine ⟨X.admits, X.cas, X.clock, hF, ?_, X.hears, X.method, X.code, X.here, X.tail, X.warmed, ?_, ?_, ?_⟩
  · have h := X.room
    have hU : ((T.setVm s.vm).setFrames (.invoking m args :: below)).localsInUse = s.localsInUse := by
      rw [State.localsInUse_invoking hF (meth := meth) (c := c) X.method X.code, State.localsInUse_invoking X.frames X.method X.code]
    simp only [State.hasRoom, Bool.and_eq_true, decide_eq_true_eq] at h ⊢
    obtain ⟨⟨⟨⟨h1, h2, h3, h4, h5, h6⟩, h7⟩, h8⟩, h9⟩ := h
    rw [X.frames, List.length_cons] at h2 h3
    have q1 := X.heapSize
    have q2 := X.used
    simp only [hF, hU, List.length_cons, State.stackLimits_setFrames, State.stackBytes_setFrames, hl9, hb9]
    refine ⟨⟨⟨⟨by omega, by omega, by omega, by omega, by omega, h6⟩, ?_⟩, ?_⟩, X.book⟩
    · show T.heap.size + R'.cells ≤ e.platform.maxCells
      omega
    · show T.slotsUsed + R'.slots ≤ e.platform.maxSlots
      omega
  · rw [State.stackLimits_setFrames]; rfl
  · rw [State.stackBytes_setFrames]; rfl
  · refine ⟨?_, Nat.le_refl _, Nat.le_refl _, ?_, ?_, fun a c9 h9 => ⟨c9, h9, rfl, rfl, fun _ _ => rfl⟩⟩
    · obtain ⟨t, ht, -⟩ := State.frames_cons hr
      show T.setVm s.vm = { ((T.setVm s.vm).setFrames (.invoking m args :: below)).setFrames (T.setVm s.vm).frames with heap := T.heap, slotsUsed := T.slotsUsed }
      rw [State.setFrames_setFrames, State.setFrames_self ht]
      rfl
    · show T.slotsUsed = T.slotsUsed + ((T.heap.toList.drop T.heap.size).map (·.slots.size)).sum
      rw [List.drop_eq_nil_of_le (Nat.le_of_eq Array.length_toList)]
      rfl
    · show ((T.heap.toList.drop T.heap.size).map (·.slots.size)).sum ≤ 0
      rw [List.drop_eq_nil_of_le (Nat.le_of_eq Array.length_toList)]
      exact Nat.le_refl _
/-- 'throw new E()': new; dup; invokespecial; athrow -/
theorem vx_throw0 {cc : ByteArray} {pc : Nat} (hexec : p.tables.exec = Jvm.exec) (hb : c.code = cc) (hl : l.stackTraces = false) {own cls : String} {names : List String} {ik ic mc ms : Nat} {A : Nat → Prop}
    (hown : s.vm.findClass own = some m.cls) (hcls : Bundle.fit cls = true) (hnames : ∀ n ∈ names, Bundle.fit n = true)
    (hk : (Cond.classLink own ik cls).before args s = true) (hini : (Cond.initialized cls).before args s = true) (hat : ∀ w ∈ vx_at0 own ic cls names, w.before args s = true)
    (hgood : ∀ w ∈ Cond.classLink own ik cls :: Cond.initialized cls :: vx_at0 own ic cls names, vx_ot w = true)
    (hU : vx_Zq Bundle.tN "UNASSIGNED_STACK" Bundle.steD A s s.heap) (hN : vx_Zq Bundle.tN "SUPPRESSED_SENTINEL" Bundle.listD A s s.heap) (hS : va_S A s.heap H locs) (hsize : ls.size = c.maxLocals)
    (d0 : decode cc pc = .ok (.new ik, 3)) (d3 : decode cc (pc + 3) = .ok (.dup, 1)) (d4 : decode cc (pc + 4) = .ok (.invokespecial ic, 3)) (d7 : decode cc (pc + 7) = .ok (.athrow, 1))
    (hout : ∀ x ∈ c.exceptionTable.toList, covers x (pc + 7) = false)
    (hRframes : names.length + 3 < R.frames) (hRlocals : (rest.map fun v => v.category).sum + (13 * (names.length + 1) + 42) ≤ R.locals) (hRcells : cells + 1 ≤ R.cells) (hRslots : slots + 6 ≤ R.slots) (hlocks : meth.locks = false)
    (hx : ∀ t : State, s.vm.Alike t.vm → H.size ≤ t.heap.size → (∀ q : Nat, q < H.size → t.heap[q]? = H[q]?) → XC cls s t)
    (hf : ∀ z ∈ locs, free z.base) (hc : cells + 1 ≤ mc) (hs : slots + 6 ≤ ms) :
    W p l e R s m args below meth c H locs cells slots (vx_MQ below Qc XC args s mc ms free) (F0 m pc ls rest) := by
  intro T hT X
  have htr : e.platform.stackTraces = false := (show e.platform.stackTraces = l.stackTraces by rw [X.admits.platform]).trans hl
  have Y := vx_rebase X (R' := { frames := R.frames, locals := R.locals, cells := 1, slots := 6 }) (Nat.le_refl _) (Nat.le_refl _) hRcells hRslots
  obtain ⟨s', hA⟩ : ∃ z, z = (T.setVm s.vm).setFrames (.invoking m args :: below) := ⟨_, rfl⟩
  rw [← hA] at Y
  have hvm : s'.vm = s.vm := by rw [hA]; rfl
  have hhp : s'.heap = H := by rw [hA]; exact hT
  have hW0 : s.WarmedH s'.vm := by rw [hvm]; exact State.WarmedH.refl s
  have hat' : ∀ w ∈ vx_at0 own ic cls names, w.before args s' = true := fun w hw => vx_ot_at hW0 hvm.symm (hgood w (List.mem_cons_of_mem _ (List.mem_cons_of_mem _ hw))) (hat w hw)
  have hk' : (Cond.classLink own ik cls).before args s' = true := vx_ot_at hW0 hvm.symm (hgood _ List.mem_cons_self) hk
  have hini' : (Cond.initialized cls).before args s' = true := vx_ot_at hW0 hvm.symm (hgood _ (List.mem_cons_of_mem _ List.mem_cons_self)) hini
  have hU' : vx_Zq Bundle.tN "UNASSIGNED_STACK" Bundle.steD A s' s'.heap := by rw [hhp]; exact vx_Zq.moved hW0.alike (hU.kept hS.2.1)
  have hN' : vx_Zq Bundle.tN "SUPPRESSED_SENTINEL" Bundle.listD A s' s'.heap := by rw [hhp]; exact vx_Zq.moved hW0.alike (hN.kept hS.2.1)
  have h : ∀ w ∈ Bundle.ownAtoms0 own ic cls names, w.before args s' = true := vx_own hat' (vx_isRefq hU'.1) (vx_isRefq hN'.1) hU'.2.word hN'.2.word
  have hown' : s'.vm.findClass own = some m.cls := by rw [hvm]; exact hown
  have hins : (Cond.instantiable cls 6).before args s' = true := h _ (by simp [Bundle.ownAtoms0])
  obtain ⟨vm₁, cX, kX, hfX, hkX, -, -, X₁, st1⟩ := Y.newCold hexec (own := own) (C := cls) (index := ik) (n := 6) hown' hk' hins hini'
    (g := F0 m pc ls rest) rfl (by rw [hb]; exact d0) (Nat.le_refl _) (Nat.le_refl _)
  generalize hT1 : (T.setVm vm₁).pushCell { cls := cX, slots := kX.instanceTypes.map defaultValue, vm := .none } = T1 at X₁ st1
  have hcat : (Value.ref T.heap.size).category = 1 := rfl
  have hcellA : T1.heap[T.heap.size]? = some (freshCell cX kX) := by rw [← hT1]; exact State.heap_pushCell_size _ _
  have d3' : decode c.code (pc + 3) = .ok (.dup, 1) := by rw [hb]; exact d3
  obtain ⟨U, hsteps, hrun, hend, hW, hsame, ce, hce, hO⟩ := X₁.ctorThrow0 hexec htr (own := own) (cls := cls) (names := names) (ic := ic) hown' hcls hnames h (fun x hx => nomatch hx) hfX hkX hcellA (by rw [hhp, hT]; exact Nat.le_refl _)
    (g := { method := m, pc := pc + 4, locals := ls, stack := .ref T.heap.size :: .ref T.heap.size :: rest, locked := none }) rfl hsize rfl rfl (rest := rest) rfl
    (by rw [hb]; exact d4) (by rw [hb]; exact d7) hout hRframes (by simp only [List.map_cons, List.sum_cons, hcat]; omega) hlocks
  obtain ⟨f1, f2⟩ := vx_frame hsame
  rw [hhp] at f1 f2
  have hWs : s.WarmedH U.vm := State.WarmedH.trans hW0 hW
  have hcl : s.vm.findClass cls = some ce.cls := by
    have h9 := hO.cls
    rw [hvm] at h9
    exact h9
  have hall : s.sameButNew ({ U with vm := s.vm } : State) locs mc ms := by
    subst hA
    obtain ⟨e1, e2⟩ := hsame
    rw [State.setFrames_setFrames] at e1
    have h2 : (T.setVm s.vm).sameButNew ({ U with vm := s.vm } : State) [] (0 + 1) (0 + 6) := ⟨e1, e2⟩
    have h3 := X.same.trans h2
    rw [List.append_nil] at h3
    exact h3.mono hc hs
  refine ⟨U, ?_, .threw T.heap.size, hrun, hend, Or.inr ⟨T.heap.size, rfl, cls, ce, locs, hx U hWs.alike f1 (fun q hq => f2 q hq (fun z hz => nomatch hz)), hce, hO.vm, hcl, hWs, hall, hf⟩⟩
  refine st1 _ ?_
  show Steps p.tables e below (T1.setTop { method := m, pc := pc + 3, locals := ls, stack := .ref T.heap.size :: rest, locked := none }) _
  jvm_step X₁.here [X₁.here.top, hexec, d3', Value.category]
  exact hsteps
/-- 'throw new E("text")': new; dup; ldc; invokespecial; athrow -/
theorem vx_throwS {cc : ByteArray} {pc : Nat} (hexec : p.tables.exec = Jvm.exec) (hb : c.code = cc) (hl : l.stackTraces = false) {own cls text : String} {names : List String} {ik is ic mc ms sa : Nat} {A : Nat → Prop}
    (hown : s.vm.findClass own = some m.cls) (hcls : Bundle.fit cls = true) (hnames : ∀ n ∈ names, Bundle.fit n = true)
    (hk : (Cond.classLink own ik cls).before args s = true) (hini : (Cond.initialized cls).before args s = true) (hstr : vk_R own is text sa s) (hat : ∀ w ∈ vx_atS own ic cls names, w.before args s = true)
    (hgood : ∀ w ∈ Cond.classLink own ik cls :: Cond.initialized cls :: vx_atS own ic cls names, vx_ot w = true)
    (hU : vx_Zq Bundle.tN "UNASSIGNED_STACK" Bundle.steD A s s.heap) (hN : vx_Zq Bundle.tN "SUPPRESSED_SENTINEL" Bundle.listD A s s.heap) (hS : va_S A s.heap H locs) (hsize : ls.size = c.maxLocals)
    (d0 : decode cc pc = .ok (.new ik, 3)) (d3 : decode cc (pc + 3) = .ok (.dup, 1)) (d4 : decode cc (pc + 4) = .ok (.ldc is, 2)) (d6 : decode cc (pc + 6) = .ok (.invokespecial ic, 3)) (d9 : decode cc (pc + 9) = .ok (.athrow, 1))
    (hout : ∀ x ∈ c.exceptionTable.toList, covers x (pc + 9) = false)
    (hRframes : names.length + 3 < R.frames) (hRlocals : (rest.map fun v => v.category).sum + (13 * (names.length + 1) + 43) ≤ R.locals) (hRcells : cells + 1 ≤ R.cells) (hRslots : slots + 6 ≤ R.slots) (hlocks : meth.locks = false)
    (hx : ∀ t : State, s.vm.Alike t.vm → H.size ≤ t.heap.size → (∀ q : Nat, q < H.size → t.heap[q]? = H[q]?) → XC cls s t)
    (hf : ∀ z ∈ locs, free z.base) (hc : cells + 1 ≤ mc) (hs : slots + 6 ≤ ms) :
    W p l e R s m args below meth c H locs cells slots (vx_MQ below Qc XC args s mc ms free) (F0 m pc ls rest) := by
  intro T hT X
  have htr : e.platform.stackTraces = false := (show e.platform.stackTraces = l.stackTraces by rw [X.admits.platform]).trans hl
  have Y := vx_rebase X (R' := { frames := R.frames, locals := R.locals, cells := 1, slots := 6 }) (Nat.le_refl _) (Nat.le_refl _) hRcells hRslots
  obtain ⟨s', hA⟩ : ∃ z, z = (T.setVm s.vm).setFrames (.invoking m args :: below) := ⟨_, rfl⟩
  rw [← hA] at Y
  have hvm : s'.vm = s.vm := by rw [hA]; rfl
  have hhp : s'.heap = H := by rw [hA]; exact hT
  have hW0 : s.WarmedH s'.vm := by rw [hvm]; exact State.WarmedH.refl s
  have hat' : ∀ w ∈ vx_atS own ic cls names, w.before args s' = true := fun w hw => vx_ot_at hW0 hvm.symm (hgood w (List.mem_cons_of_mem _ (List.mem_cons_of_mem _ hw))) (hat w hw)
  have hk' : (Cond.classLink own ik cls).before args s' = true := vx_ot_at hW0 hvm.symm (hgood _ List.mem_cons_self) hk
  have hini' : (Cond.initialized cls).before args s' = true := vx_ot_at hW0 hvm.symm (hgood _ (List.mem_cons_of_mem _ List.mem_cons_self)) hini
  have hU' : vx_Zq Bundle.tN "UNASSIGNED_STACK" Bundle.steD A s' s'.heap := by rw [hhp]; exact vx_Zq.moved hW0.alike (hU.kept hS.2.1)
  have hN' : vx_Zq Bundle.tN "SUPPRESSED_SENTINEL" Bundle.listD A s' s'.heap := by rw [hhp]; exact vx_Zq.moved hW0.alike (hN.kept hS.2.1)
  have h : ∀ w ∈ Bundle.ownAtoms own ic cls names, w.before args s' = true := vx_own hat' (vx_isRefq hU'.1) (vx_isRefq hN'.1) hU'.2.word hN'.2.word
  have hown' : s'.vm.findClass own = some m.cls := by rw [hvm]; exact hown
  have hins : (Cond.instantiable cls 6).before args s' = true := h _ (by simp [Bundle.ownAtoms])
  obtain ⟨vm₁, cX, kX, hfX, hkX, -, -, X₁, st1⟩ := Y.newCold hexec (own := own) (C := cls) (index := ik) (n := 6) hown' hk' hins hini'
    (g := F0 m pc ls rest) rfl (by rw [hb]; exact d0) (Nat.le_refl _) (Nat.le_refl _)
  generalize hT1 : (T.setVm vm₁).pushCell { cls := cX, slots := kX.instanceTypes.map defaultValue, vm := .none } = T1 at X₁ st1
  have hcat : (Value.ref T.heap.size).category = 1 := rfl
  have hcellA : T1.heap[T.heap.size]? = some (freshCell cX kX) := by rw [← hT1]; exact State.heap_pushCell_size _ _
  have d3' : decode c.code (pc + 3) = .ok (.dup, 1) := by rw [hb]; exact d3
  have d4' : decode c.code (pc + 4) = .ok (.ldc is, 2) := by rw [hb]; exact d4
  have hstr' : vk_R own is text sa s' := vk_R.warm hW0 hstr
  obtain ⟨U, hsteps, hrun, hend, hW, hsame, ce, hce, hO⟩ := X₁.ctorThrowS hexec htr (own := own) (cls := cls) (names := names) (ic := ic) hown' hcls hnames h (fun x hx => nomatch hx) hfX hkX hcellA (by rw [hhp, hT]; exact Nat.le_refl _) (msg := .ref sa) rfl
    (g := { method := m, pc := pc + 6, locals := ls, stack := .ref sa :: .ref T.heap.size :: .ref T.heap.size :: rest, locked := none }) rfl hsize rfl rfl (rest := rest) rfl
    (by rw [hb]; exact d6) (by rw [hb]; exact d9) hout hRframes (by simp only [List.map_cons, List.sum_cons, hcat]; omega) hlocks
  obtain ⟨f1, f2⟩ := vx_frame hsame
  rw [hhp] at f1 f2
  have hWs : s.WarmedH U.vm := State.WarmedH.trans hW0 hW
  have hcl : s.vm.findClass cls = some ce.cls := by
    have h9 := hO.cls
    rw [hvm] at h9
    exact h9
  have hall : s.sameButNew ({ U with vm := s.vm } : State) locs mc ms := by
    subst hA
    obtain ⟨e1, e2⟩ := hsame
    rw [State.setFrames_setFrames] at e1
    have h2 : (T.setVm s.vm).sameButNew ({ U with vm := s.vm } : State) [] (0 + 1) (0 + 6) := ⟨e1, e2⟩
    have h3 := X.same.trans h2
    rw [List.append_nil] at h3
    exact h3.mono hc hs
  refine ⟨U, ?_, .threw T.heap.size, hrun, hend, Or.inr ⟨T.heap.size, rfl, cls, ce, locs, hx U hWs.alike f1 (fun q hq => f2 q hq (fun z hz => nomatch hz)), hce, hO.vm, hcl, hWs, hall, hf⟩⟩
  refine st1 _ ?_
  show Steps p.tables e below (T1.setTop { method := m, pc := pc + 3, locals := ls, stack := .ref T.heap.size :: rest, locked := none }) _
  jvm_step X₁.here [X₁.here.top, hexec, d3', Value.category]
  exact X₁.ldcString hexec (own := own) (text := text) (index := is) (a := sa) hown' hstr'.1 hstr'.2
    (g := { method := m, pc := pc + 4, locals := ls, stack := .ref T.heap.size :: .ref T.heap.size :: rest, locked := none }) rfl d4' _ hsteps
/-- 'throw new E("text")', the text by a wide index -/
theorem vx_throwSW {cc : ByteArray} {pc : Nat} (hexec : p.tables.exec = Jvm.exec) (hb : c.code = cc) (hl : l.stackTraces = false) {own cls text : String} {names : List String} {ik is ic mc ms sa : Nat} {A : Nat → Prop}
    (hown : s.vm.findClass own = some m.cls) (hcls : Bundle.fit cls = true) (hnames : ∀ n ∈ names, Bundle.fit n = true)
    (hk : (Cond.classLink own ik cls).before args s = true) (hini : (Cond.initialized cls).before args s = true) (hstr : vk_R own is text sa s) (hat : ∀ w ∈ vx_atS own ic cls names, w.before args s = true)
    (hgood : ∀ w ∈ Cond.classLink own ik cls :: Cond.initialized cls :: vx_atS own ic cls names, vx_ot w = true)
    (hU : vx_Zq Bundle.tN "UNASSIGNED_STACK" Bundle.steD A s s.heap) (hN : vx_Zq Bundle.tN "SUPPRESSED_SENTINEL" Bundle.listD A s s.heap) (hS : va_S A s.heap H locs) (hsize : ls.size = c.maxLocals)
    (d0 : decode cc pc = .ok (.new ik, 3)) (d3 : decode cc (pc + 3) = .ok (.dup, 1)) (d4 : decode cc (pc + 4) = .ok (.ldc_w is, 3)) (d7 : decode cc (pc + 7) = .ok (.invokespecial ic, 3)) (d10 : decode cc (pc + 10) = .ok (.athrow, 1))
    (hout : ∀ x ∈ c.exceptionTable.toList, covers x (pc + 10) = false)
    (hRframes : names.length + 3 < R.frames) (hRlocals : (rest.map fun v => v.category).sum + (13 * (names.length + 1) + 43) ≤ R.locals) (hRcells : cells + 1 ≤ R.cells) (hRslots : slots + 6 ≤ R.slots) (hlocks : meth.locks = false)
    (hx : ∀ t : State, s.vm.Alike t.vm → H.size ≤ t.heap.size → (∀ q : Nat, q < H.size → t.heap[q]? = H[q]?) → XC cls s t)
    (hf : ∀ z ∈ locs, free z.base) (hc : cells + 1 ≤ mc) (hs : slots + 6 ≤ ms) :
    W p l e R s m args below meth c H locs cells slots (vx_MQ below Qc XC args s mc ms free) (F0 m pc ls rest) := by
  intro T hT X
  have htr : e.platform.stackTraces = false := (show e.platform.stackTraces = l.stackTraces by rw [X.admits.platform]).trans hl
  have Y := vx_rebase X (R' := { frames := R.frames, locals := R.locals, cells := 1, slots := 6 }) (Nat.le_refl _) (Nat.le_refl _) hRcells hRslots
  obtain ⟨s', hA⟩ : ∃ z, z = (T.setVm s.vm).setFrames (.invoking m args :: below) := ⟨_, rfl⟩
  rw [← hA] at Y
  have hvm : s'.vm = s.vm := by rw [hA]; rfl
  have hhp : s'.heap = H := by rw [hA]; exact hT
  have hW0 : s.WarmedH s'.vm := by rw [hvm]; exact State.WarmedH.refl s
  have hat' : ∀ w ∈ vx_atS own ic cls names, w.before args s' = true := fun w hw => vx_ot_at hW0 hvm.symm (hgood w (List.mem_cons_of_mem _ (List.mem_cons_of_mem _ hw))) (hat w hw)
  have hk' : (Cond.classLink own ik cls).before args s' = true := vx_ot_at hW0 hvm.symm (hgood _ List.mem_cons_self) hk
  have hini' : (Cond.initialized cls).before args s' = true := vx_ot_at hW0 hvm.symm (hgood _ (List.mem_cons_of_mem _ List.mem_cons_self)) hini
  have hU' : vx_Zq Bundle.tN "UNASSIGNED_STACK" Bundle.steD A s' s'.heap := by rw [hhp]; exact vx_Zq.moved hW0.alike (hU.kept hS.2.1)
  have hN' : vx_Zq Bundle.tN "SUPPRESSED_SENTINEL" Bundle.listD A s' s'.heap := by rw [hhp]; exact vx_Zq.moved hW0.alike (hN.kept hS.2.1)
  have h : ∀ w ∈ Bundle.ownAtoms own ic cls names, w.before args s' = true := vx_own hat' (vx_isRefq hU'.1) (vx_isRefq hN'.1) hU'.2.word hN'.2.word
  have hown' : s'.vm.findClass own = some m.cls := by rw [hvm]; exact hown
  have hins : (Cond.instantiable cls 6).before args s' = true := h _ (by simp [Bundle.ownAtoms])
  obtain ⟨vm₁, cX, kX, hfX, hkX, -, -, X₁, st1⟩ := Y.newCold hexec (own := own) (C := cls) (index := ik) (n := 6) hown' hk' hins hini'
    (g := F0 m pc ls rest) rfl (by rw [hb]; exact d0) (Nat.le_refl _) (Nat.le_refl _)
  generalize hT1 : (T.setVm vm₁).pushCell { cls := cX, slots := kX.instanceTypes.map defaultValue, vm := .none } = T1 at X₁ st1
  have hcat : (Value.ref T.heap.size).category = 1 := rfl
  have hcellA : T1.heap[T.heap.size]? = some (freshCell cX kX) := by rw [← hT1]; exact State.heap_pushCell_size _ _
  have d3' : decode c.code (pc + 3) = .ok (.dup, 1) := by rw [hb]; exact d3
  have d4' : decode c.code (pc + 4) = .ok (.ldc_w is, 3) := by rw [hb]; exact d4
  have hstr' : vk_R own is text sa s' := vk_R.warm hW0 hstr
  obtain ⟨U, hsteps, hrun, hend, hW, hsame, ce, hce, hO⟩ := X₁.ctorThrowS hexec htr (own := own) (cls := cls) (names := names) (ic := ic) hown' hcls hnames h (fun x hx => nomatch hx) hfX hkX hcellA (by rw [hhp, hT]; exact Nat.le_refl _) (msg := .ref sa) rfl
    (g := { method := m, pc := pc + 7, locals := ls, stack := .ref sa :: .ref T.heap.size :: .ref T.heap.size :: rest, locked := none }) rfl hsize rfl rfl (rest := rest) rfl
    (by rw [hb]; exact d7) (by rw [hb]; exact d10) hout hRframes (by simp only [List.map_cons, List.sum_cons, hcat]; omega) hlocks
  obtain ⟨f1, f2⟩ := vx_frame hsame
  rw [hhp] at f1 f2
  have hWs : s.WarmedH U.vm := State.WarmedH.trans hW0 hW
  have hcl : s.vm.findClass cls = some ce.cls := by
    have h9 := hO.cls
    rw [hvm] at h9
    exact h9
  have hall : s.sameButNew ({ U with vm := s.vm } : State) locs mc ms := by
    subst hA
    obtain ⟨e1, e2⟩ := hsame
    rw [State.setFrames_setFrames] at e1
    have h2 : (T.setVm s.vm).sameButNew ({ U with vm := s.vm } : State) [] (0 + 1) (0 + 6) := ⟨e1, e2⟩
    have h3 := X.same.trans h2
    rw [List.append_nil] at h3
    exact h3.mono hc hs
  refine ⟨U, ?_, .threw T.heap.size, hrun, hend, Or.inr ⟨T.heap.size, rfl, cls, ce, locs, hx U hWs.alike f1 (fun q hq => f2 q hq (fun z hz => nomatch hz)), hce, hO.vm, hcl, hWs, hall, hf⟩⟩
  refine st1 _ ?_
  show Steps p.tables e below (T1.setTop { method := m, pc := pc + 3, locals := ls, stack := .ref T.heap.size :: rest, locked := none }) _
  jvm_step X₁.here [X₁.here.top, hexec, d3', Value.category]
  exact X₁.ldcStringW hexec (own := own) (text := text) (index := is) (a := sa) hown' hstr'.1 hstr'.2
    (g := { method := m, pc := pc + 4, locals := ls, stack := .ref T.heap.size :: .ref T.heap.size :: rest, locked := none }) rfl d4' _ hsteps
end Ends
section Bodies
variable {l : Launch}
theorem vx_ofW {y : MethodName} {ws ws' : List Cond} {rm : Room} {Pc : Array Value → State → Prop} {Qc : Array Value → State → Outcome → State → Prop} {XC : String → State → State → Prop} {mc ms : Nat} {free : Addr → Prop} {cc : ByteArray} {maxL : Nat} {ret : Option FieldType}
    (hy : plainName y.cls = true) (hw : ws = Cond.code y cc maxL ret :: ws')
    (body : ∀ p e s m args below meth c s₁, BodyLoose p l y (headSpec ws rm) cc maxL ret e s m args below meth c s₁ → c.maxLocals = maxL → (∀ x ∈ c.exceptionTable.toList, False) → Pc args s →
      W p l e (headSpec ws rm).room s m args below meth c s.heap [] 0 0 (vx_MQ below Qc XC args s mc ms free) (entryFrame m args maxL)) : vx_Met l y ws rm Pc Qc XC mc ms free := by
  refine MetFree.of_bodyS (code := cc) (maxLocals := maxL) (ret := ret) hy ?_ ?_
  · intro args s m h hn
    obtain ⟨meth, c, h1, h2, h3, h4, h5, h6, -, -⟩ := Cond.code_spec hn (atoms_spec (ws := ws) h _ (by rw [hw]; exact List.mem_cons_self))
    exact ⟨meth, c, h1, h2, h3, h4, h5, h6⟩
  · intro p e s m args below meth c s₁ B hml hP _
    have hh0 : s₁.heap = s.heap := by rw [B.state]; rfl
    have ht : ∀ x ∈ c.exceptionTable.toList, False := by
      obtain ⟨meth9, c9, h1, h2, -, -, -, -, h7, -⟩ := Cond.code_spec B.named (atoms_spec (ws := ws) B.pre _ (by rw [hw]; exact List.mem_cons_self))
      cases Option.some.inj (h1.symm.trans B.method)
      cases Option.some.inj (h2.symm.trans (Stand.of_body B).code)
      intro x hx
      rw [Array.isEmpty_iff.mp h7] at hx
      cases hx
    obtain ⟨t, a1, o, b1, b2, b3⟩ := body p e s m args below meth c s₁ B hml ht hP s₁ hh0 (Stand.of_body B)
    exact ⟨t, o, a1, b1, b2, b3⟩
/-- the table of a body with handlers -/
theorem vx_table {p : Program} {x y : MethodName} {S : Spec} {cc bytes : ByteArray} {maxL maxL' : Nat} {ret ret' : Option FieldType} {e : Env} {s s₁ : State} {m : MethodId} {args : Array Value} {below : List Frame} {meth : Method} {c : Code} {hh : List (Nat × Nat × Nat × Nat)}
    (B : BodyLoose p l y S cc maxL ret e s m args below meth c s₁) (h : (Cond.codeWith y bytes maxL' ret' hh).before args s = true) : c.exceptionTable.toList = tableOf hh := by
  obtain ⟨m9, meth9, c9, hn9, h1, h2, -, -, h6, -⟩ := Cond.codeWith_spec h
  cases Option.some.inj (hn9.symm.trans B.named)
  cases Option.some.inj (h1.symm.trans B.method)
  cases Option.some.inj (h2.symm.trans (Stand.of_body B).code)
  rw [← h6, table_eq]
end Bodies
end VXA
/-! ===== END ===== -/
/-! ===== BEGIN a static call of a method with an exception table ===== -/
section VXS
variable {p : Program} {l : Launch} {e : Env} {R : Room} {s : State} {m : MethodId} {args : Array Value} {below : List Frame} {meth : Method} {c : Code} {T : State} {H : Heap} {locs : List Loc} {cells slots : Nat}
abbrev vx_CSW (R : Room) (s : State) (args : Array Value) (own : String) (index : Nat) (y : MethodName) (bytes : ByteArray) (maxL : Nat) (ret : Option FieldType) (hh : List (Nat × Nat × Nat × Nat)) (ws : List Cond) (rm : Room) (mc ms n : Nat) : Prop :=
  (rm.cells = mc ∧ rm.slots = ms ∧ rm.frames + 1 ≤ R.frames ∧ 8 + (maxL + 11) + rm.locals ≤ R.locals ∧ (∀ w ∈ ws, ∀ (a' : Array Value) (U : State), s.WarmedH U.vm → w.before a' U = true) ∧ Cond.codeWith y bytes maxL ret hh ∈ ws) ∧
  (Cond.codeWith y bytes maxL ret hh).before args s = true ∧ (Cond.initialized y.cls).before args s = true ∧ (y.cls ≠ "java/lang/invoke/MethodHandle" ∧ y.cls ≠ "java/lang/invoke/VarHandle") ∧
  (∀ sig, parseMethodDescriptor y.desc = some sig → n = sig.parameters.length) ∧ (Cond.methodLink own index y).before args s = true ∧ (Cond.static y).before args s = true
theorem vx_cwSW {own : String} {index maxL mc ms : Nat} {y : MethodName} {bytes : ByteArray} {ret : Option FieldType} {hh : List (Nat × Nat × Nat × Nat)} {Ts ws ws' : List Cond} {rm : Room} (n : Nat) (ht : ∀ w ∈ Ts, w.before args s = true) (hT : GoodIn Ts (va_wsS own index y ws)) (hw : ws = Cond.codeWith y bytes maxL ret hh :: ws') (hrc : rm.cells = mc) (hrs : rm.slots = ms)
    (hd : y.cls ≠ "java/lang/invoke/MethodHandle" ∧ y.cls ≠ "java/lang/invoke/VarHandle" ∧ (parseMethodDescriptor y.desc).map (fun d => d.parameters.length) = some n) (hR : rm.frames + 1 ≤ R.frames ∧ 8 + (maxL + 11) + rm.locals ≤ R.locals) :
    vx_CSW R s args own index y bytes maxL ret hh ws rm mc ms n := by
  have ok : ∀ w ∈ va_wsS own index y ws, w.before args s = true := fun w h => ht w (hT w h).1
  have hG : GoodIn Ts ws := fun w h => hT w (by unfold va_wsS; exact List.mem_append_right _ h)
  have hc : Cond.codeWith y bytes maxL ret hh ∈ ws := by rw [hw]; exact List.mem_cons_self
  refine ⟨⟨hrc, hrs, hR.1, hR.2, pay_in ht hG, hc⟩, ht _ (hG _ hc).1, ok _ (by simp [va_wsS]), ⟨hd.1, hd.2.1⟩, fun sig h => ?_, ok _ (by simp [va_wsS]), ok _ (by simp [va_wsS])⟩
  have h2 := hd.2.2
  rw [h] at h2
  exact (Option.some.inj h2).symm
theorem vx_callSW (X : Stand p l e R s m args below meth c T locs cells slots) (hexec : p.tables.exec = Jvm.exec) {own : String} {index : Nat} {y : MethodName} {bytes : ByteArray} {maxL : Nat} {ret : Option FieldType} {hh : List (Nat × Nat × Nat × Nat)}
    (hown : s.vm.findClass own = some m.cls) (hlink : (Cond.methodLink own index y).before args s = true) (hstat : (Cond.static y).before args s = true) (hinit : (Cond.initialized y.cls).before args s = true)
    (hcode : (Cond.codeWith y bytes maxL ret hh).before args s = true) (hy : y.cls ≠ "java/lang/invoke/MethodHandle" ∧ y.cls ≠ "java/lang/invoke/VarHandle")
    {W9 : Nat} {Pre : Pt → Array Value → Prop} {Post : Pt → Array Value → Option Value → Pt → Prop} (hK : Back l R p e below s args y 3 W9 Pre Post)
    {g : JFrame} (hg : g.method = m) (hsize : g.locals.size = c.maxLocals) {argsL rest : List Value} (hlen : ∀ sig, parseMethodDescriptor y.desc = some sig → argsL.length = sig.parameters.length)
    (hstack : g.stack = argsL.reverse ++ rest) (hW : 2 * g.monitorRoom + (rest.map fun v => v.category).sum ≤ W9) (hdg : decode c.code g.pc = .ok (.invokestatic index, 3))
    (hpre : ∀ vm₁, s.WarmedH vm₁ → Pre ⟨T.setVm vm₁, locs, cells, slots⟩ argsL.toArray) :
    ∃ (v : Option Value) (vm₁ : Vm) (B : Pt), s.WarmedH vm₁ ∧ Stand p l e R s m args below meth c B.U B.locs B.cells B.slots ∧ Post ⟨T.setVm vm₁, locs, cells, slots⟩ argsL.toArray v B ∧
      ∀ target, Steps p.tables e below (B.U.setTop { g with pc := g.pc + 3, stack := v.toList ++ rest }) target → Steps p.tables e below (T.setTop g) target := by
  obtain ⟨mk, methM, cM, hnamed, hmethM, -, -, -, -, -, -, hsigM⟩ := Cond.codeWith_spec hcode
  have hstatic : methM.isStatic = true := Cond.static_spec hnamed hmethM hstat
  obtain ⟨kP, hkP, -⟩ := className_of_methodNamed hnamed
  have hinitP : kP.init = .initialized := Cond.initialized_spec (findClass_of_methodNamed hnamed) hkP hinit
  obtain ⟨vm₁, X₁, hstep₁⟩ := X.invokestatic hexec hown hlink hnamed hmethM hstatic hkP hinitP hy (g := g) hg (argsL := argsL) (rest := rest) (hlen _ hsigM) hstack hdg
  obtain ⟨v, B, X', hpost, hsteps⟩ := hK m meth c ⟨T.setVm vm₁, locs, cells, slots⟩ { g with stack := rest } (.invokestatic index) mk argsL.toArray X₁ hg hsize hdg hW (X₁.named hnamed) (hpre vm₁ X₁.warmed)
  exact ⟨v, vm₁, B, X₁.warmed, X', hpost, fun target h => hstep₁ _ fun acts => by rw [doInvoke_state]; exact hsteps.trans h⟩
theorem vx_runSW {y : MethodName} {bytes cc : ByteArray} {maxL nL mc ms n index : Nat} {ret : Option FieldType} {hh : List (Nat × Nat × Nat × Nat)} {ws : List Cond} {rm : Room} {Pc : Array Value → State → Prop} {Qc : Array Value → State → Outcome → State → Prop} {free : Addr → Prop} {Ts : List Cond} {own : String} {As rest : List Value} {g : JFrame}
    (S : CallFix p m c cc nL s args Ts own) (hM : Met l y ws rm Pc Qc mc ms free) (cw : vx_CSW R s args own index y bytes maxL ret hh ws rm mc ms n) (hp : PreS s H Pc As)
    (hg : g.method = m) (hn : As.length = n) (hsize : g.locals.size = nL) (hstack : g.stack = As.reverse ++ rest) (hW : 2 * g.monitorRoom + (rest.map fun v => v.category).sum ≤ 8) (hdg : decode cc g.pc = .ok (.invokestatic index, 3)) (hf : cells + mc ≤ R.cells ∧ slots + ms ≤ R.slots) :
    va_Run p l e R s m args below meth c H locs cells slots mc ms g rest (Qc As.toArray) (free) := by
  obtain ⟨⟨hrc, hrs, hfr, hlo, hws, hcw⟩, hcode, hini, hy, hlen, hl, hstt⟩ := cw
  have hK : Back l R p e below s args y 3 8 (PreOf R mc ms Pc) (PostOf Qc mc ms free) := va_backW (hh := hh) (bytes := bytes) (maxL := maxL) (ret := ret) hM hp.1 hrc hrs hfr hlo hws hcw (fun a' U hW => word_at hW (Or.inl (by first | rfl | simp [Cond.onTables, Cond.keeps, Cond.steady])) hini)
  obtain ⟨hx, hb, hml, ho, -⟩ := S
  intro T hT X
  obtain ⟨v, vm₁, ⟨U', l2, c2, s2⟩, hW₁, X', ⟨g', mk, t, L, e1, e2, hq, h1, hL, h2, h3⟩, st⟩ := vx_callSW X hx (hh := hh) (bytes := bytes) (maxL := maxL) (ret := ret) ho hl hstt hini hcode hy hK hg (hsize.trans hml.symm) (argsL := As) (rest := rest) (fun sig h => hn.trans (hlen sig h)) hstack hW (by rw [hb]; exact hdg)
    (fun vm₁ hW₁ => ⟨hf.1, hf.2, hp.2 (T.setVm vm₁) hT hW₁⟩)
  dsimp only [Pt.U, Pt.locs, Pt.cells, Pt.slots] at X' e1 e2 h1 h2 h3 st
  subst h1; subst h2; subst h3
  exact ⟨v, (T.setVm vm₁).calling g' mk As.toArray, t, U', L, hT, X', hL, e1, e2, hq, st⟩
/-- not caught here, past rows that name other classes: it goes on to the caller -/
theorem vx_outP {p : Program} {l : Launch} {e : Env} {R : Room} {s : State} {m : MethodId} {args : Array Value} {below : List Frame} {meth : Method} {c : Code} {H : Heap} {locs : List Loc} {cells slots : Nat} {free : Addr → Prop} {ls : Array Slot} {rest : List Value} {Qc : Array Value → State → Outcome → State → Prop} {XC : String → State → State → Prop}
    {pc : Nat} {own E : String} {ce : Cell} {q : Addr} {mc ms : Nat} (hown : s.vm.findClass own = some m.cls) (hlocks : meth.locks = false)
    (hpass : ∀ z ∈ c.exceptionTable.toList, covers z pc = false ∨ (z.catchType ≠ 0 ∧ ∃ nm : String, (Cond.classLink own z.catchType nm).before args s = true ∧ va_Nc E nm s)) (hcell : H[q]? = some ce) (hv : ce.vm = .none) (hcl : s.vm.findClass E = some ce.cls)
    (hx : ∀ t : State, t.heap = H → s.vm.Alike t.vm → XC E s t) (hf : ∀ z ∈ locs, free z.base) (hc : cells ≤ mc) (hs : slots ≤ ms) :
    vx_W p l e R s m args below meth c H locs cells slots (vx_MQ below Qc XC args s mc ms free) (F0 m pc ls rest) q := by
  intro T hT X
  have hpl : e.platform.magicAccessors = ({} : Platform).magicAccessors := by rw [X.admits.platform]
  obtain ⟨vm', hW', X', st⟩ := X.outThrough hlocks q (g := F0 m pc ls rest) rfl rfl rfl (cell := ce) (by rw [hT]; exact hcell) (by rw [hv]; rfl)
    (by obtain ⟨k9, h9, -⟩ := Vm.findClass_spec hcl; exact ⟨k9, h9⟩) (fun z hz => by
      rcases hpass z hz with h | ⟨hz0, nm, hl1, hn1⟩
      · exact Or.inl h
      · obtain ⟨c6, hc6, hcl6⟩ := Cond.classLink_spec hown hl1 e.platform hpl
        obtain ⟨a8, b8, h1, h2, h3⟩ := hn1
        cases Option.some.inj (h1.symm.trans hcl)
        cases Option.some.inj (h2.symm.trans hc6)
        exact Or.inr ⟨hz0, _, hcl6, h3⟩)
  obtain ⟨g₀, hfr⟩ := X'.frames_eq
  have hcell9 : ((T.setVm vm').setFrames (.throwing q :: below)).heap[q]? = some ce := by
    show T.heap[q]? = some ce
    rw [hT]; exact hcell
  have hend : Ended ((T.setVm vm').setFrames (.throwing q :: below)) below (.threw q) := State.frames_setFrames _ (State.cur_lt_of_frames hfr)
  refine ⟨(T.setVm vm').setFrames (.throwing q :: below), ?_, .threw q, X'.here.running, hend, Or.inr ⟨q, rfl, E, ce, locs, hx _ hT (X'.ends _).1.alike, hcell9, hv, hcl, (X'.ends _).1, (X'.ends _).2.mono hc hs, hf⟩⟩
  rw [X.pushThrowing_eq]
  exact st
/-- a thing of a world lies in the heap -/
theorem vx_lt {D : va_G} {cl : List vw_C} {ws : va_W} {H1 : Heap} (h : va_P D cl ws H1) {k : Nat} {q : Nat × va_E} (hk : ws[k]? = some q) : q.1 < H1.size := (h k q hk).lt
end VXS
/-! ===== END ===== -/
/-! ===== BEGIN methods with a table of their own: called by a name, returning or throwing ===== -/
section VXH
/-! vx_backW, vx_callVX, vx_callSX, vx_callVW, vx_runVW, vx_runVX, vx_runSX, vx_ofWH follow the same proofs as their sisters above (Free/Laws.lean, Shelf42/LK1.lean); vx_outP calls Shelf42/NT130.lean (outThrough). -/
section
variable {l : Launch} {R : Room} {p : Program} {e : Env} {below : List Frame} {s : State} {sargs : Array Value} {y : MethodName} {len W9 : Nat}
theorem vx_backW {ws : List Cond} {rm : Room} {Pc : Array Value → State → Prop} {Qc : Array Value → State → Outcome → State → Prop} {XC : String → State → State → Prop} {mc ms : Nat} {free : Addr → Prop} {bytes : ByteArray} {maxL : Nat} {ret : Option FieldType} {hh : List (Nat × Nat × Nat × Nat)}
    (hM : vx_Met l y ws rm Pc Qc XC mc ms free) (hblind : FrameBlind Pc) (hrc : rm.cells = mc) (hrs : rm.slots = ms)
    (hframes : rm.frames + 1 ≤ R.frames) (hlocals : W9 + (maxL + 11) + rm.locals ≤ R.locals)
    (hws : ∀ w ∈ ws, ∀ a' U, s.WarmedH U.vm → w.before a' U = true) (hcode : Cond.codeWith y bytes maxL ret hh ∈ ws) (hinit : ∀ a' U, s.WarmedH U.vm → (Cond.initialized y.cls).before a' U = true) :
    vx_Back l R p e below s sargs y len W9 (PreOf R mc ms Pc) (PostOf Qc mc ms free) (vx_Post XC mc ms free) := by
  intro m meth c A g ig mk a X hg hsize hdg hW hn hp
  have h1 : (headSpec ws rm).pre.before a A.U = true := atoms_intro fun w hw => hws w hw _ _ X.warmed
  have h2 : (Cond.codeWith y bytes maxL ret hh).before a A.U = true := hws _ hcode _ _ X.warmed
  have h3 : (Cond.initialized y.cls).before a A.U = true := hinit _ _ X.warmed
  have h4 : A.cells + (headSpec ws rm).room.cells ≤ R.cells := by rw [show (headSpec ws rm).room.cells = mc from hrc]; exact hp.1
  have h5 : A.slots + (headSpec ws rm).room.slots ≤ R.slots := by rw [show (headSpec ws rm).room.slots = ms from hrs]; exact hp.2.1
  have hPc : Pc a (A.U.calling g mk a) := hblind _ _ _ _ hp.2.2
  obtain ⟨U, Ls, c0, s0⟩ := A
  dsimp only [Pt.U, Pt.locs, Pt.cells, Pt.slots] at h1 h2 h3 h4 h5 X hn hPc ⊢
  obtain ⟨m9, methY, cY, hn9, hmY, hcY, -, hlY, -⟩ := Cond.codeWith_spec h2
  cases Option.some.inj (hn9.symm.trans hn)
  obtain ⟨kY, hkY, -⟩ := className_of_methodNamed hn
  have hinitY : kY.init = .initialized := Cond.initialized_spec (findClass_of_methodNamed hn) hkY h3
  have h : At U g.method c below := by rw [hg]; exact X.here
  have hlocals9 : W9 + (maxL + 11) + (headSpec ws rm).room.locals ≤ R.locals := hlocals
  have happ : (headSpec ws rm).appliesLoose y e.platform (U.calling g mk a) = true :=
    Spec.appliesLoose_calling (g := g) h hdg hn hkY hinitY
      (X.room_calling (g := g) (R' := (headSpec ws rm).room) hsize hmY hcY hframes (by rw [hlY]; omega) h4 h5) h1
  obtain ⟨mid, hmid⟩ := h.above
  have hfr : (U.setTop g).frames = (.java g :: mid) ++ below := by rw [State.frames_setTop' g h.top, hmid]; rfl
  obtain ⟨o, s₂, hsteps, -, hend, hq⟩ := Steps.callFree hM p X.admits X.cas X.clock (acts := []) hfr happ hPc trivial
  have hq' : vx_Q Qc XC mc ms free a (U.calling g mk a) o s₂ := hq
  rw [State.frames_setTop' g h.top] at hend
  obtain ⟨g₀, hg0⟩ := Option.isSome_iff_exists.mp h.top
  obtain ⟨r, hr⟩ := State.topJava?_eq_some.mp hg0
  have hr' : (({ U with heap := s₂.heap, slotsUsed := s₂.slotsUsed } : State).setVm s₂.vm).frames = .java g₀ :: r := hr
  rcases hq' with ⟨hqc, L, hfe, hL⟩ | ⟨q, rfl, E, ce, L, hx, hce, hcv, hcl, hW₂, hsm, hL⟩
  · obtain ⟨⟨v, rfl⟩, hW₂, e2, q2, q3, q4, q5, q6⟩ := id hfe
    have e3 : s₂ = ({ (U.calling g mk a).setFrames s₂.frames with heap := s₂.heap, slotsUsed := s₂.slotsUsed } : State).setVm s₂.vm := by
      have : s₂ = ({ s₂ with vm := (U.calling g mk a).vm } : State).setVm s₂.vm := rfl
      rw [e2] at this
      exact this
    obtain ⟨c₂, i₂, len₂, hc₂, hd₂, hf₂⟩ := hend
    have hW' : U.WarmedH s₂.vm := hW₂
    have hcc : c₂ = c := by
      have h1 : s₂.code? g.method = U.code? g.method := by
        rw [State.code?_eq, State.code?_eq, hW'.alike.method?]
      exact Option.some.inj (hc₂.symm.trans (h1.trans h.code))
    subst hcc
    have hlen : len₂ = len := by rw [hdg] at hd₂; cases hd₂; rfl
    subst hlen
    have hs₂ : s₂ = (({ U with heap := s₂.heap, slotsUsed := s₂.slotsUsed } : State).setVm s₂.vm).setTop { g with pc := g.pc + len₂, stack := v.toList ++ g.stack } := by
      refine e3.trans ?_
      rw [hf₂, State.calling_eq h.top, State.setFrames_setFrames, State.setTop_of_frames _ hr', hr]
      rfl
    have hsame : U.sameButNew ({ U with heap := s₂.heap, slotsUsed := s₂.slotsUsed } : State) L mc ms := by
      refine ⟨?_, q2, q3, q4, q5, q6⟩
      obtain ⟨t, ht, -⟩ := State.frames_cons hr
      show ({ U with heap := s₂.heap, slotsUsed := s₂.slotsUsed } : State) = { U.setFrames U.frames with heap := s₂.heap, slotsUsed := s₂.slotsUsed }
      rw [State.setFrames_self ht]
    subst hg
    refine Or.inl ⟨v, ⟨(({ U with heap := s₂.heap, slotsUsed := s₂.slotsUsed } : State).setVm s₂.vm), Ls ++ L, c0 + mc, s0 + ms⟩,
      ⟨X.admits, X.cas, X.clock, X.frames, X.room, X.hears, X.method, X.code, (X.here.setHeapUsed s₂.heap s₂.slotsUsed).setVm hW'.alike, X.tail, State.WarmedH.trans X.warmed hW', X.limits, X.bytes, X.same.trans (hsame.setVm s.vm)⟩,
      ⟨g, mk, s₂, L, rfl, rfl, hqc, rfl, hL, rfl, rfl⟩, ?_⟩
    show Steps p.tables e below _ ((({ U with heap := s₂.heap, slotsUsed := s₂.slotsUsed } : State).setVm s₂.vm).setTop { g with pc := g.pc + len₂, stack := v.toList ++ g.stack })
    rw [← hs₂]
    exact hsteps
  · obtain ⟨e2, q2, q3, q4, q5, q6⟩ := id hsm
    have e3 : s₂ = ({ (U.calling g mk a).setFrames s₂.frames with heap := s₂.heap, slotsUsed := s₂.slotsUsed } : State).setVm s₂.vm := by
      have : s₂ = ({ s₂ with vm := (U.calling g mk a).vm } : State).setVm s₂.vm := rfl
      rw [e2] at this
      exact this
    have hf₂ : s₂.frames = .throwing q :: .java g :: U.frames.tail := hend
    have hW' : U.WarmedH s₂.vm := hW₂
    have hs₂ : s₂ = ((({ U with heap := s₂.heap, slotsUsed := s₂.slotsUsed } : State).setVm s₂.vm).setTop g).pushFrame (.throwing q) := by
      refine e3.trans ?_
      rw [hf₂, State.calling_eq h.top, State.setFrames_setFrames, State.pushFrame, State.frames_setTop _ hr', State.setTop_of_frames _ hr', State.setFrames_setFrames, hr]
      rfl
    have hsame : U.sameButNew ({ U with heap := s₂.heap, slotsUsed := s₂.slotsUsed } : State) L mc ms := by
      refine ⟨?_, q2, q3, q4, q5, q6⟩
      obtain ⟨t, ht, -⟩ := State.frames_cons hr
      show ({ U with heap := s₂.heap, slotsUsed := s₂.slotsUsed } : State) = { U.setFrames U.frames with heap := s₂.heap, slotsUsed := s₂.slotsUsed }
      rw [State.setFrames_self ht]
    subst hg
    refine Or.inr ⟨q, ⟨(({ U with heap := s₂.heap, slotsUsed := s₂.slotsUsed } : State).setVm s₂.vm), Ls ++ L, c0 + mc, s0 + ms⟩,
      ⟨X.admits, X.cas, X.clock, X.frames, X.room, X.hears, X.method, X.code, (X.here.setHeapUsed s₂.heap s₂.slotsUsed).setVm hW'.alike, X.tail, State.WarmedH.trans X.warmed hW', X.limits, X.bytes, X.same.trans (hsame.setVm s.vm)⟩,
      ⟨g, mk, s₂, L, E, ce, rfl, rfl, hx, hce, hcv, hcl, rfl, hL, rfl, rfl⟩, ?_⟩
    show Steps p.tables e below _ (((({ U with heap := s₂.heap, slotsUsed := s₂.slotsUsed } : State).setVm s₂.vm).setTop g).pushFrame (.throwing q))
    rw [← hs₂]
    exact hsteps
end
variable {p : Program} {l : Launch} {e : Env} {R : Room} {s : State} {m : MethodId} {args : Array Value} {below : List Frame} {meth : Method} {c : Code} {T : State} {H : Heap} {locs : List Loc} {cells slots : Nat}
theorem vx_callVX (X : Stand p l e R s m args below meth c T locs cells slots) (hexec : p.tables.exec = Jvm.exec) {own C : String} {index : Nat} {y : MethodName} {bytes : ByteArray} {maxL : Nat} {ret : Option FieldType} {hh : List (Nat × Nat × Nat × Nat)}
    (hown : s.vm.findClass own = some m.cls) (hlink : (Cond.methodLink own index y).before args s = true) (hinst : (Cond.instanceMethod y).before args s = true) (hsel : (Cond.selects C y y).before args s = true)
    (hcode : (Cond.codeWith y bytes maxL ret hh).before args s = true) (hy : y.cls ≠ "java/lang/invoke/MethodHandle" ∧ y.cls ≠ "java/lang/invoke/VarHandle")
    {W9 : Nat} {Pre : Pt → Array Value → Prop} {Post : Pt → Array Value → Option Value → Pt → Prop} {PostX : Pt → Array Value → Addr → Pt → Prop} (hK : vx_Back l R p e below s args y 3 W9 Pre Post PostX)
    {b : Addr} {cellB : Cell} (hcell : T.heap[b]? = some cellB) (hobj : cellB.vm.isStatics = false) (hcls : s.vm.findClass C = some cellB.cls)
    {g : JFrame} (hg : g.method = m) (hsize : g.locals.size = c.maxLocals) {argsL rest : List Value} (hlen : ∀ sig, parseMethodDescriptor y.desc = some sig → argsL.length = sig.parameters.length)
    (hstack : g.stack = argsL.reverse ++ .ref b :: rest) (hW : 2 * g.monitorRoom + (rest.map fun v => v.category).sum ≤ W9) (hdg : decode c.code g.pc = .ok (.invokevirtual index, 3))
    (hpre : ∀ vm₁, s.WarmedH vm₁ → Pre ⟨T.setVm vm₁, locs, cells, slots⟩ (Value.ref b :: argsL).toArray) :
    (∃ (v : Option Value) (vm₁ : Vm) (B : Pt), s.WarmedH vm₁ ∧ Stand p l e R s m args below meth c B.U B.locs B.cells B.slots ∧ Post ⟨T.setVm vm₁, locs, cells, slots⟩ (Value.ref b :: argsL).toArray v B ∧
      ∀ target, Steps p.tables e below (B.U.setTop { g with pc := g.pc + 3, stack := v.toList ++ rest }) target → Steps p.tables e below (T.setTop g) target) ∨
    (∃ (q : Addr) (vm₁ : Vm) (B : Pt), s.WarmedH vm₁ ∧ Stand p l e R s m args below meth c B.U B.locs B.cells B.slots ∧ PostX ⟨T.setVm vm₁, locs, cells, slots⟩ (Value.ref b :: argsL).toArray q B ∧
      Steps p.tables e below (T.setTop g) ((B.U.setTop { g with stack := rest }).pushFrame (.throwing q))) := by
  obtain ⟨mk, methM, hnamed, hmethM, hstM, habM⟩ := Cond.instanceMethod_spec hinst
  obtain ⟨m8, methM', cM, hn8, hmethM', -, -, -, -, -, -, hsigM⟩ := Cond.codeWith_spec hcode
  cases Option.some.inj (hn8.symm.trans hnamed)
  cases hmethM.symm.trans hmethM'
  obtain ⟨c2, r2, m2, q1, q2, q3, q4, kP, hkP, hkPi⟩ := Cond.selects_spec hsel
  cases hcls.symm.trans q1
  cases (State.methodFound?_of_named hnamed hy).symm.trans q2
  cases hnamed.symm.trans q3
  have hselP : selectMethod e.platform s.vm cellB.cls mk = .method mk := by rw [Launch.admits_selectMethod X.admits]; exact q4
  obtain ⟨vm₁, X₁, hstep₁⟩ := X.invokevirtual hexec hown hlink hnamed hmethM hstM hkP hkPi hy (a := b) (cell := cellB) hcell
    (fun z h => by rw [h] at hobj; cases hobj) hselP hmethM habM hkP hkPi (g := g) hg (argsL := argsL) (rest := rest) (hlen _ hsigM) hstack hdg
  rcases hK m meth c ⟨T.setVm vm₁, locs, cells, slots⟩ { g with stack := rest } (.invokevirtual index) mk (Value.ref b :: argsL).toArray X₁ hg hsize hdg hW (X₁.named hnamed) (hpre vm₁ X₁.warmed) with ⟨v, B, X', hpost, hsteps⟩ | ⟨q, B, X', hpost, hsteps⟩
  · exact Or.inl ⟨v, vm₁, B, X₁.warmed, X', hpost, fun target h => hstep₁ _ fun acts => by rw [doInvoke_state]; exact hsteps.trans h⟩
  · exact Or.inr ⟨q, vm₁, B, X₁.warmed, X', hpost, hstep₁ _ fun acts => by rw [doInvoke_state]; exact hsteps⟩
theorem vx_callSX (X : Stand p l e R s m args below meth c T locs cells slots) (hexec : p.tables.exec = Jvm.exec) {own : String} {index : Nat} {y : MethodName} {bytes : ByteArray} {maxL : Nat} {ret : Option FieldType} {hh : List (Nat × Nat × Nat × Nat)}
    (hown : s.vm.findClass own = some m.cls) (hlink : (Cond.methodLink own index y).before args s = true) (hstat : (Cond.static y).before args s = true) (hinit : (Cond.initialized y.cls).before args s = true)
    (hcode : (Cond.codeWith y bytes maxL ret hh).before args s = true) (hy : y.cls ≠ "java/lang/invoke/MethodHandle" ∧ y.cls ≠ "java/lang/invoke/VarHandle")
    {W9 : Nat} {Pre : Pt → Array Value → Prop} {Post : Pt → Array Value → Option Value → Pt → Prop} {PostX : Pt → Array Value → Addr → Pt → Prop} (hK : vx_Back l R p e below s args y 3 W9 Pre Post PostX)
    {g : JFrame} (hg : g.method = m) (hsize : g.locals.size = c.maxLocals) {argsL rest : List Value} (hlen : ∀ sig, parseMethodDescriptor y.desc = some sig → argsL.length = sig.parameters.length)
    (hstack : g.stack = argsL.reverse ++ rest) (hW : 2 * g.monitorRoom + (rest.map fun v => v.category).sum ≤ W9) (hdg : decode c.code g.pc = .ok (.invokestatic index, 3))
    (hpre : ∀ vm₁, s.WarmedH vm₁ → Pre ⟨T.setVm vm₁, locs, cells, slots⟩ argsL.toArray) :
    (∃ (v : Option Value) (vm₁ : Vm) (B : Pt), s.WarmedH vm₁ ∧ Stand p l e R s m args below meth c B.U B.locs B.cells B.slots ∧ Post ⟨T.setVm vm₁, locs, cells, slots⟩ argsL.toArray v B ∧
      ∀ target, Steps p.tables e below (B.U.setTop { g with pc := g.pc + 3, stack := v.toList ++ rest }) target → Steps p.tables e below (T.setTop g) target) ∨
    (∃ (q : Addr) (vm₁ : Vm) (B : Pt), s.WarmedH vm₁ ∧ Stand p l e R s m args below meth c B.U B.locs B.cells B.slots ∧ PostX ⟨T.setVm vm₁, locs, cells, slots⟩ argsL.toArray q B ∧
      Steps p.tables e below (T.setTop g) ((B.U.setTop { g with stack := rest }).pushFrame (.throwing q))) := by
  obtain ⟨mk, methM, cM, hnamed, hmethM, -, -, -, -, -, -, hsigM⟩ := Cond.codeWith_spec hcode
  have hstatic : methM.isStatic = true := Cond.static_spec hnamed hmethM hstat
  obtain ⟨kP, hkP, -⟩ := className_of_methodNamed hnamed
  have hinitP : kP.init = .initialized := Cond.initialized_spec (findClass_of_methodNamed hnamed) hkP hinit
  obtain ⟨vm₁, X₁, hstep₁⟩ := X.invokestatic hexec hown hlink hnamed hmethM hstatic hkP hinitP hy (g := g) hg (argsL := argsL) (rest := rest) (hlen _ hsigM) hstack hdg
  rcases hK m meth c ⟨T.setVm vm₁, locs, cells, slots⟩ { g with stack := rest } (.invokestatic index) mk argsL.toArray X₁ hg hsize hdg hW (X₁.named hnamed) (hpre vm₁ X₁.warmed) with ⟨v, B, X', hpost, hsteps⟩ | ⟨q, B, X', hpost, hsteps⟩
  · exact Or.inl ⟨v, vm₁, B, X₁.warmed, X', hpost, fun target h => hstep₁ _ fun acts => by rw [doInvoke_state]; exact hsteps.trans h⟩
  · exact Or.inr ⟨q, vm₁, B, X₁.warmed, X', hpost, hstep₁ _ fun acts => by rw [doInvoke_state]; exact hsteps⟩
theorem vx_callVW (X : Stand p l e R s m args below meth c T locs cells slots) (hexec : p.tables.exec = Jvm.exec) {own C : String} {index : Nat} {y : MethodName} {bytes : ByteArray} {maxL : Nat} {ret : Option FieldType} {hh : List (Nat × Nat × Nat × Nat)}
    (hown : s.vm.findClass own = some m.cls) (hlink : (Cond.methodLink own index y).before args s = true) (hinst : (Cond.instanceMethod y).before args s = true) (hsel : (Cond.selects C y y).before args s = true)
    (hcode : (Cond.codeWith y bytes maxL ret hh).before args s = true) (hy : y.cls ≠ "java/lang/invoke/MethodHandle" ∧ y.cls ≠ "java/lang/invoke/VarHandle")
    {W9 : Nat} {Pre : Pt → Array Value → Prop} {Post : Pt → Array Value → Option Value → Pt → Prop} (hK : Back l R p e below s args y 3 W9 Pre Post)
    {b : Addr} {cellB : Cell} (hcell : T.heap[b]? = some cellB) (hobj : cellB.vm.isStatics = false) (hcls : s.vm.findClass C = some cellB.cls)
    {g : JFrame} (hg : g.method = m) (hsize : g.locals.size = c.maxLocals) {argsL rest : List Value} (hlen : ∀ sig, parseMethodDescriptor y.desc = some sig → argsL.length = sig.parameters.length)
    (hstack : g.stack = argsL.reverse ++ .ref b :: rest) (hW : 2 * g.monitorRoom + (rest.map fun v => v.category).sum ≤ W9) (hdg : decode c.code g.pc = .ok (.invokevirtual index, 3))
    (hpre : ∀ vm₁, s.WarmedH vm₁ → Pre ⟨T.setVm vm₁, locs, cells, slots⟩ (Value.ref b :: argsL).toArray) :
    ∃ (v : Option Value) (vm₁ : Vm) (B : Pt), s.WarmedH vm₁ ∧ Stand p l e R s m args below meth c B.U B.locs B.cells B.slots ∧ Post ⟨T.setVm vm₁, locs, cells, slots⟩ (Value.ref b :: argsL).toArray v B ∧
      ∀ target, Steps p.tables e below (B.U.setTop { g with pc := g.pc + 3, stack := v.toList ++ rest }) target → Steps p.tables e below (T.setTop g) target := by
  obtain ⟨mk, methM, hnamed, hmethM, hstM, habM⟩ := Cond.instanceMethod_spec hinst
  obtain ⟨m8, methM', cM, hn8, hmethM', -, -, -, -, -, -, hsigM⟩ := Cond.codeWith_spec hcode
  cases Option.some.inj (hn8.symm.trans hnamed)
  cases hmethM.symm.trans hmethM'
  obtain ⟨c2, r2, m2, q1, q2, q3, q4, kP, hkP, hkPi⟩ := Cond.selects_spec hsel
  cases hcls.symm.trans q1
  cases (State.methodFound?_of_named hnamed hy).symm.trans q2
  cases hnamed.symm.trans q3
  have hselP : selectMethod e.platform s.vm cellB.cls mk = .method mk := by rw [Launch.admits_selectMethod X.admits]; exact q4
  obtain ⟨vm₁, X₁, hstep₁⟩ := X.invokevirtual hexec hown hlink hnamed hmethM hstM hkP hkPi hy (a := b) (cell := cellB) hcell
    (fun z h => by rw [h] at hobj; cases hobj) hselP hmethM habM hkP hkPi (g := g) hg (argsL := argsL) (rest := rest) (hlen _ hsigM) hstack hdg
  obtain ⟨v, B, X', hpost, hsteps⟩ := hK m meth c ⟨T.setVm vm₁, locs, cells, slots⟩ { g with stack := rest } (.invokevirtual index) mk (Value.ref b :: argsL).toArray X₁ hg hsize hdg hW (X₁.named hnamed) (hpre vm₁ X₁.warmed)
  exact ⟨v, vm₁, B, X₁.warmed, X', hpost, fun target h => hstep₁ _ fun acts => by rw [doInvoke_state]; exact hsteps.trans h⟩
abbrev vx_CVW (R : Room) (s : State) (args : Array Value) (own C : String) (index : Nat) (y : MethodName) (bytes : ByteArray) (maxL : Nat) (ret : Option FieldType) (hh : List (Nat × Nat × Nat × Nat)) (ws : List Cond) (rm : Room) (mc ms n : Nat) : Prop :=
  (rm.cells = mc ∧ rm.slots = ms ∧ rm.frames + 1 ≤ R.frames ∧ 8 + (maxL + 11) + rm.locals ≤ R.locals ∧ (∀ w ∈ ws, ∀ (a' : Array Value) (U : State), s.WarmedH U.vm → w.before a' U = true) ∧ Cond.codeWith y bytes maxL ret hh ∈ ws) ∧
  (Cond.codeWith y bytes maxL ret hh).before args s = true ∧ (Cond.initialized y.cls).before args s = true ∧ (y.cls ≠ "java/lang/invoke/MethodHandle" ∧ y.cls ≠ "java/lang/invoke/VarHandle") ∧
  (∀ sig, parseMethodDescriptor y.desc = some sig → n = sig.parameters.length) ∧ (Cond.methodLink own index y).before args s = true ∧ (Cond.instanceMethod y).before args s = true ∧ (Cond.selects C y y).before args s = true
theorem vx_cwVW {own C : String} {index maxL mc ms : Nat} {y : MethodName} {bytes : ByteArray} {ret : Option FieldType} {hh : List (Nat × Nat × Nat × Nat)} {Ts ws ws' : List Cond} {rm : Room} (n : Nat) (ht : ∀ w ∈ Ts, w.before args s = true) (hT : GoodIn Ts (wsV own index C y ws)) (hw : ws = Cond.codeWith y bytes maxL ret hh :: ws') (hrc : rm.cells = mc) (hrs : rm.slots = ms)
    (hd : y.cls = C ∧ y.cls ≠ "java/lang/invoke/MethodHandle" ∧ y.cls ≠ "java/lang/invoke/VarHandle" ∧ (parseMethodDescriptor y.desc).map (fun d => d.parameters.length) = some n) (hR : rm.frames + 1 ≤ R.frames ∧ 8 + (maxL + 11) + rm.locals ≤ R.locals) :
    vx_CVW R s args own C index y bytes maxL ret hh ws rm mc ms n := by
  obtain ⟨hC, hd⟩ := hd
  subst hC
  have ok : ∀ w ∈ wsV own index y.cls y ws, w.before args s = true := fun w h => ht w (hT w h).1
  have hG : GoodIn Ts ws := fun w h => hT w (by unfold wsV; exact List.mem_append_right _ h)
  have hc : Cond.codeWith y bytes maxL ret hh ∈ ws := by rw [hw]; exact List.mem_cons_self
  refine ⟨⟨hrc, hrs, hR.1, hR.2, pay_in ht hG, hc⟩, ht _ (hG _ hc).1, ok _ (by simp [wsV]), ⟨hd.1, hd.2.1⟩, fun sig h => ?_, ok _ (by simp [wsV]), ok _ (by simp [wsV]), ok _ (by simp [wsV])⟩
  have h2 := hd.2.2
  rw [h] at h2
  exact (Option.some.inj h2).symm
theorem vx_runVW {y : MethodName} {bytes cc : ByteArray} {maxL nL mc ms n index : Nat} {ret : Option FieldType} {hh : List (Nat × Nat × Nat × Nat)} {ws : List Cond} {rm : Room} {Pc : Array Value → State → Prop} {Qc : Array Value → State → Outcome → State → Prop} {free : Addr → Prop} {Ts : List Cond} {own C : String} {b : Addr} {As rest : List Value} {g : JFrame}
    (S : CallFix p m c cc nL s args Ts own) (hM : Met l y ws rm Pc Qc mc ms free) (cw : vx_CVW R s args own C index y bytes maxL ret hh ws rm mc ms n) (hp : PreV s H C b Pc As)
    (hg : g.method = m) (hn : As.length = n) (hsize : g.locals.size = nL) (hstack : g.stack = As.reverse ++ .ref b :: rest) (hW : 2 * g.monitorRoom + (rest.map fun v => v.category).sum ≤ 8) (hdg : decode cc g.pc = .ok (.invokevirtual index, 3)) (hf : cells + mc ≤ R.cells ∧ slots + ms ≤ R.slots) :
    va_Run p l e R s m args below meth c H locs cells slots mc ms g rest (Qc (Value.ref b :: As).toArray) free := by
  obtain ⟨⟨hrc, hrs, hfr, hlo, hws, hcw⟩, hcode, hini, hy, hlen, hl, hin, hse⟩ := cw
  have hK : Back l R p e below s args y 3 8 (PreOf R mc ms Pc) (PostOf Qc mc ms free) := va_backW (hh := hh) (bytes := bytes) (maxL := maxL) (ret := ret) hM hp.1 hrc hrs hfr hlo hws hcw (fun a' U hW => word_at hW (Or.inl (by first | rfl | simp [Cond.onTables, Cond.keeps, Cond.steady])) hini)
  obtain ⟨hx, hb, hml, ho, -⟩ := S
  obtain ⟨-, ⟨cellB, hcB, hoB, hclB⟩, hPc⟩ := hp
  intro T hT X
  obtain ⟨v, vm₁, ⟨U', l2, c2, s2⟩, hW₁, X', ⟨g', mk, t, L, e1, e2, hq, h1, hL, h2, h3⟩, st⟩ := vx_callVW X hx (C := C) (hh := hh) (bytes := bytes) (maxL := maxL) (ret := ret) ho hl hin hse hcode hy hK (by rw [hT]; exact hcB) hoB hclB hg (hsize.trans hml.symm) (argsL := As) (rest := rest) (fun sig h => hn.trans (hlen sig h)) hstack hW (by rw [hb]; exact hdg)
    (fun vm₁ hW₁ => ⟨hf.1, hf.2, hPc (T.setVm vm₁) hT hW₁⟩)
  dsimp only [Pt.U, Pt.locs, Pt.cells, Pt.slots] at X' e1 e2 h1 h2 h3 st
  subst h1; subst h2; subst h3
  exact ⟨v, (T.setVm vm₁).calling g' mk (Value.ref b :: As).toArray, t, U', L, hT, X', hL, e1, e2, hq, st⟩
section
variable {y : MethodName} {bytes cc : ByteArray} {maxL nL mc ms n index : Nat} {ret : Option FieldType} {ws : List Cond} {rm : Room} {Pc : Array Value → State → Prop} {Qc : Array Value → State → Outcome → State → Prop} {XC : String → State → State → Prop} {free : Addr → Prop} {Ts : List Cond} {own C : String} {b : Addr} {As rest : List Value} {g : JFrame}
theorem vx_runVX {hh : List (Nat × Nat × Nat × Nat)} (S : CallFix p m c cc nL s args Ts own) (hM : vx_Met l y ws rm Pc Qc XC mc ms free) (cw : vx_CVW R s args own C index y bytes maxL ret hh ws rm mc ms n) (hp : PreV s H C b Pc As)
    (hg : g.method = m) (hn : As.length = n) (hsize : g.locals.size = nL) (hstack : g.stack = As.reverse ++ .ref b :: rest) (hW : 2 * g.monitorRoom + (rest.map fun v => v.category).sum ≤ 8) (hdg : decode cc g.pc = .ok (.invokevirtual index, 3)) (hf : cells + mc ≤ R.cells ∧ slots + ms ≤ R.slots) :
    vx_Run p l e R s m args below meth c H locs cells slots mc ms g rest (Qc (Value.ref b :: As).toArray) XC free := by
  obtain ⟨⟨hrc, hrs, hfr, hlo, hws, hcw⟩, hcode, hini, hy, hlen, hl, hin, hse⟩ := cw
  have hK : vx_Back l R p e below s args y 3 8 (PreOf R mc ms Pc) (PostOf Qc mc ms free) (vx_Post XC mc ms free) := vx_backW (hh := hh) (bytes := bytes) (maxL := maxL) (ret := ret) hM hp.1 hrc hrs hfr hlo hws hcw (fun a' U hW => word_at hW (Or.inl (by first | rfl | simp [Cond.onTables, Cond.keeps, Cond.steady])) hini)
  obtain ⟨hx, hb, hml, ho, -⟩ := S
  obtain ⟨-, ⟨cellB, hcB, hoB, hclB⟩, hPc⟩ := hp
  intro T hT X
  rcases vx_callVX X hx (C := C) (hh := hh) (bytes := bytes) (maxL := maxL) (ret := ret) ho hl hin hse hcode hy hK (by rw [hT]; exact hcB) hoB hclB hg (hsize.trans hml.symm) (argsL := As) (rest := rest) (fun sig h => hn.trans (hlen sig h)) hstack hW (by rw [hb]; exact hdg)
    (fun vm₁ hW₁ => ⟨hf.1, hf.2, hPc (T.setVm vm₁) hT hW₁⟩) with ⟨v, vm₁, ⟨U', l2, c2, s2⟩, hW₁, X', ⟨g', mk, t, L, e1, e2, hq, h1, hL, h2, h3⟩, st⟩ | ⟨q, vm₁, ⟨U', l2, c2, s2⟩, hW₁, X', ⟨g', mk, t, L, E, ce, e1, e2, hq, hce, hcv, hcl, h1, hL, h2, h3⟩, st⟩
  · dsimp only [Pt.U, Pt.locs, Pt.cells, Pt.slots] at X' e1 e2 h1 h2 h3 st
    subst h1; subst h2; subst h3
    exact Or.inl ⟨v, (T.setVm vm₁).calling g' mk (Value.ref b :: As).toArray, t, U', L, hT, X', hL, e1, e2, hq, st⟩
  · dsimp only [Pt.U, Pt.locs, Pt.cells, Pt.slots] at X' e1 e2 h1 h2 h3 st hcl
    subst h1; subst h2; subst h3
    exact Or.inr ⟨q, (T.setVm vm₁).calling g' mk (Value.ref b :: As).toArray, t, U', L, E, ce, hT, X', hL, e1, e2, hq, hce, hcv, vx_cls hW₁ hcl, st⟩
theorem vx_runSX {hh : List (Nat × Nat × Nat × Nat)} (S : CallFix p m c cc nL s args Ts own) (hM : vx_Met l y ws rm Pc Qc XC mc ms free) (cw : vx_CSW R s args own index y bytes maxL ret hh ws rm mc ms n) (hp : PreS s H Pc As)
    (hg : g.method = m) (hn : As.length = n) (hsize : g.locals.size = nL) (hstack : g.stack = As.reverse ++ rest) (hW : 2 * g.monitorRoom + (rest.map fun v => v.category).sum ≤ 8) (hdg : decode cc g.pc = .ok (.invokestatic index, 3)) (hf : cells + mc ≤ R.cells ∧ slots + ms ≤ R.slots) :
    vx_Run p l e R s m args below meth c H locs cells slots mc ms g rest (Qc As.toArray) XC free := by
  obtain ⟨⟨hrc, hrs, hfr, hlo, hws, hcw⟩, hcode, hini, hy, hlen, hl, hstt⟩ := cw
  have hK : vx_Back l R p e below s args y 3 8 (PreOf R mc ms Pc) (PostOf Qc mc ms free) (vx_Post XC mc ms free) := vx_backW (hh := hh) (bytes := bytes) (maxL := maxL) (ret := ret) hM hp.1 hrc hrs hfr hlo hws hcw (fun a' U hW => word_at hW (Or.inl (by first | rfl | simp [Cond.onTables, Cond.keeps, Cond.steady])) hini)
  obtain ⟨hx, hb, hml, ho, -⟩ := S
  intro T hT X
  rcases vx_callSX X hx (hh := hh) (bytes := bytes) (maxL := maxL) (ret := ret) ho hl hstt hini hcode hy hK hg (hsize.trans hml.symm) (argsL := As) (rest := rest) (fun sig h => hn.trans (hlen sig h)) hstack hW (by rw [hb]; exact hdg)
    (fun vm₁ hW₁ => ⟨hf.1, hf.2, hp.2 (T.setVm vm₁) hT hW₁⟩) with ⟨v, vm₁, ⟨U', l2, c2, s2⟩, hW₁, X', ⟨g', mk, t, L, e1, e2, hq, h1, hL, h2, h3⟩, st⟩ | ⟨q, vm₁, ⟨U', l2, c2, s2⟩, hW₁, X', ⟨g', mk, t, L, E, ce, e1, e2, hq, hce, hcv, hcl, h1, hL, h2, h3⟩, st⟩
  · dsimp only [Pt.U, Pt.locs, Pt.cells, Pt.slots] at X' e1 e2 h1 h2 h3 st
    subst h1; subst h2; subst h3
    exact Or.inl ⟨v, (T.setVm vm₁).calling g' mk As.toArray, t, U', L, hT, X', hL, e1, e2, hq, st⟩
  · dsimp only [Pt.U, Pt.locs, Pt.cells, Pt.slots] at X' e1 e2 h1 h2 h3 st hcl
    subst h1; subst h2; subst h3
    exact Or.inr ⟨q, (T.setVm vm₁).calling g' mk As.toArray, t, U', L, E, ce, hT, X', hL, e1, e2, hq, hce, hcv, vx_cls hW₁ hcl, st⟩
end
end VXH
theorem vx_ofWH {l : Launch} {y : MethodName} {ws ws' : List Cond} {rm : Room} {Pc : Array Value → State → Prop} {Qc : Array Value → State → Outcome → State → Prop} {XC : String → State → State → Prop} {mc ms : Nat} {free : Addr → Prop} {cc : ByteArray} {maxL : Nat} {ret : Option FieldType} {hh : List (Nat × Nat × Nat × Nat)}
    (hy : plainName y.cls = true) (hw : ws = Cond.codeWith y cc maxL ret hh :: ws')
    (body : ∀ p e s m args below meth c s₁, BodyLoose p l y (headSpec ws rm) cc maxL ret e s m args below meth c s₁ → c.maxLocals = maxL → Pc args s →
      W p l e (headSpec ws rm).room s m args below meth c s.heap [] 0 0 (vx_MQ below Qc XC args s mc ms free) (entryFrame m args maxL)) : vx_Met l y ws rm Pc Qc XC mc ms free := by
  refine MetFree.of_bodyS (code := cc) (maxLocals := maxL) (ret := ret) hy ?_ ?_
  · intro args s m h hn
    obtain ⟨m9, meth, c, hn9, h1, h2, h3, h4, -, h5, h6, -⟩ := Cond.codeWith_spec (atoms_spec (ws := ws) h _ (by rw [hw]; exact List.mem_cons_self))
    cases hn.symm.trans hn9
    exact ⟨meth, c, h1, h2, h3, h4, h5, h6⟩
  · intro p e s m args below meth c s₁ B hml hP _
    have hh0 : s₁.heap = s.heap := by rw [B.state]; rfl
    obtain ⟨t, a1, o, b1, b2, b3⟩ := body p e s m args below meth c s₁ B hml hP s₁ hh0 (Stand.of_body B)
    exact ⟨t, o, a1, b1, b2, b3⟩
/-! ===== END ===== -/
end
section
/-! ===== BEGIN printed: names, fields, word lists, decode rows ===== -/
def RX0 : String := "ShelfMarks"
def TX0 : u_T := fun k => match k with
  | 0 => ("ShelfMarks", "folders", "[I", true)
  | 1 => ("ShelfMarks", "marks", "[I", true)
  | 2 => ("ShelfMarks", "count", "I", false)
  | 3 => ("ShelfMarks", "came", "I", false)
  | 4 => ("ShelfMarks", "moves", "I", false)
  | 5 => ("ShelfMarks", "spreads", "[I", true)
  | 6 => ("ShelfMarks", "readerFolders", "[I", true)
  | _ => ("ShelfMarks", "readerCounts", "[I", true)
def tyX0 : Nat → FieldType := fun k => match k with
  | 0 => .array .int
  | 1 => .array .int
  | 2 => .int
  | 3 => .int
  | 4 => .int
  | 5 => .array .int
  | 6 => .array .int
  | _ => .array .int
abbrev wsX00 : List Cond := u_ws RX0 TX0 8
theorem nmX0 : ∀ a, a < 8 → ∀ b, b < 8 → a ≠ b → (TX0 a).2.1 ≠ (TX0 b).2.1 := by decide +kernel
theorem tyX0_ok : ∀ k, k < 8 → parseFieldDescriptor (TX0 k).2.2.1 = some (tyX0 k) := by decide +kernel
abbrev cX0_init : ByteArray := prog_1_method_1_code
def yX0_init : MethodName := ⟨RX0, "<init>", "()V"⟩
abbrev cX0_putFirst : ByteArray := prog_1_method_2_code
def yX0_putFirst : MethodName := ⟨RX0, "putFirst", "()I"⟩
abbrev cX0_putBehind : ByteArray := prog_1_method_3_code
def yX0_putBehind : MethodName := ⟨RX0, "putBehind", "(I)I"⟩
abbrev cX0_takeOut : ByteArray := prog_1_method_4_code
def yX0_takeOut : MethodName := ⟨RX0, "takeOut", "(I)I"⟩
abbrev cX0_carry : ByteArray := prog_1_method_5_code
def yX0_carry : MethodName := ⟨RX0, "carry", "(II)I"⟩
abbrev cX0_size : ByteArray := prog_1_method_6_code
def yX0_size : MethodName := ⟨RX0, "size", "()I"⟩
abbrev cX0_first : ByteArray := prog_1_method_7_code
def yX0_first : MethodName := ⟨RX0, "first", "()I"⟩
abbrev cX0_next : ByteArray := prog_1_method_8_code
def yX0_next : MethodName := ⟨RX0, "next", "(I)I"⟩
abbrev cX0_previous : ByteArray := prog_1_method_9_code
def yX0_previous : MethodName := ⟨RX0, "previous", "(I)I"⟩
abbrev cX0_has : ByteArray := prog_1_method_10_code
def yX0_has : MethodName := ⟨RX0, "has", "(I)Z"⟩
abbrev cX0_mark : ByteArray := prog_1_method_11_code
def yX0_mark : MethodName := ⟨RX0, "mark", "(I)I"⟩
abbrev cX0_ahead : ByteArray := prog_1_method_12_code
def yX0_ahead : MethodName := ⟨RX0, "ahead", "(I)I"⟩
abbrev cX0_from : ByteArray := prog_1_method_13_code
def yX0_from : MethodName := ⟨RX0, "from", "(I)I"⟩
abbrev cX0_gapBehind : ByteArray := prog_1_method_14_code
def yX0_gapBehind : MethodName := ⟨RX0, "gapBehind", "(I)I"⟩
abbrev cX0_load : ByteArray := prog_1_method_15_code
def yX0_load : MethodName := ⟨RX0, "load", "(II)I"⟩
abbrev cX0_loaded : ByteArray := prog_1_method_16_code
def yX0_loaded : MethodName := ⟨RX0, "loaded", "(I)I"⟩
abbrev cX0_wouldMove : ByteArray := prog_1_method_17_code
def yX0_wouldMove : MethodName := ⟨RX0, "wouldMove", "(I)I"⟩
abbrev cX0_moved : ByteArray := prog_1_method_18_code
def yX0_moved : MethodName := ⟨RX0, "moved", "()I"⟩
abbrev cX0_spread : ByteArray := prog_1_method_19_code
def yX0_spread : MethodName := ⟨RX0, "spread", "(I)I"⟩
abbrev cX0_seat : ByteArray := prog_1_method_20_code
def yX0_seat : MethodName := ⟨RX0, "seat", "(II)I"⟩
abbrev cX0_passDay : ByteArray := prog_1_method_21_code
def yX0_passDay : MethodName := ⟨RX0, "passDay", "()I"⟩
abbrev cX0_at : ByteArray := prog_1_method_22_code
def yX0_at : MethodName := ⟨RX0, "at", "(I)I"⟩
abbrev cX0_read : ByteArray := prog_1_method_23_code
def yX0_read : MethodName := ⟨RX0, "read", "(I)I"⟩
abbrev cX0_daysTo : ByteArray := prog_1_method_24_code
def yX0_daysTo : MethodName := ⟨RX0, "daysTo", "(II)I"⟩
abbrev cX0_requirePlace : ByteArray := prog_1_method_25_code
def yX0_requirePlace : MethodName := ⟨RX0, "requirePlace", "(I)I"⟩
abbrev cX0_requireThatOneMayCome : ByteArray := prog_1_method_26_code
def yX0_requireThatOneMayCome : MethodName := ⟨RX0, "requireThatOneMayCome", "()V"⟩
abbrev cX0_requireLevel : ByteArray := prog_1_method_27_code
def yX0_requireLevel : MethodName := ⟨RX0, "requireLevel", "(I)V"⟩
abbrev cX0_requireReader : ByteArray := prog_1_method_28_code
def yX0_requireReader : MethodName := ⟨RX0, "requireReader", "(I)V"⟩
abbrev cX0_isPlace : ByteArray := prog_1_method_29_code
def yX0_isPlace : MethodName := ⟨RX0, "isPlace", "(I)Z"⟩
abbrev cX0_placeOf : ByteArray := prog_1_method_30_code
def yX0_placeOf : MethodName := ⟨RX0, "placeOf", "(I)I"⟩
abbrev cX0_folderAt : ByteArray := prog_1_method_31_code
def yX0_folderAt : MethodName := ⟨RX0, "folderAt", "(I)I"⟩
abbrev cX0_markAt : ByteArray := prog_1_method_32_code
def yX0_markAt : MethodName := ⟨RX0, "markAt", "(I)I"⟩
abbrev cX0_set : ByteArray := prog_1_method_33_code
def yX0_set : MethodName := ⟨RX0, "set", "(III)V"⟩
abbrev cX0_insertAt : ByteArray := prog_1_method_34_code
def yX0_insertAt : MethodName := ⟨RX0, "insertAt", "(III)V"⟩
abbrev cX0_removeAt : ByteArray := prog_1_method_35_code
def yX0_removeAt : MethodName := ⟨RX0, "removeAt", "(I)V"⟩
abbrev cX0_marksBelow : ByteArray := prog_1_method_36_code
def yX0_marksBelow : MethodName := ⟨RX0, "marksBelow", "(I)I"⟩
abbrev cX0_nextNumber : ByteArray := prog_1_method_37_code
def yX0_nextNumber : MethodName := ⟨RX0, "nextNumber", "()I"⟩
abbrev cX0_putIn : ByteArray := prog_1_method_38_code
def yX0_putIn : MethodName := ⟨RX0, "putIn", "(II)V"⟩
abbrev cX0_hasFreeMark : ByteArray := prog_1_method_39_code
def yX0_hasFreeMark : MethodName := ⟨RX0, "hasFreeMark", "(I)Z"⟩
abbrev cX0_spreadOut : ByteArray := prog_1_method_40_code
def yX0_spreadOut : MethodName := ⟨RX0, "spreadOut", "(II)V"⟩
abbrev cX0_movesByPuttingIn : ByteArray := prog_1_method_41_code
def yX0_movesByPuttingIn : MethodName := ⟨RX0, "movesByPuttingIn", "(I)I"⟩
abbrev cX0_levelToSpread : ByteArray := prog_1_method_42_code
def yX0_levelToSpread : MethodName := ⟨RX0, "levelToSpread", "(I)I"⟩
abbrev cX0_shelfToSpread : ByteArray := prog_1_method_43_code
def yX0_shelfToSpread : MethodName := ⟨RX0, "shelfToSpread", "(II)I"⟩
abbrev cX0_spreadMark : ByteArray := prog_1_method_44_code
def yX0_spreadMark : MethodName := ⟨RX0, "spreadMark", "(IIII)I"⟩
abbrev cX0_countSpread : ByteArray := prog_1_method_45_code
def yX0_countSpread : MethodName := ⟨RX0, "countSpread", "(I)V"⟩
abbrev cX0_shelfSize : ByteArray := prog_1_method_46_code
def yX0_shelfSize : MethodName := ⟨RX0, "shelfSize", "(I)I"⟩
abbrev cX0_shelvesOf : ByteArray := prog_1_method_47_code
def yX0_shelvesOf : MethodName := ⟨RX0, "shelvesOf", "(I)I"⟩
abbrev cX0_firstMark : ByteArray := prog_1_method_48_code
def yX0_firstMark : MethodName := ⟨RX0, "firstMark", "(II)I"⟩
abbrev cX0_foldersOn : ByteArray := prog_1_method_49_code
def yX0_foldersOn : MethodName := ⟨RX0, "foldersOn", "(II)I"⟩
abbrev cX0_isLoaded : ByteArray := prog_1_method_50_code
def yX0_isLoaded : MethodName := ⟨RX0, "isLoaded", "(II)Z"⟩
abbrev cX0_readersAt : ByteArray := prog_1_method_51_code
def yX0_readersAt : MethodName := ⟨RX0, "readersAt", "(I)I"⟩
abbrev cX0_sendReadersOn : ByteArray := prog_1_method_52_code
def yX0_sendReadersOn : MethodName := ⟨RX0, "sendReadersOn", "(II)V"⟩
def RX1 : String := "ShelfMarksModel"
def TX1 : u_T := fun k => match k with
  | 0 => ("ShelfMarksModel", "order", "[I", true)
  | 1 => ("ShelfMarksModel", "size", "I", false)
  | 2 => ("ShelfMarksModel", "marks", "[I", true)
  | 3 => ("ShelfMarksModel", "isIn", "[Z", true)
  | 4 => ("ShelfMarksModel", "came", "I", false)
  | 5 => ("ShelfMarksModel", "moved", "I", false)
  | 6 => ("ShelfMarksModel", "spread", "[I", true)
  | 7 => ("ShelfMarksModel", "at", "[I", true)
  | 8 => ("ShelfMarksModel", "read", "[I", true)
  | _ => ("ShelfMarksModel", "thrown", "I", false)
def tyX1 : Nat → FieldType := fun k => match k with
  | 0 => .array .int
  | 1 => .int
  | 2 => .array .int
  | 3 => .array .boolean
  | 4 => .int
  | 5 => .int
  | 6 => .array .int
  | 7 => .array .int
  | 8 => .array .int
  | _ => .int
abbrev wsX10 : List Cond := u_ws RX1 TX1 10
theorem nmX1 : ∀ a, a < 10 → ∀ b, b < 10 → a ≠ b → (TX1 a).2.1 ≠ (TX1 b).2.1 := by decide +kernel
theorem tyX1_ok : ∀ k, k < 10 → parseFieldDescriptor (TX1 k).2.2.1 = some (tyX1 k) := by decide +kernel
abbrev cX1_init : ByteArray := prog_3_method_1_code
def yX1_init : MethodName := ⟨RX1, "<init>", "()V"⟩
abbrev cX1_thrown : ByteArray := prog_3_method_2_code
def yX1_thrown : MethodName := ⟨RX1, "thrown", "()I"⟩
abbrev cX1_limit : ByteArray := prog_3_method_3_code
def yX1_limit : MethodName := ⟨RX1, "limit", "(I)I"⟩
abbrev cX1_known : ByteArray := prog_3_method_4_code
def yX1_known : MethodName := ⟨RX1, "known", "(I)Z"⟩
abbrev cX1_place : ByteArray := prog_3_method_5_code
def yX1_place : MethodName := ⟨RX1, "place", "(I)I"⟩
abbrev cX1_between : ByteArray := prog_3_method_6_code
def yX1_between : MethodName := ⟨RX1, "between", "(II)I"⟩
abbrev cX1_loadOf : ByteArray := prog_3_method_7_code
def yX1_loadOf : MethodName := ⟨RX1, "loadOf", "(II)I"⟩
abbrev cX1_markAhead : ByteArray := prog_3_method_8_code
def yX1_markAhead : MethodName := ⟨RX1, "markAhead", "(I)I"⟩
abbrev cX1_markBehind : ByteArray := prog_3_method_9_code
def yX1_markBehind : MethodName := ⟨RX1, "markBehind", "(I)I"⟩
abbrev cX1_levelFor : ByteArray := prog_3_method_10_code
def yX1_levelFor : MethodName := ⟨RX1, "levelFor", "(I)I"⟩
abbrev cX1_puts : ByteArray := prog_3_method_11_code
def yX1_puts : MethodName := ⟨RX1, "puts", "(II)V"⟩
abbrev cX1_levelWithout : ByteArray := prog_3_method_12_code
def yX1_levelWithout : MethodName := ⟨RX1, "levelWithout", "(II)I"⟩
abbrev cX1_loadWithout : ByteArray := prog_3_method_13_code
def yX1_loadWithout : MethodName := ⟨RX1, "loadWithout", "(III)I"⟩
abbrev cX1_spreads : ByteArray := prog_3_method_14_code
def yX1_spreads : MethodName := ⟨RX1, "spreads", "(III)V"⟩
abbrev cX1_comes : ByteArray := prog_3_method_15_code
def yX1_comes : MethodName := ⟨RX1, "comes", "(I)I"⟩
abbrev cX1_isFull : ByteArray := prog_3_method_16_code
def yX1_isFull : MethodName := ⟨RX1, "isFull", "()Z"⟩
abbrev cX1_putFirst : ByteArray := prog_3_method_17_code
def yX1_putFirst : MethodName := ⟨RX1, "putFirst", "()I"⟩
abbrev cX1_putBehind : ByteArray := prog_3_method_18_code
def yX1_putBehind : MethodName := ⟨RX1, "putBehind", "(I)I"⟩
abbrev cX1_lifts : ByteArray := prog_3_method_19_code
def yX1_lifts : MethodName := ⟨RX1, "lifts", "(I)V"⟩
abbrev cX1_takeOut : ByteArray := prog_3_method_20_code
def yX1_takeOut : MethodName := ⟨RX1, "takeOut", "(I)I"⟩
abbrev cX1_carry : ByteArray := prog_3_method_21_code
def yX1_carry : MethodName := ⟨RX1, "carry", "(II)I"⟩
abbrev cX1_size : ByteArray := prog_3_method_22_code
def yX1_size : MethodName := ⟨RX1, "size", "()I"⟩
abbrev cX1_first : ByteArray := prog_3_method_23_code
def yX1_first : MethodName := ⟨RX1, "first", "()I"⟩
abbrev cX1_behind : ByteArray := prog_3_method_24_code
def yX1_behind : MethodName := ⟨RX1, "behind", "(I)I"⟩
abbrev cX1_next : ByteArray := prog_3_method_25_code
def yX1_next : MethodName := ⟨RX1, "next", "(I)I"⟩
abbrev cX1_previous : ByteArray := prog_3_method_26_code
def yX1_previous : MethodName := ⟨RX1, "previous", "(I)I"⟩
abbrev cX1_has : ByteArray := prog_3_method_27_code
def yX1_has : MethodName := ⟨RX1, "has", "(I)Z"⟩
abbrev cX1_mark : ByteArray := prog_3_method_28_code
def yX1_mark : MethodName := ⟨RX1, "mark", "(I)I"⟩
abbrev cX1_ahead : ByteArray := prog_3_method_29_code
def yX1_ahead : MethodName := ⟨RX1, "ahead", "(I)I"⟩
abbrev cX1_from : ByteArray := prog_3_method_30_code
def yX1_from : MethodName := ⟨RX1, "from", "(I)I"⟩
abbrev cX1_gapBehind : ByteArray := prog_3_method_31_code
def yX1_gapBehind : MethodName := ⟨RX1, "gapBehind", "(I)I"⟩
abbrev cX1_isLevel : ByteArray := prog_3_method_32_code
def yX1_isLevel : MethodName := ⟨RX1, "isLevel", "(I)Z"⟩
abbrev cX1_load : ByteArray := prog_3_method_33_code
def yX1_load : MethodName := ⟨RX1, "load", "(II)I"⟩
abbrev cX1_loaded : ByteArray := prog_3_method_34_code
def yX1_loaded : MethodName := ⟨RX1, "loaded", "(I)I"⟩
abbrev cX1_wouldMove : ByteArray := prog_3_method_35_code
def yX1_wouldMove : MethodName := ⟨RX1, "wouldMove", "(I)I"⟩
abbrev cX1_moved : ByteArray := prog_3_method_36_code
def yX1_moved : MethodName := ⟨RX1, "moved", "()I"⟩
abbrev cX1_spread : ByteArray := prog_3_method_37_code
def yX1_spread : MethodName := ⟨RX1, "spread", "(I)I"⟩
abbrev cX1_isReader : ByteArray := prog_3_method_38_code
def yX1_isReader : MethodName := ⟨RX1, "isReader", "(I)Z"⟩
abbrev cX1_seat : ByteArray := prog_3_method_39_code
def yX1_seat : MethodName := ⟨RX1, "seat", "(II)I"⟩
abbrev cX1_passDay : ByteArray := prog_3_method_40_code
def yX1_passDay : MethodName := ⟨RX1, "passDay", "()I"⟩
abbrev cX1_at : ByteArray := prog_3_method_41_code
def yX1_at : MethodName := ⟨RX1, "at", "(I)I"⟩
abbrev cX1_read : ByteArray := prog_3_method_42_code
def yX1_read : MethodName := ⟨RX1, "read", "(I)I"⟩
abbrev cX1_daysTo : ByteArray := prog_3_method_43_code
def yX1_daysTo : MethodName := ⟨RX1, "daysTo", "(II)I"⟩
def RJ9 : String := "java/lang/Math"
def TJ9 : u_T := fun k => match k with
  | _ => ("", "", "", false)
def tyJ9 : Nat → FieldType := fun k => match k with
  | _ => .int
abbrev wsJ90 : List Cond := u_ws RJ9 TJ9 0
theorem nmJ9 : ∀ a, a < 0 → ∀ b, b < 0 → a ≠ b → (TJ9 a).2.1 ≠ (TJ9 b).2.1 := by decide +kernel
theorem tyJ9_ok : ∀ k, k < 0 → parseFieldDescriptor (TJ9 k).2.2.1 = some (tyJ9 k) := by decide +kernel
abbrev cJ9_max_7cf53 : ByteArray := prog_8_method_65_code
def yJ9_max_7cf53 : MethodName := ⟨RJ9, "max", "(II)I"⟩
def RJ0 : String := "java/lang/String"
def TJ0 : u_T := fun k => match k with
  | _ => ("", "", "", false)
def tyJ0 : Nat → FieldType := fun k => match k with
  | _ => .int
abbrev wsJ00 : List Cond := u_ws RJ0 TJ0 0
theorem nmJ0 : ∀ a, a < 0 → ∀ b, b < 0 → a ≠ b → (TJ0 a).2.1 ≠ (TJ0 b).2.1 := by decide +kernel
theorem tyJ0_ok : ∀ k, k < 0 → parseFieldDescriptor (TJ0 k).2.2.1 = some (tyJ0 k) := by decide +kernel
def RL : String := "ShelfMarksLaw"
abbrev cL_putFirst : ByteArray := method_3_code
def yL_putFirst : MethodName := ⟨RL, "putFirst", "(LShelfMarks;[J)I"⟩
abbrev cL_putBehind : ByteArray := method_4_code
def yL_putBehind : MethodName := ⟨RL, "putBehind", "(LShelfMarks;I[J)I"⟩
abbrev cL_takeOut : ByteArray := method_5_code
def yL_takeOut : MethodName := ⟨RL, "takeOut", "(LShelfMarks;I[J)I"⟩
abbrev cL_carry : ByteArray := method_6_code
def yL_carry : MethodName := ⟨RL, "carry", "(LShelfMarks;II[J)I"⟩
abbrev cL_next : ByteArray := method_7_code
def yL_next : MethodName := ⟨RL, "next", "(LShelfMarks;I[J)I"⟩
abbrev cL_previous : ByteArray := method_8_code
def yL_previous : MethodName := ⟨RL, "previous", "(LShelfMarks;I[J)I"⟩
abbrev cL_mark : ByteArray := method_9_code
def yL_mark : MethodName := ⟨RL, "mark", "(LShelfMarks;I[J)I"⟩
abbrev cL_ahead : ByteArray := method_10_code
def yL_ahead : MethodName := ⟨RL, "ahead", "(LShelfMarks;I[J)I"⟩
abbrev cL_gapBehind : ByteArray := method_11_code
def yL_gapBehind : MethodName := ⟨RL, "gapBehind", "(LShelfMarks;I[J)I"⟩
abbrev cL_load : ByteArray := method_12_code
def yL_load : MethodName := ⟨RL, "load", "(LShelfMarks;II[J)I"⟩
abbrev cL_loaded : ByteArray := method_13_code
def yL_loaded : MethodName := ⟨RL, "loaded", "(LShelfMarks;I[J)I"⟩
abbrev cL_wouldMove : ByteArray := method_14_code
def yL_wouldMove : MethodName := ⟨RL, "wouldMove", "(LShelfMarks;I[J)I"⟩
abbrev cL_spread : ByteArray := method_15_code
def yL_spread : MethodName := ⟨RL, "spread", "(LShelfMarks;I[J)I"⟩
abbrev cL_seat : ByteArray := method_16_code
def yL_seat : MethodName := ⟨RL, "seat", "(LShelfMarks;II[J)I"⟩
abbrev cL_at : ByteArray := method_17_code
def yL_at : MethodName := ⟨RL, "at", "(LShelfMarks;I[J)I"⟩
abbrev cL_read : ByteArray := method_18_code
def yL_read : MethodName := ⟨RL, "read", "(LShelfMarks;I[J)I"⟩
abbrev cL_daysTo : ByteArray := method_19_code
def yL_daysTo : MethodName := ⟨RL, "daysTo", "(LShelfMarks;II[J)I"⟩
abbrev cL_law : ByteArray := code
def yL_law : MethodName := ⟨RL, "law", "([I)Z"⟩
def wsX0_init : List Cond := .code yX0_init cX0_init 2 none :: ([.methodLink RX0 1 objectInit, .instanceMethod objectInit, .code objectInit ⟨#[0xb1]⟩ 1 none, .arrayClass .int, .fieldLink RX0 9 "ShelfMarks" "folders" "[I", .fieldLink RX0 13 "ShelfMarks" "marks" "[I", .fieldLink RX0 16 "ShelfMarks" "LOADED_FROM" "[I", .fieldLink RX0 19 "ShelfMarks" "spreads" "[I", .fieldLink RX0 22 "ShelfMarks" "readerFolders" "[I", .fieldLink RX0 25 "ShelfMarks" "readerCounts" "[I"] ++ wsX00)
def wsX0_requireThatOneMayCome : List Cond := .code yX0_requireThatOneMayCome cX0_requireThatOneMayCome 1 none :: ([.classLink RX0 109 "java/lang/IllegalStateException", .initialized "java/lang/IllegalStateException", .fieldLink RX0 106 "ShelfMarks" "came" "I", .fieldLink RX0 53 "ShelfMarks" "count" "I"] ++ wsX00 ++ (vx_atS RX0 113 "java/lang/IllegalStateException" ["java/lang/RuntimeException", "java/lang/Exception"]).filter goodWord)
def wsX0_nextNumber : List Cond := .code yX0_nextNumber cX0_nextNumber 2 (some .int) :: ([.fieldLink RX0 106 "ShelfMarks" "came" "I"] ++ wsX00)
def wsX0_isPlace : List Cond := .code yX0_isPlace cX0_isPlace 2 (some .boolean) :: ([.fieldLink RX0 53 "ShelfMarks" "count" "I", .fieldLink RX0 9 "ShelfMarks" "folders" "[I", .fieldLink RX0 13 "ShelfMarks" "marks" "[I"] ++ wsX00)
def wsX0_markAt : List Cond := .code yX0_markAt cX0_markAt 2 (some .int) :: ([.fieldLink RX0 13 "ShelfMarks" "marks" "[I", .methodLink RX0 118 yX0_isPlace, .instanceMethod yX0_isPlace, .selects RX0 yX0_isPlace yX0_isPlace, .initialized RX0, .code yX0_isPlace cX0_isPlace 2 (some .boolean), .fieldLink RX0 53 "ShelfMarks" "count" "I", .fieldLink RX0 9 "ShelfMarks" "folders" "[I"] ++ wsX00)
def wsX0_hasFreeMark : List Cond := .code yX0_hasFreeMark cX0_hasFreeMark 2 (some .boolean) :: ([.methodLink RX0 67 yX0_markAt, .instanceMethod yX0_markAt, .selects RX0 yX0_markAt yX0_markAt, .initialized RX0, .code yX0_markAt cX0_markAt 2 (some .int), .fieldLink RX0 13 "ShelfMarks" "marks" "[I", .methodLink RX0 118 yX0_isPlace, .instanceMethod yX0_isPlace, .selects RX0 yX0_isPlace yX0_isPlace, .code yX0_isPlace cX0_isPlace 2 (some .boolean), .fieldLink RX0 53 "ShelfMarks" "count" "I", .fieldLink RX0 9 "ShelfMarks" "folders" "[I"] ++ wsX00)
def wsX0_shelfToSpread : List Cond := .code yX0_shelfToSpread cX0_shelfToSpread 3 (some .int) :: ([.methodLink RX0 151 Lib.Math.max.name, .static Lib.Math.max.name, .initialized "java/lang/Math", .code Lib.Math.max.name Lib.Math.max.code 2 (some .int), .methodLink RX0 67 yX0_markAt, .instanceMethod yX0_markAt, .selects RX0 yX0_markAt yX0_markAt, .initialized RX0, .code yX0_markAt cX0_markAt 2 (some .int), .fieldLink RX0 13 "ShelfMarks" "marks" "[I", .methodLink RX0 118 yX0_isPlace, .instanceMethod yX0_isPlace, .selects RX0 yX0_isPlace yX0_isPlace, .code yX0_isPlace cX0_isPlace 2 (some .boolean), .fieldLink RX0 53 "ShelfMarks" "count" "I", .fieldLink RX0 9 "ShelfMarks" "folders" "[I"] ++ wsX00)
def wsX0_firstMark : List Cond := .code yX0_firstMark cX0_firstMark 2 (some .int) :: ([])
def wsX0_marksBelow : List Cond := .code yX0_marksBelow cX0_marksBelow 3 (some .int) :: ([.fieldLink RX0 53 "ShelfMarks" "count" "I", .fieldLink RX0 13 "ShelfMarks" "marks" "[I"] ++ wsX00)
def wsX0_foldersOn : List Cond := .code yX0_foldersOn cX0_foldersOn 3 (some .int) :: ([.methodLink RX0 141 yX0_firstMark, .static yX0_firstMark, .initialized RX0, .code yX0_firstMark cX0_firstMark 2 (some .int), .methodLink RX0 70 yX0_marksBelow, .instanceMethod yX0_marksBelow, .selects RX0 yX0_marksBelow yX0_marksBelow, .code yX0_marksBelow cX0_marksBelow 3 (some .int), .fieldLink RX0 53 "ShelfMarks" "count" "I", .fieldLink RX0 13 "ShelfMarks" "marks" "[I"] ++ wsX00)
def wsX0_isLoaded : List Cond := .code yX0_isLoaded cX0_isLoaded 3 (some .boolean) :: ([.fieldLink RX0 16 "ShelfMarks" "LOADED_FROM" "[I", .methodLink RX0 84 yX0_foldersOn, .instanceMethod yX0_foldersOn, .selects RX0 yX0_foldersOn yX0_foldersOn, .initialized RX0, .code yX0_foldersOn cX0_foldersOn 3 (some .int), .methodLink RX0 141 yX0_firstMark, .static yX0_firstMark, .code yX0_firstMark cX0_firstMark 2 (some .int), .methodLink RX0 70 yX0_marksBelow, .instanceMethod yX0_marksBelow, .selects RX0 yX0_marksBelow yX0_marksBelow, .code yX0_marksBelow cX0_marksBelow 3 (some .int), .fieldLink RX0 53 "ShelfMarks" "count" "I", .fieldLink RX0 13 "ShelfMarks" "marks" "[I"] ++ wsX00)
def wsX0_levelToSpread_r1 : List Cond := [Cond.fieldLink RX0 16 "ShelfMarks" "LOADED_FROM" "[I", Cond.methodLink RX0 138 yX0_shelfToSpread, Cond.instanceMethod yX0_shelfToSpread, Cond.selects RX0 yX0_shelfToSpread yX0_shelfToSpread, Cond.initialized RX0, Cond.code yX0_shelfToSpread cX0_shelfToSpread 3 (some .int), Cond.methodLink RX0 151 Lib.Math.max.name, Cond.static Lib.Math.max.name, Cond.initialized "java/lang/Math", Cond.code Lib.Math.max.name Lib.Math.max.code 2 (some .int), Cond.methodLink RX0 67 yX0_markAt, Cond.instanceMethod yX0_markAt, Cond.selects RX0 yX0_markAt yX0_markAt, Cond.code yX0_markAt cX0_markAt 2 (some .int), Cond.fieldLink RX0 13 "ShelfMarks" "marks" "[I", Cond.methodLink RX0 118 yX0_isPlace, Cond.instanceMethod yX0_isPlace, Cond.selects RX0 yX0_isPlace yX0_isPlace, Cond.code yX0_isPlace cX0_isPlace 2 (some .boolean), Cond.fieldLink RX0 53 "ShelfMarks" "count" "I", Cond.fieldLink RX0 9 "ShelfMarks" "folders" "[I", Cond.methodLink RX0 88 yX0_isLoaded, Cond.instanceMethod yX0_isLoaded, Cond.selects RX0 yX0_isLoaded yX0_isLoaded]
def wsX0_levelToSpread_r2 : List Cond := [Cond.code yX0_isLoaded cX0_isLoaded 3 (some .boolean), Cond.methodLink RX0 84 yX0_foldersOn, Cond.instanceMethod yX0_foldersOn, Cond.selects RX0 yX0_foldersOn yX0_foldersOn, Cond.code yX0_foldersOn cX0_foldersOn 3 (some .int), Cond.methodLink RX0 141 yX0_firstMark, Cond.static yX0_firstMark, Cond.code yX0_firstMark cX0_firstMark 2 (some .int), Cond.methodLink RX0 70 yX0_marksBelow, Cond.instanceMethod yX0_marksBelow, Cond.selects RX0 yX0_marksBelow yX0_marksBelow, Cond.code yX0_marksBelow cX0_marksBelow 3 (some .int)]
def wsX0_levelToSpread : List Cond := .code yX0_levelToSpread cX0_levelToSpread 4 (some .int) :: ((wsX0_levelToSpread_r1 ++ wsX0_levelToSpread_r2) ++ wsX00)
def wsX0_shelfSize : List Cond := .code yX0_shelfSize cX0_shelfSize 1 (some .int) :: ([])
def wsX0_spreadMark : List Cond := .code yX0_spreadMark cX0_spreadMark 5 (some .int) :: ([.methodLink RX0 156 yX0_shelfSize, .static yX0_shelfSize, .initialized RX0, .code yX0_shelfSize cX0_shelfSize 1 (some .int), .methodLink RX0 141 yX0_firstMark, .static yX0_firstMark, .code yX0_firstMark cX0_firstMark 2 (some .int)])
def wsX0_movesByPuttingIn_r1 : List Cond := [Cond.methodLink RX0 126 yX0_hasFreeMark, Cond.instanceMethod yX0_hasFreeMark, Cond.selects RX0 yX0_hasFreeMark yX0_hasFreeMark, Cond.initialized RX0, Cond.code yX0_hasFreeMark cX0_hasFreeMark 2 (some .boolean), Cond.methodLink RX0 67 yX0_markAt, Cond.instanceMethod yX0_markAt, Cond.selects RX0 yX0_markAt yX0_markAt, Cond.code yX0_markAt cX0_markAt 2 (some .int), Cond.fieldLink RX0 13 "ShelfMarks" "marks" "[I", Cond.methodLink RX0 118 yX0_isPlace, Cond.instanceMethod yX0_isPlace, Cond.selects RX0 yX0_isPlace yX0_isPlace, Cond.code yX0_isPlace cX0_isPlace 2 (some .boolean), Cond.fieldLink RX0 53 "ShelfMarks" "count" "I", Cond.fieldLink RX0 9 "ShelfMarks" "folders" "[I", Cond.methodLink RX0 135 yX0_levelToSpread, Cond.instanceMethod yX0_levelToSpread, Cond.selects RX0 yX0_levelToSpread yX0_levelToSpread, Cond.code yX0_levelToSpread cX0_levelToSpread 4 (some .int), Cond.fieldLink RX0 16 "ShelfMarks" "LOADED_FROM" "[I", Cond.methodLink RX0 138 yX0_shelfToSpread, Cond.instanceMethod yX0_shelfToSpread, Cond.selects RX0 yX0_shelfToSpread yX0_shelfToSpread]
def wsX0_movesByPuttingIn_r2 : List Cond := [Cond.code yX0_shelfToSpread cX0_shelfToSpread 3 (some .int), Cond.methodLink RX0 151 Lib.Math.max.name, Cond.static Lib.Math.max.name, Cond.initialized "java/lang/Math", Cond.code Lib.Math.max.name Lib.Math.max.code 2 (some .int), Cond.methodLink RX0 88 yX0_isLoaded, Cond.instanceMethod yX0_isLoaded, Cond.selects RX0 yX0_isLoaded yX0_isLoaded, Cond.code yX0_isLoaded cX0_isLoaded 3 (some .boolean), Cond.methodLink RX0 84 yX0_foldersOn, Cond.instanceMethod yX0_foldersOn, Cond.selects RX0 yX0_foldersOn yX0_foldersOn, Cond.code yX0_foldersOn cX0_foldersOn 3 (some .int), Cond.methodLink RX0 141 yX0_firstMark, Cond.static yX0_firstMark, Cond.code yX0_firstMark cX0_firstMark 2 (some .int), Cond.methodLink RX0 70 yX0_marksBelow, Cond.instanceMethod yX0_marksBelow, Cond.selects RX0 yX0_marksBelow yX0_marksBelow, Cond.code yX0_marksBelow cX0_marksBelow 3 (some .int), Cond.methodLink RX0 144 yX0_spreadMark, Cond.static yX0_spreadMark, Cond.code yX0_spreadMark cX0_spreadMark 5 (some .int), Cond.methodLink RX0 156 yX0_shelfSize]
def wsX0_movesByPuttingIn_r3 : List Cond := [Cond.static yX0_shelfSize, Cond.code yX0_shelfSize cX0_shelfSize 1 (some .int)]
def wsX0_movesByPuttingIn : List Cond := .code yX0_movesByPuttingIn cX0_movesByPuttingIn 9 (some .int) :: ((wsX0_movesByPuttingIn_r1 ++ (wsX0_movesByPuttingIn_r2 ++ wsX0_movesByPuttingIn_r3)) ++ wsX00)
def wsX0_folderAt : List Cond := .code yX0_folderAt cX0_folderAt 2 (some .int) :: ([.fieldLink RX0 9 "ShelfMarks" "folders" "[I", .methodLink RX0 118 yX0_isPlace, .instanceMethod yX0_isPlace, .selects RX0 yX0_isPlace yX0_isPlace, .initialized RX0, .code yX0_isPlace cX0_isPlace 2 (some .boolean), .fieldLink RX0 53 "ShelfMarks" "count" "I", .fieldLink RX0 13 "ShelfMarks" "marks" "[I"] ++ wsX00)
def wsX0_set : List Cond := .code yX0_set cX0_set 4 none :: ([.fieldLink RX0 9 "ShelfMarks" "folders" "[I", .fieldLink RX0 13 "ShelfMarks" "marks" "[I", .methodLink RX0 118 yX0_isPlace, .instanceMethod yX0_isPlace, .selects RX0 yX0_isPlace yX0_isPlace, .initialized RX0, .code yX0_isPlace cX0_isPlace 2 (some .boolean), .fieldLink RX0 53 "ShelfMarks" "count" "I"] ++ wsX00)
def wsX0_insertAt : List Cond := .code yX0_insertAt cX0_insertAt 5 none :: ([.fieldLink RX0 53 "ShelfMarks" "count" "I", .methodLink RX0 43 yX0_folderAt, .instanceMethod yX0_folderAt, .selects RX0 yX0_folderAt yX0_folderAt, .initialized RX0, .code yX0_folderAt cX0_folderAt 2 (some .int), .fieldLink RX0 9 "ShelfMarks" "folders" "[I", .methodLink RX0 118 yX0_isPlace, .instanceMethod yX0_isPlace, .selects RX0 yX0_isPlace yX0_isPlace, .code yX0_isPlace cX0_isPlace 2 (some .boolean), .fieldLink RX0 13 "ShelfMarks" "marks" "[I", .methodLink RX0 67 yX0_markAt, .instanceMethod yX0_markAt, .selects RX0 yX0_markAt yX0_markAt, .code yX0_markAt cX0_markAt 2 (some .int), .methodLink RX0 122 yX0_set, .instanceMethod yX0_set, .selects RX0 yX0_set yX0_set, .code yX0_set cX0_set 4 none] ++ wsX00)
def wsX0_countSpread : List Cond := .code yX0_countSpread cX0_countSpread 2 none :: ([.fieldLink RX0 19 "ShelfMarks" "spreads" "[I"] ++ wsX00)
def wsX0_spreadOut_r1 : List Cond := [Cond.methodLink RX0 135 yX0_levelToSpread, Cond.instanceMethod yX0_levelToSpread, Cond.selects RX0 yX0_levelToSpread yX0_levelToSpread, Cond.initialized RX0, Cond.code yX0_levelToSpread cX0_levelToSpread 4 (some .int), Cond.fieldLink RX0 16 "ShelfMarks" "LOADED_FROM" "[I", Cond.methodLink RX0 138 yX0_shelfToSpread, Cond.instanceMethod yX0_shelfToSpread, Cond.selects RX0 yX0_shelfToSpread yX0_shelfToSpread, Cond.code yX0_shelfToSpread cX0_shelfToSpread 3 (some .int), Cond.methodLink RX0 151 Lib.Math.max.name, Cond.static Lib.Math.max.name, Cond.initialized "java/lang/Math", Cond.code Lib.Math.max.name Lib.Math.max.code 2 (some .int), Cond.methodLink RX0 67 yX0_markAt, Cond.instanceMethod yX0_markAt, Cond.selects RX0 yX0_markAt yX0_markAt, Cond.code yX0_markAt cX0_markAt 2 (some .int), Cond.fieldLink RX0 13 "ShelfMarks" "marks" "[I", Cond.methodLink RX0 118 yX0_isPlace, Cond.instanceMethod yX0_isPlace, Cond.selects RX0 yX0_isPlace yX0_isPlace, Cond.code yX0_isPlace cX0_isPlace 2 (some .boolean), Cond.fieldLink RX0 53 "ShelfMarks" "count" "I"]
def wsX0_spreadOut_r2 : List Cond := [Cond.fieldLink RX0 9 "ShelfMarks" "folders" "[I", Cond.methodLink RX0 88 yX0_isLoaded, Cond.instanceMethod yX0_isLoaded, Cond.selects RX0 yX0_isLoaded yX0_isLoaded, Cond.code yX0_isLoaded cX0_isLoaded 3 (some .boolean), Cond.methodLink RX0 84 yX0_foldersOn, Cond.instanceMethod yX0_foldersOn, Cond.selects RX0 yX0_foldersOn yX0_foldersOn, Cond.code yX0_foldersOn cX0_foldersOn 3 (some .int), Cond.methodLink RX0 141 yX0_firstMark, Cond.static yX0_firstMark, Cond.code yX0_firstMark cX0_firstMark 2 (some .int), Cond.methodLink RX0 70 yX0_marksBelow, Cond.instanceMethod yX0_marksBelow, Cond.selects RX0 yX0_marksBelow yX0_marksBelow, Cond.code yX0_marksBelow cX0_marksBelow 3 (some .int), Cond.methodLink RX0 129 yX0_insertAt, Cond.instanceMethod yX0_insertAt, Cond.selects RX0 yX0_insertAt yX0_insertAt, Cond.code yX0_insertAt cX0_insertAt 5 none, Cond.methodLink RX0 43 yX0_folderAt, Cond.instanceMethod yX0_folderAt, Cond.selects RX0 yX0_folderAt yX0_folderAt, Cond.code yX0_folderAt cX0_folderAt 2 (some .int)]
def wsX0_spreadOut_r3 : List Cond := [Cond.methodLink RX0 122 yX0_set, Cond.instanceMethod yX0_set, Cond.selects RX0 yX0_set yX0_set, Cond.code yX0_set cX0_set 4 none, Cond.methodLink RX0 144 yX0_spreadMark, Cond.static yX0_spreadMark, Cond.code yX0_spreadMark cX0_spreadMark 5 (some .int), Cond.methodLink RX0 156 yX0_shelfSize, Cond.static yX0_shelfSize, Cond.code yX0_shelfSize cX0_shelfSize 1 (some .int), Cond.methodLink RX0 148 yX0_countSpread, Cond.instanceMethod yX0_countSpread, Cond.selects RX0 yX0_countSpread yX0_countSpread, Cond.code yX0_countSpread cX0_countSpread 2 none, Cond.fieldLink RX0 19 "ShelfMarks" "spreads" "[I"]
def wsX0_spreadOut : List Cond := .code yX0_spreadOut cX0_spreadOut 8 none :: ((wsX0_spreadOut_r1 ++ (wsX0_spreadOut_r2 ++ wsX0_spreadOut_r3)) ++ wsX00)
def wsX0_putIn_r1 : List Cond := [Cond.fieldLink RX0 95 "ShelfMarks" "moves" "I", Cond.methodLink RX0 92 yX0_movesByPuttingIn, Cond.instanceMethod yX0_movesByPuttingIn, Cond.selects RX0 yX0_movesByPuttingIn yX0_movesByPuttingIn, Cond.initialized RX0, Cond.code yX0_movesByPuttingIn cX0_movesByPuttingIn 9 (some .int), Cond.methodLink RX0 126 yX0_hasFreeMark, Cond.instanceMethod yX0_hasFreeMark, Cond.selects RX0 yX0_hasFreeMark yX0_hasFreeMark, Cond.code yX0_hasFreeMark cX0_hasFreeMark 2 (some .boolean), Cond.methodLink RX0 67 yX0_markAt, Cond.instanceMethod yX0_markAt, Cond.selects RX0 yX0_markAt yX0_markAt, Cond.code yX0_markAt cX0_markAt 2 (some .int), Cond.fieldLink RX0 13 "ShelfMarks" "marks" "[I", Cond.methodLink RX0 118 yX0_isPlace, Cond.instanceMethod yX0_isPlace, Cond.selects RX0 yX0_isPlace yX0_isPlace, Cond.code yX0_isPlace cX0_isPlace 2 (some .boolean), Cond.fieldLink RX0 53 "ShelfMarks" "count" "I", Cond.fieldLink RX0 9 "ShelfMarks" "folders" "[I", Cond.methodLink RX0 135 yX0_levelToSpread, Cond.instanceMethod yX0_levelToSpread, Cond.selects RX0 yX0_levelToSpread yX0_levelToSpread]
def wsX0_putIn_r2 : List Cond := [Cond.code yX0_levelToSpread cX0_levelToSpread 4 (some .int), Cond.fieldLink RX0 16 "ShelfMarks" "LOADED_FROM" "[I", Cond.methodLink RX0 138 yX0_shelfToSpread, Cond.instanceMethod yX0_shelfToSpread, Cond.selects RX0 yX0_shelfToSpread yX0_shelfToSpread, Cond.code yX0_shelfToSpread cX0_shelfToSpread 3 (some .int), Cond.methodLink RX0 151 Lib.Math.max.name, Cond.static Lib.Math.max.name, Cond.initialized "java/lang/Math", Cond.code Lib.Math.max.name Lib.Math.max.code 2 (some .int), Cond.methodLink RX0 88 yX0_isLoaded, Cond.instanceMethod yX0_isLoaded, Cond.selects RX0 yX0_isLoaded yX0_isLoaded, Cond.code yX0_isLoaded cX0_isLoaded 3 (some .boolean), Cond.methodLink RX0 84 yX0_foldersOn, Cond.instanceMethod yX0_foldersOn, Cond.selects RX0 yX0_foldersOn yX0_foldersOn, Cond.code yX0_foldersOn cX0_foldersOn 3 (some .int), Cond.methodLink RX0 141 yX0_firstMark, Cond.static yX0_firstMark, Cond.code yX0_firstMark cX0_firstMark 2 (some .int), Cond.methodLink RX0 70 yX0_marksBelow, Cond.instanceMethod yX0_marksBelow, Cond.selects RX0 yX0_marksBelow yX0_marksBelow]
def wsX0_putIn_r3 : List Cond := [Cond.code yX0_marksBelow cX0_marksBelow 3 (some .int), Cond.methodLink RX0 144 yX0_spreadMark, Cond.static yX0_spreadMark, Cond.code yX0_spreadMark cX0_spreadMark 5 (some .int), Cond.methodLink RX0 156 yX0_shelfSize, Cond.static yX0_shelfSize, Cond.code yX0_shelfSize cX0_shelfSize 1 (some .int), Cond.methodLink RX0 129 yX0_insertAt, Cond.instanceMethod yX0_insertAt, Cond.selects RX0 yX0_insertAt yX0_insertAt, Cond.code yX0_insertAt cX0_insertAt 5 none, Cond.methodLink RX0 43 yX0_folderAt, Cond.instanceMethod yX0_folderAt, Cond.selects RX0 yX0_folderAt yX0_folderAt, Cond.code yX0_folderAt cX0_folderAt 2 (some .int), Cond.methodLink RX0 122 yX0_set, Cond.instanceMethod yX0_set, Cond.selects RX0 yX0_set yX0_set, Cond.code yX0_set cX0_set 4 none, Cond.methodLink RX0 132 yX0_spreadOut, Cond.instanceMethod yX0_spreadOut, Cond.selects RX0 yX0_spreadOut yX0_spreadOut, Cond.code yX0_spreadOut cX0_spreadOut 8 none, Cond.methodLink RX0 148 yX0_countSpread]
def wsX0_putIn_r4 : List Cond := [Cond.instanceMethod yX0_countSpread, Cond.selects RX0 yX0_countSpread yX0_countSpread, Cond.code yX0_countSpread cX0_countSpread 2 none, Cond.fieldLink RX0 19 "ShelfMarks" "spreads" "[I"]
def wsX0_putIn : List Cond := .code yX0_putIn cX0_putIn 3 none :: ((wsX0_putIn_r1 ++ (wsX0_putIn_r2 ++ (wsX0_putIn_r3 ++ wsX0_putIn_r4))) ++ wsX00)
def wsX0_putFirst_r1 : List Cond := [Cond.methodLink RX0 28 yX0_requireThatOneMayCome, Cond.instanceMethod yX0_requireThatOneMayCome, Cond.selects RX0 yX0_requireThatOneMayCome yX0_requireThatOneMayCome, Cond.initialized RX0, Cond.code yX0_requireThatOneMayCome cX0_requireThatOneMayCome 1 none, Cond.classLink RX0 109 "java/lang/IllegalStateException", Cond.initialized "java/lang/IllegalStateException", Cond.fieldLink RX0 106 "ShelfMarks" "came" "I", Cond.fieldLink RX0 53 "ShelfMarks" "count" "I", Cond.methodLink RX0 31 yX0_nextNumber, Cond.instanceMethod yX0_nextNumber, Cond.selects RX0 yX0_nextNumber yX0_nextNumber, Cond.code yX0_nextNumber cX0_nextNumber 2 (some .int), Cond.methodLink RX0 35 yX0_putIn, Cond.instanceMethod yX0_putIn, Cond.selects RX0 yX0_putIn yX0_putIn, Cond.code yX0_putIn cX0_putIn 3 none, Cond.fieldLink RX0 95 "ShelfMarks" "moves" "I", Cond.methodLink RX0 92 yX0_movesByPuttingIn, Cond.instanceMethod yX0_movesByPuttingIn, Cond.selects RX0 yX0_movesByPuttingIn yX0_movesByPuttingIn, Cond.code yX0_movesByPuttingIn cX0_movesByPuttingIn 9 (some .int), Cond.methodLink RX0 126 yX0_hasFreeMark, Cond.instanceMethod yX0_hasFreeMark]
def wsX0_putFirst_r2 : List Cond := [Cond.selects RX0 yX0_hasFreeMark yX0_hasFreeMark, Cond.code yX0_hasFreeMark cX0_hasFreeMark 2 (some .boolean), Cond.methodLink RX0 67 yX0_markAt, Cond.instanceMethod yX0_markAt, Cond.selects RX0 yX0_markAt yX0_markAt, Cond.code yX0_markAt cX0_markAt 2 (some .int), Cond.fieldLink RX0 13 "ShelfMarks" "marks" "[I", Cond.methodLink RX0 118 yX0_isPlace, Cond.instanceMethod yX0_isPlace, Cond.selects RX0 yX0_isPlace yX0_isPlace, Cond.code yX0_isPlace cX0_isPlace 2 (some .boolean), Cond.fieldLink RX0 9 "ShelfMarks" "folders" "[I", Cond.methodLink RX0 135 yX0_levelToSpread, Cond.instanceMethod yX0_levelToSpread, Cond.selects RX0 yX0_levelToSpread yX0_levelToSpread, Cond.code yX0_levelToSpread cX0_levelToSpread 4 (some .int), Cond.fieldLink RX0 16 "ShelfMarks" "LOADED_FROM" "[I", Cond.methodLink RX0 138 yX0_shelfToSpread, Cond.instanceMethod yX0_shelfToSpread, Cond.selects RX0 yX0_shelfToSpread yX0_shelfToSpread, Cond.code yX0_shelfToSpread cX0_shelfToSpread 3 (some .int), Cond.methodLink RX0 151 Lib.Math.max.name, Cond.static Lib.Math.max.name, Cond.initialized "java/lang/Math"]
def wsX0_putFirst_r3 : List Cond := [Cond.code Lib.Math.max.name Lib.Math.max.code 2 (some .int), Cond.methodLink RX0 88 yX0_isLoaded, Cond.instanceMethod yX0_isLoaded, Cond.selects RX0 yX0_isLoaded yX0_isLoaded, Cond.code yX0_isLoaded cX0_isLoaded 3 (some .boolean), Cond.methodLink RX0 84 yX0_foldersOn, Cond.instanceMethod yX0_foldersOn, Cond.selects RX0 yX0_foldersOn yX0_foldersOn, Cond.code yX0_foldersOn cX0_foldersOn 3 (some .int), Cond.methodLink RX0 141 yX0_firstMark, Cond.static yX0_firstMark, Cond.code yX0_firstMark cX0_firstMark 2 (some .int), Cond.methodLink RX0 70 yX0_marksBelow, Cond.instanceMethod yX0_marksBelow, Cond.selects RX0 yX0_marksBelow yX0_marksBelow, Cond.code yX0_marksBelow cX0_marksBelow 3 (some .int), Cond.methodLink RX0 144 yX0_spreadMark, Cond.static yX0_spreadMark, Cond.code yX0_spreadMark cX0_spreadMark 5 (some .int), Cond.methodLink RX0 156 yX0_shelfSize, Cond.static yX0_shelfSize, Cond.code yX0_shelfSize cX0_shelfSize 1 (some .int), Cond.methodLink RX0 129 yX0_insertAt, Cond.instanceMethod yX0_insertAt]
def wsX0_putFirst_r4 : List Cond := [Cond.selects RX0 yX0_insertAt yX0_insertAt, Cond.code yX0_insertAt cX0_insertAt 5 none, Cond.methodLink RX0 43 yX0_folderAt, Cond.instanceMethod yX0_folderAt, Cond.selects RX0 yX0_folderAt yX0_folderAt, Cond.code yX0_folderAt cX0_folderAt 2 (some .int), Cond.methodLink RX0 122 yX0_set, Cond.instanceMethod yX0_set, Cond.selects RX0 yX0_set yX0_set, Cond.code yX0_set cX0_set 4 none, Cond.methodLink RX0 132 yX0_spreadOut, Cond.instanceMethod yX0_spreadOut, Cond.selects RX0 yX0_spreadOut yX0_spreadOut, Cond.code yX0_spreadOut cX0_spreadOut 8 none, Cond.methodLink RX0 148 yX0_countSpread, Cond.instanceMethod yX0_countSpread, Cond.selects RX0 yX0_countSpread yX0_countSpread, Cond.code yX0_countSpread cX0_countSpread 2 none, Cond.fieldLink RX0 19 "ShelfMarks" "spreads" "[I"]
def wsX0_putFirst : List Cond := .code yX0_putFirst cX0_putFirst 2 (some .int) :: ((wsX0_putFirst_r1 ++ (wsX0_putFirst_r2 ++ (wsX0_putFirst_r3 ++ wsX0_putFirst_r4))) ++ wsX00 ++ (vx_atS RX0 113 "java/lang/IllegalStateException" ["java/lang/RuntimeException", "java/lang/Exception"]).filter goodWord)
def wsX0_placeOf : List Cond := .code yX0_placeOf cX0_placeOf 3 (some .int) :: ([.fieldLink RX0 53 "ShelfMarks" "count" "I", .fieldLink RX0 9 "ShelfMarks" "folders" "[I"] ++ wsX00)
def wsX0_requirePlace : List Cond := .code yX0_requirePlace cX0_requirePlace 3 (some .int) :: ([.classLink RX0 79 "java/lang/IndexOutOfBoundsException", .initialized "java/lang/IndexOutOfBoundsException", .methodLink RX0 64 yX0_placeOf, .instanceMethod yX0_placeOf, .selects RX0 yX0_placeOf yX0_placeOf, .initialized RX0, .code yX0_placeOf cX0_placeOf 3 (some .int), .fieldLink RX0 53 "ShelfMarks" "count" "I", .fieldLink RX0 9 "ShelfMarks" "folders" "[I"] ++ wsX00 ++ (vx_atS RX0 83 "java/lang/IndexOutOfBoundsException" ["java/lang/RuntimeException", "java/lang/Exception"]).filter goodWord)
def wsX0_putBehind_r1 : List Cond := [Cond.methodLink RX0 39 yX0_requirePlace, Cond.instanceMethod yX0_requirePlace, Cond.selects RX0 yX0_requirePlace yX0_requirePlace, Cond.initialized RX0, Cond.code yX0_requirePlace cX0_requirePlace 3 (some .int), Cond.classLink RX0 79 "java/lang/IndexOutOfBoundsException", Cond.initialized "java/lang/IndexOutOfBoundsException", Cond.methodLink RX0 64 yX0_placeOf, Cond.instanceMethod yX0_placeOf, Cond.selects RX0 yX0_placeOf yX0_placeOf, Cond.code yX0_placeOf cX0_placeOf 3 (some .int), Cond.fieldLink RX0 53 "ShelfMarks" "count" "I", Cond.fieldLink RX0 9 "ShelfMarks" "folders" "[I", Cond.methodLink RX0 28 yX0_requireThatOneMayCome, Cond.instanceMethod yX0_requireThatOneMayCome, Cond.selects RX0 yX0_requireThatOneMayCome yX0_requireThatOneMayCome, Cond.code yX0_requireThatOneMayCome cX0_requireThatOneMayCome 1 none, Cond.classLink RX0 109 "java/lang/IllegalStateException", Cond.initialized "java/lang/IllegalStateException", Cond.fieldLink RX0 106 "ShelfMarks" "came" "I", Cond.methodLink RX0 31 yX0_nextNumber, Cond.instanceMethod yX0_nextNumber, Cond.selects RX0 yX0_nextNumber yX0_nextNumber, Cond.code yX0_nextNumber cX0_nextNumber 2 (some .int)]
def wsX0_putBehind_r2 : List Cond := [Cond.methodLink RX0 35 yX0_putIn, Cond.instanceMethod yX0_putIn, Cond.selects RX0 yX0_putIn yX0_putIn, Cond.code yX0_putIn cX0_putIn 3 none, Cond.fieldLink RX0 95 "ShelfMarks" "moves" "I", Cond.methodLink RX0 92 yX0_movesByPuttingIn, Cond.instanceMethod yX0_movesByPuttingIn, Cond.selects RX0 yX0_movesByPuttingIn yX0_movesByPuttingIn, Cond.code yX0_movesByPuttingIn cX0_movesByPuttingIn 9 (some .int), Cond.methodLink RX0 126 yX0_hasFreeMark, Cond.instanceMethod yX0_hasFreeMark, Cond.selects RX0 yX0_hasFreeMark yX0_hasFreeMark, Cond.code yX0_hasFreeMark cX0_hasFreeMark 2 (some .boolean), Cond.methodLink RX0 67 yX0_markAt, Cond.instanceMethod yX0_markAt, Cond.selects RX0 yX0_markAt yX0_markAt, Cond.code yX0_markAt cX0_markAt 2 (some .int), Cond.fieldLink RX0 13 "ShelfMarks" "marks" "[I", Cond.methodLink RX0 118 yX0_isPlace, Cond.instanceMethod yX0_isPlace, Cond.selects RX0 yX0_isPlace yX0_isPlace, Cond.code yX0_isPlace cX0_isPlace 2 (some .boolean), Cond.methodLink RX0 135 yX0_levelToSpread, Cond.instanceMethod yX0_levelToSpread]
def wsX0_putBehind_r3 : List Cond := [Cond.selects RX0 yX0_levelToSpread yX0_levelToSpread, Cond.code yX0_levelToSpread cX0_levelToSpread 4 (some .int), Cond.fieldLink RX0 16 "ShelfMarks" "LOADED_FROM" "[I", Cond.methodLink RX0 138 yX0_shelfToSpread, Cond.instanceMethod yX0_shelfToSpread, Cond.selects RX0 yX0_shelfToSpread yX0_shelfToSpread, Cond.code yX0_shelfToSpread cX0_shelfToSpread 3 (some .int), Cond.methodLink RX0 151 Lib.Math.max.name, Cond.static Lib.Math.max.name, Cond.initialized "java/lang/Math", Cond.code Lib.Math.max.name Lib.Math.max.code 2 (some .int), Cond.methodLink RX0 88 yX0_isLoaded, Cond.instanceMethod yX0_isLoaded, Cond.selects RX0 yX0_isLoaded yX0_isLoaded, Cond.code yX0_isLoaded cX0_isLoaded 3 (some .boolean), Cond.methodLink RX0 84 yX0_foldersOn, Cond.instanceMethod yX0_foldersOn, Cond.selects RX0 yX0_foldersOn yX0_foldersOn, Cond.code yX0_foldersOn cX0_foldersOn 3 (some .int), Cond.methodLink RX0 141 yX0_firstMark, Cond.static yX0_firstMark, Cond.code yX0_firstMark cX0_firstMark 2 (some .int), Cond.methodLink RX0 70 yX0_marksBelow, Cond.instanceMethod yX0_marksBelow]
def wsX0_putBehind_r4 : List Cond := [Cond.selects RX0 yX0_marksBelow yX0_marksBelow, Cond.code yX0_marksBelow cX0_marksBelow 3 (some .int), Cond.methodLink RX0 144 yX0_spreadMark, Cond.static yX0_spreadMark, Cond.code yX0_spreadMark cX0_spreadMark 5 (some .int), Cond.methodLink RX0 156 yX0_shelfSize, Cond.static yX0_shelfSize, Cond.code yX0_shelfSize cX0_shelfSize 1 (some .int), Cond.methodLink RX0 129 yX0_insertAt, Cond.instanceMethod yX0_insertAt, Cond.selects RX0 yX0_insertAt yX0_insertAt, Cond.code yX0_insertAt cX0_insertAt 5 none, Cond.methodLink RX0 43 yX0_folderAt, Cond.instanceMethod yX0_folderAt, Cond.selects RX0 yX0_folderAt yX0_folderAt, Cond.code yX0_folderAt cX0_folderAt 2 (some .int), Cond.methodLink RX0 122 yX0_set, Cond.instanceMethod yX0_set, Cond.selects RX0 yX0_set yX0_set, Cond.code yX0_set cX0_set 4 none, Cond.methodLink RX0 132 yX0_spreadOut, Cond.instanceMethod yX0_spreadOut, Cond.selects RX0 yX0_spreadOut yX0_spreadOut, Cond.code yX0_spreadOut cX0_spreadOut 8 none]
def wsX0_putBehind_r5 : List Cond := [Cond.methodLink RX0 148 yX0_countSpread, Cond.instanceMethod yX0_countSpread, Cond.selects RX0 yX0_countSpread yX0_countSpread, Cond.code yX0_countSpread cX0_countSpread 2 none, Cond.fieldLink RX0 19 "ShelfMarks" "spreads" "[I"]
def wsX0_putBehind : List Cond := .code yX0_putBehind cX0_putBehind 4 (some .int) :: ((wsX0_putBehind_r1 ++ (wsX0_putBehind_r2 ++ (wsX0_putBehind_r3 ++ (wsX0_putBehind_r4 ++ wsX0_putBehind_r5)))) ++ wsX00 ++ (vx_atS RX0 83 "java/lang/IndexOutOfBoundsException" ["java/lang/RuntimeException", "java/lang/Exception"]).filter goodWord ++ (vx_atS RX0 113 "java/lang/IllegalStateException" ["java/lang/RuntimeException", "java/lang/Exception"]).filter goodWord)
def wsX0_sendReadersOn : List Cond := .code yX0_sendReadersOn cX0_sendReadersOn 4 none :: ([.fieldLink RX0 22 "ShelfMarks" "readerFolders" "[I"] ++ wsX00)
def wsX0_removeAt : List Cond := .code yX0_removeAt cX0_removeAt 3 none :: ([.fieldLink RX0 53 "ShelfMarks" "count" "I", .methodLink RX0 118 yX0_isPlace, .instanceMethod yX0_isPlace, .selects RX0 yX0_isPlace yX0_isPlace, .initialized RX0, .code yX0_isPlace cX0_isPlace 2 (some .boolean), .fieldLink RX0 9 "ShelfMarks" "folders" "[I", .fieldLink RX0 13 "ShelfMarks" "marks" "[I", .methodLink RX0 43 yX0_folderAt, .instanceMethod yX0_folderAt, .selects RX0 yX0_folderAt yX0_folderAt, .code yX0_folderAt cX0_folderAt 2 (some .int), .methodLink RX0 67 yX0_markAt, .instanceMethod yX0_markAt, .selects RX0 yX0_markAt yX0_markAt, .code yX0_markAt cX0_markAt 2 (some .int), .methodLink RX0 122 yX0_set, .instanceMethod yX0_set, .selects RX0 yX0_set yX0_set, .code yX0_set cX0_set 4 none] ++ wsX00)
def wsX0_takeOut_r1 : List Cond := [Cond.fieldLink RX0 53 "ShelfMarks" "count" "I", Cond.methodLink RX0 39 yX0_requirePlace, Cond.instanceMethod yX0_requirePlace, Cond.selects RX0 yX0_requirePlace yX0_requirePlace, Cond.initialized RX0, Cond.code yX0_requirePlace cX0_requirePlace 3 (some .int), Cond.classLink RX0 79 "java/lang/IndexOutOfBoundsException", Cond.initialized "java/lang/IndexOutOfBoundsException", Cond.methodLink RX0 64 yX0_placeOf, Cond.instanceMethod yX0_placeOf, Cond.selects RX0 yX0_placeOf yX0_placeOf, Cond.code yX0_placeOf cX0_placeOf 3 (some .int), Cond.fieldLink RX0 9 "ShelfMarks" "folders" "[I", Cond.methodLink RX0 43 yX0_folderAt, Cond.instanceMethod yX0_folderAt, Cond.selects RX0 yX0_folderAt yX0_folderAt, Cond.code yX0_folderAt cX0_folderAt 2 (some .int), Cond.methodLink RX0 118 yX0_isPlace, Cond.instanceMethod yX0_isPlace, Cond.selects RX0 yX0_isPlace yX0_isPlace, Cond.code yX0_isPlace cX0_isPlace 2 (some .boolean), Cond.fieldLink RX0 13 "ShelfMarks" "marks" "[I", Cond.methodLink RX0 46 yX0_sendReadersOn, Cond.instanceMethod yX0_sendReadersOn]
def wsX0_takeOut_r2 : List Cond := [Cond.selects RX0 yX0_sendReadersOn yX0_sendReadersOn, Cond.code yX0_sendReadersOn cX0_sendReadersOn 4 none, Cond.fieldLink RX0 22 "ShelfMarks" "readerFolders" "[I", Cond.methodLink RX0 49 yX0_removeAt, Cond.instanceMethod yX0_removeAt, Cond.selects RX0 yX0_removeAt yX0_removeAt, Cond.code yX0_removeAt cX0_removeAt 3 none, Cond.methodLink RX0 67 yX0_markAt, Cond.instanceMethod yX0_markAt, Cond.selects RX0 yX0_markAt yX0_markAt, Cond.code yX0_markAt cX0_markAt 2 (some .int), Cond.methodLink RX0 122 yX0_set, Cond.instanceMethod yX0_set, Cond.selects RX0 yX0_set yX0_set, Cond.code yX0_set cX0_set 4 none]
def wsX0_takeOut : List Cond := .code yX0_takeOut cX0_takeOut 3 (some .int) :: ((wsX0_takeOut_r1 ++ wsX0_takeOut_r2) ++ wsX00 ++ (vx_atS RX0 83 "java/lang/IndexOutOfBoundsException" ["java/lang/RuntimeException", "java/lang/Exception"]).filter goodWord)
def wsX0_carry_r1 : List Cond := [Cond.classLink RX0 57 "java/lang/IllegalArgumentException", Cond.initialized "java/lang/IllegalArgumentException", Cond.methodLink RX0 39 yX0_requirePlace, Cond.instanceMethod yX0_requirePlace, Cond.selects RX0 yX0_requirePlace yX0_requirePlace, Cond.initialized RX0, Cond.code yX0_requirePlace cX0_requirePlace 3 (some .int), Cond.classLink RX0 79 "java/lang/IndexOutOfBoundsException", Cond.initialized "java/lang/IndexOutOfBoundsException", Cond.methodLink RX0 64 yX0_placeOf, Cond.instanceMethod yX0_placeOf, Cond.selects RX0 yX0_placeOf yX0_placeOf, Cond.code yX0_placeOf cX0_placeOf 3 (some .int), Cond.fieldLink RX0 53 "ShelfMarks" "count" "I", Cond.fieldLink RX0 9 "ShelfMarks" "folders" "[I", Cond.methodLink RX0 49 yX0_removeAt, Cond.instanceMethod yX0_removeAt, Cond.selects RX0 yX0_removeAt yX0_removeAt, Cond.code yX0_removeAt cX0_removeAt 3 none, Cond.methodLink RX0 118 yX0_isPlace, Cond.instanceMethod yX0_isPlace, Cond.selects RX0 yX0_isPlace yX0_isPlace, Cond.code yX0_isPlace cX0_isPlace 2 (some .boolean), Cond.fieldLink RX0 13 "ShelfMarks" "marks" "[I"]
def wsX0_carry_r2 : List Cond := [Cond.methodLink RX0 43 yX0_folderAt, Cond.instanceMethod yX0_folderAt, Cond.selects RX0 yX0_folderAt yX0_folderAt, Cond.code yX0_folderAt cX0_folderAt 2 (some .int), Cond.methodLink RX0 67 yX0_markAt, Cond.instanceMethod yX0_markAt, Cond.selects RX0 yX0_markAt yX0_markAt, Cond.code yX0_markAt cX0_markAt 2 (some .int), Cond.methodLink RX0 122 yX0_set, Cond.instanceMethod yX0_set, Cond.selects RX0 yX0_set yX0_set, Cond.code yX0_set cX0_set 4 none, Cond.methodLink RX0 35 yX0_putIn, Cond.instanceMethod yX0_putIn, Cond.selects RX0 yX0_putIn yX0_putIn, Cond.code yX0_putIn cX0_putIn 3 none, Cond.fieldLink RX0 95 "ShelfMarks" "moves" "I", Cond.methodLink RX0 92 yX0_movesByPuttingIn, Cond.instanceMethod yX0_movesByPuttingIn, Cond.selects RX0 yX0_movesByPuttingIn yX0_movesByPuttingIn, Cond.code yX0_movesByPuttingIn cX0_movesByPuttingIn 9 (some .int), Cond.methodLink RX0 126 yX0_hasFreeMark, Cond.instanceMethod yX0_hasFreeMark, Cond.selects RX0 yX0_hasFreeMark yX0_hasFreeMark]
def wsX0_carry_r3 : List Cond := [Cond.code yX0_hasFreeMark cX0_hasFreeMark 2 (some .boolean), Cond.methodLink RX0 135 yX0_levelToSpread, Cond.instanceMethod yX0_levelToSpread, Cond.selects RX0 yX0_levelToSpread yX0_levelToSpread, Cond.code yX0_levelToSpread cX0_levelToSpread 4 (some .int), Cond.fieldLink RX0 16 "ShelfMarks" "LOADED_FROM" "[I", Cond.methodLink RX0 138 yX0_shelfToSpread, Cond.instanceMethod yX0_shelfToSpread, Cond.selects RX0 yX0_shelfToSpread yX0_shelfToSpread, Cond.code yX0_shelfToSpread cX0_shelfToSpread 3 (some .int), Cond.methodLink RX0 151 Lib.Math.max.name, Cond.static Lib.Math.max.name, Cond.initialized "java/lang/Math", Cond.code Lib.Math.max.name Lib.Math.max.code 2 (some .int), Cond.methodLink RX0 88 yX0_isLoaded, Cond.instanceMethod yX0_isLoaded, Cond.selects RX0 yX0_isLoaded yX0_isLoaded, Cond.code yX0_isLoaded cX0_isLoaded 3 (some .boolean), Cond.methodLink RX0 84 yX0_foldersOn, Cond.instanceMethod yX0_foldersOn, Cond.selects RX0 yX0_foldersOn yX0_foldersOn, Cond.code yX0_foldersOn cX0_foldersOn 3 (some .int), Cond.methodLink RX0 141 yX0_firstMark, Cond.static yX0_firstMark]
def wsX0_carry_r4 : List Cond := [Cond.code yX0_firstMark cX0_firstMark 2 (some .int), Cond.methodLink RX0 70 yX0_marksBelow, Cond.instanceMethod yX0_marksBelow, Cond.selects RX0 yX0_marksBelow yX0_marksBelow, Cond.code yX0_marksBelow cX0_marksBelow 3 (some .int), Cond.methodLink RX0 144 yX0_spreadMark, Cond.static yX0_spreadMark, Cond.code yX0_spreadMark cX0_spreadMark 5 (some .int), Cond.methodLink RX0 156 yX0_shelfSize, Cond.static yX0_shelfSize, Cond.code yX0_shelfSize cX0_shelfSize 1 (some .int), Cond.methodLink RX0 129 yX0_insertAt, Cond.instanceMethod yX0_insertAt, Cond.selects RX0 yX0_insertAt yX0_insertAt, Cond.code yX0_insertAt cX0_insertAt 5 none, Cond.methodLink RX0 132 yX0_spreadOut, Cond.instanceMethod yX0_spreadOut, Cond.selects RX0 yX0_spreadOut yX0_spreadOut, Cond.code yX0_spreadOut cX0_spreadOut 8 none, Cond.methodLink RX0 148 yX0_countSpread, Cond.instanceMethod yX0_countSpread, Cond.selects RX0 yX0_countSpread yX0_countSpread, Cond.code yX0_countSpread cX0_countSpread 2 none, Cond.fieldLink RX0 19 "ShelfMarks" "spreads" "[I"]
def wsX0_carry : List Cond := .code yX0_carry cX0_carry 4 (some .int) :: ((wsX0_carry_r1 ++ (wsX0_carry_r2 ++ (wsX0_carry_r3 ++ wsX0_carry_r4))) ++ wsX00 ++ (vx_atS RX0 61 "java/lang/IllegalArgumentException" ["java/lang/RuntimeException", "java/lang/Exception"]).filter goodWord ++ (vx_atS RX0 83 "java/lang/IndexOutOfBoundsException" ["java/lang/RuntimeException", "java/lang/Exception"]).filter goodWord)
def wsX0_size : List Cond := .code yX0_size cX0_size 1 (some .int) :: ([.fieldLink RX0 53 "ShelfMarks" "count" "I"] ++ wsX00)
def wsX0_first : List Cond := .code yX0_first cX0_first 1 (some .int) :: ([.methodLink RX0 43 yX0_folderAt, .instanceMethod yX0_folderAt, .selects RX0 yX0_folderAt yX0_folderAt, .initialized RX0, .code yX0_folderAt cX0_folderAt 2 (some .int), .fieldLink RX0 9 "ShelfMarks" "folders" "[I", .methodLink RX0 118 yX0_isPlace, .instanceMethod yX0_isPlace, .selects RX0 yX0_isPlace yX0_isPlace, .code yX0_isPlace cX0_isPlace 2 (some .boolean), .fieldLink RX0 53 "ShelfMarks" "count" "I", .fieldLink RX0 13 "ShelfMarks" "marks" "[I"] ++ wsX00)
def wsX0_next : List Cond := .code yX0_next cX0_next 2 (some .int) :: ([.methodLink RX0 39 yX0_requirePlace, .instanceMethod yX0_requirePlace, .selects RX0 yX0_requirePlace yX0_requirePlace, .initialized RX0, .code yX0_requirePlace cX0_requirePlace 3 (some .int), .classLink RX0 79 "java/lang/IndexOutOfBoundsException", .initialized "java/lang/IndexOutOfBoundsException", .methodLink RX0 64 yX0_placeOf, .instanceMethod yX0_placeOf, .selects RX0 yX0_placeOf yX0_placeOf, .code yX0_placeOf cX0_placeOf 3 (some .int), .fieldLink RX0 53 "ShelfMarks" "count" "I", .fieldLink RX0 9 "ShelfMarks" "folders" "[I", .methodLink RX0 43 yX0_folderAt, .instanceMethod yX0_folderAt, .selects RX0 yX0_folderAt yX0_folderAt, .code yX0_folderAt cX0_folderAt 2 (some .int), .methodLink RX0 118 yX0_isPlace, .instanceMethod yX0_isPlace, .selects RX0 yX0_isPlace yX0_isPlace, .code yX0_isPlace cX0_isPlace 2 (some .boolean), .fieldLink RX0 13 "ShelfMarks" "marks" "[I"] ++ wsX00 ++ (vx_atS RX0 83 "java/lang/IndexOutOfBoundsException" ["java/lang/RuntimeException", "java/lang/Exception"]).filter goodWord)
def wsX0_previous : List Cond := .code yX0_previous cX0_previous 2 (some .int) :: ([.methodLink RX0 39 yX0_requirePlace, .instanceMethod yX0_requirePlace, .selects RX0 yX0_requirePlace yX0_requirePlace, .initialized RX0, .code yX0_requirePlace cX0_requirePlace 3 (some .int), .classLink RX0 79 "java/lang/IndexOutOfBoundsException", .initialized "java/lang/IndexOutOfBoundsException", .methodLink RX0 64 yX0_placeOf, .instanceMethod yX0_placeOf, .selects RX0 yX0_placeOf yX0_placeOf, .code yX0_placeOf cX0_placeOf 3 (some .int), .fieldLink RX0 53 "ShelfMarks" "count" "I", .fieldLink RX0 9 "ShelfMarks" "folders" "[I", .methodLink RX0 43 yX0_folderAt, .instanceMethod yX0_folderAt, .selects RX0 yX0_folderAt yX0_folderAt, .code yX0_folderAt cX0_folderAt 2 (some .int), .methodLink RX0 118 yX0_isPlace, .instanceMethod yX0_isPlace, .selects RX0 yX0_isPlace yX0_isPlace, .code yX0_isPlace cX0_isPlace 2 (some .boolean), .fieldLink RX0 13 "ShelfMarks" "marks" "[I"] ++ wsX00 ++ (vx_atS RX0 83 "java/lang/IndexOutOfBoundsException" ["java/lang/RuntimeException", "java/lang/Exception"]).filter goodWord)
def wsX0_has : List Cond := .code yX0_has cX0_has 2 (some .boolean) :: ([.methodLink RX0 64 yX0_placeOf, .instanceMethod yX0_placeOf, .selects RX0 yX0_placeOf yX0_placeOf, .initialized RX0, .code yX0_placeOf cX0_placeOf 3 (some .int), .fieldLink RX0 53 "ShelfMarks" "count" "I", .fieldLink RX0 9 "ShelfMarks" "folders" "[I"] ++ wsX00)
def wsX0_mark : List Cond := .code yX0_mark cX0_mark 2 (some .int) :: ([.methodLink RX0 39 yX0_requirePlace, .instanceMethod yX0_requirePlace, .selects RX0 yX0_requirePlace yX0_requirePlace, .initialized RX0, .code yX0_requirePlace cX0_requirePlace 3 (some .int), .classLink RX0 79 "java/lang/IndexOutOfBoundsException", .initialized "java/lang/IndexOutOfBoundsException", .methodLink RX0 64 yX0_placeOf, .instanceMethod yX0_placeOf, .selects RX0 yX0_placeOf yX0_placeOf, .code yX0_placeOf cX0_placeOf 3 (some .int), .fieldLink RX0 53 "ShelfMarks" "count" "I", .fieldLink RX0 9 "ShelfMarks" "folders" "[I", .methodLink RX0 67 yX0_markAt, .instanceMethod yX0_markAt, .selects RX0 yX0_markAt yX0_markAt, .code yX0_markAt cX0_markAt 2 (some .int), .fieldLink RX0 13 "ShelfMarks" "marks" "[I", .methodLink RX0 118 yX0_isPlace, .instanceMethod yX0_isPlace, .selects RX0 yX0_isPlace yX0_isPlace, .code yX0_isPlace cX0_isPlace 2 (some .boolean)] ++ wsX00 ++ (vx_atS RX0 83 "java/lang/IndexOutOfBoundsException" ["java/lang/RuntimeException", "java/lang/Exception"]).filter goodWord)
def wsX0_ahead_r1 : List Cond := [Cond.methodLink RX0 39 yX0_requirePlace, Cond.instanceMethod yX0_requirePlace, Cond.selects RX0 yX0_requirePlace yX0_requirePlace, Cond.initialized RX0, Cond.code yX0_requirePlace cX0_requirePlace 3 (some .int), Cond.classLink RX0 79 "java/lang/IndexOutOfBoundsException", Cond.initialized "java/lang/IndexOutOfBoundsException", Cond.methodLink RX0 64 yX0_placeOf, Cond.instanceMethod yX0_placeOf, Cond.selects RX0 yX0_placeOf yX0_placeOf, Cond.code yX0_placeOf cX0_placeOf 3 (some .int), Cond.fieldLink RX0 53 "ShelfMarks" "count" "I", Cond.fieldLink RX0 9 "ShelfMarks" "folders" "[I", Cond.methodLink RX0 67 yX0_markAt, Cond.instanceMethod yX0_markAt, Cond.selects RX0 yX0_markAt yX0_markAt, Cond.code yX0_markAt cX0_markAt 2 (some .int), Cond.fieldLink RX0 13 "ShelfMarks" "marks" "[I", Cond.methodLink RX0 118 yX0_isPlace, Cond.instanceMethod yX0_isPlace, Cond.selects RX0 yX0_isPlace yX0_isPlace, Cond.code yX0_isPlace cX0_isPlace 2 (some .boolean), Cond.methodLink RX0 70 yX0_marksBelow, Cond.instanceMethod yX0_marksBelow]
def wsX0_ahead_r2 : List Cond := [Cond.selects RX0 yX0_marksBelow yX0_marksBelow, Cond.code yX0_marksBelow cX0_marksBelow 3 (some .int)]
def wsX0_ahead : List Cond := .code yX0_ahead cX0_ahead 2 (some .int) :: ((wsX0_ahead_r1 ++ wsX0_ahead_r2) ++ wsX00 ++ (vx_atS RX0 83 "java/lang/IndexOutOfBoundsException" ["java/lang/RuntimeException", "java/lang/Exception"]).filter goodWord)
def wsX0_from : List Cond := .code yX0_from cX0_from 2 (some .int) :: ([.methodLink RX0 70 yX0_marksBelow, .instanceMethod yX0_marksBelow, .selects RX0 yX0_marksBelow yX0_marksBelow, .initialized RX0, .code yX0_marksBelow cX0_marksBelow 3 (some .int), .fieldLink RX0 53 "ShelfMarks" "count" "I", .fieldLink RX0 13 "ShelfMarks" "marks" "[I", .methodLink RX0 43 yX0_folderAt, .instanceMethod yX0_folderAt, .selects RX0 yX0_folderAt yX0_folderAt, .code yX0_folderAt cX0_folderAt 2 (some .int), .fieldLink RX0 9 "ShelfMarks" "folders" "[I", .methodLink RX0 118 yX0_isPlace, .instanceMethod yX0_isPlace, .selects RX0 yX0_isPlace yX0_isPlace, .code yX0_isPlace cX0_isPlace 2 (some .boolean)] ++ wsX00)
def wsX0_gapBehind : List Cond := .code yX0_gapBehind cX0_gapBehind 3 (some .int) :: ([.methodLink RX0 39 yX0_requirePlace, .instanceMethod yX0_requirePlace, .selects RX0 yX0_requirePlace yX0_requirePlace, .initialized RX0, .code yX0_requirePlace cX0_requirePlace 3 (some .int), .classLink RX0 79 "java/lang/IndexOutOfBoundsException", .initialized "java/lang/IndexOutOfBoundsException", .methodLink RX0 64 yX0_placeOf, .instanceMethod yX0_placeOf, .selects RX0 yX0_placeOf yX0_placeOf, .code yX0_placeOf cX0_placeOf 3 (some .int), .fieldLink RX0 53 "ShelfMarks" "count" "I", .fieldLink RX0 9 "ShelfMarks" "folders" "[I", .methodLink RX0 67 yX0_markAt, .instanceMethod yX0_markAt, .selects RX0 yX0_markAt yX0_markAt, .code yX0_markAt cX0_markAt 2 (some .int), .fieldLink RX0 13 "ShelfMarks" "marks" "[I", .methodLink RX0 118 yX0_isPlace, .instanceMethod yX0_isPlace, .selects RX0 yX0_isPlace yX0_isPlace, .code yX0_isPlace cX0_isPlace 2 (some .boolean)] ++ wsX00 ++ (vx_atS RX0 83 "java/lang/IndexOutOfBoundsException" ["java/lang/RuntimeException", "java/lang/Exception"]).filter goodWord)
def wsX0_requireLevel : List Cond := .code yX0_requireLevel cX0_requireLevel 1 none :: ([.classLink RX0 79 "java/lang/IndexOutOfBoundsException", .initialized "java/lang/IndexOutOfBoundsException", .fieldLink RX0 16 "ShelfMarks" "LOADED_FROM" "[I"] ++ (vx_atS RX0 83 "java/lang/IndexOutOfBoundsException" ["java/lang/RuntimeException", "java/lang/Exception"]).filter goodWord)
def wsX0_shelvesOf : List Cond := .code yX0_shelvesOf cX0_shelvesOf 1 (some .int) :: ([])
def wsX0_load : List Cond := .code yX0_load cX0_load 3 (some .int) :: ([.classLink RX0 79 "java/lang/IndexOutOfBoundsException", .initialized "java/lang/IndexOutOfBoundsException", .methodLink RX0 73 yX0_requireLevel, .static yX0_requireLevel, .initialized RX0, .code yX0_requireLevel cX0_requireLevel 1 none, .fieldLink RX0 16 "ShelfMarks" "LOADED_FROM" "[I", .methodLink RX0 76 yX0_shelvesOf, .static yX0_shelvesOf, .code yX0_shelvesOf cX0_shelvesOf 1 (some .int), .methodLink RX0 84 yX0_foldersOn, .instanceMethod yX0_foldersOn, .selects RX0 yX0_foldersOn yX0_foldersOn, .code yX0_foldersOn cX0_foldersOn 3 (some .int), .methodLink RX0 141 yX0_firstMark, .static yX0_firstMark, .code yX0_firstMark cX0_firstMark 2 (some .int), .methodLink RX0 70 yX0_marksBelow, .instanceMethod yX0_marksBelow, .selects RX0 yX0_marksBelow yX0_marksBelow, .code yX0_marksBelow cX0_marksBelow 3 (some .int), .fieldLink RX0 53 "ShelfMarks" "count" "I", .fieldLink RX0 13 "ShelfMarks" "marks" "[I"] ++ wsX00 ++ (vx_atS RX0 83 "java/lang/IndexOutOfBoundsException" ["java/lang/RuntimeException", "java/lang/Exception"]).filter goodWord)
def wsX0_loaded_r1 : List Cond := [Cond.fieldLink RX0 53 "ShelfMarks" "count" "I", Cond.methodLink RX0 73 yX0_requireLevel, Cond.static yX0_requireLevel, Cond.initialized RX0, Cond.code yX0_requireLevel cX0_requireLevel 1 none, Cond.classLink RX0 79 "java/lang/IndexOutOfBoundsException", Cond.initialized "java/lang/IndexOutOfBoundsException", Cond.fieldLink RX0 16 "ShelfMarks" "LOADED_FROM" "[I", Cond.methodLink RX0 67 yX0_markAt, Cond.instanceMethod yX0_markAt, Cond.selects RX0 yX0_markAt yX0_markAt, Cond.code yX0_markAt cX0_markAt 2 (some .int), Cond.fieldLink RX0 13 "ShelfMarks" "marks" "[I", Cond.methodLink RX0 118 yX0_isPlace, Cond.instanceMethod yX0_isPlace, Cond.selects RX0 yX0_isPlace yX0_isPlace, Cond.code yX0_isPlace cX0_isPlace 2 (some .boolean), Cond.fieldLink RX0 9 "ShelfMarks" "folders" "[I", Cond.methodLink RX0 88 yX0_isLoaded, Cond.instanceMethod yX0_isLoaded, Cond.selects RX0 yX0_isLoaded yX0_isLoaded, Cond.code yX0_isLoaded cX0_isLoaded 3 (some .boolean), Cond.methodLink RX0 84 yX0_foldersOn, Cond.instanceMethod yX0_foldersOn]
def wsX0_loaded_r2 : List Cond := [Cond.selects RX0 yX0_foldersOn yX0_foldersOn, Cond.code yX0_foldersOn cX0_foldersOn 3 (some .int), Cond.methodLink RX0 141 yX0_firstMark, Cond.static yX0_firstMark, Cond.code yX0_firstMark cX0_firstMark 2 (some .int), Cond.methodLink RX0 70 yX0_marksBelow, Cond.instanceMethod yX0_marksBelow, Cond.selects RX0 yX0_marksBelow yX0_marksBelow, Cond.code yX0_marksBelow cX0_marksBelow 3 (some .int)]
def wsX0_loaded : List Cond := .code yX0_loaded cX0_loaded 6 (some .int) :: ((wsX0_loaded_r1 ++ wsX0_loaded_r2) ++ wsX00 ++ (vx_atS RX0 83 "java/lang/IndexOutOfBoundsException" ["java/lang/RuntimeException", "java/lang/Exception"]).filter goodWord)
def wsX0_wouldMove_r1 : List Cond := [Cond.methodLink RX0 39 yX0_requirePlace, Cond.instanceMethod yX0_requirePlace, Cond.selects RX0 yX0_requirePlace yX0_requirePlace, Cond.initialized RX0, Cond.code yX0_requirePlace cX0_requirePlace 3 (some .int), Cond.classLink RX0 79 "java/lang/IndexOutOfBoundsException", Cond.initialized "java/lang/IndexOutOfBoundsException", Cond.methodLink RX0 64 yX0_placeOf, Cond.instanceMethod yX0_placeOf, Cond.selects RX0 yX0_placeOf yX0_placeOf, Cond.code yX0_placeOf cX0_placeOf 3 (some .int), Cond.fieldLink RX0 53 "ShelfMarks" "count" "I", Cond.fieldLink RX0 9 "ShelfMarks" "folders" "[I", Cond.methodLink RX0 92 yX0_movesByPuttingIn, Cond.instanceMethod yX0_movesByPuttingIn, Cond.selects RX0 yX0_movesByPuttingIn yX0_movesByPuttingIn, Cond.code yX0_movesByPuttingIn cX0_movesByPuttingIn 9 (some .int), Cond.methodLink RX0 126 yX0_hasFreeMark, Cond.instanceMethod yX0_hasFreeMark, Cond.selects RX0 yX0_hasFreeMark yX0_hasFreeMark, Cond.code yX0_hasFreeMark cX0_hasFreeMark 2 (some .boolean), Cond.methodLink RX0 67 yX0_markAt, Cond.instanceMethod yX0_markAt, Cond.selects RX0 yX0_markAt yX0_markAt]
def wsX0_wouldMove_r2 : List Cond := [Cond.code yX0_markAt cX0_markAt 2 (some .int), Cond.fieldLink RX0 13 "ShelfMarks" "marks" "[I", Cond.methodLink RX0 118 yX0_isPlace, Cond.instanceMethod yX0_isPlace, Cond.selects RX0 yX0_isPlace yX0_isPlace, Cond.code yX0_isPlace cX0_isPlace 2 (some .boolean), Cond.methodLink RX0 135 yX0_levelToSpread, Cond.instanceMethod yX0_levelToSpread, Cond.selects RX0 yX0_levelToSpread yX0_levelToSpread, Cond.code yX0_levelToSpread cX0_levelToSpread 4 (some .int), Cond.fieldLink RX0 16 "ShelfMarks" "LOADED_FROM" "[I", Cond.methodLink RX0 138 yX0_shelfToSpread, Cond.instanceMethod yX0_shelfToSpread, Cond.selects RX0 yX0_shelfToSpread yX0_shelfToSpread, Cond.code yX0_shelfToSpread cX0_shelfToSpread 3 (some .int), Cond.methodLink RX0 151 Lib.Math.max.name, Cond.static Lib.Math.max.name, Cond.initialized "java/lang/Math", Cond.code Lib.Math.max.name Lib.Math.max.code 2 (some .int), Cond.methodLink RX0 88 yX0_isLoaded, Cond.instanceMethod yX0_isLoaded, Cond.selects RX0 yX0_isLoaded yX0_isLoaded, Cond.code yX0_isLoaded cX0_isLoaded 3 (some .boolean), Cond.methodLink RX0 84 yX0_foldersOn]
def wsX0_wouldMove_r3 : List Cond := [Cond.instanceMethod yX0_foldersOn, Cond.selects RX0 yX0_foldersOn yX0_foldersOn, Cond.code yX0_foldersOn cX0_foldersOn 3 (some .int), Cond.methodLink RX0 141 yX0_firstMark, Cond.static yX0_firstMark, Cond.code yX0_firstMark cX0_firstMark 2 (some .int), Cond.methodLink RX0 70 yX0_marksBelow, Cond.instanceMethod yX0_marksBelow, Cond.selects RX0 yX0_marksBelow yX0_marksBelow, Cond.code yX0_marksBelow cX0_marksBelow 3 (some .int), Cond.methodLink RX0 144 yX0_spreadMark, Cond.static yX0_spreadMark, Cond.code yX0_spreadMark cX0_spreadMark 5 (some .int), Cond.methodLink RX0 156 yX0_shelfSize, Cond.static yX0_shelfSize, Cond.code yX0_shelfSize cX0_shelfSize 1 (some .int)]
def wsX0_wouldMove : List Cond := .code yX0_wouldMove cX0_wouldMove 2 (some .int) :: ((wsX0_wouldMove_r1 ++ (wsX0_wouldMove_r2 ++ wsX0_wouldMove_r3)) ++ wsX00 ++ (vx_atS RX0 83 "java/lang/IndexOutOfBoundsException" ["java/lang/RuntimeException", "java/lang/Exception"]).filter goodWord)
def wsX0_moved : List Cond := .code yX0_moved cX0_moved 1 (some .int) :: ([.fieldLink RX0 95 "ShelfMarks" "moves" "I"] ++ wsX00)
def wsX0_spread : List Cond := .code yX0_spread cX0_spread 2 (some .int) :: ([.fieldLink RX0 19 "ShelfMarks" "spreads" "[I", .methodLink RX0 73 yX0_requireLevel, .static yX0_requireLevel, .initialized RX0, .code yX0_requireLevel cX0_requireLevel 1 none, .classLink RX0 79 "java/lang/IndexOutOfBoundsException", .initialized "java/lang/IndexOutOfBoundsException", .fieldLink RX0 16 "ShelfMarks" "LOADED_FROM" "[I"] ++ wsX00 ++ (vx_atS RX0 83 "java/lang/IndexOutOfBoundsException" ["java/lang/RuntimeException", "java/lang/Exception"]).filter goodWord)
def wsX0_requireReader : List Cond := .code yX0_requireReader cX0_requireReader 1 none :: ([.classLink RX0 79 "java/lang/IndexOutOfBoundsException", .initialized "java/lang/IndexOutOfBoundsException"] ++ (vx_atS RX0 83 "java/lang/IndexOutOfBoundsException" ["java/lang/RuntimeException", "java/lang/Exception"]).filter goodWord)
def wsX0_readersAt : List Cond := .code yX0_readersAt cX0_readersAt 4 (some .int) :: ([.fieldLink RX0 22 "ShelfMarks" "readerFolders" "[I"] ++ wsX00)
def wsX0_seat : List Cond := .code yX0_seat cX0_seat 3 (some .int) :: ([.fieldLink RX0 22 "ShelfMarks" "readerFolders" "[I", .methodLink RX0 98 yX0_requireReader, .static yX0_requireReader, .initialized RX0, .code yX0_requireReader cX0_requireReader 1 none, .classLink RX0 79 "java/lang/IndexOutOfBoundsException", .initialized "java/lang/IndexOutOfBoundsException", .methodLink RX0 39 yX0_requirePlace, .instanceMethod yX0_requirePlace, .selects RX0 yX0_requirePlace yX0_requirePlace, .code yX0_requirePlace cX0_requirePlace 3 (some .int), .methodLink RX0 64 yX0_placeOf, .instanceMethod yX0_placeOf, .selects RX0 yX0_placeOf yX0_placeOf, .code yX0_placeOf cX0_placeOf 3 (some .int), .fieldLink RX0 53 "ShelfMarks" "count" "I", .fieldLink RX0 9 "ShelfMarks" "folders" "[I", .methodLink RX0 101 yX0_readersAt, .instanceMethod yX0_readersAt, .selects RX0 yX0_readersAt yX0_readersAt, .code yX0_readersAt cX0_readersAt 4 (some .int)] ++ wsX00 ++ (vx_atS RX0 83 "java/lang/IndexOutOfBoundsException" ["java/lang/RuntimeException", "java/lang/Exception"]).filter goodWord)
def wsX0_passDay : List Cond := .code yX0_passDay cX0_passDay 4 (some .int) :: ([.fieldLink RX0 22 "ShelfMarks" "readerFolders" "[I", .fieldLink RX0 25 "ShelfMarks" "readerCounts" "[I", .methodLink RX0 64 yX0_placeOf, .instanceMethod yX0_placeOf, .selects RX0 yX0_placeOf yX0_placeOf, .initialized RX0, .code yX0_placeOf cX0_placeOf 3 (some .int), .fieldLink RX0 53 "ShelfMarks" "count" "I", .fieldLink RX0 9 "ShelfMarks" "folders" "[I", .methodLink RX0 43 yX0_folderAt, .instanceMethod yX0_folderAt, .selects RX0 yX0_folderAt yX0_folderAt, .code yX0_folderAt cX0_folderAt 2 (some .int), .methodLink RX0 118 yX0_isPlace, .instanceMethod yX0_isPlace, .selects RX0 yX0_isPlace yX0_isPlace, .code yX0_isPlace cX0_isPlace 2 (some .boolean), .fieldLink RX0 13 "ShelfMarks" "marks" "[I"] ++ wsX00)
def wsX0_at : List Cond := .code yX0_at cX0_at 2 (some .int) :: ([.fieldLink RX0 22 "ShelfMarks" "readerFolders" "[I", .methodLink RX0 98 yX0_requireReader, .static yX0_requireReader, .initialized RX0, .code yX0_requireReader cX0_requireReader 1 none, .classLink RX0 79 "java/lang/IndexOutOfBoundsException", .initialized "java/lang/IndexOutOfBoundsException"] ++ wsX00 ++ (vx_atS RX0 83 "java/lang/IndexOutOfBoundsException" ["java/lang/RuntimeException", "java/lang/Exception"]).filter goodWord)
def wsX0_read : List Cond := .code yX0_read cX0_read 2 (some .int) :: ([.fieldLink RX0 25 "ShelfMarks" "readerCounts" "[I", .methodLink RX0 98 yX0_requireReader, .static yX0_requireReader, .initialized RX0, .code yX0_requireReader cX0_requireReader 1 none, .classLink RX0 79 "java/lang/IndexOutOfBoundsException", .initialized "java/lang/IndexOutOfBoundsException"] ++ wsX00 ++ (vx_atS RX0 83 "java/lang/IndexOutOfBoundsException" ["java/lang/RuntimeException", "java/lang/Exception"]).filter goodWord)
def wsX0_daysTo : List Cond := .code yX0_daysTo cX0_daysTo 5 (some .int) :: ([.fieldLink RX0 22 "ShelfMarks" "readerFolders" "[I", .methodLink RX0 98 yX0_requireReader, .static yX0_requireReader, .initialized RX0, .code yX0_requireReader cX0_requireReader 1 none, .classLink RX0 79 "java/lang/IndexOutOfBoundsException", .initialized "java/lang/IndexOutOfBoundsException", .methodLink RX0 64 yX0_placeOf, .instanceMethod yX0_placeOf, .selects RX0 yX0_placeOf yX0_placeOf, .code yX0_placeOf cX0_placeOf 3 (some .int), .fieldLink RX0 53 "ShelfMarks" "count" "I", .fieldLink RX0 9 "ShelfMarks" "folders" "[I"] ++ wsX00 ++ (vx_atS RX0 83 "java/lang/IndexOutOfBoundsException" ["java/lang/RuntimeException", "java/lang/Exception"]).filter goodWord)
def wsX1_init : List Cond := .code yX1_init cX1_init 1 none :: ([.methodLink RX1 1 objectInit, .instanceMethod objectInit, .code objectInit ⟨#[0xb1]⟩ 1 none, .arrayClass .int, .fieldLink RX1 7 "ShelfMarksModel" "order" "[I", .fieldLink RX1 13 "ShelfMarksModel" "marks" "[I", .arrayClass .boolean, .fieldLink RX1 16 "ShelfMarksModel" "isIn" "[Z", .fieldLink RX1 20 "ShelfMarksModel" "spread" "[I", .fieldLink RX1 23 "ShelfMarksModel" "at" "[I", .fieldLink RX1 26 "ShelfMarksModel" "read" "[I"] ++ wsX10)
def wsX1_thrown : List Cond := .code yX1_thrown cX1_thrown 1 (some .int) :: ([.fieldLink RX1 29 "ShelfMarksModel" "thrown" "I"] ++ wsX10)
def wsX1_limit : List Cond := .code yX1_limit cX1_limit 1 (some .int) :: ([])
def wsX1_known : List Cond := .code yX1_known cX1_known 2 (some .boolean) :: ([.fieldLink RX1 33 "ShelfMarksModel" "came" "I", .fieldLink RX1 16 "ShelfMarksModel" "isIn" "[Z"] ++ wsX10)
def wsX1_place : List Cond := .code yX1_place cX1_place 3 (some .int) :: ([.fieldLink RX1 7 "ShelfMarksModel" "order" "[I"] ++ wsX10)
def wsX1_between : List Cond := .code yX1_between cX1_between 5 (some .int) :: ([.fieldLink RX1 36 "ShelfMarksModel" "size" "I", .fieldLink RX1 13 "ShelfMarksModel" "marks" "[I", .fieldLink RX1 7 "ShelfMarksModel" "order" "[I"] ++ wsX10)
def wsX1_loadOf : List Cond := .code yX1_loadOf cX1_loadOf 3 (some .int) :: ([.methodLink RX1 39 yX1_between, .instanceMethod yX1_between, .selects RX1 yX1_between yX1_between, .initialized RX1, .code yX1_between cX1_between 5 (some .int), .fieldLink RX1 36 "ShelfMarksModel" "size" "I", .fieldLink RX1 13 "ShelfMarksModel" "marks" "[I", .fieldLink RX1 7 "ShelfMarksModel" "order" "[I"] ++ wsX10)
def wsX1_markAhead : List Cond := .code yX1_markAhead cX1_markAhead 2 (some .int) :: ([.fieldLink RX1 13 "ShelfMarksModel" "marks" "[I", .fieldLink RX1 7 "ShelfMarksModel" "order" "[I"] ++ wsX10)
def wsX1_markBehind : List Cond := .code yX1_markBehind cX1_markBehind 2 (some .int) :: ([.fieldLink RX1 36 "ShelfMarksModel" "size" "I", .fieldLink RX1 13 "ShelfMarksModel" "marks" "[I", .fieldLink RX1 7 "ShelfMarksModel" "order" "[I"] ++ wsX10)
def wsX1_levelFor : List Cond := .code yX1_levelFor cX1_levelFor 3 (some .int) :: ([.methodLink RX1 43 yX1_loadOf, .instanceMethod yX1_loadOf, .selects RX1 yX1_loadOf yX1_loadOf, .initialized RX1, .code yX1_loadOf cX1_loadOf 3 (some .int), .methodLink RX1 39 yX1_between, .instanceMethod yX1_between, .selects RX1 yX1_between yX1_between, .code yX1_between cX1_between 5 (some .int), .fieldLink RX1 36 "ShelfMarksModel" "size" "I", .fieldLink RX1 13 "ShelfMarksModel" "marks" "[I", .fieldLink RX1 7 "ShelfMarksModel" "order" "[I", .methodLink RX1 46 yX1_limit, .static yX1_limit, .code yX1_limit cX1_limit 1 (some .int)] ++ wsX10)
def wsX1_loadWithout : List Cond := .code yX1_loadWithout cX1_loadWithout 7 (some .int) :: ([.fieldLink RX1 36 "ShelfMarksModel" "size" "I", .fieldLink RX1 13 "ShelfMarksModel" "marks" "[I", .fieldLink RX1 7 "ShelfMarksModel" "order" "[I"] ++ wsX10)
def wsX1_levelWithout : List Cond := .code yX1_levelWithout cX1_levelWithout 4 (some .int) :: ([.methodLink RX1 63 yX1_loadWithout, .instanceMethod yX1_loadWithout, .selects RX1 yX1_loadWithout yX1_loadWithout, .initialized RX1, .code yX1_loadWithout cX1_loadWithout 7 (some .int), .fieldLink RX1 36 "ShelfMarksModel" "size" "I", .fieldLink RX1 13 "ShelfMarksModel" "marks" "[I", .fieldLink RX1 7 "ShelfMarksModel" "order" "[I", .methodLink RX1 46 yX1_limit, .static yX1_limit, .code yX1_limit cX1_limit 1 (some .int)] ++ wsX10)
def wsX1_spreads : List Cond := .code yX1_spreads cX1_spreads 10 none :: ([.fieldLink RX1 36 "ShelfMarksModel" "size" "I", .fieldLink RX1 13 "ShelfMarksModel" "marks" "[I", .fieldLink RX1 7 "ShelfMarksModel" "order" "[I", .fieldLink RX1 67 "ShelfMarksModel" "moved" "I", .fieldLink RX1 20 "ShelfMarksModel" "spread" "[I"] ++ wsX10)
def wsX1_puts_r1 : List Cond := [Cond.fieldLink RX1 36 "ShelfMarksModel" "size" "I", Cond.fieldLink RX1 7 "ShelfMarksModel" "order" "[I", Cond.fieldLink RX1 13 "ShelfMarksModel" "marks" "[I", Cond.methodLink RX1 50 yX1_markAhead, Cond.instanceMethod yX1_markAhead, Cond.selects RX1 yX1_markAhead yX1_markAhead, Cond.initialized RX1, Cond.code yX1_markAhead cX1_markAhead 2 (some .int), Cond.methodLink RX1 53 yX1_markBehind, Cond.instanceMethod yX1_markBehind, Cond.selects RX1 yX1_markBehind yX1_markBehind, Cond.code yX1_markBehind cX1_markBehind 2 (some .int), Cond.methodLink RX1 56 yX1_levelWithout, Cond.instanceMethod yX1_levelWithout, Cond.selects RX1 yX1_levelWithout yX1_levelWithout, Cond.code yX1_levelWithout cX1_levelWithout 4 (some .int), Cond.methodLink RX1 63 yX1_loadWithout, Cond.instanceMethod yX1_loadWithout, Cond.selects RX1 yX1_loadWithout yX1_loadWithout, Cond.code yX1_loadWithout cX1_loadWithout 7 (some .int), Cond.methodLink RX1 46 yX1_limit, Cond.static yX1_limit, Cond.code yX1_limit cX1_limit 1 (some .int), Cond.methodLink RX1 59 yX1_spreads]
def wsX1_puts_r2 : List Cond := [Cond.instanceMethod yX1_spreads, Cond.selects RX1 yX1_spreads yX1_spreads, Cond.code yX1_spreads cX1_spreads 10 none, Cond.fieldLink RX1 67 "ShelfMarksModel" "moved" "I", Cond.fieldLink RX1 20 "ShelfMarksModel" "spread" "[I"]
def wsX1_puts : List Cond := .code yX1_puts cX1_puts 7 none :: ((wsX1_puts_r1 ++ wsX1_puts_r2) ++ wsX10)
def wsX1_comes_r1 : List Cond := [Cond.fieldLink RX1 33 "ShelfMarksModel" "came" "I", Cond.fieldLink RX1 16 "ShelfMarksModel" "isIn" "[Z", Cond.methodLink RX1 70 yX1_puts, Cond.instanceMethod yX1_puts, Cond.selects RX1 yX1_puts yX1_puts, Cond.initialized RX1, Cond.code yX1_puts cX1_puts 7 none, Cond.fieldLink RX1 36 "ShelfMarksModel" "size" "I", Cond.fieldLink RX1 7 "ShelfMarksModel" "order" "[I", Cond.fieldLink RX1 13 "ShelfMarksModel" "marks" "[I", Cond.methodLink RX1 50 yX1_markAhead, Cond.instanceMethod yX1_markAhead, Cond.selects RX1 yX1_markAhead yX1_markAhead, Cond.code yX1_markAhead cX1_markAhead 2 (some .int), Cond.methodLink RX1 53 yX1_markBehind, Cond.instanceMethod yX1_markBehind, Cond.selects RX1 yX1_markBehind yX1_markBehind, Cond.code yX1_markBehind cX1_markBehind 2 (some .int), Cond.methodLink RX1 56 yX1_levelWithout, Cond.instanceMethod yX1_levelWithout, Cond.selects RX1 yX1_levelWithout yX1_levelWithout, Cond.code yX1_levelWithout cX1_levelWithout 4 (some .int), Cond.methodLink RX1 63 yX1_loadWithout, Cond.instanceMethod yX1_loadWithout]
def wsX1_comes_r2 : List Cond := [Cond.selects RX1 yX1_loadWithout yX1_loadWithout, Cond.code yX1_loadWithout cX1_loadWithout 7 (some .int), Cond.methodLink RX1 46 yX1_limit, Cond.static yX1_limit, Cond.code yX1_limit cX1_limit 1 (some .int), Cond.methodLink RX1 59 yX1_spreads, Cond.instanceMethod yX1_spreads, Cond.selects RX1 yX1_spreads yX1_spreads, Cond.code yX1_spreads cX1_spreads 10 none, Cond.fieldLink RX1 67 "ShelfMarksModel" "moved" "I", Cond.fieldLink RX1 20 "ShelfMarksModel" "spread" "[I"]
def wsX1_comes : List Cond := .code yX1_comes cX1_comes 3 (some .int) :: ((wsX1_comes_r1 ++ wsX1_comes_r2) ++ wsX10)
def wsX1_isFull : List Cond := .code yX1_isFull cX1_isFull 1 (some .boolean) :: ([.fieldLink RX1 33 "ShelfMarksModel" "came" "I", .fieldLink RX1 36 "ShelfMarksModel" "size" "I"] ++ wsX10)
def wsX1_putFirst_r1 : List Cond := [Cond.fieldLink RX1 29 "ShelfMarksModel" "thrown" "I", Cond.methodLink RX1 74 yX1_isFull, Cond.instanceMethod yX1_isFull, Cond.selects RX1 yX1_isFull yX1_isFull, Cond.initialized RX1, Cond.code yX1_isFull cX1_isFull 1 (some .boolean), Cond.fieldLink RX1 33 "ShelfMarksModel" "came" "I", Cond.fieldLink RX1 36 "ShelfMarksModel" "size" "I", Cond.methodLink RX1 78 yX1_comes, Cond.instanceMethod yX1_comes, Cond.selects RX1 yX1_comes yX1_comes, Cond.code yX1_comes cX1_comes 3 (some .int), Cond.fieldLink RX1 16 "ShelfMarksModel" "isIn" "[Z", Cond.methodLink RX1 70 yX1_puts, Cond.instanceMethod yX1_puts, Cond.selects RX1 yX1_puts yX1_puts, Cond.code yX1_puts cX1_puts 7 none, Cond.fieldLink RX1 7 "ShelfMarksModel" "order" "[I", Cond.fieldLink RX1 13 "ShelfMarksModel" "marks" "[I", Cond.methodLink RX1 50 yX1_markAhead, Cond.instanceMethod yX1_markAhead, Cond.selects RX1 yX1_markAhead yX1_markAhead, Cond.code yX1_markAhead cX1_markAhead 2 (some .int), Cond.methodLink RX1 53 yX1_markBehind]
def wsX1_putFirst_r2 : List Cond := [Cond.instanceMethod yX1_markBehind, Cond.selects RX1 yX1_markBehind yX1_markBehind, Cond.code yX1_markBehind cX1_markBehind 2 (some .int), Cond.methodLink RX1 56 yX1_levelWithout, Cond.instanceMethod yX1_levelWithout, Cond.selects RX1 yX1_levelWithout yX1_levelWithout, Cond.code yX1_levelWithout cX1_levelWithout 4 (some .int), Cond.methodLink RX1 63 yX1_loadWithout, Cond.instanceMethod yX1_loadWithout, Cond.selects RX1 yX1_loadWithout yX1_loadWithout, Cond.code yX1_loadWithout cX1_loadWithout 7 (some .int), Cond.methodLink RX1 46 yX1_limit, Cond.static yX1_limit, Cond.code yX1_limit cX1_limit 1 (some .int), Cond.methodLink RX1 59 yX1_spreads, Cond.instanceMethod yX1_spreads, Cond.selects RX1 yX1_spreads yX1_spreads, Cond.code yX1_spreads cX1_spreads 10 none, Cond.fieldLink RX1 67 "ShelfMarksModel" "moved" "I", Cond.fieldLink RX1 20 "ShelfMarksModel" "spread" "[I"]
def wsX1_putFirst : List Cond := .code yX1_putFirst cX1_putFirst 1 (some .int) :: ((wsX1_putFirst_r1 ++ wsX1_putFirst_r2) ++ wsX10)
def wsX1_putBehind_r1 : List Cond := [Cond.fieldLink RX1 29 "ShelfMarksModel" "thrown" "I", Cond.methodLink RX1 81 yX1_known, Cond.instanceMethod yX1_known, Cond.selects RX1 yX1_known yX1_known, Cond.initialized RX1, Cond.code yX1_known cX1_known 2 (some .boolean), Cond.fieldLink RX1 33 "ShelfMarksModel" "came" "I", Cond.fieldLink RX1 16 "ShelfMarksModel" "isIn" "[Z", Cond.methodLink RX1 74 yX1_isFull, Cond.instanceMethod yX1_isFull, Cond.selects RX1 yX1_isFull yX1_isFull, Cond.code yX1_isFull cX1_isFull 1 (some .boolean), Cond.fieldLink RX1 36 "ShelfMarksModel" "size" "I", Cond.methodLink RX1 85 yX1_place, Cond.instanceMethod yX1_place, Cond.selects RX1 yX1_place yX1_place, Cond.code yX1_place cX1_place 3 (some .int), Cond.fieldLink RX1 7 "ShelfMarksModel" "order" "[I", Cond.methodLink RX1 78 yX1_comes, Cond.instanceMethod yX1_comes, Cond.selects RX1 yX1_comes yX1_comes, Cond.code yX1_comes cX1_comes 3 (some .int), Cond.methodLink RX1 70 yX1_puts, Cond.instanceMethod yX1_puts]
def wsX1_putBehind_r2 : List Cond := [Cond.selects RX1 yX1_puts yX1_puts, Cond.code yX1_puts cX1_puts 7 none, Cond.fieldLink RX1 13 "ShelfMarksModel" "marks" "[I", Cond.methodLink RX1 50 yX1_markAhead, Cond.instanceMethod yX1_markAhead, Cond.selects RX1 yX1_markAhead yX1_markAhead, Cond.code yX1_markAhead cX1_markAhead 2 (some .int), Cond.methodLink RX1 53 yX1_markBehind, Cond.instanceMethod yX1_markBehind, Cond.selects RX1 yX1_markBehind yX1_markBehind, Cond.code yX1_markBehind cX1_markBehind 2 (some .int), Cond.methodLink RX1 56 yX1_levelWithout, Cond.instanceMethod yX1_levelWithout, Cond.selects RX1 yX1_levelWithout yX1_levelWithout, Cond.code yX1_levelWithout cX1_levelWithout 4 (some .int), Cond.methodLink RX1 63 yX1_loadWithout, Cond.instanceMethod yX1_loadWithout, Cond.selects RX1 yX1_loadWithout yX1_loadWithout, Cond.code yX1_loadWithout cX1_loadWithout 7 (some .int), Cond.methodLink RX1 46 yX1_limit, Cond.static yX1_limit, Cond.code yX1_limit cX1_limit 1 (some .int), Cond.methodLink RX1 59 yX1_spreads, Cond.instanceMethod yX1_spreads]
def wsX1_putBehind_r3 : List Cond := [Cond.selects RX1 yX1_spreads yX1_spreads, Cond.code yX1_spreads cX1_spreads 10 none, Cond.fieldLink RX1 67 "ShelfMarksModel" "moved" "I", Cond.fieldLink RX1 20 "ShelfMarksModel" "spread" "[I"]
def wsX1_putBehind : List Cond := .code yX1_putBehind cX1_putBehind 2 (some .int) :: ((wsX1_putBehind_r1 ++ (wsX1_putBehind_r2 ++ wsX1_putBehind_r3)) ++ wsX10)
def wsX1_lifts : List Cond := .code yX1_lifts cX1_lifts 3 none :: ([.fieldLink RX1 36 "ShelfMarksModel" "size" "I", .fieldLink RX1 7 "ShelfMarksModel" "order" "[I", .methodLink RX1 85 yX1_place, .instanceMethod yX1_place, .selects RX1 yX1_place yX1_place, .initialized RX1, .code yX1_place cX1_place 3 (some .int)] ++ wsX10)
def wsX1_behind : List Cond := .code yX1_behind cX1_behind 3 (some .int) :: ([.fieldLink RX1 36 "ShelfMarksModel" "size" "I", .fieldLink RX1 7 "ShelfMarksModel" "order" "[I", .methodLink RX1 85 yX1_place, .instanceMethod yX1_place, .selects RX1 yX1_place yX1_place, .initialized RX1, .code yX1_place cX1_place 3 (some .int)] ++ wsX10)
def wsX1_takeOut : List Cond := .code yX1_takeOut cX1_takeOut 4 (some .int) :: ([.fieldLink RX1 29 "ShelfMarksModel" "thrown" "I", .fieldLink RX1 23 "ShelfMarksModel" "at" "[I", .fieldLink RX1 16 "ShelfMarksModel" "isIn" "[Z", .fieldLink RX1 36 "ShelfMarksModel" "size" "I", .methodLink RX1 81 yX1_known, .instanceMethod yX1_known, .selects RX1 yX1_known yX1_known, .initialized RX1, .code yX1_known cX1_known 2 (some .boolean), .fieldLink RX1 33 "ShelfMarksModel" "came" "I", .methodLink RX1 88 yX1_behind, .instanceMethod yX1_behind, .selects RX1 yX1_behind yX1_behind, .code yX1_behind cX1_behind 3 (some .int), .fieldLink RX1 7 "ShelfMarksModel" "order" "[I", .methodLink RX1 85 yX1_place, .instanceMethod yX1_place, .selects RX1 yX1_place yX1_place, .code yX1_place cX1_place 3 (some .int), .methodLink RX1 91 yX1_lifts, .instanceMethod yX1_lifts, .selects RX1 yX1_lifts yX1_lifts, .code yX1_lifts cX1_lifts 3 none] ++ wsX10)
def wsX1_carry_r1 : List Cond := [Cond.fieldLink RX1 29 "ShelfMarksModel" "thrown" "I", Cond.fieldLink RX1 13 "ShelfMarksModel" "marks" "[I", Cond.methodLink RX1 81 yX1_known, Cond.instanceMethod yX1_known, Cond.selects RX1 yX1_known yX1_known, Cond.initialized RX1, Cond.code yX1_known cX1_known 2 (some .boolean), Cond.fieldLink RX1 33 "ShelfMarksModel" "came" "I", Cond.fieldLink RX1 16 "ShelfMarksModel" "isIn" "[Z", Cond.methodLink RX1 91 yX1_lifts, Cond.instanceMethod yX1_lifts, Cond.selects RX1 yX1_lifts yX1_lifts, Cond.code yX1_lifts cX1_lifts 3 none, Cond.fieldLink RX1 36 "ShelfMarksModel" "size" "I", Cond.fieldLink RX1 7 "ShelfMarksModel" "order" "[I", Cond.methodLink RX1 85 yX1_place, Cond.instanceMethod yX1_place, Cond.selects RX1 yX1_place yX1_place, Cond.code yX1_place cX1_place 3 (some .int), Cond.methodLink RX1 70 yX1_puts, Cond.instanceMethod yX1_puts, Cond.selects RX1 yX1_puts yX1_puts, Cond.code yX1_puts cX1_puts 7 none, Cond.methodLink RX1 50 yX1_markAhead]
def wsX1_carry_r2 : List Cond := [Cond.instanceMethod yX1_markAhead, Cond.selects RX1 yX1_markAhead yX1_markAhead, Cond.code yX1_markAhead cX1_markAhead 2 (some .int), Cond.methodLink RX1 53 yX1_markBehind, Cond.instanceMethod yX1_markBehind, Cond.selects RX1 yX1_markBehind yX1_markBehind, Cond.code yX1_markBehind cX1_markBehind 2 (some .int), Cond.methodLink RX1 56 yX1_levelWithout, Cond.instanceMethod yX1_levelWithout, Cond.selects RX1 yX1_levelWithout yX1_levelWithout, Cond.code yX1_levelWithout cX1_levelWithout 4 (some .int), Cond.methodLink RX1 63 yX1_loadWithout, Cond.instanceMethod yX1_loadWithout, Cond.selects RX1 yX1_loadWithout yX1_loadWithout, Cond.code yX1_loadWithout cX1_loadWithout 7 (some .int), Cond.methodLink RX1 46 yX1_limit, Cond.static yX1_limit, Cond.code yX1_limit cX1_limit 1 (some .int), Cond.methodLink RX1 59 yX1_spreads, Cond.instanceMethod yX1_spreads, Cond.selects RX1 yX1_spreads yX1_spreads, Cond.code yX1_spreads cX1_spreads 10 none, Cond.fieldLink RX1 67 "ShelfMarksModel" "moved" "I", Cond.fieldLink RX1 20 "ShelfMarksModel" "spread" "[I"]
def wsX1_carry : List Cond := .code yX1_carry cX1_carry 3 (some .int) :: ((wsX1_carry_r1 ++ wsX1_carry_r2) ++ wsX10)
def wsX1_size : List Cond := .code yX1_size cX1_size 1 (some .int) :: ([.fieldLink RX1 29 "ShelfMarksModel" "thrown" "I", .fieldLink RX1 36 "ShelfMarksModel" "size" "I"] ++ wsX10)
def wsX1_first : List Cond := .code yX1_first cX1_first 1 (some .int) :: ([.fieldLink RX1 29 "ShelfMarksModel" "thrown" "I", .fieldLink RX1 36 "ShelfMarksModel" "size" "I", .fieldLink RX1 7 "ShelfMarksModel" "order" "[I"] ++ wsX10)
def wsX1_next : List Cond := .code yX1_next cX1_next 2 (some .int) :: ([.fieldLink RX1 29 "ShelfMarksModel" "thrown" "I", .methodLink RX1 81 yX1_known, .instanceMethod yX1_known, .selects RX1 yX1_known yX1_known, .initialized RX1, .code yX1_known cX1_known 2 (some .boolean), .fieldLink RX1 33 "ShelfMarksModel" "came" "I", .fieldLink RX1 16 "ShelfMarksModel" "isIn" "[Z", .methodLink RX1 88 yX1_behind, .instanceMethod yX1_behind, .selects RX1 yX1_behind yX1_behind, .code yX1_behind cX1_behind 3 (some .int), .fieldLink RX1 36 "ShelfMarksModel" "size" "I", .fieldLink RX1 7 "ShelfMarksModel" "order" "[I", .methodLink RX1 85 yX1_place, .instanceMethod yX1_place, .selects RX1 yX1_place yX1_place, .code yX1_place cX1_place 3 (some .int)] ++ wsX10)
def wsX1_previous : List Cond := .code yX1_previous cX1_previous 3 (some .int) :: ([.fieldLink RX1 29 "ShelfMarksModel" "thrown" "I", .fieldLink RX1 7 "ShelfMarksModel" "order" "[I", .methodLink RX1 81 yX1_known, .instanceMethod yX1_known, .selects RX1 yX1_known yX1_known, .initialized RX1, .code yX1_known cX1_known 2 (some .boolean), .fieldLink RX1 33 "ShelfMarksModel" "came" "I", .fieldLink RX1 16 "ShelfMarksModel" "isIn" "[Z", .methodLink RX1 85 yX1_place, .instanceMethod yX1_place, .selects RX1 yX1_place yX1_place, .code yX1_place cX1_place 3 (some .int)] ++ wsX10)
def wsX1_has : List Cond := .code yX1_has cX1_has 2 (some .boolean) :: ([.fieldLink RX1 29 "ShelfMarksModel" "thrown" "I", .methodLink RX1 81 yX1_known, .instanceMethod yX1_known, .selects RX1 yX1_known yX1_known, .initialized RX1, .code yX1_known cX1_known 2 (some .boolean), .fieldLink RX1 33 "ShelfMarksModel" "came" "I", .fieldLink RX1 16 "ShelfMarksModel" "isIn" "[Z"] ++ wsX10)
def wsX1_mark : List Cond := .code yX1_mark cX1_mark 2 (some .int) :: ([.fieldLink RX1 29 "ShelfMarksModel" "thrown" "I", .fieldLink RX1 13 "ShelfMarksModel" "marks" "[I", .methodLink RX1 81 yX1_known, .instanceMethod yX1_known, .selects RX1 yX1_known yX1_known, .initialized RX1, .code yX1_known cX1_known 2 (some .boolean), .fieldLink RX1 33 "ShelfMarksModel" "came" "I", .fieldLink RX1 16 "ShelfMarksModel" "isIn" "[Z"] ++ wsX10)
def wsX1_ahead : List Cond := .code yX1_ahead cX1_ahead 2 (some .int) :: ([.fieldLink RX1 29 "ShelfMarksModel" "thrown" "I", .fieldLink RX1 13 "ShelfMarksModel" "marks" "[I", .methodLink RX1 81 yX1_known, .instanceMethod yX1_known, .selects RX1 yX1_known yX1_known, .initialized RX1, .code yX1_known cX1_known 2 (some .boolean), .fieldLink RX1 33 "ShelfMarksModel" "came" "I", .fieldLink RX1 16 "ShelfMarksModel" "isIn" "[Z", .methodLink RX1 39 yX1_between, .instanceMethod yX1_between, .selects RX1 yX1_between yX1_between, .code yX1_between cX1_between 5 (some .int), .fieldLink RX1 36 "ShelfMarksModel" "size" "I", .fieldLink RX1 7 "ShelfMarksModel" "order" "[I"] ++ wsX10)
def wsX1_from : List Cond := .code yX1_from cX1_from 3 (some .int) :: ([.fieldLink RX1 29 "ShelfMarksModel" "thrown" "I", .fieldLink RX1 36 "ShelfMarksModel" "size" "I", .fieldLink RX1 13 "ShelfMarksModel" "marks" "[I", .fieldLink RX1 7 "ShelfMarksModel" "order" "[I"] ++ wsX10)
def wsX1_gapBehind : List Cond := .code yX1_gapBehind cX1_gapBehind 2 (some .int) :: ([.fieldLink RX1 29 "ShelfMarksModel" "thrown" "I", .fieldLink RX1 13 "ShelfMarksModel" "marks" "[I", .methodLink RX1 81 yX1_known, .instanceMethod yX1_known, .selects RX1 yX1_known yX1_known, .initialized RX1, .code yX1_known cX1_known 2 (some .boolean), .fieldLink RX1 33 "ShelfMarksModel" "came" "I", .fieldLink RX1 16 "ShelfMarksModel" "isIn" "[Z", .methodLink RX1 85 yX1_place, .instanceMethod yX1_place, .selects RX1 yX1_place yX1_place, .code yX1_place cX1_place 3 (some .int), .fieldLink RX1 7 "ShelfMarksModel" "order" "[I", .methodLink RX1 53 yX1_markBehind, .instanceMethod yX1_markBehind, .selects RX1 yX1_markBehind yX1_markBehind, .code yX1_markBehind cX1_markBehind 2 (some .int), .fieldLink RX1 36 "ShelfMarksModel" "size" "I"] ++ wsX10)
def wsX1_isLevel : List Cond := .code yX1_isLevel cX1_isLevel 1 (some .boolean) :: ([])
def wsX1_load : List Cond := .code yX1_load cX1_load 3 (some .int) :: ([.fieldLink RX1 29 "ShelfMarksModel" "thrown" "I", .methodLink RX1 95 yX1_isLevel, .static yX1_isLevel, .initialized RX1, .code yX1_isLevel cX1_isLevel 1 (some .boolean), .methodLink RX1 43 yX1_loadOf, .instanceMethod yX1_loadOf, .selects RX1 yX1_loadOf yX1_loadOf, .code yX1_loadOf cX1_loadOf 3 (some .int), .methodLink RX1 39 yX1_between, .instanceMethod yX1_between, .selects RX1 yX1_between yX1_between, .code yX1_between cX1_between 5 (some .int), .fieldLink RX1 36 "ShelfMarksModel" "size" "I", .fieldLink RX1 13 "ShelfMarksModel" "marks" "[I", .fieldLink RX1 7 "ShelfMarksModel" "order" "[I"] ++ wsX10)
def wsX1_loaded : List Cond := .code yX1_loaded cX1_loaded 4 (some .int) :: ([.fieldLink RX1 29 "ShelfMarksModel" "thrown" "I", .methodLink RX1 95 yX1_isLevel, .static yX1_isLevel, .initialized RX1, .code yX1_isLevel cX1_isLevel 1 (some .boolean), .methodLink RX1 43 yX1_loadOf, .instanceMethod yX1_loadOf, .selects RX1 yX1_loadOf yX1_loadOf, .code yX1_loadOf cX1_loadOf 3 (some .int), .methodLink RX1 39 yX1_between, .instanceMethod yX1_between, .selects RX1 yX1_between yX1_between, .code yX1_between cX1_between 5 (some .int), .fieldLink RX1 36 "ShelfMarksModel" "size" "I", .fieldLink RX1 13 "ShelfMarksModel" "marks" "[I", .fieldLink RX1 7 "ShelfMarksModel" "order" "[I", .methodLink RX1 46 yX1_limit, .static yX1_limit, .code yX1_limit cX1_limit 1 (some .int)] ++ wsX10)
def wsX1_wouldMove_r1 : List Cond := [Cond.fieldLink RX1 29 "ShelfMarksModel" "thrown" "I", Cond.fieldLink RX1 13 "ShelfMarksModel" "marks" "[I", Cond.fieldLink RX1 36 "ShelfMarksModel" "size" "I", Cond.fieldLink RX1 7 "ShelfMarksModel" "order" "[I", Cond.methodLink RX1 81 yX1_known, Cond.instanceMethod yX1_known, Cond.selects RX1 yX1_known yX1_known, Cond.initialized RX1, Cond.code yX1_known cX1_known 2 (some .boolean), Cond.fieldLink RX1 33 "ShelfMarksModel" "came" "I", Cond.fieldLink RX1 16 "ShelfMarksModel" "isIn" "[Z", Cond.methodLink RX1 85 yX1_place, Cond.instanceMethod yX1_place, Cond.selects RX1 yX1_place yX1_place, Cond.code yX1_place cX1_place 3 (some .int), Cond.methodLink RX1 53 yX1_markBehind, Cond.instanceMethod yX1_markBehind, Cond.selects RX1 yX1_markBehind yX1_markBehind, Cond.code yX1_markBehind cX1_markBehind 2 (some .int), Cond.methodLink RX1 98 yX1_levelFor, Cond.instanceMethod yX1_levelFor, Cond.selects RX1 yX1_levelFor yX1_levelFor, Cond.code yX1_levelFor cX1_levelFor 3 (some .int), Cond.methodLink RX1 43 yX1_loadOf]
def wsX1_wouldMove_r2 : List Cond := [Cond.instanceMethod yX1_loadOf, Cond.selects RX1 yX1_loadOf yX1_loadOf, Cond.code yX1_loadOf cX1_loadOf 3 (some .int), Cond.methodLink RX1 39 yX1_between, Cond.instanceMethod yX1_between, Cond.selects RX1 yX1_between yX1_between, Cond.code yX1_between cX1_between 5 (some .int), Cond.methodLink RX1 46 yX1_limit, Cond.static yX1_limit, Cond.code yX1_limit cX1_limit 1 (some .int)]
def wsX1_wouldMove : List Cond := .code yX1_wouldMove cX1_wouldMove 11 (some .int) :: ((wsX1_wouldMove_r1 ++ wsX1_wouldMove_r2) ++ wsX10)
def wsX1_moved : List Cond := .code yX1_moved cX1_moved 1 (some .int) :: ([.fieldLink RX1 29 "ShelfMarksModel" "thrown" "I", .fieldLink RX1 67 "ShelfMarksModel" "moved" "I"] ++ wsX10)
def wsX1_spread : List Cond := .code yX1_spread cX1_spread 2 (some .int) :: ([.fieldLink RX1 29 "ShelfMarksModel" "thrown" "I", .fieldLink RX1 20 "ShelfMarksModel" "spread" "[I", .methodLink RX1 95 yX1_isLevel, .static yX1_isLevel, .initialized RX1, .code yX1_isLevel cX1_isLevel 1 (some .boolean)] ++ wsX10)
def wsX1_isReader : List Cond := .code yX1_isReader cX1_isReader 1 (some .boolean) :: ([])
def wsX1_seat : List Cond := .code yX1_seat cX1_seat 5 (some .int) :: ([.fieldLink RX1 29 "ShelfMarksModel" "thrown" "I", .fieldLink RX1 23 "ShelfMarksModel" "at" "[I", .methodLink RX1 101 yX1_isReader, .static yX1_isReader, .initialized RX1, .code yX1_isReader cX1_isReader 1 (some .boolean), .methodLink RX1 81 yX1_known, .instanceMethod yX1_known, .selects RX1 yX1_known yX1_known, .code yX1_known cX1_known 2 (some .boolean), .fieldLink RX1 33 "ShelfMarksModel" "came" "I", .fieldLink RX1 16 "ShelfMarksModel" "isIn" "[Z"] ++ wsX10)
def wsX1_passDay : List Cond := .code yX1_passDay cX1_passDay 3 (some .int) :: ([.fieldLink RX1 29 "ShelfMarksModel" "thrown" "I", .fieldLink RX1 23 "ShelfMarksModel" "at" "[I", .fieldLink RX1 26 "ShelfMarksModel" "read" "[I", .methodLink RX1 88 yX1_behind, .instanceMethod yX1_behind, .selects RX1 yX1_behind yX1_behind, .initialized RX1, .code yX1_behind cX1_behind 3 (some .int), .fieldLink RX1 36 "ShelfMarksModel" "size" "I", .fieldLink RX1 7 "ShelfMarksModel" "order" "[I", .methodLink RX1 85 yX1_place, .instanceMethod yX1_place, .selects RX1 yX1_place yX1_place, .code yX1_place cX1_place 3 (some .int)] ++ wsX10)
def wsX1_at : List Cond := .code yX1_at cX1_at 2 (some .int) :: ([.fieldLink RX1 29 "ShelfMarksModel" "thrown" "I", .fieldLink RX1 23 "ShelfMarksModel" "at" "[I", .methodLink RX1 101 yX1_isReader, .static yX1_isReader, .initialized RX1, .code yX1_isReader cX1_isReader 1 (some .boolean)] ++ wsX10)
def wsX1_read : List Cond := .code yX1_read cX1_read 2 (some .int) :: ([.fieldLink RX1 29 "ShelfMarksModel" "thrown" "I", .fieldLink RX1 26 "ShelfMarksModel" "read" "[I", .methodLink RX1 101 yX1_isReader, .static yX1_isReader, .initialized RX1, .code yX1_isReader cX1_isReader 1 (some .boolean)] ++ wsX10)
def wsX1_daysTo : List Cond := .code yX1_daysTo cX1_daysTo 4 (some .int) :: ([.fieldLink RX1 29 "ShelfMarksModel" "thrown" "I", .fieldLink RX1 23 "ShelfMarksModel" "at" "[I", .methodLink RX1 101 yX1_isReader, .static yX1_isReader, .initialized RX1, .code yX1_isReader cX1_isReader 1 (some .boolean), .methodLink RX1 85 yX1_place, .instanceMethod yX1_place, .selects RX1 yX1_place yX1_place, .code yX1_place cX1_place 3 (some .int), .fieldLink RX1 7 "ShelfMarksModel" "order" "[I"] ++ wsX10)
def wsJ9_max_7cf53 : List Cond := .code yJ9_max_7cf53 cJ9_max_7cf53 2 (some .int) :: ([])
def wsL_putFirst_r1 : List Cond := [Cond.classLink RL 13 "java/lang/IllegalStateException", Cond.methodLink RL 7 yX0_putFirst, Cond.instanceMethod yX0_putFirst, Cond.selects RX0 yX0_putFirst yX0_putFirst, Cond.initialized RX0, Cond.code yX0_putFirst cX0_putFirst 2 (some .int), Cond.methodLink RX0 28 yX0_requireThatOneMayCome, Cond.instanceMethod yX0_requireThatOneMayCome, Cond.selects RX0 yX0_requireThatOneMayCome yX0_requireThatOneMayCome, Cond.code yX0_requireThatOneMayCome cX0_requireThatOneMayCome 1 none, Cond.classLink RX0 109 "java/lang/IllegalStateException", Cond.initialized "java/lang/IllegalStateException", Cond.fieldLink RX0 106 "ShelfMarks" "came" "I", Cond.fieldLink RX0 53 "ShelfMarks" "count" "I", Cond.methodLink RX0 31 yX0_nextNumber, Cond.instanceMethod yX0_nextNumber, Cond.selects RX0 yX0_nextNumber yX0_nextNumber, Cond.code yX0_nextNumber cX0_nextNumber 2 (some .int), Cond.methodLink RX0 35 yX0_putIn, Cond.instanceMethod yX0_putIn, Cond.selects RX0 yX0_putIn yX0_putIn, Cond.code yX0_putIn cX0_putIn 3 none, Cond.fieldLink RX0 95 "ShelfMarks" "moves" "I", Cond.methodLink RX0 92 yX0_movesByPuttingIn]
def wsL_putFirst_r2 : List Cond := [Cond.instanceMethod yX0_movesByPuttingIn, Cond.selects RX0 yX0_movesByPuttingIn yX0_movesByPuttingIn, Cond.code yX0_movesByPuttingIn cX0_movesByPuttingIn 9 (some .int), Cond.methodLink RX0 126 yX0_hasFreeMark, Cond.instanceMethod yX0_hasFreeMark, Cond.selects RX0 yX0_hasFreeMark yX0_hasFreeMark, Cond.code yX0_hasFreeMark cX0_hasFreeMark 2 (some .boolean), Cond.methodLink RX0 67 yX0_markAt, Cond.instanceMethod yX0_markAt, Cond.selects RX0 yX0_markAt yX0_markAt, Cond.code yX0_markAt cX0_markAt 2 (some .int), Cond.fieldLink RX0 13 "ShelfMarks" "marks" "[I", Cond.methodLink RX0 118 yX0_isPlace, Cond.instanceMethod yX0_isPlace, Cond.selects RX0 yX0_isPlace yX0_isPlace, Cond.code yX0_isPlace cX0_isPlace 2 (some .boolean), Cond.fieldLink RX0 9 "ShelfMarks" "folders" "[I", Cond.methodLink RX0 135 yX0_levelToSpread, Cond.instanceMethod yX0_levelToSpread, Cond.selects RX0 yX0_levelToSpread yX0_levelToSpread, Cond.code yX0_levelToSpread cX0_levelToSpread 4 (some .int), Cond.fieldLink RX0 16 "ShelfMarks" "LOADED_FROM" "[I", Cond.methodLink RX0 138 yX0_shelfToSpread, Cond.instanceMethod yX0_shelfToSpread]
def wsL_putFirst_r3 : List Cond := [Cond.selects RX0 yX0_shelfToSpread yX0_shelfToSpread, Cond.code yX0_shelfToSpread cX0_shelfToSpread 3 (some .int), Cond.methodLink RX0 151 Lib.Math.max.name, Cond.static Lib.Math.max.name, Cond.initialized "java/lang/Math", Cond.code Lib.Math.max.name Lib.Math.max.code 2 (some .int), Cond.methodLink RX0 88 yX0_isLoaded, Cond.instanceMethod yX0_isLoaded, Cond.selects RX0 yX0_isLoaded yX0_isLoaded, Cond.code yX0_isLoaded cX0_isLoaded 3 (some .boolean), Cond.methodLink RX0 84 yX0_foldersOn, Cond.instanceMethod yX0_foldersOn, Cond.selects RX0 yX0_foldersOn yX0_foldersOn, Cond.code yX0_foldersOn cX0_foldersOn 3 (some .int), Cond.methodLink RX0 141 yX0_firstMark, Cond.static yX0_firstMark, Cond.code yX0_firstMark cX0_firstMark 2 (some .int), Cond.methodLink RX0 70 yX0_marksBelow, Cond.instanceMethod yX0_marksBelow, Cond.selects RX0 yX0_marksBelow yX0_marksBelow, Cond.code yX0_marksBelow cX0_marksBelow 3 (some .int), Cond.methodLink RX0 144 yX0_spreadMark, Cond.static yX0_spreadMark, Cond.code yX0_spreadMark cX0_spreadMark 5 (some .int)]
def wsL_putFirst_r4 : List Cond := [Cond.methodLink RX0 156 yX0_shelfSize, Cond.static yX0_shelfSize, Cond.code yX0_shelfSize cX0_shelfSize 1 (some .int), Cond.methodLink RX0 129 yX0_insertAt, Cond.instanceMethod yX0_insertAt, Cond.selects RX0 yX0_insertAt yX0_insertAt, Cond.code yX0_insertAt cX0_insertAt 5 none, Cond.methodLink RX0 43 yX0_folderAt, Cond.instanceMethod yX0_folderAt, Cond.selects RX0 yX0_folderAt yX0_folderAt, Cond.code yX0_folderAt cX0_folderAt 2 (some .int), Cond.methodLink RX0 122 yX0_set, Cond.instanceMethod yX0_set, Cond.selects RX0 yX0_set yX0_set, Cond.code yX0_set cX0_set 4 none, Cond.methodLink RX0 132 yX0_spreadOut, Cond.instanceMethod yX0_spreadOut, Cond.selects RX0 yX0_spreadOut yX0_spreadOut, Cond.code yX0_spreadOut cX0_spreadOut 8 none, Cond.methodLink RX0 148 yX0_countSpread, Cond.instanceMethod yX0_countSpread, Cond.selects RX0 yX0_countSpread yX0_countSpread, Cond.code yX0_countSpread cX0_countSpread 2 none, Cond.fieldLink RX0 19 "ShelfMarks" "spreads" "[I"]
def wsL_putFirst : List Cond := .codeWith yL_putFirst cL_putFirst 3 (some .int) [(0, 8, 11, 13)] :: ((wsL_putFirst_r1 ++ (wsL_putFirst_r2 ++ (wsL_putFirst_r3 ++ wsL_putFirst_r4))) ++ wsX00 ++ (vx_atS RX0 113 "java/lang/IllegalStateException" ["java/lang/RuntimeException", "java/lang/Exception"]).filter goodWord)
def wsL_putBehind_r1 : List Cond := [Cond.classLink RL 19 "java/lang/IndexOutOfBoundsException", Cond.classLink RL 13 "java/lang/IllegalStateException", Cond.methodLink RL 15 yX0_putBehind, Cond.instanceMethod yX0_putBehind, Cond.selects RX0 yX0_putBehind yX0_putBehind, Cond.initialized RX0, Cond.code yX0_putBehind cX0_putBehind 4 (some .int), Cond.methodLink RX0 39 yX0_requirePlace, Cond.instanceMethod yX0_requirePlace, Cond.selects RX0 yX0_requirePlace yX0_requirePlace, Cond.code yX0_requirePlace cX0_requirePlace 3 (some .int), Cond.classLink RX0 79 "java/lang/IndexOutOfBoundsException", Cond.initialized "java/lang/IndexOutOfBoundsException", Cond.methodLink RX0 64 yX0_placeOf, Cond.instanceMethod yX0_placeOf, Cond.selects RX0 yX0_placeOf yX0_placeOf, Cond.code yX0_placeOf cX0_placeOf 3 (some .int), Cond.fieldLink RX0 53 "ShelfMarks" "count" "I", Cond.fieldLink RX0 9 "ShelfMarks" "folders" "[I", Cond.methodLink RX0 28 yX0_requireThatOneMayCome, Cond.instanceMethod yX0_requireThatOneMayCome, Cond.selects RX0 yX0_requireThatOneMayCome yX0_requireThatOneMayCome, Cond.code yX0_requireThatOneMayCome cX0_requireThatOneMayCome 1 none, Cond.classLink RX0 109 "java/lang/IllegalStateException"]
def wsL_putBehind_r2 : List Cond := [Cond.initialized "java/lang/IllegalStateException", Cond.fieldLink RX0 106 "ShelfMarks" "came" "I", Cond.methodLink RX0 31 yX0_nextNumber, Cond.instanceMethod yX0_nextNumber, Cond.selects RX0 yX0_nextNumber yX0_nextNumber, Cond.code yX0_nextNumber cX0_nextNumber 2 (some .int), Cond.methodLink RX0 35 yX0_putIn, Cond.instanceMethod yX0_putIn, Cond.selects RX0 yX0_putIn yX0_putIn, Cond.code yX0_putIn cX0_putIn 3 none, Cond.fieldLink RX0 95 "ShelfMarks" "moves" "I", Cond.methodLink RX0 92 yX0_movesByPuttingIn, Cond.instanceMethod yX0_movesByPuttingIn, Cond.selects RX0 yX0_movesByPuttingIn yX0_movesByPuttingIn, Cond.code yX0_movesByPuttingIn cX0_movesByPuttingIn 9 (some .int), Cond.methodLink RX0 126 yX0_hasFreeMark, Cond.instanceMethod yX0_hasFreeMark, Cond.selects RX0 yX0_hasFreeMark yX0_hasFreeMark, Cond.code yX0_hasFreeMark cX0_hasFreeMark 2 (some .boolean), Cond.methodLink RX0 67 yX0_markAt, Cond.instanceMethod yX0_markAt, Cond.selects RX0 yX0_markAt yX0_markAt, Cond.code yX0_markAt cX0_markAt 2 (some .int), Cond.fieldLink RX0 13 "ShelfMarks" "marks" "[I"]
def wsL_putBehind_r3 : List Cond := [Cond.methodLink RX0 118 yX0_isPlace, Cond.instanceMethod yX0_isPlace, Cond.selects RX0 yX0_isPlace yX0_isPlace, Cond.code yX0_isPlace cX0_isPlace 2 (some .boolean), Cond.methodLink RX0 135 yX0_levelToSpread, Cond.instanceMethod yX0_levelToSpread, Cond.selects RX0 yX0_levelToSpread yX0_levelToSpread, Cond.code yX0_levelToSpread cX0_levelToSpread 4 (some .int), Cond.fieldLink RX0 16 "ShelfMarks" "LOADED_FROM" "[I", Cond.methodLink RX0 138 yX0_shelfToSpread, Cond.instanceMethod yX0_shelfToSpread, Cond.selects RX0 yX0_shelfToSpread yX0_shelfToSpread, Cond.code yX0_shelfToSpread cX0_shelfToSpread 3 (some .int), Cond.methodLink RX0 151 Lib.Math.max.name, Cond.static Lib.Math.max.name, Cond.initialized "java/lang/Math", Cond.code Lib.Math.max.name Lib.Math.max.code 2 (some .int), Cond.methodLink RX0 88 yX0_isLoaded, Cond.instanceMethod yX0_isLoaded, Cond.selects RX0 yX0_isLoaded yX0_isLoaded, Cond.code yX0_isLoaded cX0_isLoaded 3 (some .boolean), Cond.methodLink RX0 84 yX0_foldersOn, Cond.instanceMethod yX0_foldersOn, Cond.selects RX0 yX0_foldersOn yX0_foldersOn]
def wsL_putBehind_r4 : List Cond := [Cond.code yX0_foldersOn cX0_foldersOn 3 (some .int), Cond.methodLink RX0 141 yX0_firstMark, Cond.static yX0_firstMark, Cond.code yX0_firstMark cX0_firstMark 2 (some .int), Cond.methodLink RX0 70 yX0_marksBelow, Cond.instanceMethod yX0_marksBelow, Cond.selects RX0 yX0_marksBelow yX0_marksBelow, Cond.code yX0_marksBelow cX0_marksBelow 3 (some .int), Cond.methodLink RX0 144 yX0_spreadMark, Cond.static yX0_spreadMark, Cond.code yX0_spreadMark cX0_spreadMark 5 (some .int), Cond.methodLink RX0 156 yX0_shelfSize, Cond.static yX0_shelfSize, Cond.code yX0_shelfSize cX0_shelfSize 1 (some .int), Cond.methodLink RX0 129 yX0_insertAt, Cond.instanceMethod yX0_insertAt, Cond.selects RX0 yX0_insertAt yX0_insertAt, Cond.code yX0_insertAt cX0_insertAt 5 none, Cond.methodLink RX0 43 yX0_folderAt, Cond.instanceMethod yX0_folderAt, Cond.selects RX0 yX0_folderAt yX0_folderAt, Cond.code yX0_folderAt cX0_folderAt 2 (some .int), Cond.methodLink RX0 122 yX0_set, Cond.instanceMethod yX0_set]
def wsL_putBehind_r5 : List Cond := [Cond.selects RX0 yX0_set yX0_set, Cond.code yX0_set cX0_set 4 none, Cond.methodLink RX0 132 yX0_spreadOut, Cond.instanceMethod yX0_spreadOut, Cond.selects RX0 yX0_spreadOut yX0_spreadOut, Cond.code yX0_spreadOut cX0_spreadOut 8 none, Cond.methodLink RX0 148 yX0_countSpread, Cond.instanceMethod yX0_countSpread, Cond.selects RX0 yX0_countSpread yX0_countSpread, Cond.code yX0_countSpread cX0_countSpread 2 none, Cond.fieldLink RX0 19 "ShelfMarks" "spreads" "[I"]
def wsL_putBehind : List Cond := .codeWith yL_putBehind cL_putBehind 4 (some .int) [(0, 9, 12, 19), (0, 9, 15, 13)] :: ((wsL_putBehind_r1 ++ (wsL_putBehind_r2 ++ (wsL_putBehind_r3 ++ (wsL_putBehind_r4 ++ wsL_putBehind_r5)))) ++ wsX00 ++ (vx_atS RX0 83 "java/lang/IndexOutOfBoundsException" ["java/lang/RuntimeException", "java/lang/Exception"]).filter goodWord ++ (vx_atS RX0 113 "java/lang/IllegalStateException" ["java/lang/RuntimeException", "java/lang/Exception"]).filter goodWord)
def wsL_takeOut_r1 : List Cond := [Cond.classLink RL 19 "java/lang/IndexOutOfBoundsException", Cond.methodLink RL 21 yX0_takeOut, Cond.instanceMethod yX0_takeOut, Cond.selects RX0 yX0_takeOut yX0_takeOut, Cond.initialized RX0, Cond.code yX0_takeOut cX0_takeOut 3 (some .int), Cond.fieldLink RX0 53 "ShelfMarks" "count" "I", Cond.methodLink RX0 39 yX0_requirePlace, Cond.instanceMethod yX0_requirePlace, Cond.selects RX0 yX0_requirePlace yX0_requirePlace, Cond.code yX0_requirePlace cX0_requirePlace 3 (some .int), Cond.classLink RX0 79 "java/lang/IndexOutOfBoundsException", Cond.initialized "java/lang/IndexOutOfBoundsException", Cond.methodLink RX0 64 yX0_placeOf, Cond.instanceMethod yX0_placeOf, Cond.selects RX0 yX0_placeOf yX0_placeOf, Cond.code yX0_placeOf cX0_placeOf 3 (some .int), Cond.fieldLink RX0 9 "ShelfMarks" "folders" "[I", Cond.methodLink RX0 43 yX0_folderAt, Cond.instanceMethod yX0_folderAt, Cond.selects RX0 yX0_folderAt yX0_folderAt, Cond.code yX0_folderAt cX0_folderAt 2 (some .int), Cond.methodLink RX0 118 yX0_isPlace, Cond.instanceMethod yX0_isPlace]
def wsL_takeOut_r2 : List Cond := [Cond.selects RX0 yX0_isPlace yX0_isPlace, Cond.code yX0_isPlace cX0_isPlace 2 (some .boolean), Cond.fieldLink RX0 13 "ShelfMarks" "marks" "[I", Cond.methodLink RX0 46 yX0_sendReadersOn, Cond.instanceMethod yX0_sendReadersOn, Cond.selects RX0 yX0_sendReadersOn yX0_sendReadersOn, Cond.code yX0_sendReadersOn cX0_sendReadersOn 4 none, Cond.fieldLink RX0 22 "ShelfMarks" "readerFolders" "[I", Cond.methodLink RX0 49 yX0_removeAt, Cond.instanceMethod yX0_removeAt, Cond.selects RX0 yX0_removeAt yX0_removeAt, Cond.code yX0_removeAt cX0_removeAt 3 none, Cond.methodLink RX0 67 yX0_markAt, Cond.instanceMethod yX0_markAt, Cond.selects RX0 yX0_markAt yX0_markAt, Cond.code yX0_markAt cX0_markAt 2 (some .int), Cond.methodLink RX0 122 yX0_set, Cond.instanceMethod yX0_set, Cond.selects RX0 yX0_set yX0_set, Cond.code yX0_set cX0_set 4 none]
def wsL_takeOut : List Cond := .codeWith yL_takeOut cL_takeOut 4 (some .int) [(0, 9, 12, 19)] :: ((wsL_takeOut_r1 ++ wsL_takeOut_r2) ++ wsX00 ++ (vx_atS RX0 83 "java/lang/IndexOutOfBoundsException" ["java/lang/RuntimeException", "java/lang/Exception"]).filter goodWord)
def wsL_carry_r1 : List Cond := [Cond.classLink RL 19 "java/lang/IndexOutOfBoundsException", Cond.classLink RL 28 "java/lang/IllegalArgumentException", Cond.methodLink RL 24 yX0_carry, Cond.instanceMethod yX0_carry, Cond.selects RX0 yX0_carry yX0_carry, Cond.initialized RX0, Cond.code yX0_carry cX0_carry 4 (some .int), Cond.classLink RX0 57 "java/lang/IllegalArgumentException", Cond.initialized "java/lang/IllegalArgumentException", Cond.methodLink RX0 39 yX0_requirePlace, Cond.instanceMethod yX0_requirePlace, Cond.selects RX0 yX0_requirePlace yX0_requirePlace, Cond.code yX0_requirePlace cX0_requirePlace 3 (some .int), Cond.classLink RX0 79 "java/lang/IndexOutOfBoundsException", Cond.initialized "java/lang/IndexOutOfBoundsException", Cond.methodLink RX0 64 yX0_placeOf, Cond.instanceMethod yX0_placeOf, Cond.selects RX0 yX0_placeOf yX0_placeOf, Cond.code yX0_placeOf cX0_placeOf 3 (some .int), Cond.fieldLink RX0 53 "ShelfMarks" "count" "I", Cond.fieldLink RX0 9 "ShelfMarks" "folders" "[I", Cond.methodLink RX0 49 yX0_removeAt, Cond.instanceMethod yX0_removeAt, Cond.selects RX0 yX0_removeAt yX0_removeAt]
def wsL_carry_r2 : List Cond := [Cond.code yX0_removeAt cX0_removeAt 3 none, Cond.methodLink RX0 118 yX0_isPlace, Cond.instanceMethod yX0_isPlace, Cond.selects RX0 yX0_isPlace yX0_isPlace, Cond.code yX0_isPlace cX0_isPlace 2 (some .boolean), Cond.fieldLink RX0 13 "ShelfMarks" "marks" "[I", Cond.methodLink RX0 43 yX0_folderAt, Cond.instanceMethod yX0_folderAt, Cond.selects RX0 yX0_folderAt yX0_folderAt, Cond.code yX0_folderAt cX0_folderAt 2 (some .int), Cond.methodLink RX0 67 yX0_markAt, Cond.instanceMethod yX0_markAt, Cond.selects RX0 yX0_markAt yX0_markAt, Cond.code yX0_markAt cX0_markAt 2 (some .int), Cond.methodLink RX0 122 yX0_set, Cond.instanceMethod yX0_set, Cond.selects RX0 yX0_set yX0_set, Cond.code yX0_set cX0_set 4 none, Cond.methodLink RX0 35 yX0_putIn, Cond.instanceMethod yX0_putIn, Cond.selects RX0 yX0_putIn yX0_putIn, Cond.code yX0_putIn cX0_putIn 3 none, Cond.fieldLink RX0 95 "ShelfMarks" "moves" "I", Cond.methodLink RX0 92 yX0_movesByPuttingIn]
def wsL_carry_r3 : List Cond := [Cond.instanceMethod yX0_movesByPuttingIn, Cond.selects RX0 yX0_movesByPuttingIn yX0_movesByPuttingIn, Cond.code yX0_movesByPuttingIn cX0_movesByPuttingIn 9 (some .int), Cond.methodLink RX0 126 yX0_hasFreeMark, Cond.instanceMethod yX0_hasFreeMark, Cond.selects RX0 yX0_hasFreeMark yX0_hasFreeMark, Cond.code yX0_hasFreeMark cX0_hasFreeMark 2 (some .boolean), Cond.methodLink RX0 135 yX0_levelToSpread, Cond.instanceMethod yX0_levelToSpread, Cond.selects RX0 yX0_levelToSpread yX0_levelToSpread, Cond.code yX0_levelToSpread cX0_levelToSpread 4 (some .int), Cond.fieldLink RX0 16 "ShelfMarks" "LOADED_FROM" "[I", Cond.methodLink RX0 138 yX0_shelfToSpread, Cond.instanceMethod yX0_shelfToSpread, Cond.selects RX0 yX0_shelfToSpread yX0_shelfToSpread, Cond.code yX0_shelfToSpread cX0_shelfToSpread 3 (some .int), Cond.methodLink RX0 151 Lib.Math.max.name, Cond.static Lib.Math.max.name, Cond.initialized "java/lang/Math", Cond.code Lib.Math.max.name Lib.Math.max.code 2 (some .int), Cond.methodLink RX0 88 yX0_isLoaded, Cond.instanceMethod yX0_isLoaded, Cond.selects RX0 yX0_isLoaded yX0_isLoaded, Cond.code yX0_isLoaded cX0_isLoaded 3 (some .boolean)]
def wsL_carry_r4 : List Cond := [Cond.methodLink RX0 84 yX0_foldersOn, Cond.instanceMethod yX0_foldersOn, Cond.selects RX0 yX0_foldersOn yX0_foldersOn, Cond.code yX0_foldersOn cX0_foldersOn 3 (some .int), Cond.methodLink RX0 141 yX0_firstMark, Cond.static yX0_firstMark, Cond.code yX0_firstMark cX0_firstMark 2 (some .int), Cond.methodLink RX0 70 yX0_marksBelow, Cond.instanceMethod yX0_marksBelow, Cond.selects RX0 yX0_marksBelow yX0_marksBelow, Cond.code yX0_marksBelow cX0_marksBelow 3 (some .int), Cond.methodLink RX0 144 yX0_spreadMark, Cond.static yX0_spreadMark, Cond.code yX0_spreadMark cX0_spreadMark 5 (some .int), Cond.methodLink RX0 156 yX0_shelfSize, Cond.static yX0_shelfSize, Cond.code yX0_shelfSize cX0_shelfSize 1 (some .int), Cond.methodLink RX0 129 yX0_insertAt, Cond.instanceMethod yX0_insertAt, Cond.selects RX0 yX0_insertAt yX0_insertAt, Cond.code yX0_insertAt cX0_insertAt 5 none, Cond.methodLink RX0 132 yX0_spreadOut, Cond.instanceMethod yX0_spreadOut, Cond.selects RX0 yX0_spreadOut yX0_spreadOut]
def wsL_carry_r5 : List Cond := [Cond.code yX0_spreadOut cX0_spreadOut 8 none, Cond.methodLink RX0 148 yX0_countSpread, Cond.instanceMethod yX0_countSpread, Cond.selects RX0 yX0_countSpread yX0_countSpread, Cond.code yX0_countSpread cX0_countSpread 2 none, Cond.fieldLink RX0 19 "ShelfMarks" "spreads" "[I"]
def wsL_carry : List Cond := .codeWith yL_carry cL_carry 5 (some .int) [(0, 10, 13, 19), (0, 10, 17, 28)] :: ((wsL_carry_r1 ++ (wsL_carry_r2 ++ (wsL_carry_r3 ++ (wsL_carry_r4 ++ wsL_carry_r5)))) ++ wsX00 ++ (vx_atS RX0 61 "java/lang/IllegalArgumentException" ["java/lang/RuntimeException", "java/lang/Exception"]).filter goodWord ++ (vx_atS RX0 83 "java/lang/IndexOutOfBoundsException" ["java/lang/RuntimeException", "java/lang/Exception"]).filter goodWord)
def wsL_next_r1 : List Cond := [Cond.classLink RL 19 "java/lang/IndexOutOfBoundsException", Cond.methodLink RL 30 yX0_next, Cond.instanceMethod yX0_next, Cond.selects RX0 yX0_next yX0_next, Cond.initialized RX0, Cond.code yX0_next cX0_next 2 (some .int), Cond.methodLink RX0 39 yX0_requirePlace, Cond.instanceMethod yX0_requirePlace, Cond.selects RX0 yX0_requirePlace yX0_requirePlace, Cond.code yX0_requirePlace cX0_requirePlace 3 (some .int), Cond.classLink RX0 79 "java/lang/IndexOutOfBoundsException", Cond.initialized "java/lang/IndexOutOfBoundsException", Cond.methodLink RX0 64 yX0_placeOf, Cond.instanceMethod yX0_placeOf, Cond.selects RX0 yX0_placeOf yX0_placeOf, Cond.code yX0_placeOf cX0_placeOf 3 (some .int), Cond.fieldLink RX0 53 "ShelfMarks" "count" "I", Cond.fieldLink RX0 9 "ShelfMarks" "folders" "[I", Cond.methodLink RX0 43 yX0_folderAt, Cond.instanceMethod yX0_folderAt, Cond.selects RX0 yX0_folderAt yX0_folderAt, Cond.code yX0_folderAt cX0_folderAt 2 (some .int), Cond.methodLink RX0 118 yX0_isPlace, Cond.instanceMethod yX0_isPlace]
def wsL_next_r2 : List Cond := [Cond.selects RX0 yX0_isPlace yX0_isPlace, Cond.code yX0_isPlace cX0_isPlace 2 (some .boolean), Cond.fieldLink RX0 13 "ShelfMarks" "marks" "[I"]
def wsL_next : List Cond := .codeWith yL_next cL_next 4 (some .int) [(0, 9, 12, 19)] :: ((wsL_next_r1 ++ wsL_next_r2) ++ wsX00 ++ (vx_atS RX0 83 "java/lang/IndexOutOfBoundsException" ["java/lang/RuntimeException", "java/lang/Exception"]).filter goodWord)
def wsL_previous_r1 : List Cond := [Cond.classLink RL 19 "java/lang/IndexOutOfBoundsException", Cond.methodLink RL 33 yX0_previous, Cond.instanceMethod yX0_previous, Cond.selects RX0 yX0_previous yX0_previous, Cond.initialized RX0, Cond.code yX0_previous cX0_previous 2 (some .int), Cond.methodLink RX0 39 yX0_requirePlace, Cond.instanceMethod yX0_requirePlace, Cond.selects RX0 yX0_requirePlace yX0_requirePlace, Cond.code yX0_requirePlace cX0_requirePlace 3 (some .int), Cond.classLink RX0 79 "java/lang/IndexOutOfBoundsException", Cond.initialized "java/lang/IndexOutOfBoundsException", Cond.methodLink RX0 64 yX0_placeOf, Cond.instanceMethod yX0_placeOf, Cond.selects RX0 yX0_placeOf yX0_placeOf, Cond.code yX0_placeOf cX0_placeOf 3 (some .int), Cond.fieldLink RX0 53 "ShelfMarks" "count" "I", Cond.fieldLink RX0 9 "ShelfMarks" "folders" "[I", Cond.methodLink RX0 43 yX0_folderAt, Cond.instanceMethod yX0_folderAt, Cond.selects RX0 yX0_folderAt yX0_folderAt, Cond.code yX0_folderAt cX0_folderAt 2 (some .int), Cond.methodLink RX0 118 yX0_isPlace, Cond.instanceMethod yX0_isPlace]
def wsL_previous_r2 : List Cond := [Cond.selects RX0 yX0_isPlace yX0_isPlace, Cond.code yX0_isPlace cX0_isPlace 2 (some .boolean), Cond.fieldLink RX0 13 "ShelfMarks" "marks" "[I"]
def wsL_previous : List Cond := .codeWith yL_previous cL_previous 4 (some .int) [(0, 9, 12, 19)] :: ((wsL_previous_r1 ++ wsL_previous_r2) ++ wsX00 ++ (vx_atS RX0 83 "java/lang/IndexOutOfBoundsException" ["java/lang/RuntimeException", "java/lang/Exception"]).filter goodWord)
def wsL_mark_r1 : List Cond := [Cond.classLink RL 19 "java/lang/IndexOutOfBoundsException", Cond.methodLink RL 36 yX0_mark, Cond.instanceMethod yX0_mark, Cond.selects RX0 yX0_mark yX0_mark, Cond.initialized RX0, Cond.code yX0_mark cX0_mark 2 (some .int), Cond.methodLink RX0 39 yX0_requirePlace, Cond.instanceMethod yX0_requirePlace, Cond.selects RX0 yX0_requirePlace yX0_requirePlace, Cond.code yX0_requirePlace cX0_requirePlace 3 (some .int), Cond.classLink RX0 79 "java/lang/IndexOutOfBoundsException", Cond.initialized "java/lang/IndexOutOfBoundsException", Cond.methodLink RX0 64 yX0_placeOf, Cond.instanceMethod yX0_placeOf, Cond.selects RX0 yX0_placeOf yX0_placeOf, Cond.code yX0_placeOf cX0_placeOf 3 (some .int), Cond.fieldLink RX0 53 "ShelfMarks" "count" "I", Cond.fieldLink RX0 9 "ShelfMarks" "folders" "[I", Cond.methodLink RX0 67 yX0_markAt, Cond.instanceMethod yX0_markAt, Cond.selects RX0 yX0_markAt yX0_markAt, Cond.code yX0_markAt cX0_markAt 2 (some .int), Cond.fieldLink RX0 13 "ShelfMarks" "marks" "[I", Cond.methodLink RX0 118 yX0_isPlace]
def wsL_mark_r2 : List Cond := [Cond.instanceMethod yX0_isPlace, Cond.selects RX0 yX0_isPlace yX0_isPlace, Cond.code yX0_isPlace cX0_isPlace 2 (some .boolean)]
def wsL_mark : List Cond := .codeWith yL_mark cL_mark 4 (some .int) [(0, 9, 12, 19)] :: ((wsL_mark_r1 ++ wsL_mark_r2) ++ wsX00 ++ (vx_atS RX0 83 "java/lang/IndexOutOfBoundsException" ["java/lang/RuntimeException", "java/lang/Exception"]).filter goodWord)
def wsL_ahead_r1 : List Cond := [Cond.classLink RL 19 "java/lang/IndexOutOfBoundsException", Cond.methodLink RL 39 yX0_ahead, Cond.instanceMethod yX0_ahead, Cond.selects RX0 yX0_ahead yX0_ahead, Cond.initialized RX0, Cond.code yX0_ahead cX0_ahead 2 (some .int), Cond.methodLink RX0 39 yX0_requirePlace, Cond.instanceMethod yX0_requirePlace, Cond.selects RX0 yX0_requirePlace yX0_requirePlace, Cond.code yX0_requirePlace cX0_requirePlace 3 (some .int), Cond.classLink RX0 79 "java/lang/IndexOutOfBoundsException", Cond.initialized "java/lang/IndexOutOfBoundsException", Cond.methodLink RX0 64 yX0_placeOf, Cond.instanceMethod yX0_placeOf, Cond.selects RX0 yX0_placeOf yX0_placeOf, Cond.code yX0_placeOf cX0_placeOf 3 (some .int), Cond.fieldLink RX0 53 "ShelfMarks" "count" "I", Cond.fieldLink RX0 9 "ShelfMarks" "folders" "[I", Cond.methodLink RX0 67 yX0_markAt, Cond.instanceMethod yX0_markAt, Cond.selects RX0 yX0_markAt yX0_markAt, Cond.code yX0_markAt cX0_markAt 2 (some .int), Cond.fieldLink RX0 13 "ShelfMarks" "marks" "[I", Cond.methodLink RX0 118 yX0_isPlace]
def wsL_ahead_r2 : List Cond := [Cond.instanceMethod yX0_isPlace, Cond.selects RX0 yX0_isPlace yX0_isPlace, Cond.code yX0_isPlace cX0_isPlace 2 (some .boolean), Cond.methodLink RX0 70 yX0_marksBelow, Cond.instanceMethod yX0_marksBelow, Cond.selects RX0 yX0_marksBelow yX0_marksBelow, Cond.code yX0_marksBelow cX0_marksBelow 3 (some .int)]
def wsL_ahead : List Cond := .codeWith yL_ahead cL_ahead 4 (some .int) [(0, 9, 12, 19)] :: ((wsL_ahead_r1 ++ wsL_ahead_r2) ++ wsX00 ++ (vx_atS RX0 83 "java/lang/IndexOutOfBoundsException" ["java/lang/RuntimeException", "java/lang/Exception"]).filter goodWord)
def wsL_gapBehind_r1 : List Cond := [Cond.classLink RL 19 "java/lang/IndexOutOfBoundsException", Cond.methodLink RL 42 yX0_gapBehind, Cond.instanceMethod yX0_gapBehind, Cond.selects RX0 yX0_gapBehind yX0_gapBehind, Cond.initialized RX0, Cond.code yX0_gapBehind cX0_gapBehind 3 (some .int), Cond.methodLink RX0 39 yX0_requirePlace, Cond.instanceMethod yX0_requirePlace, Cond.selects RX0 yX0_requirePlace yX0_requirePlace, Cond.code yX0_requirePlace cX0_requirePlace 3 (some .int), Cond.classLink RX0 79 "java/lang/IndexOutOfBoundsException", Cond.initialized "java/lang/IndexOutOfBoundsException", Cond.methodLink RX0 64 yX0_placeOf, Cond.instanceMethod yX0_placeOf, Cond.selects RX0 yX0_placeOf yX0_placeOf, Cond.code yX0_placeOf cX0_placeOf 3 (some .int), Cond.fieldLink RX0 53 "ShelfMarks" "count" "I", Cond.fieldLink RX0 9 "ShelfMarks" "folders" "[I", Cond.methodLink RX0 67 yX0_markAt, Cond.instanceMethod yX0_markAt, Cond.selects RX0 yX0_markAt yX0_markAt, Cond.code yX0_markAt cX0_markAt 2 (some .int), Cond.fieldLink RX0 13 "ShelfMarks" "marks" "[I", Cond.methodLink RX0 118 yX0_isPlace]
def wsL_gapBehind_r2 : List Cond := [Cond.instanceMethod yX0_isPlace, Cond.selects RX0 yX0_isPlace yX0_isPlace, Cond.code yX0_isPlace cX0_isPlace 2 (some .boolean)]
def wsL_gapBehind : List Cond := .codeWith yL_gapBehind cL_gapBehind 4 (some .int) [(0, 9, 12, 19)] :: ((wsL_gapBehind_r1 ++ wsL_gapBehind_r2) ++ wsX00 ++ (vx_atS RX0 83 "java/lang/IndexOutOfBoundsException" ["java/lang/RuntimeException", "java/lang/Exception"]).filter goodWord)
def wsL_load_r1 : List Cond := [Cond.classLink RL 19 "java/lang/IndexOutOfBoundsException", Cond.methodLink RL 45 yX0_load, Cond.instanceMethod yX0_load, Cond.selects RX0 yX0_load yX0_load, Cond.initialized RX0, Cond.code yX0_load cX0_load 3 (some .int), Cond.classLink RX0 79 "java/lang/IndexOutOfBoundsException", Cond.initialized "java/lang/IndexOutOfBoundsException", Cond.methodLink RX0 73 yX0_requireLevel, Cond.static yX0_requireLevel, Cond.code yX0_requireLevel cX0_requireLevel 1 none, Cond.fieldLink RX0 16 "ShelfMarks" "LOADED_FROM" "[I", Cond.methodLink RX0 76 yX0_shelvesOf, Cond.static yX0_shelvesOf, Cond.code yX0_shelvesOf cX0_shelvesOf 1 (some .int), Cond.methodLink RX0 84 yX0_foldersOn, Cond.instanceMethod yX0_foldersOn, Cond.selects RX0 yX0_foldersOn yX0_foldersOn, Cond.code yX0_foldersOn cX0_foldersOn 3 (some .int), Cond.methodLink RX0 141 yX0_firstMark, Cond.static yX0_firstMark, Cond.code yX0_firstMark cX0_firstMark 2 (some .int), Cond.methodLink RX0 70 yX0_marksBelow, Cond.instanceMethod yX0_marksBelow]
def wsL_load_r2 : List Cond := [Cond.selects RX0 yX0_marksBelow yX0_marksBelow, Cond.code yX0_marksBelow cX0_marksBelow 3 (some .int), Cond.fieldLink RX0 53 "ShelfMarks" "count" "I", Cond.fieldLink RX0 13 "ShelfMarks" "marks" "[I"]
def wsL_load : List Cond := .codeWith yL_load cL_load 5 (some .int) [(0, 10, 13, 19)] :: ((wsL_load_r1 ++ wsL_load_r2) ++ wsX00 ++ (vx_atS RX0 83 "java/lang/IndexOutOfBoundsException" ["java/lang/RuntimeException", "java/lang/Exception"]).filter goodWord)
def wsL_loaded_r1 : List Cond := [Cond.classLink RL 19 "java/lang/IndexOutOfBoundsException", Cond.methodLink RL 48 yX0_loaded, Cond.instanceMethod yX0_loaded, Cond.selects RX0 yX0_loaded yX0_loaded, Cond.initialized RX0, Cond.code yX0_loaded cX0_loaded 6 (some .int), Cond.fieldLink RX0 53 "ShelfMarks" "count" "I", Cond.methodLink RX0 73 yX0_requireLevel, Cond.static yX0_requireLevel, Cond.code yX0_requireLevel cX0_requireLevel 1 none, Cond.classLink RX0 79 "java/lang/IndexOutOfBoundsException", Cond.initialized "java/lang/IndexOutOfBoundsException", Cond.fieldLink RX0 16 "ShelfMarks" "LOADED_FROM" "[I", Cond.methodLink RX0 67 yX0_markAt, Cond.instanceMethod yX0_markAt, Cond.selects RX0 yX0_markAt yX0_markAt, Cond.code yX0_markAt cX0_markAt 2 (some .int), Cond.fieldLink RX0 13 "ShelfMarks" "marks" "[I", Cond.methodLink RX0 118 yX0_isPlace, Cond.instanceMethod yX0_isPlace, Cond.selects RX0 yX0_isPlace yX0_isPlace, Cond.code yX0_isPlace cX0_isPlace 2 (some .boolean), Cond.fieldLink RX0 9 "ShelfMarks" "folders" "[I", Cond.methodLink RX0 88 yX0_isLoaded]
def wsL_loaded_r2 : List Cond := [Cond.instanceMethod yX0_isLoaded, Cond.selects RX0 yX0_isLoaded yX0_isLoaded, Cond.code yX0_isLoaded cX0_isLoaded 3 (some .boolean), Cond.methodLink RX0 84 yX0_foldersOn, Cond.instanceMethod yX0_foldersOn, Cond.selects RX0 yX0_foldersOn yX0_foldersOn, Cond.code yX0_foldersOn cX0_foldersOn 3 (some .int), Cond.methodLink RX0 141 yX0_firstMark, Cond.static yX0_firstMark, Cond.code yX0_firstMark cX0_firstMark 2 (some .int), Cond.methodLink RX0 70 yX0_marksBelow, Cond.instanceMethod yX0_marksBelow, Cond.selects RX0 yX0_marksBelow yX0_marksBelow, Cond.code yX0_marksBelow cX0_marksBelow 3 (some .int)]
def wsL_loaded : List Cond := .codeWith yL_loaded cL_loaded 4 (some .int) [(0, 9, 12, 19)] :: ((wsL_loaded_r1 ++ wsL_loaded_r2) ++ wsX00 ++ (vx_atS RX0 83 "java/lang/IndexOutOfBoundsException" ["java/lang/RuntimeException", "java/lang/Exception"]).filter goodWord)
def wsL_wouldMove_r1 : List Cond := [Cond.classLink RL 19 "java/lang/IndexOutOfBoundsException", Cond.methodLink RL 51 yX0_wouldMove, Cond.instanceMethod yX0_wouldMove, Cond.selects RX0 yX0_wouldMove yX0_wouldMove, Cond.initialized RX0, Cond.code yX0_wouldMove cX0_wouldMove 2 (some .int), Cond.methodLink RX0 39 yX0_requirePlace, Cond.instanceMethod yX0_requirePlace, Cond.selects RX0 yX0_requirePlace yX0_requirePlace, Cond.code yX0_requirePlace cX0_requirePlace 3 (some .int), Cond.classLink RX0 79 "java/lang/IndexOutOfBoundsException", Cond.initialized "java/lang/IndexOutOfBoundsException", Cond.methodLink RX0 64 yX0_placeOf, Cond.instanceMethod yX0_placeOf, Cond.selects RX0 yX0_placeOf yX0_placeOf, Cond.code yX0_placeOf cX0_placeOf 3 (some .int), Cond.fieldLink RX0 53 "ShelfMarks" "count" "I", Cond.fieldLink RX0 9 "ShelfMarks" "folders" "[I", Cond.methodLink RX0 92 yX0_movesByPuttingIn, Cond.instanceMethod yX0_movesByPuttingIn, Cond.selects RX0 yX0_movesByPuttingIn yX0_movesByPuttingIn, Cond.code yX0_movesByPuttingIn cX0_movesByPuttingIn 9 (some .int), Cond.methodLink RX0 126 yX0_hasFreeMark, Cond.instanceMethod yX0_hasFreeMark]
def wsL_wouldMove_r2 : List Cond := [Cond.selects RX0 yX0_hasFreeMark yX0_hasFreeMark, Cond.code yX0_hasFreeMark cX0_hasFreeMark 2 (some .boolean), Cond.methodLink RX0 67 yX0_markAt, Cond.instanceMethod yX0_markAt, Cond.selects RX0 yX0_markAt yX0_markAt, Cond.code yX0_markAt cX0_markAt 2 (some .int), Cond.fieldLink RX0 13 "ShelfMarks" "marks" "[I", Cond.methodLink RX0 118 yX0_isPlace, Cond.instanceMethod yX0_isPlace, Cond.selects RX0 yX0_isPlace yX0_isPlace, Cond.code yX0_isPlace cX0_isPlace 2 (some .boolean), Cond.methodLink RX0 135 yX0_levelToSpread, Cond.instanceMethod yX0_levelToSpread, Cond.selects RX0 yX0_levelToSpread yX0_levelToSpread, Cond.code yX0_levelToSpread cX0_levelToSpread 4 (some .int), Cond.fieldLink RX0 16 "ShelfMarks" "LOADED_FROM" "[I", Cond.methodLink RX0 138 yX0_shelfToSpread, Cond.instanceMethod yX0_shelfToSpread, Cond.selects RX0 yX0_shelfToSpread yX0_shelfToSpread, Cond.code yX0_shelfToSpread cX0_shelfToSpread 3 (some .int), Cond.methodLink RX0 151 Lib.Math.max.name, Cond.static Lib.Math.max.name, Cond.initialized "java/lang/Math", Cond.code Lib.Math.max.name Lib.Math.max.code 2 (some .int)]
def wsL_wouldMove_r3 : List Cond := [Cond.methodLink RX0 88 yX0_isLoaded, Cond.instanceMethod yX0_isLoaded, Cond.selects RX0 yX0_isLoaded yX0_isLoaded, Cond.code yX0_isLoaded cX0_isLoaded 3 (some .boolean), Cond.methodLink RX0 84 yX0_foldersOn, Cond.instanceMethod yX0_foldersOn, Cond.selects RX0 yX0_foldersOn yX0_foldersOn, Cond.code yX0_foldersOn cX0_foldersOn 3 (some .int), Cond.methodLink RX0 141 yX0_firstMark, Cond.static yX0_firstMark, Cond.code yX0_firstMark cX0_firstMark 2 (some .int), Cond.methodLink RX0 70 yX0_marksBelow, Cond.instanceMethod yX0_marksBelow, Cond.selects RX0 yX0_marksBelow yX0_marksBelow, Cond.code yX0_marksBelow cX0_marksBelow 3 (some .int), Cond.methodLink RX0 144 yX0_spreadMark, Cond.static yX0_spreadMark, Cond.code yX0_spreadMark cX0_spreadMark 5 (some .int), Cond.methodLink RX0 156 yX0_shelfSize, Cond.static yX0_shelfSize, Cond.code yX0_shelfSize cX0_shelfSize 1 (some .int)]
def wsL_wouldMove : List Cond := .codeWith yL_wouldMove cL_wouldMove 4 (some .int) [(0, 9, 12, 19)] :: ((wsL_wouldMove_r1 ++ (wsL_wouldMove_r2 ++ wsL_wouldMove_r3)) ++ wsX00 ++ (vx_atS RX0 83 "java/lang/IndexOutOfBoundsException" ["java/lang/RuntimeException", "java/lang/Exception"]).filter goodWord)
def wsL_spread : List Cond := .codeWith yL_spread cL_spread 4 (some .int) [(0, 9, 12, 19)] :: ([.classLink RL 19 "java/lang/IndexOutOfBoundsException", .methodLink RL 54 yX0_spread, .instanceMethod yX0_spread, .selects RX0 yX0_spread yX0_spread, .initialized RX0, .code yX0_spread cX0_spread 2 (some .int), .fieldLink RX0 19 "ShelfMarks" "spreads" "[I", .methodLink RX0 73 yX0_requireLevel, .static yX0_requireLevel, .code yX0_requireLevel cX0_requireLevel 1 none, .classLink RX0 79 "java/lang/IndexOutOfBoundsException", .initialized "java/lang/IndexOutOfBoundsException", .fieldLink RX0 16 "ShelfMarks" "LOADED_FROM" "[I"] ++ wsX00 ++ (vx_atS RX0 83 "java/lang/IndexOutOfBoundsException" ["java/lang/RuntimeException", "java/lang/Exception"]).filter goodWord)
def wsL_seat_r1 : List Cond := [Cond.classLink RL 19 "java/lang/IndexOutOfBoundsException", Cond.methodLink RL 57 yX0_seat, Cond.instanceMethod yX0_seat, Cond.selects RX0 yX0_seat yX0_seat, Cond.initialized RX0, Cond.code yX0_seat cX0_seat 3 (some .int), Cond.fieldLink RX0 22 "ShelfMarks" "readerFolders" "[I", Cond.methodLink RX0 98 yX0_requireReader, Cond.static yX0_requireReader, Cond.code yX0_requireReader cX0_requireReader 1 none, Cond.classLink RX0 79 "java/lang/IndexOutOfBoundsException", Cond.initialized "java/lang/IndexOutOfBoundsException", Cond.methodLink RX0 39 yX0_requirePlace, Cond.instanceMethod yX0_requirePlace, Cond.selects RX0 yX0_requirePlace yX0_requirePlace, Cond.code yX0_requirePlace cX0_requirePlace 3 (some .int), Cond.methodLink RX0 64 yX0_placeOf, Cond.instanceMethod yX0_placeOf, Cond.selects RX0 yX0_placeOf yX0_placeOf, Cond.code yX0_placeOf cX0_placeOf 3 (some .int), Cond.fieldLink RX0 53 "ShelfMarks" "count" "I", Cond.fieldLink RX0 9 "ShelfMarks" "folders" "[I", Cond.methodLink RX0 101 yX0_readersAt, Cond.instanceMethod yX0_readersAt]
def wsL_seat_r2 : List Cond := [Cond.selects RX0 yX0_readersAt yX0_readersAt, Cond.code yX0_readersAt cX0_readersAt 4 (some .int)]
def wsL_seat : List Cond := .codeWith yL_seat cL_seat 5 (some .int) [(0, 10, 13, 19)] :: ((wsL_seat_r1 ++ wsL_seat_r2) ++ wsX00 ++ (vx_atS RX0 83 "java/lang/IndexOutOfBoundsException" ["java/lang/RuntimeException", "java/lang/Exception"]).filter goodWord)
def wsL_at : List Cond := .codeWith yL_at cL_at 4 (some .int) [(0, 9, 12, 19)] :: ([.classLink RL 19 "java/lang/IndexOutOfBoundsException", .methodLink RL 60 yX0_at, .instanceMethod yX0_at, .selects RX0 yX0_at yX0_at, .initialized RX0, .code yX0_at cX0_at 2 (some .int), .fieldLink RX0 22 "ShelfMarks" "readerFolders" "[I", .methodLink RX0 98 yX0_requireReader, .static yX0_requireReader, .code yX0_requireReader cX0_requireReader 1 none, .classLink RX0 79 "java/lang/IndexOutOfBoundsException", .initialized "java/lang/IndexOutOfBoundsException"] ++ wsX00 ++ (vx_atS RX0 83 "java/lang/IndexOutOfBoundsException" ["java/lang/RuntimeException", "java/lang/Exception"]).filter goodWord)
def wsL_read : List Cond := .codeWith yL_read cL_read 4 (some .int) [(0, 9, 12, 19)] :: ([.classLink RL 19 "java/lang/IndexOutOfBoundsException", .methodLink RL 63 yX0_read, .instanceMethod yX0_read, .selects RX0 yX0_read yX0_read, .initialized RX0, .code yX0_read cX0_read 2 (some .int), .fieldLink RX0 25 "ShelfMarks" "readerCounts" "[I", .methodLink RX0 98 yX0_requireReader, .static yX0_requireReader, .code yX0_requireReader cX0_requireReader 1 none, .classLink RX0 79 "java/lang/IndexOutOfBoundsException", .initialized "java/lang/IndexOutOfBoundsException"] ++ wsX00 ++ (vx_atS RX0 83 "java/lang/IndexOutOfBoundsException" ["java/lang/RuntimeException", "java/lang/Exception"]).filter goodWord)
def wsL_daysTo : List Cond := .codeWith yL_daysTo cL_daysTo 5 (some .int) [(0, 10, 13, 19)] :: ([.classLink RL 19 "java/lang/IndexOutOfBoundsException", .methodLink RL 66 yX0_daysTo, .instanceMethod yX0_daysTo, .selects RX0 yX0_daysTo yX0_daysTo, .initialized RX0, .code yX0_daysTo cX0_daysTo 5 (some .int), .fieldLink RX0 22 "ShelfMarks" "readerFolders" "[I", .methodLink RX0 98 yX0_requireReader, .static yX0_requireReader, .code yX0_requireReader cX0_requireReader 1 none, .classLink RX0 79 "java/lang/IndexOutOfBoundsException", .initialized "java/lang/IndexOutOfBoundsException", .methodLink RX0 64 yX0_placeOf, .instanceMethod yX0_placeOf, .selects RX0 yX0_placeOf yX0_placeOf, .code yX0_placeOf cX0_placeOf 3 (some .int), .fieldLink RX0 53 "ShelfMarks" "count" "I", .fieldLink RX0 9 "ShelfMarks" "folders" "[I"] ++ wsX00 ++ (vx_atS RX0 83 "java/lang/IndexOutOfBoundsException" ["java/lang/RuntimeException", "java/lang/Exception"]).filter goodWord)
def wsL_law0_r1 : List Cond := [Cond.classLink RL 8 RX0, Cond.instantiable RX0 8, Cond.initialized RX0, Cond.classLink RL 70 RX1, Cond.instantiable RX1 10, Cond.initialized RX1, Cond.arrayClass .long, Cond.methodLink RL 69 yX0_init, Cond.instanceMethod yX0_init, Cond.code yX0_init cX0_init 2 none, Cond.methodLink RX0 1 objectInit, Cond.instanceMethod objectInit, Cond.code objectInit ⟨#[0xb1]⟩ 1 none, Cond.arrayClass .int, Cond.fieldLink RX0 9 "ShelfMarks" "folders" "[I", Cond.fieldLink RX0 13 "ShelfMarks" "marks" "[I", Cond.fieldLink RX0 16 "ShelfMarks" "LOADED_FROM" "[I", Cond.fieldLink RX0 19 "ShelfMarks" "spreads" "[I", Cond.fieldLink RX0 22 "ShelfMarks" "readerFolders" "[I", Cond.fieldLink RX0 25 "ShelfMarks" "readerCounts" "[I", Cond.methodLink RL 72 yX1_init, Cond.instanceMethod yX1_init, Cond.code yX1_init cX1_init 1 none, Cond.methodLink RX1 1 objectInit]
def wsL_law0_r2 : List Cond := [Cond.fieldLink RX1 7 "ShelfMarksModel" "order" "[I", Cond.fieldLink RX1 13 "ShelfMarksModel" "marks" "[I", Cond.arrayClass .boolean, Cond.fieldLink RX1 16 "ShelfMarksModel" "isIn" "[Z", Cond.fieldLink RX1 20 "ShelfMarksModel" "spread" "[I", Cond.fieldLink RX1 23 "ShelfMarksModel" "at" "[I", Cond.fieldLink RX1 26 "ShelfMarksModel" "read" "[I", Cond.methodLink RL 73 yL_putFirst, Cond.static yL_putFirst, Cond.initialized RL, Cond.codeWith yL_putFirst cL_putFirst 3 (some .int) [(0, 8, 11, 13)], Cond.classLink RL 13 "java/lang/IllegalStateException", Cond.methodLink RL 7 yX0_putFirst, Cond.instanceMethod yX0_putFirst, Cond.selects RX0 yX0_putFirst yX0_putFirst, Cond.code yX0_putFirst cX0_putFirst 2 (some .int), Cond.methodLink RX0 28 yX0_requireThatOneMayCome, Cond.instanceMethod yX0_requireThatOneMayCome, Cond.selects RX0 yX0_requireThatOneMayCome yX0_requireThatOneMayCome, Cond.code yX0_requireThatOneMayCome cX0_requireThatOneMayCome 1 none, Cond.classLink RX0 109 "java/lang/IllegalStateException", Cond.initialized "java/lang/IllegalStateException", Cond.fieldLink RX0 106 "ShelfMarks" "came" "I", Cond.fieldLink RX0 53 "ShelfMarks" "count" "I"]
def wsL_law0_r3 : List Cond := [Cond.methodLink RX0 31 yX0_nextNumber, Cond.instanceMethod yX0_nextNumber, Cond.selects RX0 yX0_nextNumber yX0_nextNumber, Cond.code yX0_nextNumber cX0_nextNumber 2 (some .int), Cond.methodLink RX0 35 yX0_putIn, Cond.instanceMethod yX0_putIn, Cond.selects RX0 yX0_putIn yX0_putIn, Cond.code yX0_putIn cX0_putIn 3 none, Cond.fieldLink RX0 95 "ShelfMarks" "moves" "I", Cond.methodLink RX0 92 yX0_movesByPuttingIn, Cond.instanceMethod yX0_movesByPuttingIn, Cond.selects RX0 yX0_movesByPuttingIn yX0_movesByPuttingIn, Cond.code yX0_movesByPuttingIn cX0_movesByPuttingIn 9 (some .int), Cond.methodLink RX0 126 yX0_hasFreeMark, Cond.instanceMethod yX0_hasFreeMark, Cond.selects RX0 yX0_hasFreeMark yX0_hasFreeMark, Cond.code yX0_hasFreeMark cX0_hasFreeMark 2 (some .boolean), Cond.methodLink RX0 67 yX0_markAt, Cond.instanceMethod yX0_markAt, Cond.selects RX0 yX0_markAt yX0_markAt, Cond.code yX0_markAt cX0_markAt 2 (some .int), Cond.methodLink RX0 118 yX0_isPlace, Cond.instanceMethod yX0_isPlace, Cond.selects RX0 yX0_isPlace yX0_isPlace]
def wsL_law0_r4 : List Cond := [Cond.code yX0_isPlace cX0_isPlace 2 (some .boolean), Cond.methodLink RX0 135 yX0_levelToSpread, Cond.instanceMethod yX0_levelToSpread, Cond.selects RX0 yX0_levelToSpread yX0_levelToSpread, Cond.code yX0_levelToSpread cX0_levelToSpread 4 (some .int), Cond.methodLink RX0 138 yX0_shelfToSpread, Cond.instanceMethod yX0_shelfToSpread, Cond.selects RX0 yX0_shelfToSpread yX0_shelfToSpread, Cond.code yX0_shelfToSpread cX0_shelfToSpread 3 (some .int), Cond.methodLink RX0 151 Lib.Math.max.name, Cond.static Lib.Math.max.name, Cond.initialized "java/lang/Math", Cond.code Lib.Math.max.name Lib.Math.max.code 2 (some .int), Cond.methodLink RX0 88 yX0_isLoaded, Cond.instanceMethod yX0_isLoaded, Cond.selects RX0 yX0_isLoaded yX0_isLoaded, Cond.code yX0_isLoaded cX0_isLoaded 3 (some .boolean), Cond.methodLink RX0 84 yX0_foldersOn, Cond.instanceMethod yX0_foldersOn, Cond.selects RX0 yX0_foldersOn yX0_foldersOn, Cond.code yX0_foldersOn cX0_foldersOn 3 (some .int), Cond.methodLink RX0 141 yX0_firstMark, Cond.static yX0_firstMark, Cond.code yX0_firstMark cX0_firstMark 2 (some .int)]
def wsL_law0_r5 : List Cond := [Cond.methodLink RX0 70 yX0_marksBelow, Cond.instanceMethod yX0_marksBelow, Cond.selects RX0 yX0_marksBelow yX0_marksBelow, Cond.code yX0_marksBelow cX0_marksBelow 3 (some .int), Cond.methodLink RX0 144 yX0_spreadMark, Cond.static yX0_spreadMark, Cond.code yX0_spreadMark cX0_spreadMark 5 (some .int), Cond.methodLink RX0 156 yX0_shelfSize, Cond.static yX0_shelfSize, Cond.code yX0_shelfSize cX0_shelfSize 1 (some .int), Cond.methodLink RX0 129 yX0_insertAt, Cond.instanceMethod yX0_insertAt, Cond.selects RX0 yX0_insertAt yX0_insertAt, Cond.code yX0_insertAt cX0_insertAt 5 none, Cond.methodLink RX0 43 yX0_folderAt, Cond.instanceMethod yX0_folderAt, Cond.selects RX0 yX0_folderAt yX0_folderAt, Cond.code yX0_folderAt cX0_folderAt 2 (some .int), Cond.methodLink RX0 122 yX0_set, Cond.instanceMethod yX0_set, Cond.selects RX0 yX0_set yX0_set, Cond.code yX0_set cX0_set 4 none, Cond.methodLink RX0 132 yX0_spreadOut, Cond.instanceMethod yX0_spreadOut]
def wsL_law0_r6 : List Cond := [Cond.selects RX0 yX0_spreadOut yX0_spreadOut, Cond.code yX0_spreadOut cX0_spreadOut 8 none, Cond.methodLink RX0 148 yX0_countSpread, Cond.instanceMethod yX0_countSpread, Cond.selects RX0 yX0_countSpread yX0_countSpread, Cond.code yX0_countSpread cX0_countSpread 2 none, Cond.methodLink RL 78 yX1_putFirst, Cond.instanceMethod yX1_putFirst, Cond.selects RX1 yX1_putFirst yX1_putFirst, Cond.code yX1_putFirst cX1_putFirst 1 (some .int), Cond.fieldLink RX1 29 "ShelfMarksModel" "thrown" "I", Cond.methodLink RX1 74 yX1_isFull, Cond.instanceMethod yX1_isFull, Cond.selects RX1 yX1_isFull yX1_isFull, Cond.code yX1_isFull cX1_isFull 1 (some .boolean), Cond.fieldLink RX1 33 "ShelfMarksModel" "came" "I", Cond.fieldLink RX1 36 "ShelfMarksModel" "size" "I", Cond.methodLink RX1 78 yX1_comes, Cond.instanceMethod yX1_comes, Cond.selects RX1 yX1_comes yX1_comes, Cond.code yX1_comes cX1_comes 3 (some .int), Cond.methodLink RX1 70 yX1_puts, Cond.instanceMethod yX1_puts, Cond.selects RX1 yX1_puts yX1_puts]
def wsL_law0_r7 : List Cond := [Cond.code yX1_puts cX1_puts 7 none, Cond.methodLink RX1 50 yX1_markAhead, Cond.instanceMethod yX1_markAhead, Cond.selects RX1 yX1_markAhead yX1_markAhead, Cond.code yX1_markAhead cX1_markAhead 2 (some .int), Cond.methodLink RX1 53 yX1_markBehind, Cond.instanceMethod yX1_markBehind, Cond.selects RX1 yX1_markBehind yX1_markBehind, Cond.code yX1_markBehind cX1_markBehind 2 (some .int), Cond.methodLink RX1 56 yX1_levelWithout, Cond.instanceMethod yX1_levelWithout, Cond.selects RX1 yX1_levelWithout yX1_levelWithout, Cond.code yX1_levelWithout cX1_levelWithout 4 (some .int), Cond.methodLink RX1 63 yX1_loadWithout, Cond.instanceMethod yX1_loadWithout, Cond.selects RX1 yX1_loadWithout yX1_loadWithout, Cond.code yX1_loadWithout cX1_loadWithout 7 (some .int), Cond.methodLink RX1 46 yX1_limit, Cond.static yX1_limit, Cond.code yX1_limit cX1_limit 1 (some .int), Cond.methodLink RX1 59 yX1_spreads, Cond.instanceMethod yX1_spreads, Cond.selects RX1 yX1_spreads yX1_spreads, Cond.code yX1_spreads cX1_spreads 10 none]
def wsL_law0_r8 : List Cond := [Cond.fieldLink RX1 67 "ShelfMarksModel" "moved" "I", Cond.methodLink RL 79 yX1_thrown, Cond.instanceMethod yX1_thrown, Cond.selects RX1 yX1_thrown yX1_thrown, Cond.code yX1_thrown cX1_thrown 1 (some .int), Cond.methodLink RL 82 yL_putBehind, Cond.static yL_putBehind, Cond.codeWith yL_putBehind cL_putBehind 4 (some .int) [(0, 9, 12, 19), (0, 9, 15, 13)], Cond.classLink RL 19 "java/lang/IndexOutOfBoundsException", Cond.methodLink RL 15 yX0_putBehind, Cond.instanceMethod yX0_putBehind, Cond.selects RX0 yX0_putBehind yX0_putBehind, Cond.code yX0_putBehind cX0_putBehind 4 (some .int), Cond.methodLink RX0 39 yX0_requirePlace, Cond.instanceMethod yX0_requirePlace, Cond.selects RX0 yX0_requirePlace yX0_requirePlace, Cond.code yX0_requirePlace cX0_requirePlace 3 (some .int), Cond.classLink RX0 79 "java/lang/IndexOutOfBoundsException", Cond.initialized "java/lang/IndexOutOfBoundsException", Cond.methodLink RX0 64 yX0_placeOf, Cond.instanceMethod yX0_placeOf, Cond.selects RX0 yX0_placeOf yX0_placeOf, Cond.code yX0_placeOf cX0_placeOf 3 (some .int), Cond.methodLink RL 85 yX1_putBehind]
def wsL_law0_r9 : List Cond := [Cond.instanceMethod yX1_putBehind, Cond.selects RX1 yX1_putBehind yX1_putBehind, Cond.code yX1_putBehind cX1_putBehind 2 (some .int), Cond.methodLink RX1 81 yX1_known, Cond.instanceMethod yX1_known, Cond.selects RX1 yX1_known yX1_known, Cond.code yX1_known cX1_known 2 (some .boolean), Cond.methodLink RX1 85 yX1_place, Cond.instanceMethod yX1_place, Cond.selects RX1 yX1_place yX1_place, Cond.code yX1_place cX1_place 3 (some .int), Cond.methodLink RL 86 yL_takeOut, Cond.static yL_takeOut, Cond.codeWith yL_takeOut cL_takeOut 4 (some .int) [(0, 9, 12, 19)], Cond.methodLink RL 21 yX0_takeOut, Cond.instanceMethod yX0_takeOut, Cond.selects RX0 yX0_takeOut yX0_takeOut, Cond.code yX0_takeOut cX0_takeOut 3 (some .int), Cond.methodLink RX0 46 yX0_sendReadersOn, Cond.instanceMethod yX0_sendReadersOn, Cond.selects RX0 yX0_sendReadersOn yX0_sendReadersOn, Cond.code yX0_sendReadersOn cX0_sendReadersOn 4 none, Cond.methodLink RX0 49 yX0_removeAt, Cond.instanceMethod yX0_removeAt]
def wsL_law0_r10 : List Cond := [Cond.selects RX0 yX0_removeAt yX0_removeAt, Cond.code yX0_removeAt cX0_removeAt 3 none, Cond.methodLink RL 88 yX1_takeOut, Cond.instanceMethod yX1_takeOut, Cond.selects RX1 yX1_takeOut yX1_takeOut, Cond.code yX1_takeOut cX1_takeOut 4 (some .int), Cond.methodLink RX1 88 yX1_behind, Cond.instanceMethod yX1_behind, Cond.selects RX1 yX1_behind yX1_behind, Cond.code yX1_behind cX1_behind 3 (some .int), Cond.methodLink RX1 91 yX1_lifts, Cond.instanceMethod yX1_lifts, Cond.selects RX1 yX1_lifts yX1_lifts, Cond.code yX1_lifts cX1_lifts 3 none, Cond.methodLink RL 89 yL_carry, Cond.static yL_carry, Cond.codeWith yL_carry cL_carry 5 (some .int) [(0, 10, 13, 19), (0, 10, 17, 28)], Cond.classLink RL 28 "java/lang/IllegalArgumentException", Cond.methodLink RL 24 yX0_carry, Cond.instanceMethod yX0_carry, Cond.selects RX0 yX0_carry yX0_carry, Cond.code yX0_carry cX0_carry 4 (some .int), Cond.classLink RX0 57 "java/lang/IllegalArgumentException", Cond.initialized "java/lang/IllegalArgumentException"]
def wsL_law0_r11 : List Cond := [Cond.methodLink RL 92 yX1_carry, Cond.instanceMethod yX1_carry, Cond.selects RX1 yX1_carry yX1_carry, Cond.code yX1_carry cX1_carry 3 (some .int), Cond.methodLink RL 93 yX0_size, Cond.instanceMethod yX0_size, Cond.selects RX0 yX0_size yX0_size, Cond.code yX0_size cX0_size 1 (some .int), Cond.methodLink RL 96 yX1_size, Cond.instanceMethod yX1_size, Cond.selects RX1 yX1_size yX1_size, Cond.code yX1_size cX1_size 1 (some .int), Cond.methodLink RL 97 yX0_first, Cond.instanceMethod yX0_first, Cond.selects RX0 yX0_first yX0_first, Cond.code yX0_first cX0_first 1 (some .int), Cond.methodLink RL 100 yX1_first, Cond.instanceMethod yX1_first, Cond.selects RX1 yX1_first yX1_first, Cond.code yX1_first cX1_first 1 (some .int), Cond.methodLink RL 101 yL_next, Cond.static yL_next, Cond.codeWith yL_next cL_next 4 (some .int) [(0, 9, 12, 19)], Cond.methodLink RL 30 yX0_next]
def wsL_law0_r12 : List Cond := [Cond.instanceMethod yX0_next, Cond.selects RX0 yX0_next yX0_next, Cond.code yX0_next cX0_next 2 (some .int), Cond.methodLink RL 103 yX1_next, Cond.instanceMethod yX1_next, Cond.selects RX1 yX1_next yX1_next, Cond.code yX1_next cX1_next 2 (some .int), Cond.methodLink RL 104 yL_previous, Cond.static yL_previous, Cond.codeWith yL_previous cL_previous 4 (some .int) [(0, 9, 12, 19)], Cond.methodLink RL 33 yX0_previous, Cond.instanceMethod yX0_previous, Cond.selects RX0 yX0_previous yX0_previous, Cond.code yX0_previous cX0_previous 2 (some .int), Cond.methodLink RL 106 yX1_previous, Cond.instanceMethod yX1_previous, Cond.selects RX1 yX1_previous yX1_previous, Cond.code yX1_previous cX1_previous 3 (some .int), Cond.methodLink RL 107 yX0_has, Cond.instanceMethod yX0_has, Cond.selects RX0 yX0_has yX0_has, Cond.code yX0_has cX0_has 2 (some .boolean), Cond.methodLink RL 111 yX1_has, Cond.instanceMethod yX1_has]
def wsL_law0_r13 : List Cond := [Cond.selects RX1 yX1_has yX1_has, Cond.code yX1_has cX1_has 2 (some .boolean), Cond.methodLink RL 112 yL_mark, Cond.static yL_mark, Cond.codeWith yL_mark cL_mark 4 (some .int) [(0, 9, 12, 19)], Cond.methodLink RL 36 yX0_mark, Cond.instanceMethod yX0_mark, Cond.selects RX0 yX0_mark yX0_mark, Cond.code yX0_mark cX0_mark 2 (some .int), Cond.methodLink RL 114 yX1_mark, Cond.instanceMethod yX1_mark, Cond.selects RX1 yX1_mark yX1_mark, Cond.code yX1_mark cX1_mark 2 (some .int), Cond.methodLink RL 115 yL_ahead, Cond.static yL_ahead, Cond.codeWith yL_ahead cL_ahead 4 (some .int) [(0, 9, 12, 19)], Cond.methodLink RL 39 yX0_ahead, Cond.instanceMethod yX0_ahead, Cond.selects RX0 yX0_ahead yX0_ahead, Cond.code yX0_ahead cX0_ahead 2 (some .int), Cond.methodLink RL 117 yX1_ahead, Cond.instanceMethod yX1_ahead, Cond.selects RX1 yX1_ahead yX1_ahead, Cond.code yX1_ahead cX1_ahead 2 (some .int)]
def wsL_law0_r14 : List Cond := [Cond.methodLink RX1 39 yX1_between, Cond.instanceMethod yX1_between, Cond.selects RX1 yX1_between yX1_between, Cond.code yX1_between cX1_between 5 (some .int), Cond.methodLink RL 118 yX0_from, Cond.instanceMethod yX0_from, Cond.selects RX0 yX0_from yX0_from, Cond.code yX0_from cX0_from 2 (some .int), Cond.methodLink RL 121 yX1_from, Cond.instanceMethod yX1_from, Cond.selects RX1 yX1_from yX1_from, Cond.code yX1_from cX1_from 3 (some .int), Cond.methodLink RL 122 yL_gapBehind, Cond.static yL_gapBehind, Cond.codeWith yL_gapBehind cL_gapBehind 4 (some .int) [(0, 9, 12, 19)], Cond.methodLink RL 42 yX0_gapBehind, Cond.instanceMethod yX0_gapBehind, Cond.selects RX0 yX0_gapBehind yX0_gapBehind, Cond.code yX0_gapBehind cX0_gapBehind 3 (some .int), Cond.methodLink RL 124 yX1_gapBehind, Cond.instanceMethod yX1_gapBehind, Cond.selects RX1 yX1_gapBehind yX1_gapBehind, Cond.code yX1_gapBehind cX1_gapBehind 2 (some .int), Cond.methodLink RL 125 yL_load]
def wsL_law0_r15 : List Cond := [Cond.static yL_load, Cond.codeWith yL_load cL_load 5 (some .int) [(0, 10, 13, 19)], Cond.methodLink RL 45 yX0_load, Cond.instanceMethod yX0_load, Cond.selects RX0 yX0_load yX0_load, Cond.code yX0_load cX0_load 3 (some .int), Cond.methodLink RX0 73 yX0_requireLevel, Cond.static yX0_requireLevel, Cond.code yX0_requireLevel cX0_requireLevel 1 none, Cond.methodLink RX0 76 yX0_shelvesOf, Cond.static yX0_shelvesOf, Cond.code yX0_shelvesOf cX0_shelvesOf 1 (some .int), Cond.methodLink RL 127 yX1_load, Cond.instanceMethod yX1_load, Cond.selects RX1 yX1_load yX1_load, Cond.code yX1_load cX1_load 3 (some .int), Cond.methodLink RX1 95 yX1_isLevel, Cond.static yX1_isLevel, Cond.code yX1_isLevel cX1_isLevel 1 (some .boolean), Cond.methodLink RX1 43 yX1_loadOf, Cond.instanceMethod yX1_loadOf, Cond.selects RX1 yX1_loadOf yX1_loadOf, Cond.code yX1_loadOf cX1_loadOf 3 (some .int), Cond.methodLink RL 128 yL_loaded]
def wsL_law0_r16 : List Cond := [Cond.static yL_loaded, Cond.codeWith yL_loaded cL_loaded 4 (some .int) [(0, 9, 12, 19)], Cond.methodLink RL 48 yX0_loaded, Cond.instanceMethod yX0_loaded, Cond.selects RX0 yX0_loaded yX0_loaded, Cond.code yX0_loaded cX0_loaded 6 (some .int), Cond.methodLink RL 130 yX1_loaded, Cond.instanceMethod yX1_loaded, Cond.selects RX1 yX1_loaded yX1_loaded, Cond.code yX1_loaded cX1_loaded 4 (some .int), Cond.methodLink RL 131 yL_wouldMove, Cond.static yL_wouldMove, Cond.codeWith yL_wouldMove cL_wouldMove 4 (some .int) [(0, 9, 12, 19)], Cond.methodLink RL 51 yX0_wouldMove, Cond.instanceMethod yX0_wouldMove, Cond.selects RX0 yX0_wouldMove yX0_wouldMove, Cond.code yX0_wouldMove cX0_wouldMove 2 (some .int), Cond.methodLink RL 133 yX1_wouldMove, Cond.instanceMethod yX1_wouldMove, Cond.selects RX1 yX1_wouldMove yX1_wouldMove, Cond.code yX1_wouldMove cX1_wouldMove 11 (some .int), Cond.methodLink RX1 98 yX1_levelFor, Cond.instanceMethod yX1_levelFor, Cond.selects RX1 yX1_levelFor yX1_levelFor]
def wsL_law0_r17 : List Cond := [Cond.code yX1_levelFor cX1_levelFor 3 (some .int), Cond.methodLink RL 134 yX0_moved, Cond.instanceMethod yX0_moved, Cond.selects RX0 yX0_moved yX0_moved, Cond.code yX0_moved cX0_moved 1 (some .int), Cond.methodLink RL 137 yX1_moved, Cond.instanceMethod yX1_moved, Cond.selects RX1 yX1_moved yX1_moved, Cond.code yX1_moved cX1_moved 1 (some .int), Cond.methodLink RL 138 yL_spread, Cond.static yL_spread, Cond.codeWith yL_spread cL_spread 4 (some .int) [(0, 9, 12, 19)], Cond.methodLink RL 54 yX0_spread, Cond.instanceMethod yX0_spread, Cond.selects RX0 yX0_spread yX0_spread, Cond.code yX0_spread cX0_spread 2 (some .int), Cond.methodLink RL 140 yX1_spread, Cond.instanceMethod yX1_spread, Cond.selects RX1 yX1_spread yX1_spread, Cond.code yX1_spread cX1_spread 2 (some .int), Cond.methodLink RL 141 yL_seat, Cond.static yL_seat, Cond.codeWith yL_seat cL_seat 5 (some .int) [(0, 10, 13, 19)], Cond.methodLink RL 57 yX0_seat]
def wsL_law0_r18 : List Cond := [Cond.instanceMethod yX0_seat, Cond.selects RX0 yX0_seat yX0_seat, Cond.code yX0_seat cX0_seat 3 (some .int), Cond.methodLink RX0 98 yX0_requireReader, Cond.static yX0_requireReader, Cond.code yX0_requireReader cX0_requireReader 1 none, Cond.methodLink RX0 101 yX0_readersAt, Cond.instanceMethod yX0_readersAt, Cond.selects RX0 yX0_readersAt yX0_readersAt, Cond.code yX0_readersAt cX0_readersAt 4 (some .int), Cond.methodLink RL 143 yX1_seat, Cond.instanceMethod yX1_seat, Cond.selects RX1 yX1_seat yX1_seat, Cond.code yX1_seat cX1_seat 5 (some .int), Cond.methodLink RX1 101 yX1_isReader, Cond.static yX1_isReader, Cond.code yX1_isReader cX1_isReader 1 (some .boolean), Cond.methodLink RL 144 yX0_passDay, Cond.instanceMethod yX0_passDay, Cond.selects RX0 yX0_passDay yX0_passDay, Cond.code yX0_passDay cX0_passDay 4 (some .int), Cond.methodLink RL 147 yX1_passDay, Cond.instanceMethod yX1_passDay, Cond.selects RX1 yX1_passDay yX1_passDay]
def wsL_law0_r19 : List Cond := [Cond.code yX1_passDay cX1_passDay 3 (some .int), Cond.methodLink RL 148 yL_at, Cond.static yL_at, Cond.codeWith yL_at cL_at 4 (some .int) [(0, 9, 12, 19)], Cond.methodLink RL 60 yX0_at, Cond.instanceMethod yX0_at, Cond.selects RX0 yX0_at yX0_at, Cond.code yX0_at cX0_at 2 (some .int), Cond.methodLink RL 150 yX1_at, Cond.instanceMethod yX1_at, Cond.selects RX1 yX1_at yX1_at, Cond.code yX1_at cX1_at 2 (some .int), Cond.methodLink RL 151 yL_read, Cond.static yL_read, Cond.codeWith yL_read cL_read 4 (some .int) [(0, 9, 12, 19)], Cond.methodLink RL 63 yX0_read, Cond.instanceMethod yX0_read, Cond.selects RX0 yX0_read yX0_read, Cond.code yX0_read cX0_read 2 (some .int), Cond.methodLink RL 153 yX1_read, Cond.instanceMethod yX1_read, Cond.selects RX1 yX1_read yX1_read, Cond.code yX1_read cX1_read 2 (some .int), Cond.methodLink RL 154 yL_daysTo]
def wsL_law0_r20 : List Cond := [Cond.static yL_daysTo, Cond.codeWith yL_daysTo cL_daysTo 5 (some .int) [(0, 10, 13, 19)], Cond.methodLink RL 66 yX0_daysTo, Cond.instanceMethod yX0_daysTo, Cond.selects RX0 yX0_daysTo yX0_daysTo, Cond.code yX0_daysTo cX0_daysTo 5 (some .int), Cond.methodLink RL 156 yX1_daysTo, Cond.instanceMethod yX1_daysTo, Cond.selects RX1 yX1_daysTo yX1_daysTo, Cond.code yX1_daysTo cX1_daysTo 4 (some .int)]
def wsL_law0 : List Cond := (wsL_law0_r1 ++ (wsL_law0_r2 ++ (wsL_law0_r3 ++ (wsL_law0_r4 ++ (wsL_law0_r5 ++ (wsL_law0_r6 ++ (wsL_law0_r7 ++ (wsL_law0_r8 ++ (wsL_law0_r9 ++ (wsL_law0_r10 ++ (wsL_law0_r11 ++ (wsL_law0_r12 ++ (wsL_law0_r13 ++ (wsL_law0_r14 ++ (wsL_law0_r15 ++ (wsL_law0_r16 ++ (wsL_law0_r17 ++ (wsL_law0_r18 ++ (wsL_law0_r19 ++ wsL_law0_r20))))))))))))))))))) ++ wsX00 ++ wsX10 ++ ([] : List Cond)
def wsL_law : List Cond := wsL_law0 ++ (vx_atS RX0 113 "java/lang/IllegalStateException" ["java/lang/RuntimeException", "java/lang/Exception"]).filter goodWord ++ (vx_atS RX0 83 "java/lang/IndexOutOfBoundsException" ["java/lang/RuntimeException", "java/lang/Exception"]).filter goodWord ++ (vx_atS RX0 61 "java/lang/IllegalArgumentException" ["java/lang/RuntimeException", "java/lang/Exception"]).filter goodWord
end
section
set_option maxRecDepth 20000 in
theorem wsL_law0_r1_in : GoodIn lw_tbl wsL_law0_r1 := goodIn_r _ [48, 49, 39, 442, 443, 40, 645, 50, 51, 52, 53, 54, 55, 83, 58, 59, 56, 63, 64, 65, 444, 445, 446, 447] (by decide +kernel) (by decide +kernel)
set_option maxRecDepth 20000 in
theorem wsL_law0_r2_in : GoodIn lw_tbl wsL_law0_r2 := goodIn_r _ [448, 450, 479, 451, 454, 455, 456, 124, 125, 38, 126, 127, 128, 129, 130, 131, 132, 134, 4, 135, 136, 44, 61, 60] (by decide +kernel) (by decide +kernel)
set_option maxRecDepth 20000 in
theorem wsL_law0_r3_in : GoodIn lw_tbl wsL_law0_r3 := goodIn_r _ [204, 206, 6, 207, 208, 210, 7, 211, 62, 212, 214, 8, 215, 216, 218, 9, 219, 220, 222, 10, 223, 96, 98, 1] (by decide +kernel) (by decide +kernel)
set_option maxRecDepth 20000 in
theorem wsL_law0_r4_in : GoodIn lw_tbl wsL_law0_r4 := goodIn_r _ [99, 224, 226, 11, 227, 228, 230, 12, 231, 232, 233, 45, 234, 235, 237, 13, 238, 239, 241, 14, 242, 243, 244, 245] (by decide +kernel) (by decide +kernel)
set_option maxRecDepth 20000 in
theorem wsL_law0_r5_in : GoodIn lw_tbl wsL_law0_r5 := goodIn_r _ [112, 114, 3, 115, 246, 247, 248, 249, 250, 251, 252, 254, 15, 255, 92, 94, 0, 95, 256, 258, 16, 259, 260, 262] (by decide +kernel) (by decide +kernel)
set_option maxRecDepth 20000 in
theorem wsL_law0_r6_in : GoodIn lw_tbl wsL_law0_r6 := goodIn_r _ [17, 263, 264, 266, 18, 267, 484, 485, 486, 487, 457, 488, 490, 23, 491, 452, 449, 492, 494, 24, 495, 496, 498, 25] (by decide +kernel) (by decide +kernel)
set_option maxRecDepth 20000 in
theorem wsL_law0_r7_in : GoodIn lw_tbl wsL_law0_r7 := goodIn_r _ [499, 500, 502, 26, 503, 504, 506, 27, 507, 508, 510, 28, 511, 512, 514, 29, 515, 516, 517, 518, 519, 521, 30, 522] (by decide +kernel) (by decide +kernel)
set_option maxRecDepth 20000 in
theorem wsL_law0_r8_in : GoodIn lw_tbl wsL_law0_r8 := goodIn_r _ [453, 480, 481, 482, 483, 268, 269, 270, 271, 272, 273, 274, 275, 276, 278, 19, 279, 280, 46, 104, 106, 2, 107, 523] (by decide +kernel) (by decide +kernel)
set_option maxRecDepth 20000 in
theorem wsL_law0_r9_in : GoodIn lw_tbl wsL_law0_r9 := goodIn_r _ [524, 525, 526, 527, 529, 31, 530, 531, 533, 32, 534, 296, 297, 298, 299, 300, 301, 302, 303, 305, 20, 306, 307, 309] (by decide +kernel) (by decide +kernel)
set_option maxRecDepth 20000 in
theorem wsL_law0_r10_in : GoodIn lw_tbl wsL_law0_r10 := goodIn_r _ [21, 310, 535, 536, 537, 538, 539, 541, 33, 542, 543, 545, 34, 546, 311, 312, 313, 314, 315, 316, 317, 318, 319, 47] (by decide +kernel) (by decide +kernel)
set_option maxRecDepth 20000 in
theorem wsL_law0_r11_in : GoodIn lw_tbl wsL_law0_r11 := goodIn_r _ [547, 548, 549, 550, 84, 85, 86, 87, 551, 552, 553, 554, 88, 89, 90, 91, 555, 556, 557, 558, 335, 336, 337, 338] (by decide +kernel) (by decide +kernel)
set_option maxRecDepth 20000 in
theorem wsL_law0_r12_in : GoodIn lw_tbl wsL_law0_r12 := goodIn_r _ [339, 340, 341, 559, 560, 561, 562, 342, 343, 344, 345, 346, 347, 348, 563, 564, 565, 566, 100, 101, 102, 103, 567, 568] (by decide +kernel) (by decide +kernel)
set_option maxRecDepth 20000 in
theorem wsL_law0_r13_in : GoodIn lw_tbl wsL_law0_r13 := goodIn_r _ [569, 570, 349, 350, 351, 352, 353, 354, 355, 571, 572, 573, 574, 356, 357, 358, 359, 360, 361, 362, 575, 576, 577, 578] (by decide +kernel) (by decide +kernel)
set_option maxRecDepth 20000 in
theorem wsL_law0_r14_in : GoodIn lw_tbl wsL_law0_r14 := goodIn_r _ [579, 581, 35, 582, 108, 109, 110, 111, 583, 584, 585, 586, 363, 364, 365, 366, 367, 368, 369, 587, 588, 589, 590, 370] (by decide +kernel) (by decide +kernel)
set_option maxRecDepth 20000 in
theorem wsL_law0_r15_in : GoodIn lw_tbl wsL_law0_r15 := goodIn_r _ [371, 372, 373, 374, 375, 376, 377, 378, 379, 381, 382, 383, 591, 592, 593, 594, 595, 596, 597, 598, 600, 36, 601, 385] (by decide +kernel) (by decide +kernel)
set_option maxRecDepth 20000 in
theorem wsL_law0_r16_in : GoodIn lw_tbl wsL_law0_r16 := goodIn_r _ [386, 387, 388, 389, 390, 391, 602, 603, 604, 605, 392, 393, 394, 395, 396, 397, 398, 606, 607, 608, 609, 610, 612, 37] (by decide +kernel) (by decide +kernel)
set_option maxRecDepth 20000 in
theorem wsL_law0_r17_in : GoodIn lw_tbl wsL_law0_r17 := goodIn_r _ [613, 116, 117, 118, 119, 614, 615, 616, 617, 399, 400, 401, 402, 403, 404, 405, 618, 619, 620, 621, 406, 407, 408, 409] (by decide +kernel) (by decide +kernel)
set_option maxRecDepth 20000 in
theorem wsL_law0_r18_in : GoodIn lw_tbl wsL_law0_r18 := goodIn_r _ [410, 411, 412, 413, 414, 415, 417, 419, 22, 420, 622, 623, 624, 625, 626, 627, 628, 120, 121, 122, 123, 629, 630, 631] (by decide +kernel) (by decide +kernel)
set_option maxRecDepth 20000 in
theorem wsL_law0_r19_in : GoodIn lw_tbl wsL_law0_r19 := goodIn_r _ [632, 421, 422, 423, 424, 425, 426, 427, 633, 634, 635, 636, 428, 429, 430, 431, 432, 433, 434, 637, 638, 639, 640, 435] (by decide +kernel) (by decide +kernel)
set_option maxRecDepth 20000 in
theorem wsL_law0_r20_in : GoodIn lw_tbl wsL_law0_r20 := goodIn_r _ [436, 437, 438, 439, 440, 441, 641, 642, 643, 644] (by decide +kernel) (by decide +kernel)
set_option maxRecDepth 20000 in
theorem wsX00_in : GoodIn lw_tbl wsX00 := goodIn_r _ [66, 68, 70, 72, 74, 76, 78, 80] (by decide +kernel) (by decide +kernel)
set_option maxRecDepth 20000 in
theorem wsX10_in : GoodIn lw_tbl wsX10 := goodIn_r _ [458, 460, 462, 464, 466, 468, 470, 472, 474, 476] (by decide +kernel) (by decide +kernel)
set_option maxRecDepth 20000 in
theorem wsL_law0_t_in : GoodIn lw_tbl ([] : List Cond) := goodIn_r _ [] (by decide +kernel) (by decide +kernel)
set_option maxRecDepth 20000 in
theorem wsL_law_in0 : ∀ w ∈ wsL_law0, w ∈ lw_tbl := fun w h => ((goodIn_app (goodIn_app (goodIn_app (goodIn_app wsL_law0_r1_in (goodIn_app wsL_law0_r2_in (goodIn_app wsL_law0_r3_in (goodIn_app wsL_law0_r4_in (goodIn_app wsL_law0_r5_in (goodIn_app wsL_law0_r6_in (goodIn_app wsL_law0_r7_in (goodIn_app wsL_law0_r8_in (goodIn_app wsL_law0_r9_in (goodIn_app wsL_law0_r10_in (goodIn_app wsL_law0_r11_in (goodIn_app wsL_law0_r12_in (goodIn_app wsL_law0_r13_in (goodIn_app wsL_law0_r14_in (goodIn_app wsL_law0_r15_in (goodIn_app wsL_law0_r16_in (goodIn_app wsL_law0_r17_in (goodIn_app wsL_law0_r18_in (goodIn_app wsL_law0_r19_in (wsL_law0_r20_in)))))))))))))))))))) wsX00_in) wsX10_in) wsL_law0_t_in : GoodIn lw_tbl wsL_law0) w h).1
theorem wsL_law_x0 : ∀ w ∈ (vx_atS RX0 113 "java/lang/IllegalStateException" ["java/lang/RuntimeException", "java/lang/Exception"]).filter goodWord, w ∈ lw_tbl := by decide +kernel
theorem wsL_law_x1 : ∀ w ∈ (vx_atS RX0 83 "java/lang/IndexOutOfBoundsException" ["java/lang/RuntimeException", "java/lang/Exception"]).filter goodWord, w ∈ lw_tbl := by decide +kernel
theorem wsL_law_x2 : ∀ w ∈ (vx_atS RX0 61 "java/lang/IllegalArgumentException" ["java/lang/RuntimeException", "java/lang/Exception"]).filter goodWord, w ∈ lw_tbl := by decide +kernel
theorem wsL_law_in : ∀ w ∈ wsL_law, w ∈ lw_tbl := fun w h => (List.mem_append.mp h).elim (fun h => (List.mem_append.mp h).elim (fun h => (List.mem_append.mp h).elim (fun h => wsL_law_in0 w h) (fun h => wsL_law_x0 w h)) (fun h => wsL_law_x1 w h)) (fun h => wsL_law_x2 w h)
theorem inlX0 : ∀ w ∈ wsX00, w ∈ wsL_law := fun _ h => List.mem_append_left _ (List.mem_append_left _ (List.mem_append_left _ (List.mem_append_left _ (List.mem_append_left _ (List.mem_append_right _ h)))))
theorem inX0 : ∀ w ∈ wsX00, w ∈ lw_tbl := fun w h => wsL_law_in w (inlX0 w h)
theorem inlX1 : ∀ w ∈ wsX10, w ∈ wsL_law := fun _ h => List.mem_append_left _ (List.mem_append_left _ (List.mem_append_left _ (List.mem_append_left _ (List.mem_append_right _ h))))
theorem inX1 : ∀ w ∈ wsX10, w ∈ lw_tbl := fun w h => wsL_law_in w (inlX1 w h)
theorem inJ9 : ∀ w ∈ wsJ90, w ∈ lw_tbl := by decide +kernel
theorem inJ0 : ∀ w ∈ wsJ00, w ∈ lw_tbl := by decide +kernel
end
section
theorem dX0_init_0 : decode cX0_init 0 = .ok (.aload_n 0, 1) := by decide +kernel
theorem dX0_init_1 : decode cX0_init 1 = .ok (.invokespecial 1, 3) := by decide +kernel
theorem dX0_init_4 : decode cX0_init 4 = .ok (.aload_n 0, 1) := by decide +kernel
theorem dX0_init_5 : decode cX0_init 5 = .ok (.bipush 60, 2) := by decide +kernel
theorem dX0_init_7 : decode cX0_init 7 = .ok (.newarray .int, 2) := by decide +kernel
theorem dX0_init_9 : decode cX0_init 9 = .ok (.putfield 9, 3) := by decide +kernel
theorem dX0_init_12 : decode cX0_init 12 = .ok (.aload_n 0, 1) := by decide +kernel
theorem dX0_init_13 : decode cX0_init 13 = .ok (.bipush 60, 2) := by decide +kernel
theorem dX0_init_15 : decode cX0_init 15 = .ok (.newarray .int, 2) := by decide +kernel
theorem dX0_init_17 : decode cX0_init 17 = .ok (.putfield 13, 3) := by decide +kernel
theorem dX0_init_20 : decode cX0_init 20 = .ok (.aload_n 0, 1) := by decide +kernel
theorem dX0_init_21 : decode cX0_init 21 = .ok (.getstatic 16, 3) := by decide +kernel
theorem dX0_init_24 : decode cX0_init 24 = .ok (.arraylength, 1) := by decide +kernel
theorem dX0_init_25 : decode cX0_init 25 = .ok (.newarray .int, 2) := by decide +kernel
theorem dX0_init_27 : decode cX0_init 27 = .ok (.putfield 19, 3) := by decide +kernel
theorem dX0_init_30 : decode cX0_init 30 = .ok (.aload_n 0, 1) := by decide +kernel
theorem dX0_init_31 : decode cX0_init 31 = .ok (.iconst 4, 1) := by decide +kernel
theorem dX0_init_32 : decode cX0_init 32 = .ok (.newarray .int, 2) := by decide +kernel
theorem dX0_init_34 : decode cX0_init 34 = .ok (.putfield 22, 3) := by decide +kernel
theorem dX0_init_37 : decode cX0_init 37 = .ok (.aload_n 0, 1) := by decide +kernel
theorem dX0_init_38 : decode cX0_init 38 = .ok (.iconst 4, 1) := by decide +kernel
theorem dX0_init_39 : decode cX0_init 39 = .ok (.newarray .int, 2) := by decide +kernel
theorem dX0_init_41 : decode cX0_init 41 = .ok (.putfield 25, 3) := by decide +kernel
theorem dX0_init_44 : decode cX0_init 44 = .ok (.iconst 0, 1) := by decide +kernel
theorem dX0_init_45 : decode cX0_init 45 = .ok (.istore_n 1, 1) := by decide +kernel
theorem dX0_init_46 : decode cX0_init 46 = .ok (.iload_n 1, 1) := by decide +kernel
theorem dX0_init_47 : decode cX0_init 47 = .ok (.iconst 4, 1) := by decide +kernel
theorem dX0_init_48 : decode cX0_init 48 = .ok (.if_icmp .ge 16, 3) := by decide +kernel
theorem dX0_init_51 : decode cX0_init 51 = .ok (.aload_n 0, 1) := by decide +kernel
theorem dX0_init_52 : decode cX0_init 52 = .ok (.getfield 22, 3) := by decide +kernel
theorem dX0_init_55 : decode cX0_init 55 = .ok (.iload_n 1, 1) := by decide +kernel
theorem dX0_init_56 : decode cX0_init 56 = .ok (.iconst (-1), 1) := by decide +kernel
theorem dX0_init_57 : decode cX0_init 57 = .ok (.iastore, 1) := by decide +kernel
theorem dX0_init_58 : decode cX0_init 58 = .ok (.iinc 1 1, 3) := by decide +kernel
theorem dX0_init_61 : decode cX0_init 61 = .ok (.goto (-15), 3) := by decide +kernel
theorem dX0_init_64 : decode cX0_init 64 = .ok (.return_, 1) := by decide +kernel
set_option maxRecDepth 20000 in
theorem ggX0_putFirst_X0_requireThatOneMayCome : GoodIn wsX0_putFirst wsX0_requireThatOneMayCome := goodIn_ca (goodIn_r _ [5, 6, 7, 8, 9, 92, 93, 94, 95, 96, 97, 98, 99] (by decide +kernel) (by decide +kernel)) (goodIn_sub (fun _ h => List.mem_cons_of_mem _ (List.mem_append_right _ h)) (by decide +kernel))
set_option maxRecDepth 20000 in
theorem gX0_putFirst_X0_requireThatOneMayCome : GoodIn wsX0_putFirst (wsV RX0 28 RX0 yX0_requireThatOneMayCome wsX0_requireThatOneMayCome) := goodIn_app (goodIn_of _ (by decide +kernel)) ggX0_putFirst_X0_requireThatOneMayCome
set_option maxRecDepth 20000 in
theorem ggX0_putFirst_X0_nextNumber : GoodIn wsX0_putFirst wsX0_nextNumber := goodIn_r _ [13, 8, 92, 93, 94, 95, 96, 97, 98, 99] (by decide +kernel) (by decide +kernel)
set_option maxRecDepth 20000 in
theorem gX0_putFirst_X0_nextNumber : GoodIn wsX0_putFirst (wsV RX0 31 RX0 yX0_nextNumber wsX0_nextNumber) := goodIn_app (goodIn_of _ (by decide +kernel)) ggX0_putFirst_X0_nextNumber
set_option maxRecDepth 20000 in
theorem ggX0_putFirst_X0_putIn : GoodIn wsX0_putFirst wsX0_putIn := goodIn_r _ [17, 18, 19, 20, 21, 4, 22, 23, 24, 25, 26, 27, 28, 29, 30, 31, 32, 33, 34, 35, 9, 36, 37, 38, 39, 40, 41, 42, 43, 44, 45, 46, 47, 48, 49, 50, 51, 52, 53, 54, 55, 56, 57, 58, 59, 60, 61, 62, 63, 64, 65, 66, 67, 68, 69, 70, 71, 72, 73, 74, 75, 76, 77, 78, 79, 80, 81, 82, 83, 84, 85, 86, 87, 88, 89, 90, 91, 92, 93, 94, 95, 96, 97, 98, 99] (by decide +kernel) (by decide +kernel)
set_option maxRecDepth 20000 in
theorem gX0_putFirst_X0_putIn : GoodIn wsX0_putFirst (wsV RX0 35 RX0 yX0_putIn wsX0_putIn) := goodIn_app (goodIn_of _ (by decide +kernel)) ggX0_putFirst_X0_putIn
theorem dX0_putFirst_0 : decode cX0_putFirst 0 = .ok (.aload_n 0, 1) := by decide +kernel
theorem dX0_putFirst_1 : decode cX0_putFirst 1 = .ok (.invokevirtual 28, 3) := by decide +kernel
theorem dX0_putFirst_4 : decode cX0_putFirst 4 = .ok (.aload_n 0, 1) := by decide +kernel
theorem dX0_putFirst_5 : decode cX0_putFirst 5 = .ok (.invokevirtual 31, 3) := by decide +kernel
theorem dX0_putFirst_8 : decode cX0_putFirst 8 = .ok (.istore_n 1, 1) := by decide +kernel
theorem dX0_putFirst_9 : decode cX0_putFirst 9 = .ok (.aload_n 0, 1) := by decide +kernel
theorem dX0_putFirst_10 : decode cX0_putFirst 10 = .ok (.iload_n 1, 1) := by decide +kernel
theorem dX0_putFirst_11 : decode cX0_putFirst 11 = .ok (.iconst 0, 1) := by decide +kernel
theorem dX0_putFirst_12 : decode cX0_putFirst 12 = .ok (.invokevirtual 35, 3) := by decide +kernel
theorem dX0_putFirst_15 : decode cX0_putFirst 15 = .ok (.iload_n 1, 1) := by decide +kernel
theorem dX0_putFirst_16 : decode cX0_putFirst 16 = .ok (.ireturn, 1) := by decide +kernel
set_option maxRecDepth 20000 in
theorem ggX0_putBehind_X0_requirePlace : GoodIn wsX0_putBehind wsX0_requirePlace := goodIn_ca (goodIn_r _ [5, 6, 7, 8, 9, 10, 4, 11, 12, 13, 102, 103, 104, 105, 106, 107, 108, 109] (by decide +kernel) (by decide +kernel)) (goodIn_sub (fun _ h => List.mem_cons_of_mem _ (List.mem_append_left _ (List.mem_append_right _ h))) (by decide +kernel))
set_option maxRecDepth 20000 in
theorem gX0_putBehind_X0_requirePlace : GoodIn wsX0_putBehind (wsV RX0 39 RX0 yX0_requirePlace wsX0_requirePlace) := goodIn_app (goodIn_of _ (by decide +kernel)) ggX0_putBehind_X0_requirePlace
set_option maxRecDepth 20000 in
theorem ggX0_putBehind_X0_requireThatOneMayCome : GoodIn wsX0_putBehind wsX0_requireThatOneMayCome := goodIn_ca (goodIn_r _ [17, 18, 19, 20, 12, 102, 103, 104, 105, 106, 107, 108, 109] (by decide +kernel) (by decide +kernel)) (goodIn_sub (fun _ h => List.mem_cons_of_mem _ (List.mem_append_right _ h)) (by decide +kernel))
set_option maxRecDepth 20000 in
theorem gX0_putBehind_X0_requireThatOneMayCome : GoodIn wsX0_putBehind (wsV RX0 28 RX0 yX0_requireThatOneMayCome wsX0_requireThatOneMayCome) := goodIn_app (goodIn_of _ (by decide +kernel)) ggX0_putBehind_X0_requireThatOneMayCome
set_option maxRecDepth 20000 in
theorem ggX0_putBehind_X0_nextNumber : GoodIn wsX0_putBehind wsX0_nextNumber := goodIn_r _ [24, 20, 102, 103, 104, 105, 106, 107, 108, 109] (by decide +kernel) (by decide +kernel)
set_option maxRecDepth 20000 in
theorem gX0_putBehind_X0_nextNumber : GoodIn wsX0_putBehind (wsV RX0 31 RX0 yX0_nextNumber wsX0_nextNumber) := goodIn_app (goodIn_of _ (by decide +kernel)) ggX0_putBehind_X0_nextNumber
set_option maxRecDepth 20000 in
theorem ggX0_putBehind_X0_putIn : GoodIn wsX0_putBehind wsX0_putIn := goodIn_r _ [28, 29, 30, 31, 32, 4, 33, 34, 35, 36, 37, 38, 39, 40, 41, 42, 43, 44, 45, 46, 12, 13, 47, 48, 49, 50, 51, 52, 53, 54, 55, 56, 57, 58, 59, 60, 61, 62, 63, 64, 65, 66, 67, 68, 69, 70, 71, 72, 73, 74, 75, 76, 77, 78, 79, 80, 81, 82, 83, 84, 85, 86, 87, 88, 89, 90, 91, 92, 93, 94, 95, 96, 97, 98, 99, 100, 101, 102, 103, 104, 105, 106, 107, 108, 109] (by decide +kernel) (by decide +kernel)
set_option maxRecDepth 20000 in
theorem gX0_putBehind_X0_putIn : GoodIn wsX0_putBehind (wsV RX0 35 RX0 yX0_putIn wsX0_putIn) := goodIn_app (goodIn_of _ (by decide +kernel)) ggX0_putBehind_X0_putIn
theorem dX0_putBehind_0 : decode cX0_putBehind 0 = .ok (.aload_n 0, 1) := by decide +kernel
theorem dX0_putBehind_1 : decode cX0_putBehind 1 = .ok (.iload_n 1, 1) := by decide +kernel
theorem dX0_putBehind_2 : decode cX0_putBehind 2 = .ok (.invokevirtual 39, 3) := by decide +kernel
theorem dX0_putBehind_5 : decode cX0_putBehind 5 = .ok (.istore_n 2, 1) := by decide +kernel
theorem dX0_putBehind_6 : decode cX0_putBehind 6 = .ok (.aload_n 0, 1) := by decide +kernel
theorem dX0_putBehind_7 : decode cX0_putBehind 7 = .ok (.invokevirtual 28, 3) := by decide +kernel
theorem dX0_putBehind_10 : decode cX0_putBehind 10 = .ok (.aload_n 0, 1) := by decide +kernel
theorem dX0_putBehind_11 : decode cX0_putBehind 11 = .ok (.invokevirtual 31, 3) := by decide +kernel
theorem dX0_putBehind_14 : decode cX0_putBehind 14 = .ok (.istore_n 3, 1) := by decide +kernel
theorem dX0_putBehind_15 : decode cX0_putBehind 15 = .ok (.aload_n 0, 1) := by decide +kernel
theorem dX0_putBehind_16 : decode cX0_putBehind 16 = .ok (.iload_n 3, 1) := by decide +kernel
theorem dX0_putBehind_17 : decode cX0_putBehind 17 = .ok (.iload_n 2, 1) := by decide +kernel
theorem dX0_putBehind_18 : decode cX0_putBehind 18 = .ok (.iconst 1, 1) := by decide +kernel
theorem dX0_putBehind_19 : decode cX0_putBehind 19 = .ok (.iadd, 1) := by decide +kernel
theorem dX0_putBehind_20 : decode cX0_putBehind 20 = .ok (.invokevirtual 35, 3) := by decide +kernel
theorem dX0_putBehind_23 : decode cX0_putBehind 23 = .ok (.iload_n 3, 1) := by decide +kernel
theorem dX0_putBehind_24 : decode cX0_putBehind 24 = .ok (.ireturn, 1) := by decide +kernel
set_option maxRecDepth 20000 in
theorem ggX0_takeOut_X0_requirePlace : GoodIn wsX0_takeOut wsX0_requirePlace := goodIn_ca (goodIn_r _ [6, 7, 8, 9, 10, 11, 5, 12, 1, 13, 40, 41, 42, 43, 44, 45, 46, 47] (by decide +kernel) (by decide +kernel)) (goodIn_sub (fun _ h => List.mem_cons_of_mem _ (List.mem_append_right _ h)) (by decide +kernel))
set_option maxRecDepth 20000 in
theorem gX0_takeOut_X0_requirePlace : GoodIn wsX0_takeOut (wsV RX0 39 RX0 yX0_requirePlace wsX0_requirePlace) := goodIn_app (goodIn_of _ (by decide +kernel)) ggX0_takeOut_X0_requirePlace
set_option maxRecDepth 20000 in
theorem ggX0_takeOut_X0_folderAt : GoodIn wsX0_takeOut wsX0_folderAt := goodIn_r _ [17, 13, 18, 19, 20, 5, 21, 1, 22, 40, 41, 42, 43, 44, 45, 46, 47] (by decide +kernel) (by decide +kernel)
set_option maxRecDepth 20000 in
theorem gX0_takeOut_X0_folderAt : GoodIn wsX0_takeOut (wsV RX0 43 RX0 yX0_folderAt wsX0_folderAt) := goodIn_app (goodIn_of _ (by decide +kernel)) ggX0_takeOut_X0_folderAt
set_option maxRecDepth 20000 in
theorem ggX0_takeOut_X0_sendReadersOn : GoodIn wsX0_takeOut wsX0_sendReadersOn := goodIn_r _ [26, 27, 40, 41, 42, 43, 44, 45, 46, 47] (by decide +kernel) (by decide +kernel)
set_option maxRecDepth 20000 in
theorem gX0_takeOut_X0_sendReadersOn : GoodIn wsX0_takeOut (wsV RX0 46 RX0 yX0_sendReadersOn wsX0_sendReadersOn) := goodIn_app (goodIn_of _ (by decide +kernel)) ggX0_takeOut_X0_sendReadersOn
set_option maxRecDepth 20000 in
theorem ggX0_takeOut_X0_removeAt : GoodIn wsX0_takeOut wsX0_removeAt := goodIn_r _ [31, 1, 18, 19, 20, 5, 21, 13, 22, 14, 15, 16, 17, 32, 33, 34, 35, 36, 37, 38, 39, 40, 41, 42, 43, 44, 45, 46, 47] (by decide +kernel) (by decide +kernel)
set_option maxRecDepth 20000 in
theorem gX0_takeOut_X0_removeAt : GoodIn wsX0_takeOut (wsV RX0 49 RX0 yX0_removeAt wsX0_removeAt) := goodIn_app (goodIn_of _ (by decide +kernel)) ggX0_takeOut_X0_removeAt
theorem dX0_takeOut_0 : decode cX0_takeOut 0 = .ok (.aload_n 0, 1) := by decide +kernel
theorem dX0_takeOut_1 : decode cX0_takeOut 1 = .ok (.iload_n 1, 1) := by decide +kernel
theorem dX0_takeOut_2 : decode cX0_takeOut 2 = .ok (.invokevirtual 39, 3) := by decide +kernel
theorem dX0_takeOut_5 : decode cX0_takeOut 5 = .ok (.istore_n 2, 1) := by decide +kernel
theorem dX0_takeOut_6 : decode cX0_takeOut 6 = .ok (.aload_n 0, 1) := by decide +kernel
theorem dX0_takeOut_7 : decode cX0_takeOut 7 = .ok (.iload_n 1, 1) := by decide +kernel
theorem dX0_takeOut_8 : decode cX0_takeOut 8 = .ok (.aload_n 0, 1) := by decide +kernel
theorem dX0_takeOut_9 : decode cX0_takeOut 9 = .ok (.iload_n 2, 1) := by decide +kernel
theorem dX0_takeOut_10 : decode cX0_takeOut 10 = .ok (.iconst 1, 1) := by decide +kernel
theorem dX0_takeOut_11 : decode cX0_takeOut 11 = .ok (.iadd, 1) := by decide +kernel
theorem dX0_takeOut_12 : decode cX0_takeOut 12 = .ok (.invokevirtual 43, 3) := by decide +kernel
theorem dX0_takeOut_15 : decode cX0_takeOut 15 = .ok (.invokevirtual 46, 3) := by decide +kernel
theorem dX0_takeOut_18 : decode cX0_takeOut 18 = .ok (.aload_n 0, 1) := by decide +kernel
theorem dX0_takeOut_19 : decode cX0_takeOut 19 = .ok (.iload_n 2, 1) := by decide +kernel
theorem dX0_takeOut_20 : decode cX0_takeOut 20 = .ok (.invokevirtual 49, 3) := by decide +kernel
theorem dX0_takeOut_23 : decode cX0_takeOut 23 = .ok (.aload_n 0, 1) := by decide +kernel
theorem dX0_takeOut_24 : decode cX0_takeOut 24 = .ok (.getfield 53, 3) := by decide +kernel
theorem dX0_takeOut_27 : decode cX0_takeOut 27 = .ok (.ireturn, 1) := by decide +kernel
set_option maxRecDepth 20000 in
theorem ggX0_carry_X0_requirePlace : GoodIn wsX0_carry wsX0_requirePlace := goodIn_ca (goodIn_r _ [7, 8, 9, 10, 11, 12, 6, 13, 14, 15, 97, 98, 99, 100, 101, 102, 103, 104] (by decide +kernel) (by decide +kernel)) (goodIn_sub (fun _ h => List.mem_cons_of_mem _ (List.mem_append_right _ h)) (by decide +kernel))
set_option maxRecDepth 20000 in
theorem gX0_carry_X0_requirePlace : GoodIn wsX0_carry (wsV RX0 39 RX0 yX0_requirePlace wsX0_requirePlace) := goodIn_app (goodIn_of _ (by decide +kernel)) ggX0_carry_X0_requirePlace
set_option maxRecDepth 20000 in
theorem ggX0_carry_X0_removeAt : GoodIn wsX0_carry wsX0_removeAt := goodIn_r _ [19, 14, 20, 21, 22, 6, 23, 15, 24, 25, 26, 27, 28, 29, 30, 31, 32, 33, 34, 35, 36, 97, 98, 99, 100, 101, 102, 103, 104] (by decide +kernel) (by decide +kernel)
set_option maxRecDepth 20000 in
theorem gX0_carry_X0_removeAt : GoodIn wsX0_carry (wsV RX0 49 RX0 yX0_removeAt wsX0_removeAt) := goodIn_app (goodIn_of _ (by decide +kernel)) ggX0_carry_X0_removeAt
set_option maxRecDepth 20000 in
theorem ggX0_carry_X0_placeOf : GoodIn wsX0_carry wsX0_placeOf := goodIn_r _ [13, 14, 15, 97, 98, 99, 100, 101, 102, 103, 104] (by decide +kernel) (by decide +kernel)
set_option maxRecDepth 20000 in
theorem gX0_carry_X0_placeOf : GoodIn wsX0_carry (wsV RX0 64 RX0 yX0_placeOf wsX0_placeOf) := goodIn_app (goodIn_of _ (by decide +kernel)) ggX0_carry_X0_placeOf
set_option maxRecDepth 20000 in
theorem ggX0_carry_X0_putIn : GoodIn wsX0_carry wsX0_putIn := goodIn_r _ [40, 41, 42, 43, 44, 6, 45, 46, 47, 48, 49, 29, 30, 31, 32, 24, 20, 21, 22, 23, 14, 15, 50, 51, 52, 53, 54, 55, 56, 57, 58, 59, 60, 61, 62, 63, 64, 65, 66, 67, 68, 69, 70, 71, 72, 73, 74, 75, 76, 77, 78, 79, 80, 81, 82, 83, 84, 85, 86, 87, 25, 26, 27, 28, 33, 34, 35, 36, 88, 89, 90, 91, 92, 93, 94, 95, 96, 97, 98, 99, 100, 101, 102, 103, 104] (by decide +kernel) (by decide +kernel)
set_option maxRecDepth 20000 in
theorem gX0_carry_X0_putIn : GoodIn wsX0_carry (wsV RX0 35 RX0 yX0_putIn wsX0_putIn) := goodIn_app (goodIn_of _ (by decide +kernel)) ggX0_carry_X0_putIn
set_option maxRecDepth 20000 in
theorem ggX0_carry_X0_markAt : GoodIn wsX0_carry wsX0_markAt := goodIn_r _ [32, 24, 20, 21, 22, 6, 23, 14, 15, 97, 98, 99, 100, 101, 102, 103, 104] (by decide +kernel) (by decide +kernel)
set_option maxRecDepth 20000 in
theorem gX0_carry_X0_markAt : GoodIn wsX0_carry (wsV RX0 67 RX0 yX0_markAt wsX0_markAt) := goodIn_app (goodIn_of _ (by decide +kernel)) ggX0_carry_X0_markAt
theorem dX0_carry_0 : decode cX0_carry 0 = .ok (.aload_n 0, 1) := by decide +kernel
theorem dX0_carry_1 : decode cX0_carry 1 = .ok (.iload_n 1, 1) := by decide +kernel
theorem dX0_carry_2 : decode cX0_carry 2 = .ok (.invokevirtual 39, 3) := by decide +kernel
theorem dX0_carry_5 : decode cX0_carry 5 = .ok (.istore_n 3, 1) := by decide +kernel
theorem dX0_carry_6 : decode cX0_carry 6 = .ok (.aload_n 0, 1) := by decide +kernel
theorem dX0_carry_7 : decode cX0_carry 7 = .ok (.iload_n 2, 1) := by decide +kernel
theorem dX0_carry_8 : decode cX0_carry 8 = .ok (.invokevirtual 39, 3) := by decide +kernel
theorem dX0_carry_11 : decode cX0_carry 11 = .ok (.pop, 1) := by decide +kernel
theorem dX0_carry_12 : decode cX0_carry 12 = .ok (.iload_n 1, 1) := by decide +kernel
theorem dX0_carry_13 : decode cX0_carry 13 = .ok (.iload_n 2, 1) := by decide +kernel
theorem dX0_carry_14 : decode cX0_carry 14 = .ok (.if_icmp .ne 13, 3) := by decide +kernel
theorem dX0_carry_17 : decode cX0_carry 17 = .ok (.new 57, 3) := by decide +kernel
theorem dX0_carry_20 : decode cX0_carry 20 = .ok (.dup, 1) := by decide +kernel
theorem dX0_carry_21 : decode cX0_carry 21 = .ok (.ldc 59, 2) := by decide +kernel
theorem dX0_carry_23 : decode cX0_carry 23 = .ok (.invokespecial 61, 3) := by decide +kernel
theorem dX0_carry_26 : decode cX0_carry 26 = .ok (.athrow, 1) := by decide +kernel
theorem dX0_carry_27 : decode cX0_carry 27 = .ok (.aload_n 0, 1) := by decide +kernel
theorem dX0_carry_28 : decode cX0_carry 28 = .ok (.iload_n 3, 1) := by decide +kernel
theorem dX0_carry_29 : decode cX0_carry 29 = .ok (.invokevirtual 49, 3) := by decide +kernel
theorem dX0_carry_32 : decode cX0_carry 32 = .ok (.aload_n 0, 1) := by decide +kernel
theorem dX0_carry_33 : decode cX0_carry 33 = .ok (.iload_n 1, 1) := by decide +kernel
theorem dX0_carry_34 : decode cX0_carry 34 = .ok (.aload_n 0, 1) := by decide +kernel
theorem dX0_carry_35 : decode cX0_carry 35 = .ok (.iload_n 2, 1) := by decide +kernel
theorem dX0_carry_36 : decode cX0_carry 36 = .ok (.invokevirtual 64, 3) := by decide +kernel
theorem dX0_carry_39 : decode cX0_carry 39 = .ok (.iconst 1, 1) := by decide +kernel
theorem dX0_carry_40 : decode cX0_carry 40 = .ok (.iadd, 1) := by decide +kernel
theorem dX0_carry_41 : decode cX0_carry 41 = .ok (.invokevirtual 35, 3) := by decide +kernel
theorem dX0_carry_44 : decode cX0_carry 44 = .ok (.aload_n 0, 1) := by decide +kernel
theorem dX0_carry_45 : decode cX0_carry 45 = .ok (.aload_n 0, 1) := by decide +kernel
theorem dX0_carry_46 : decode cX0_carry 46 = .ok (.iload_n 1, 1) := by decide +kernel
theorem dX0_carry_47 : decode cX0_carry 47 = .ok (.invokevirtual 64, 3) := by decide +kernel
theorem dX0_carry_50 : decode cX0_carry 50 = .ok (.invokevirtual 67, 3) := by decide +kernel
theorem dX0_carry_53 : decode cX0_carry 53 = .ok (.ireturn, 1) := by decide +kernel
theorem dX0_size_0 : decode cX0_size 0 = .ok (.aload_n 0, 1) := by decide +kernel
theorem dX0_size_1 : decode cX0_size 1 = .ok (.getfield 53, 3) := by decide +kernel
theorem dX0_size_4 : decode cX0_size 4 = .ok (.ireturn, 1) := by decide +kernel
set_option maxRecDepth 20000 in
theorem ggX0_first_X0_folderAt : GoodIn wsX0_first wsX0_folderAt := goodIn_r _ [5, 6, 7, 8, 9, 4, 10, 11, 12, 13, 14, 15, 16, 17, 18, 19, 20] (by decide +kernel) (by decide +kernel)
set_option maxRecDepth 20000 in
theorem gX0_first_X0_folderAt : GoodIn wsX0_first (wsV RX0 43 RX0 yX0_folderAt wsX0_folderAt) := goodIn_app (goodIn_of _ (by decide +kernel)) ggX0_first_X0_folderAt
theorem dX0_first_0 : decode cX0_first 0 = .ok (.aload_n 0, 1) := by decide +kernel
theorem dX0_first_1 : decode cX0_first 1 = .ok (.iconst 0, 1) := by decide +kernel
theorem dX0_first_2 : decode cX0_first 2 = .ok (.invokevirtual 43, 3) := by decide +kernel
theorem dX0_first_5 : decode cX0_first 5 = .ok (.ireturn, 1) := by decide +kernel
set_option maxRecDepth 20000 in
theorem ggX0_next_X0_requirePlace : GoodIn wsX0_next wsX0_requirePlace := goodIn_ca (goodIn_r _ [5, 6, 7, 8, 9, 10, 4, 11, 12, 13, 23, 24, 25, 26, 27, 28, 29, 30] (by decide +kernel) (by decide +kernel)) (goodIn_sub (fun _ h => List.mem_cons_of_mem _ (List.mem_append_right _ h)) (by decide +kernel))
set_option maxRecDepth 20000 in
theorem gX0_next_X0_requirePlace : GoodIn wsX0_next (wsV RX0 39 RX0 yX0_requirePlace wsX0_requirePlace) := goodIn_app (goodIn_of _ (by decide +kernel)) ggX0_next_X0_requirePlace
set_option maxRecDepth 20000 in
theorem ggX0_next_X0_folderAt : GoodIn wsX0_next wsX0_folderAt := goodIn_r _ [17, 13, 18, 19, 20, 4, 21, 12, 22, 23, 24, 25, 26, 27, 28, 29, 30] (by decide +kernel) (by decide +kernel)
set_option maxRecDepth 20000 in
theorem gX0_next_X0_folderAt : GoodIn wsX0_next (wsV RX0 43 RX0 yX0_folderAt wsX0_folderAt) := goodIn_app (goodIn_of _ (by decide +kernel)) ggX0_next_X0_folderAt
theorem dX0_next_0 : decode cX0_next 0 = .ok (.aload_n 0, 1) := by decide +kernel
theorem dX0_next_1 : decode cX0_next 1 = .ok (.aload_n 0, 1) := by decide +kernel
theorem dX0_next_2 : decode cX0_next 2 = .ok (.iload_n 1, 1) := by decide +kernel
theorem dX0_next_3 : decode cX0_next 3 = .ok (.invokevirtual 39, 3) := by decide +kernel
theorem dX0_next_6 : decode cX0_next 6 = .ok (.iconst 1, 1) := by decide +kernel
theorem dX0_next_7 : decode cX0_next 7 = .ok (.iadd, 1) := by decide +kernel
theorem dX0_next_8 : decode cX0_next 8 = .ok (.invokevirtual 43, 3) := by decide +kernel
theorem dX0_next_11 : decode cX0_next 11 = .ok (.ireturn, 1) := by decide +kernel
set_option maxRecDepth 20000 in
theorem ggX0_previous_X0_requirePlace : GoodIn wsX0_previous wsX0_requirePlace := goodIn_ca (goodIn_r _ [5, 6, 7, 8, 9, 10, 4, 11, 12, 13, 23, 24, 25, 26, 27, 28, 29, 30] (by decide +kernel) (by decide +kernel)) (goodIn_sub (fun _ h => List.mem_cons_of_mem _ (List.mem_append_right _ h)) (by decide +kernel))
set_option maxRecDepth 20000 in
theorem gX0_previous_X0_requirePlace : GoodIn wsX0_previous (wsV RX0 39 RX0 yX0_requirePlace wsX0_requirePlace) := goodIn_app (goodIn_of _ (by decide +kernel)) ggX0_previous_X0_requirePlace
set_option maxRecDepth 20000 in
theorem ggX0_previous_X0_folderAt : GoodIn wsX0_previous wsX0_folderAt := goodIn_r _ [17, 13, 18, 19, 20, 4, 21, 12, 22, 23, 24, 25, 26, 27, 28, 29, 30] (by decide +kernel) (by decide +kernel)
set_option maxRecDepth 20000 in
theorem gX0_previous_X0_folderAt : GoodIn wsX0_previous (wsV RX0 43 RX0 yX0_folderAt wsX0_folderAt) := goodIn_app (goodIn_of _ (by decide +kernel)) ggX0_previous_X0_folderAt
theorem dX0_previous_0 : decode cX0_previous 0 = .ok (.aload_n 0, 1) := by decide +kernel
theorem dX0_previous_1 : decode cX0_previous 1 = .ok (.aload_n 0, 1) := by decide +kernel
theorem dX0_previous_2 : decode cX0_previous 2 = .ok (.iload_n 1, 1) := by decide +kernel
theorem dX0_previous_3 : decode cX0_previous 3 = .ok (.invokevirtual 39, 3) := by decide +kernel
theorem dX0_previous_6 : decode cX0_previous 6 = .ok (.iconst 1, 1) := by decide +kernel
theorem dX0_previous_7 : decode cX0_previous 7 = .ok (.isub, 1) := by decide +kernel
theorem dX0_previous_8 : decode cX0_previous 8 = .ok (.invokevirtual 43, 3) := by decide +kernel
theorem dX0_previous_11 : decode cX0_previous 11 = .ok (.ireturn, 1) := by decide +kernel
set_option maxRecDepth 20000 in
theorem ggX0_has_X0_placeOf : GoodIn wsX0_has wsX0_placeOf := goodIn_r _ [5, 6, 7, 8, 9, 10, 11, 12, 13, 14, 15] (by decide +kernel) (by decide +kernel)
set_option maxRecDepth 20000 in
theorem gX0_has_X0_placeOf : GoodIn wsX0_has (wsV RX0 64 RX0 yX0_placeOf wsX0_placeOf) := goodIn_app (goodIn_of _ (by decide +kernel)) ggX0_has_X0_placeOf
theorem dX0_has_0 : decode cX0_has 0 = .ok (.aload_n 0, 1) := by decide +kernel
theorem dX0_has_1 : decode cX0_has 1 = .ok (.iload_n 1, 1) := by decide +kernel
theorem dX0_has_2 : decode cX0_has 2 = .ok (.invokevirtual 64, 3) := by decide +kernel
theorem dX0_has_5 : decode cX0_has 5 = .ok (.iconst (-1), 1) := by decide +kernel
theorem dX0_has_6 : decode cX0_has 6 = .ok (.if_icmp .eq 7, 3) := by decide +kernel
theorem dX0_has_9 : decode cX0_has 9 = .ok (.iconst 1, 1) := by decide +kernel
theorem dX0_has_10 : decode cX0_has 10 = .ok (.goto 4, 3) := by decide +kernel
theorem dX0_has_13 : decode cX0_has 13 = .ok (.iconst 0, 1) := by decide +kernel
theorem dX0_has_14 : decode cX0_has 14 = .ok (.ireturn, 1) := by decide +kernel
set_option maxRecDepth 20000 in
theorem ggX0_mark_X0_requirePlace : GoodIn wsX0_mark wsX0_requirePlace := goodIn_ca (goodIn_r _ [5, 6, 7, 8, 9, 10, 4, 11, 12, 13, 23, 24, 25, 26, 27, 28, 29, 30] (by decide +kernel) (by decide +kernel)) (goodIn_sub (fun _ h => List.mem_cons_of_mem _ (List.mem_append_right _ h)) (by decide +kernel))
set_option maxRecDepth 20000 in
theorem gX0_mark_X0_requirePlace : GoodIn wsX0_mark (wsV RX0 39 RX0 yX0_requirePlace wsX0_requirePlace) := goodIn_app (goodIn_of _ (by decide +kernel)) ggX0_mark_X0_requirePlace
set_option maxRecDepth 20000 in
theorem ggX0_mark_X0_markAt : GoodIn wsX0_mark wsX0_markAt := goodIn_r _ [17, 18, 19, 20, 21, 4, 22, 12, 13, 23, 24, 25, 26, 27, 28, 29, 30] (by decide +kernel) (by decide +kernel)
set_option maxRecDepth 20000 in
theorem gX0_mark_X0_markAt : GoodIn wsX0_mark (wsV RX0 67 RX0 yX0_markAt wsX0_markAt) := goodIn_app (goodIn_of _ (by decide +kernel)) ggX0_mark_X0_markAt
theorem dX0_mark_0 : decode cX0_mark 0 = .ok (.aload_n 0, 1) := by decide +kernel
theorem dX0_mark_1 : decode cX0_mark 1 = .ok (.aload_n 0, 1) := by decide +kernel
theorem dX0_mark_2 : decode cX0_mark 2 = .ok (.iload_n 1, 1) := by decide +kernel
theorem dX0_mark_3 : decode cX0_mark 3 = .ok (.invokevirtual 39, 3) := by decide +kernel
theorem dX0_mark_6 : decode cX0_mark 6 = .ok (.invokevirtual 67, 3) := by decide +kernel
theorem dX0_mark_9 : decode cX0_mark 9 = .ok (.ireturn, 1) := by decide +kernel
set_option maxRecDepth 20000 in
theorem ggX0_ahead_X0_requirePlace : GoodIn wsX0_ahead wsX0_requirePlace := goodIn_ca (goodIn_r _ [5, 6, 7, 8, 9, 10, 4, 11, 12, 13, 27, 28, 29, 30, 31, 32, 33, 34] (by decide +kernel) (by decide +kernel)) (goodIn_sub (fun _ h => List.mem_cons_of_mem _ (List.mem_append_right _ h)) (by decide +kernel))
set_option maxRecDepth 20000 in
theorem gX0_ahead_X0_requirePlace : GoodIn wsX0_ahead (wsV RX0 39 RX0 yX0_requirePlace wsX0_requirePlace) := goodIn_app (goodIn_of _ (by decide +kernel)) ggX0_ahead_X0_requirePlace
set_option maxRecDepth 20000 in
theorem ggX0_ahead_X0_markAt : GoodIn wsX0_ahead wsX0_markAt := goodIn_r _ [17, 18, 19, 20, 21, 4, 22, 12, 13, 27, 28, 29, 30, 31, 32, 33, 34] (by decide +kernel) (by decide +kernel)
set_option maxRecDepth 20000 in
theorem gX0_ahead_X0_markAt : GoodIn wsX0_ahead (wsV RX0 67 RX0 yX0_markAt wsX0_markAt) := goodIn_app (goodIn_of _ (by decide +kernel)) ggX0_ahead_X0_markAt
set_option maxRecDepth 20000 in
theorem ggX0_ahead_X0_marksBelow : GoodIn wsX0_ahead wsX0_marksBelow := goodIn_r _ [26, 12, 18, 27, 28, 29, 30, 31, 32, 33, 34] (by decide +kernel) (by decide +kernel)
set_option maxRecDepth 20000 in
theorem gX0_ahead_X0_marksBelow : GoodIn wsX0_ahead (wsV RX0 70 RX0 yX0_marksBelow wsX0_marksBelow) := goodIn_app (goodIn_of _ (by decide +kernel)) ggX0_ahead_X0_marksBelow
theorem dX0_ahead_0 : decode cX0_ahead 0 = .ok (.aload_n 0, 1) := by decide +kernel
theorem dX0_ahead_1 : decode cX0_ahead 1 = .ok (.aload_n 0, 1) := by decide +kernel
theorem dX0_ahead_2 : decode cX0_ahead 2 = .ok (.aload_n 0, 1) := by decide +kernel
theorem dX0_ahead_3 : decode cX0_ahead 3 = .ok (.iload_n 1, 1) := by decide +kernel
theorem dX0_ahead_4 : decode cX0_ahead 4 = .ok (.invokevirtual 39, 3) := by decide +kernel
theorem dX0_ahead_7 : decode cX0_ahead 7 = .ok (.invokevirtual 67, 3) := by decide +kernel
theorem dX0_ahead_10 : decode cX0_ahead 10 = .ok (.invokevirtual 70, 3) := by decide +kernel
theorem dX0_ahead_13 : decode cX0_ahead 13 = .ok (.ireturn, 1) := by decide +kernel
set_option maxRecDepth 20000 in
theorem ggX0_from_X0_marksBelow : GoodIn wsX0_from wsX0_marksBelow := goodIn_r _ [5, 6, 7, 17, 18, 19, 20, 21, 22, 23, 24] (by decide +kernel) (by decide +kernel)
set_option maxRecDepth 20000 in
theorem gX0_from_X0_marksBelow : GoodIn wsX0_from (wsV RX0 70 RX0 yX0_marksBelow wsX0_marksBelow) := goodIn_app (goodIn_of _ (by decide +kernel)) ggX0_from_X0_marksBelow
set_option maxRecDepth 20000 in
theorem ggX0_from_X0_folderAt : GoodIn wsX0_from wsX0_folderAt := goodIn_r _ [11, 12, 13, 14, 15, 4, 16, 6, 7, 17, 18, 19, 20, 21, 22, 23, 24] (by decide +kernel) (by decide +kernel)
set_option maxRecDepth 20000 in
theorem gX0_from_X0_folderAt : GoodIn wsX0_from (wsV RX0 43 RX0 yX0_folderAt wsX0_folderAt) := goodIn_app (goodIn_of _ (by decide +kernel)) ggX0_from_X0_folderAt
theorem dX0_from_0 : decode cX0_from 0 = .ok (.aload_n 0, 1) := by decide +kernel
theorem dX0_from_1 : decode cX0_from 1 = .ok (.aload_n 0, 1) := by decide +kernel
theorem dX0_from_2 : decode cX0_from 2 = .ok (.iload_n 1, 1) := by decide +kernel
theorem dX0_from_3 : decode cX0_from 3 = .ok (.invokevirtual 70, 3) := by decide +kernel
theorem dX0_from_6 : decode cX0_from 6 = .ok (.invokevirtual 43, 3) := by decide +kernel
theorem dX0_from_9 : decode cX0_from 9 = .ok (.ireturn, 1) := by decide +kernel
set_option maxRecDepth 20000 in
theorem ggX0_gapBehind_X0_requirePlace : GoodIn wsX0_gapBehind wsX0_requirePlace := goodIn_ca (goodIn_r _ [5, 6, 7, 8, 9, 10, 4, 11, 12, 13, 23, 24, 25, 26, 27, 28, 29, 30] (by decide +kernel) (by decide +kernel)) (goodIn_sub (fun _ h => List.mem_cons_of_mem _ (List.mem_append_right _ h)) (by decide +kernel))
set_option maxRecDepth 20000 in
theorem gX0_gapBehind_X0_requirePlace : GoodIn wsX0_gapBehind (wsV RX0 39 RX0 yX0_requirePlace wsX0_requirePlace) := goodIn_app (goodIn_of _ (by decide +kernel)) ggX0_gapBehind_X0_requirePlace
set_option maxRecDepth 20000 in
theorem ggX0_gapBehind_X0_markAt : GoodIn wsX0_gapBehind wsX0_markAt := goodIn_r _ [17, 18, 19, 20, 21, 4, 22, 12, 13, 23, 24, 25, 26, 27, 28, 29, 30] (by decide +kernel) (by decide +kernel)
set_option maxRecDepth 20000 in
theorem gX0_gapBehind_X0_markAt : GoodIn wsX0_gapBehind (wsV RX0 67 RX0 yX0_markAt wsX0_markAt) := goodIn_app (goodIn_of _ (by decide +kernel)) ggX0_gapBehind_X0_markAt
theorem dX0_gapBehind_0 : decode cX0_gapBehind 0 = .ok (.aload_n 0, 1) := by decide +kernel
theorem dX0_gapBehind_1 : decode cX0_gapBehind 1 = .ok (.iload_n 1, 1) := by decide +kernel
theorem dX0_gapBehind_2 : decode cX0_gapBehind 2 = .ok (.invokevirtual 39, 3) := by decide +kernel
theorem dX0_gapBehind_5 : decode cX0_gapBehind 5 = .ok (.istore_n 2, 1) := by decide +kernel
theorem dX0_gapBehind_6 : decode cX0_gapBehind 6 = .ok (.aload_n 0, 1) := by decide +kernel
theorem dX0_gapBehind_7 : decode cX0_gapBehind 7 = .ok (.iload_n 2, 1) := by decide +kernel
theorem dX0_gapBehind_8 : decode cX0_gapBehind 8 = .ok (.iconst 1, 1) := by decide +kernel
theorem dX0_gapBehind_9 : decode cX0_gapBehind 9 = .ok (.iadd, 1) := by decide +kernel
theorem dX0_gapBehind_10 : decode cX0_gapBehind 10 = .ok (.invokevirtual 67, 3) := by decide +kernel
theorem dX0_gapBehind_13 : decode cX0_gapBehind 13 = .ok (.aload_n 0, 1) := by decide +kernel
theorem dX0_gapBehind_14 : decode cX0_gapBehind 14 = .ok (.iload_n 2, 1) := by decide +kernel
theorem dX0_gapBehind_15 : decode cX0_gapBehind 15 = .ok (.invokevirtual 67, 3) := by decide +kernel
theorem dX0_gapBehind_18 : decode cX0_gapBehind 18 = .ok (.isub, 1) := by decide +kernel
theorem dX0_gapBehind_19 : decode cX0_gapBehind 19 = .ok (.iconst 1, 1) := by decide +kernel
theorem dX0_gapBehind_20 : decode cX0_gapBehind 20 = .ok (.isub, 1) := by decide +kernel
theorem dX0_gapBehind_21 : decode cX0_gapBehind 21 = .ok (.ireturn, 1) := by decide +kernel
set_option maxRecDepth 20000 in
theorem ggX0_load_X0_requireLevel : GoodIn wsX0_load wsX0_requireLevel := goodIn_ca (goodIn_r _ [6, 1, 2, 7] (by decide +kernel) (by decide +kernel)) (goodIn_sub (fun _ h => List.mem_cons_of_mem _ (List.mem_append_right _ h)) (by decide +kernel))
set_option maxRecDepth 20000 in
theorem gX0_load_X0_requireLevel : GoodIn wsX0_load (va_wsS RX0 73 yX0_requireLevel wsX0_requireLevel) := goodIn_app (goodIn_of _ (by decide +kernel)) ggX0_load_X0_requireLevel
set_option maxRecDepth 20000 in
theorem ggX0_load_X0_shelvesOf : GoodIn wsX0_load wsX0_shelvesOf := goodIn_r _ [10] (by decide +kernel) (by decide +kernel)
set_option maxRecDepth 20000 in
theorem gX0_load_X0_shelvesOf : GoodIn wsX0_load (va_wsS RX0 76 yX0_shelvesOf wsX0_shelvesOf) := goodIn_app (goodIn_of _ (by decide +kernel)) ggX0_load_X0_shelvesOf
set_option maxRecDepth 20000 in
theorem ggX0_load_X0_foldersOn : GoodIn wsX0_load wsX0_foldersOn := goodIn_r _ [14, 15, 16, 5, 17, 18, 19, 20, 21, 22, 23, 24, 25, 26, 27, 28, 29, 30, 31] (by decide +kernel) (by decide +kernel)
set_option maxRecDepth 20000 in
theorem gX0_load_X0_foldersOn : GoodIn wsX0_load (wsV RX0 84 RX0 yX0_foldersOn wsX0_foldersOn) := goodIn_app (goodIn_of _ (by decide +kernel)) ggX0_load_X0_foldersOn
theorem dX0_load_0 : decode cX0_load 0 = .ok (.iload_n 1, 1) := by decide +kernel
theorem dX0_load_1 : decode cX0_load 1 = .ok (.invokestatic 73, 3) := by decide +kernel
theorem dX0_load_4 : decode cX0_load 4 = .ok (.iload_n 2, 1) := by decide +kernel
theorem dX0_load_5 : decode cX0_load 5 = .ok (.ifCond .lt 11, 3) := by decide +kernel
theorem dX0_load_8 : decode cX0_load 8 = .ok (.iload_n 2, 1) := by decide +kernel
theorem dX0_load_9 : decode cX0_load 9 = .ok (.iload_n 1, 1) := by decide +kernel
theorem dX0_load_10 : decode cX0_load 10 = .ok (.invokestatic 76, 3) := by decide +kernel
theorem dX0_load_13 : decode cX0_load 13 = .ok (.if_icmp .lt 13, 3) := by decide +kernel
theorem dX0_load_16 : decode cX0_load 16 = .ok (.new 79, 3) := by decide +kernel
theorem dX0_load_19 : decode cX0_load 19 = .ok (.dup, 1) := by decide +kernel
theorem dX0_load_20 : decode cX0_load 20 = .ok (.ldc 81, 2) := by decide +kernel
theorem dX0_load_22 : decode cX0_load 22 = .ok (.invokespecial 83, 3) := by decide +kernel
theorem dX0_load_25 : decode cX0_load 25 = .ok (.athrow, 1) := by decide +kernel
theorem dX0_load_26 : decode cX0_load 26 = .ok (.aload_n 0, 1) := by decide +kernel
theorem dX0_load_27 : decode cX0_load 27 = .ok (.iload_n 1, 1) := by decide +kernel
theorem dX0_load_28 : decode cX0_load 28 = .ok (.iload_n 2, 1) := by decide +kernel
theorem dX0_load_29 : decode cX0_load 29 = .ok (.invokevirtual 84, 3) := by decide +kernel
theorem dX0_load_32 : decode cX0_load 32 = .ok (.ireturn, 1) := by decide +kernel
set_option maxRecDepth 20000 in
theorem ggX0_loaded_X0_requireLevel : GoodIn wsX0_loaded wsX0_requireLevel := goodIn_ca (goodIn_r _ [5, 6, 7, 8] (by decide +kernel) (by decide +kernel)) (goodIn_sub (fun _ h => List.mem_cons_of_mem _ (List.mem_append_right _ h)) (by decide +kernel))
set_option maxRecDepth 20000 in
theorem gX0_loaded_X0_requireLevel : GoodIn wsX0_loaded (va_wsS RX0 73 yX0_requireLevel wsX0_requireLevel) := goodIn_app (goodIn_of _ (by decide +kernel)) ggX0_loaded_X0_requireLevel
set_option maxRecDepth 20000 in
theorem ggX0_loaded_X0_markAt : GoodIn wsX0_loaded wsX0_markAt := goodIn_r _ [12, 13, 14, 15, 16, 4, 17, 1, 18, 34, 35, 36, 37, 38, 39, 40, 41] (by decide +kernel) (by decide +kernel)
set_option maxRecDepth 20000 in
theorem gX0_loaded_X0_markAt : GoodIn wsX0_loaded (wsV RX0 67 RX0 yX0_markAt wsX0_markAt) := goodIn_app (goodIn_of _ (by decide +kernel)) ggX0_loaded_X0_markAt
set_option maxRecDepth 20000 in
theorem ggX0_loaded_X0_isLoaded : GoodIn wsX0_loaded wsX0_isLoaded := goodIn_r _ [22, 8, 23, 24, 25, 4, 26, 27, 28, 29, 30, 31, 32, 33, 1, 13, 34, 35, 36, 37, 38, 39, 40, 41] (by decide +kernel) (by decide +kernel)
set_option maxRecDepth 20000 in
theorem gX0_loaded_X0_isLoaded : GoodIn wsX0_loaded (wsV RX0 88 RX0 yX0_isLoaded wsX0_isLoaded) := goodIn_app (goodIn_of _ (by decide +kernel)) ggX0_loaded_X0_isLoaded
theorem dX0_loaded_0 : decode cX0_loaded 0 = .ok (.iload_n 1, 1) := by decide +kernel
theorem dX0_loaded_1 : decode cX0_loaded 1 = .ok (.invokestatic 73, 3) := by decide +kernel
theorem dX0_loaded_4 : decode cX0_loaded 4 = .ok (.iconst 0, 1) := by decide +kernel
theorem dX0_loaded_5 : decode cX0_loaded 5 = .ok (.istore_n 2, 1) := by decide +kernel
theorem dX0_loaded_6 : decode cX0_loaded 6 = .ok (.iconst 0, 1) := by decide +kernel
theorem dX0_loaded_7 : decode cX0_loaded 7 = .ok (.istore_n 3, 1) := by decide +kernel
theorem dX0_loaded_8 : decode cX0_loaded 8 = .ok (.iload_n 3, 1) := by decide +kernel
theorem dX0_loaded_9 : decode cX0_loaded 9 = .ok (.aload_n 0, 1) := by decide +kernel
theorem dX0_loaded_10 : decode cX0_loaded 10 = .ok (.getfield 53, 3) := by decide +kernel
theorem dX0_loaded_13 : decode cX0_loaded 13 = .ok (.if_icmp .ge 57, 3) := by decide +kernel
theorem dX0_loaded_16 : decode cX0_loaded 16 = .ok (.aload_n 0, 1) := by decide +kernel
theorem dX0_loaded_17 : decode cX0_loaded 17 = .ok (.iload_n 3, 1) := by decide +kernel
theorem dX0_loaded_18 : decode cX0_loaded 18 = .ok (.invokevirtual 67, 3) := by decide +kernel
theorem dX0_loaded_21 : decode cX0_loaded 21 = .ok (.iload_n 1, 1) := by decide +kernel
theorem dX0_loaded_22 : decode cX0_loaded 22 = .ok (.ishr, 1) := by decide +kernel
theorem dX0_loaded_23 : decode cX0_loaded 23 = .ok (.istore 4, 2) := by decide +kernel
theorem dX0_loaded_25 : decode cX0_loaded 25 = .ok (.iload 4, 2) := by decide +kernel
theorem dX0_loaded_27 : decode cX0_loaded 27 = .ok (.aload_n 0, 1) := by decide +kernel
theorem dX0_loaded_28 : decode cX0_loaded 28 = .ok (.iload_n 3, 1) := by decide +kernel
theorem dX0_loaded_29 : decode cX0_loaded 29 = .ok (.iconst 1, 1) := by decide +kernel
theorem dX0_loaded_30 : decode cX0_loaded 30 = .ok (.isub, 1) := by decide +kernel
theorem dX0_loaded_31 : decode cX0_loaded 31 = .ok (.invokevirtual 67, 3) := by decide +kernel
theorem dX0_loaded_34 : decode cX0_loaded 34 = .ok (.iload_n 1, 1) := by decide +kernel
theorem dX0_loaded_35 : decode cX0_loaded 35 = .ok (.ishr, 1) := by decide +kernel
theorem dX0_loaded_36 : decode cX0_loaded 36 = .ok (.if_icmp .eq 7, 3) := by decide +kernel
theorem dX0_loaded_39 : decode cX0_loaded 39 = .ok (.iconst 1, 1) := by decide +kernel
theorem dX0_loaded_40 : decode cX0_loaded 40 = .ok (.goto 4, 3) := by decide +kernel
theorem dX0_loaded_43 : decode cX0_loaded 43 = .ok (.iconst 0, 1) := by decide +kernel
theorem dX0_loaded_44 : decode cX0_loaded 44 = .ok (.istore 5, 2) := by decide +kernel
theorem dX0_loaded_46 : decode cX0_loaded 46 = .ok (.iload 5, 2) := by decide +kernel
theorem dX0_loaded_48 : decode cX0_loaded 48 = .ok (.ifCond .eq 16, 3) := by decide +kernel
theorem dX0_loaded_51 : decode cX0_loaded 51 = .ok (.aload_n 0, 1) := by decide +kernel
theorem dX0_loaded_52 : decode cX0_loaded 52 = .ok (.iload_n 1, 1) := by decide +kernel
theorem dX0_loaded_53 : decode cX0_loaded 53 = .ok (.iload 4, 2) := by decide +kernel
theorem dX0_loaded_55 : decode cX0_loaded 55 = .ok (.invokevirtual 88, 3) := by decide +kernel
theorem dX0_loaded_58 : decode cX0_loaded 58 = .ok (.ifCond .eq 6, 3) := by decide +kernel
theorem dX0_loaded_61 : decode cX0_loaded 61 = .ok (.iinc 2 1, 3) := by decide +kernel
theorem dX0_loaded_64 : decode cX0_loaded 64 = .ok (.iinc 3 1, 3) := by decide +kernel
theorem dX0_loaded_67 : decode cX0_loaded 67 = .ok (.goto (-59), 3) := by decide +kernel
theorem dX0_loaded_70 : decode cX0_loaded 70 = .ok (.iload_n 2, 1) := by decide +kernel
theorem dX0_loaded_71 : decode cX0_loaded 71 = .ok (.ireturn, 1) := by decide +kernel
set_option maxRecDepth 20000 in
theorem ggX0_wouldMove_X0_requirePlace : GoodIn wsX0_wouldMove wsX0_requirePlace := goodIn_ca (goodIn_r _ [5, 6, 7, 8, 9, 10, 4, 11, 12, 13, 65, 66, 67, 68, 69, 70, 71, 72] (by decide +kernel) (by decide +kernel)) (goodIn_sub (fun _ h => List.mem_cons_of_mem _ (List.mem_append_right _ h)) (by decide +kernel))
set_option maxRecDepth 20000 in
theorem gX0_wouldMove_X0_requirePlace : GoodIn wsX0_wouldMove (wsV RX0 39 RX0 yX0_requirePlace wsX0_requirePlace) := goodIn_app (goodIn_of _ (by decide +kernel)) ggX0_wouldMove_X0_requirePlace
set_option maxRecDepth 20000 in
theorem ggX0_wouldMove_X0_movesByPuttingIn : GoodIn wsX0_wouldMove wsX0_movesByPuttingIn := goodIn_r _ [17, 18, 19, 20, 4, 21, 22, 23, 24, 25, 26, 27, 28, 29, 30, 12, 13, 31, 32, 33, 34, 35, 36, 37, 38, 39, 40, 41, 42, 43, 44, 45, 46, 47, 48, 49, 50, 51, 52, 53, 54, 55, 56, 57, 58, 59, 60, 61, 62, 63, 64, 65, 66, 67, 68, 69, 70, 71, 72] (by decide +kernel) (by decide +kernel)
set_option maxRecDepth 20000 in
theorem gX0_wouldMove_X0_movesByPuttingIn : GoodIn wsX0_wouldMove (wsV RX0 92 RX0 yX0_movesByPuttingIn wsX0_movesByPuttingIn) := goodIn_app (goodIn_of _ (by decide +kernel)) ggX0_wouldMove_X0_movesByPuttingIn
theorem dX0_wouldMove_0 : decode cX0_wouldMove 0 = .ok (.aload_n 0, 1) := by decide +kernel
theorem dX0_wouldMove_1 : decode cX0_wouldMove 1 = .ok (.aload_n 0, 1) := by decide +kernel
theorem dX0_wouldMove_2 : decode cX0_wouldMove 2 = .ok (.iload_n 1, 1) := by decide +kernel
theorem dX0_wouldMove_3 : decode cX0_wouldMove 3 = .ok (.invokevirtual 39, 3) := by decide +kernel
theorem dX0_wouldMove_6 : decode cX0_wouldMove 6 = .ok (.iconst 1, 1) := by decide +kernel
theorem dX0_wouldMove_7 : decode cX0_wouldMove 7 = .ok (.iadd, 1) := by decide +kernel
theorem dX0_wouldMove_8 : decode cX0_wouldMove 8 = .ok (.invokevirtual 92, 3) := by decide +kernel
theorem dX0_wouldMove_11 : decode cX0_wouldMove 11 = .ok (.ireturn, 1) := by decide +kernel
theorem dX0_moved_0 : decode cX0_moved 0 = .ok (.aload_n 0, 1) := by decide +kernel
theorem dX0_moved_1 : decode cX0_moved 1 = .ok (.getfield 95, 3) := by decide +kernel
theorem dX0_moved_4 : decode cX0_moved 4 = .ok (.ireturn, 1) := by decide +kernel
set_option maxRecDepth 20000 in
theorem ggX0_spread_X0_requireLevel : GoodIn wsX0_spread wsX0_requireLevel := goodIn_ca (goodIn_r _ [5, 6, 7, 8] (by decide +kernel) (by decide +kernel)) (goodIn_sub (fun _ h => List.mem_cons_of_mem _ (List.mem_append_right _ h)) (by decide +kernel))
set_option maxRecDepth 20000 in
theorem gX0_spread_X0_requireLevel : GoodIn wsX0_spread (va_wsS RX0 73 yX0_requireLevel wsX0_requireLevel) := goodIn_app (goodIn_of _ (by decide +kernel)) ggX0_spread_X0_requireLevel
theorem dX0_spread_0 : decode cX0_spread 0 = .ok (.iload_n 1, 1) := by decide +kernel
theorem dX0_spread_1 : decode cX0_spread 1 = .ok (.invokestatic 73, 3) := by decide +kernel
theorem dX0_spread_4 : decode cX0_spread 4 = .ok (.aload_n 0, 1) := by decide +kernel
theorem dX0_spread_5 : decode cX0_spread 5 = .ok (.getfield 19, 3) := by decide +kernel
theorem dX0_spread_8 : decode cX0_spread 8 = .ok (.iload_n 1, 1) := by decide +kernel
theorem dX0_spread_9 : decode cX0_spread 9 = .ok (.iaload, 1) := by decide +kernel
theorem dX0_spread_10 : decode cX0_spread 10 = .ok (.ireturn, 1) := by decide +kernel
set_option maxRecDepth 20000 in
theorem ggX0_seat_X0_requireReader : GoodIn wsX0_seat wsX0_requireReader := goodIn_ca (goodIn_r _ [5, 6, 7] (by decide +kernel) (by decide +kernel)) (goodIn_sub (fun _ h => List.mem_cons_of_mem _ (List.mem_append_right _ h)) (by decide +kernel))
set_option maxRecDepth 20000 in
theorem gX0_seat_X0_requireReader : GoodIn wsX0_seat (va_wsS RX0 98 yX0_requireReader wsX0_requireReader) := goodIn_app (goodIn_of _ (by decide +kernel)) ggX0_seat_X0_requireReader
set_option maxRecDepth 20000 in
theorem ggX0_seat_X0_requirePlace : GoodIn wsX0_seat wsX0_requirePlace := goodIn_ca (goodIn_r _ [11, 6, 7, 12, 13, 14, 4, 15, 16, 17, 22, 23, 24, 25, 26, 27, 28, 29] (by decide +kernel) (by decide +kernel)) (goodIn_sub (fun _ h => List.mem_cons_of_mem _ (List.mem_append_right _ h)) (by decide +kernel))
set_option maxRecDepth 20000 in
theorem gX0_seat_X0_requirePlace : GoodIn wsX0_seat (wsV RX0 39 RX0 yX0_requirePlace wsX0_requirePlace) := goodIn_app (goodIn_of _ (by decide +kernel)) ggX0_seat_X0_requirePlace
set_option maxRecDepth 20000 in
theorem ggX0_seat_X0_readersAt : GoodIn wsX0_seat wsX0_readersAt := goodIn_r _ [21, 1, 22, 23, 24, 25, 26, 27, 28, 29] (by decide +kernel) (by decide +kernel)
set_option maxRecDepth 20000 in
theorem gX0_seat_X0_readersAt : GoodIn wsX0_seat (wsV RX0 101 RX0 yX0_readersAt wsX0_readersAt) := goodIn_app (goodIn_of _ (by decide +kernel)) ggX0_seat_X0_readersAt
theorem dX0_seat_0 : decode cX0_seat 0 = .ok (.iload_n 1, 1) := by decide +kernel
theorem dX0_seat_1 : decode cX0_seat 1 = .ok (.invokestatic 98, 3) := by decide +kernel
theorem dX0_seat_4 : decode cX0_seat 4 = .ok (.aload_n 0, 1) := by decide +kernel
theorem dX0_seat_5 : decode cX0_seat 5 = .ok (.iload_n 2, 1) := by decide +kernel
theorem dX0_seat_6 : decode cX0_seat 6 = .ok (.invokevirtual 39, 3) := by decide +kernel
theorem dX0_seat_9 : decode cX0_seat 9 = .ok (.pop, 1) := by decide +kernel
theorem dX0_seat_10 : decode cX0_seat 10 = .ok (.aload_n 0, 1) := by decide +kernel
theorem dX0_seat_11 : decode cX0_seat 11 = .ok (.getfield 22, 3) := by decide +kernel
theorem dX0_seat_14 : decode cX0_seat 14 = .ok (.iload_n 1, 1) := by decide +kernel
theorem dX0_seat_15 : decode cX0_seat 15 = .ok (.iload_n 2, 1) := by decide +kernel
theorem dX0_seat_16 : decode cX0_seat 16 = .ok (.iastore, 1) := by decide +kernel
theorem dX0_seat_17 : decode cX0_seat 17 = .ok (.aload_n 0, 1) := by decide +kernel
theorem dX0_seat_18 : decode cX0_seat 18 = .ok (.iload_n 2, 1) := by decide +kernel
theorem dX0_seat_19 : decode cX0_seat 19 = .ok (.invokevirtual 101, 3) := by decide +kernel
theorem dX0_seat_22 : decode cX0_seat 22 = .ok (.ireturn, 1) := by decide +kernel
set_option maxRecDepth 20000 in
theorem ggX0_passDay_X0_placeOf : GoodIn wsX0_passDay wsX0_placeOf := goodIn_r _ [7, 8, 9, 19, 20, 21, 22, 23, 24, 25, 26] (by decide +kernel) (by decide +kernel)
set_option maxRecDepth 20000 in
theorem gX0_passDay_X0_placeOf : GoodIn wsX0_passDay (wsV RX0 64 RX0 yX0_placeOf wsX0_placeOf) := goodIn_app (goodIn_of _ (by decide +kernel)) ggX0_passDay_X0_placeOf
set_option maxRecDepth 20000 in
theorem ggX0_passDay_X0_folderAt : GoodIn wsX0_passDay wsX0_folderAt := goodIn_r _ [13, 9, 14, 15, 16, 6, 17, 8, 18, 19, 20, 21, 22, 23, 24, 25, 26] (by decide +kernel) (by decide +kernel)
set_option maxRecDepth 20000 in
theorem gX0_passDay_X0_folderAt : GoodIn wsX0_passDay (wsV RX0 43 RX0 yX0_folderAt wsX0_folderAt) := goodIn_app (goodIn_of _ (by decide +kernel)) ggX0_passDay_X0_folderAt
theorem dX0_passDay_0 : decode cX0_passDay 0 = .ok (.iconst 0, 1) := by decide +kernel
theorem dX0_passDay_1 : decode cX0_passDay 1 = .ok (.istore_n 1, 1) := by decide +kernel
theorem dX0_passDay_2 : decode cX0_passDay 2 = .ok (.iconst 0, 1) := by decide +kernel
theorem dX0_passDay_3 : decode cX0_passDay 3 = .ok (.istore_n 2, 1) := by decide +kernel
theorem dX0_passDay_4 : decode cX0_passDay 4 = .ok (.iload_n 2, 1) := by decide +kernel
theorem dX0_passDay_5 : decode cX0_passDay 5 = .ok (.iconst 4, 1) := by decide +kernel
theorem dX0_passDay_6 : decode cX0_passDay 6 = .ok (.if_icmp .ge 61, 3) := by decide +kernel
theorem dX0_passDay_9 : decode cX0_passDay 9 = .ok (.aload_n 0, 1) := by decide +kernel
theorem dX0_passDay_10 : decode cX0_passDay 10 = .ok (.aload_n 0, 1) := by decide +kernel
theorem dX0_passDay_11 : decode cX0_passDay 11 = .ok (.getfield 22, 3) := by decide +kernel
theorem dX0_passDay_14 : decode cX0_passDay 14 = .ok (.iload_n 2, 1) := by decide +kernel
theorem dX0_passDay_15 : decode cX0_passDay 15 = .ok (.iaload, 1) := by decide +kernel
theorem dX0_passDay_16 : decode cX0_passDay 16 = .ok (.invokevirtual 64, 3) := by decide +kernel
theorem dX0_passDay_19 : decode cX0_passDay 19 = .ok (.istore_n 3, 1) := by decide +kernel
theorem dX0_passDay_20 : decode cX0_passDay 20 = .ok (.iload_n 3, 1) := by decide +kernel
theorem dX0_passDay_21 : decode cX0_passDay 21 = .ok (.iconst (-1), 1) := by decide +kernel
theorem dX0_passDay_22 : decode cX0_passDay 22 = .ok (.if_icmp .eq 26, 3) := by decide +kernel
theorem dX0_passDay_25 : decode cX0_passDay 25 = .ok (.aload_n 0, 1) := by decide +kernel
theorem dX0_passDay_26 : decode cX0_passDay 26 = .ok (.getfield 25, 3) := by decide +kernel
theorem dX0_passDay_29 : decode cX0_passDay 29 = .ok (.iload_n 2, 1) := by decide +kernel
theorem dX0_passDay_30 : decode cX0_passDay 30 = .ok (.dup2, 1) := by decide +kernel
theorem dX0_passDay_31 : decode cX0_passDay 31 = .ok (.iaload, 1) := by decide +kernel
theorem dX0_passDay_32 : decode cX0_passDay 32 = .ok (.iconst 1, 1) := by decide +kernel
theorem dX0_passDay_33 : decode cX0_passDay 33 = .ok (.iadd, 1) := by decide +kernel
theorem dX0_passDay_34 : decode cX0_passDay 34 = .ok (.iastore, 1) := by decide +kernel
theorem dX0_passDay_35 : decode cX0_passDay 35 = .ok (.aload_n 0, 1) := by decide +kernel
theorem dX0_passDay_36 : decode cX0_passDay 36 = .ok (.getfield 22, 3) := by decide +kernel
theorem dX0_passDay_39 : decode cX0_passDay 39 = .ok (.iload_n 2, 1) := by decide +kernel
theorem dX0_passDay_40 : decode cX0_passDay 40 = .ok (.aload_n 0, 1) := by decide +kernel
theorem dX0_passDay_41 : decode cX0_passDay 41 = .ok (.iload_n 3, 1) := by decide +kernel
theorem dX0_passDay_42 : decode cX0_passDay 42 = .ok (.iconst 1, 1) := by decide +kernel
theorem dX0_passDay_43 : decode cX0_passDay 43 = .ok (.iadd, 1) := by decide +kernel
theorem dX0_passDay_44 : decode cX0_passDay 44 = .ok (.invokevirtual 43, 3) := by decide +kernel
theorem dX0_passDay_47 : decode cX0_passDay 47 = .ok (.iastore, 1) := by decide +kernel
theorem dX0_passDay_48 : decode cX0_passDay 48 = .ok (.aload_n 0, 1) := by decide +kernel
theorem dX0_passDay_49 : decode cX0_passDay 49 = .ok (.getfield 22, 3) := by decide +kernel
theorem dX0_passDay_52 : decode cX0_passDay 52 = .ok (.iload_n 2, 1) := by decide +kernel
theorem dX0_passDay_53 : decode cX0_passDay 53 = .ok (.iaload, 1) := by decide +kernel
theorem dX0_passDay_54 : decode cX0_passDay 54 = .ok (.iconst (-1), 1) := by decide +kernel
theorem dX0_passDay_55 : decode cX0_passDay 55 = .ok (.if_icmp .eq 6, 3) := by decide +kernel
theorem dX0_passDay_58 : decode cX0_passDay 58 = .ok (.iinc 1 1, 3) := by decide +kernel
theorem dX0_passDay_61 : decode cX0_passDay 61 = .ok (.iinc 2 1, 3) := by decide +kernel
theorem dX0_passDay_64 : decode cX0_passDay 64 = .ok (.goto (-60), 3) := by decide +kernel
theorem dX0_passDay_67 : decode cX0_passDay 67 = .ok (.iload_n 1, 1) := by decide +kernel
theorem dX0_passDay_68 : decode cX0_passDay 68 = .ok (.ireturn, 1) := by decide +kernel
set_option maxRecDepth 20000 in
theorem ggX0_at_X0_requireReader : GoodIn wsX0_at wsX0_requireReader := goodIn_ca (goodIn_r _ [5, 6, 7] (by decide +kernel) (by decide +kernel)) (goodIn_sub (fun _ h => List.mem_cons_of_mem _ (List.mem_append_right _ h)) (by decide +kernel))
set_option maxRecDepth 20000 in
theorem gX0_at_X0_requireReader : GoodIn wsX0_at (va_wsS RX0 98 yX0_requireReader wsX0_requireReader) := goodIn_app (goodIn_of _ (by decide +kernel)) ggX0_at_X0_requireReader
theorem dX0_at_0 : decode cX0_at 0 = .ok (.iload_n 1, 1) := by decide +kernel
theorem dX0_at_1 : decode cX0_at 1 = .ok (.invokestatic 98, 3) := by decide +kernel
theorem dX0_at_4 : decode cX0_at 4 = .ok (.aload_n 0, 1) := by decide +kernel
theorem dX0_at_5 : decode cX0_at 5 = .ok (.getfield 22, 3) := by decide +kernel
theorem dX0_at_8 : decode cX0_at 8 = .ok (.iload_n 1, 1) := by decide +kernel
theorem dX0_at_9 : decode cX0_at 9 = .ok (.iaload, 1) := by decide +kernel
theorem dX0_at_10 : decode cX0_at 10 = .ok (.ireturn, 1) := by decide +kernel
set_option maxRecDepth 20000 in
theorem ggX0_read_X0_requireReader : GoodIn wsX0_read wsX0_requireReader := goodIn_ca (goodIn_r _ [5, 6, 7] (by decide +kernel) (by decide +kernel)) (goodIn_sub (fun _ h => List.mem_cons_of_mem _ (List.mem_append_right _ h)) (by decide +kernel))
set_option maxRecDepth 20000 in
theorem gX0_read_X0_requireReader : GoodIn wsX0_read (va_wsS RX0 98 yX0_requireReader wsX0_requireReader) := goodIn_app (goodIn_of _ (by decide +kernel)) ggX0_read_X0_requireReader
theorem dX0_read_0 : decode cX0_read 0 = .ok (.iload_n 1, 1) := by decide +kernel
theorem dX0_read_1 : decode cX0_read 1 = .ok (.invokestatic 98, 3) := by decide +kernel
theorem dX0_read_4 : decode cX0_read 4 = .ok (.aload_n 0, 1) := by decide +kernel
theorem dX0_read_5 : decode cX0_read 5 = .ok (.getfield 25, 3) := by decide +kernel
theorem dX0_read_8 : decode cX0_read 8 = .ok (.iload_n 1, 1) := by decide +kernel
theorem dX0_read_9 : decode cX0_read 9 = .ok (.iaload, 1) := by decide +kernel
theorem dX0_read_10 : decode cX0_read 10 = .ok (.ireturn, 1) := by decide +kernel
set_option maxRecDepth 20000 in
theorem ggX0_daysTo_X0_requireReader : GoodIn wsX0_daysTo wsX0_requireReader := goodIn_ca (goodIn_r _ [5, 6, 7] (by decide +kernel) (by decide +kernel)) (goodIn_sub (fun _ h => List.mem_cons_of_mem _ (List.mem_append_right _ h)) (by decide +kernel))
set_option maxRecDepth 20000 in
theorem gX0_daysTo_X0_requireReader : GoodIn wsX0_daysTo (va_wsS RX0 98 yX0_requireReader wsX0_requireReader) := goodIn_app (goodIn_of _ (by decide +kernel)) ggX0_daysTo_X0_requireReader
set_option maxRecDepth 20000 in
theorem ggX0_daysTo_X0_placeOf : GoodIn wsX0_daysTo wsX0_placeOf := goodIn_r _ [11, 12, 13, 14, 15, 16, 17, 18, 19, 20, 21] (by decide +kernel) (by decide +kernel)
set_option maxRecDepth 20000 in
theorem gX0_daysTo_X0_placeOf : GoodIn wsX0_daysTo (wsV RX0 64 RX0 yX0_placeOf wsX0_placeOf) := goodIn_app (goodIn_of _ (by decide +kernel)) ggX0_daysTo_X0_placeOf
theorem dX0_daysTo_0 : decode cX0_daysTo 0 = .ok (.iload_n 1, 1) := by decide +kernel
theorem dX0_daysTo_1 : decode cX0_daysTo 1 = .ok (.invokestatic 98, 3) := by decide +kernel
theorem dX0_daysTo_4 : decode cX0_daysTo 4 = .ok (.iload_n 2, 1) := by decide +kernel
theorem dX0_daysTo_5 : decode cX0_daysTo 5 = .ok (.invokestatic 98, 3) := by decide +kernel
theorem dX0_daysTo_8 : decode cX0_daysTo 8 = .ok (.aload_n 0, 1) := by decide +kernel
theorem dX0_daysTo_9 : decode cX0_daysTo 9 = .ok (.aload_n 0, 1) := by decide +kernel
theorem dX0_daysTo_10 : decode cX0_daysTo 10 = .ok (.getfield 22, 3) := by decide +kernel
theorem dX0_daysTo_13 : decode cX0_daysTo 13 = .ok (.iload_n 1, 1) := by decide +kernel
theorem dX0_daysTo_14 : decode cX0_daysTo 14 = .ok (.iaload, 1) := by decide +kernel
theorem dX0_daysTo_15 : decode cX0_daysTo 15 = .ok (.invokevirtual 64, 3) := by decide +kernel
theorem dX0_daysTo_18 : decode cX0_daysTo 18 = .ok (.istore_n 3, 1) := by decide +kernel
theorem dX0_daysTo_19 : decode cX0_daysTo 19 = .ok (.aload_n 0, 1) := by decide +kernel
theorem dX0_daysTo_20 : decode cX0_daysTo 20 = .ok (.aload_n 0, 1) := by decide +kernel
theorem dX0_daysTo_21 : decode cX0_daysTo 21 = .ok (.getfield 22, 3) := by decide +kernel
theorem dX0_daysTo_24 : decode cX0_daysTo 24 = .ok (.iload_n 2, 1) := by decide +kernel
theorem dX0_daysTo_25 : decode cX0_daysTo 25 = .ok (.iaload, 1) := by decide +kernel
theorem dX0_daysTo_26 : decode cX0_daysTo 26 = .ok (.invokevirtual 64, 3) := by decide +kernel
theorem dX0_daysTo_29 : decode cX0_daysTo 29 = .ok (.istore 4, 2) := by decide +kernel
theorem dX0_daysTo_31 : decode cX0_daysTo 31 = .ok (.iload_n 3, 1) := by decide +kernel
theorem dX0_daysTo_32 : decode cX0_daysTo 32 = .ok (.iconst (-1), 1) := by decide +kernel
theorem dX0_daysTo_33 : decode cX0_daysTo 33 = .ok (.if_icmp .eq 9, 3) := by decide +kernel
theorem dX0_daysTo_36 : decode cX0_daysTo 36 = .ok (.iload 4, 2) := by decide +kernel
theorem dX0_daysTo_38 : decode cX0_daysTo 38 = .ok (.iload_n 3, 1) := by decide +kernel
theorem dX0_daysTo_39 : decode cX0_daysTo 39 = .ok (.if_icmp .ge 7, 3) := by decide +kernel
theorem dX0_daysTo_42 : decode cX0_daysTo 42 = .ok (.iconst (-1), 1) := by decide +kernel
theorem dX0_daysTo_43 : decode cX0_daysTo 43 = .ok (.goto 7, 3) := by decide +kernel
theorem dX0_daysTo_46 : decode cX0_daysTo 46 = .ok (.iload 4, 2) := by decide +kernel
theorem dX0_daysTo_48 : decode cX0_daysTo 48 = .ok (.iload_n 3, 1) := by decide +kernel
theorem dX0_daysTo_49 : decode cX0_daysTo 49 = .ok (.isub, 1) := by decide +kernel
theorem dX0_daysTo_50 : decode cX0_daysTo 50 = .ok (.ireturn, 1) := by decide +kernel
set_option maxRecDepth 20000 in
theorem ggX0_requirePlace_X0_placeOf : GoodIn wsX0_requirePlace wsX0_placeOf := goodIn_r _ [7, 8, 9, 10, 11, 12, 13, 14, 15, 16, 17] (by decide +kernel) (by decide +kernel)
set_option maxRecDepth 20000 in
theorem gX0_requirePlace_X0_placeOf : GoodIn wsX0_requirePlace (wsV RX0 64 RX0 yX0_placeOf wsX0_placeOf) := goodIn_app (goodIn_of _ (by decide +kernel)) ggX0_requirePlace_X0_placeOf
theorem dX0_requirePlace_0 : decode cX0_requirePlace 0 = .ok (.aload_n 0, 1) := by decide +kernel
theorem dX0_requirePlace_1 : decode cX0_requirePlace 1 = .ok (.iload_n 1, 1) := by decide +kernel
theorem dX0_requirePlace_2 : decode cX0_requirePlace 2 = .ok (.invokevirtual 64, 3) := by decide +kernel
theorem dX0_requirePlace_5 : decode cX0_requirePlace 5 = .ok (.istore_n 2, 1) := by decide +kernel
theorem dX0_requirePlace_6 : decode cX0_requirePlace 6 = .ok (.iload_n 2, 1) := by decide +kernel
theorem dX0_requirePlace_7 : decode cX0_requirePlace 7 = .ok (.iconst (-1), 1) := by decide +kernel
theorem dX0_requirePlace_8 : decode cX0_requirePlace 8 = .ok (.if_icmp .ne 13, 3) := by decide +kernel
theorem dX0_requirePlace_11 : decode cX0_requirePlace 11 = .ok (.new 79, 3) := by decide +kernel
theorem dX0_requirePlace_14 : decode cX0_requirePlace 14 = .ok (.dup, 1) := by decide +kernel
theorem dX0_requirePlace_15 : decode cX0_requirePlace 15 = .ok (.ldc 104, 2) := by decide +kernel
theorem dX0_requirePlace_17 : decode cX0_requirePlace 17 = .ok (.invokespecial 83, 3) := by decide +kernel
theorem dX0_requirePlace_20 : decode cX0_requirePlace 20 = .ok (.athrow, 1) := by decide +kernel
theorem dX0_requirePlace_21 : decode cX0_requirePlace 21 = .ok (.iload_n 2, 1) := by decide +kernel
theorem dX0_requirePlace_22 : decode cX0_requirePlace 22 = .ok (.ireturn, 1) := by decide +kernel
theorem dX0_requireThatOneMayCome_0 : decode cX0_requireThatOneMayCome 0 = .ok (.aload_n 0, 1) := by decide +kernel
theorem dX0_requireThatOneMayCome_1 : decode cX0_requireThatOneMayCome 1 = .ok (.getfield 106, 3) := by decide +kernel
theorem dX0_requireThatOneMayCome_4 : decode cX0_requireThatOneMayCome 4 = .ok (.sipush 200, 3) := by decide +kernel
theorem dX0_requireThatOneMayCome_7 : decode cX0_requireThatOneMayCome 7 = .ok (.if_icmp .ge 12, 3) := by decide +kernel
theorem dX0_requireThatOneMayCome_10 : decode cX0_requireThatOneMayCome 10 = .ok (.aload_n 0, 1) := by decide +kernel
theorem dX0_requireThatOneMayCome_11 : decode cX0_requireThatOneMayCome 11 = .ok (.getfield 53, 3) := by decide +kernel
theorem dX0_requireThatOneMayCome_14 : decode cX0_requireThatOneMayCome 14 = .ok (.bipush 60, 2) := by decide +kernel
theorem dX0_requireThatOneMayCome_16 : decode cX0_requireThatOneMayCome 16 = .ok (.if_icmp .lt 13, 3) := by decide +kernel
theorem dX0_requireThatOneMayCome_19 : decode cX0_requireThatOneMayCome 19 = .ok (.new 109, 3) := by decide +kernel
theorem dX0_requireThatOneMayCome_22 : decode cX0_requireThatOneMayCome 22 = .ok (.dup, 1) := by decide +kernel
theorem dX0_requireThatOneMayCome_23 : decode cX0_requireThatOneMayCome 23 = .ok (.ldc 111, 2) := by decide +kernel
theorem dX0_requireThatOneMayCome_25 : decode cX0_requireThatOneMayCome 25 = .ok (.invokespecial 113, 3) := by decide +kernel
theorem dX0_requireThatOneMayCome_28 : decode cX0_requireThatOneMayCome 28 = .ok (.athrow, 1) := by decide +kernel
theorem dX0_requireThatOneMayCome_29 : decode cX0_requireThatOneMayCome 29 = .ok (.return_, 1) := by decide +kernel
theorem dX0_requireLevel_0 : decode cX0_requireLevel 0 = .ok (.iload_n 0, 1) := by decide +kernel
theorem dX0_requireLevel_1 : decode cX0_requireLevel 1 = .ok (.ifCond .lt 11, 3) := by decide +kernel
theorem dX0_requireLevel_4 : decode cX0_requireLevel 4 = .ok (.iload_n 0, 1) := by decide +kernel
theorem dX0_requireLevel_5 : decode cX0_requireLevel 5 = .ok (.getstatic 16, 3) := by decide +kernel
theorem dX0_requireLevel_8 : decode cX0_requireLevel 8 = .ok (.arraylength, 1) := by decide +kernel
theorem dX0_requireLevel_9 : decode cX0_requireLevel 9 = .ok (.if_icmp .lt 13, 3) := by decide +kernel
theorem dX0_requireLevel_12 : decode cX0_requireLevel 12 = .ok (.new 79, 3) := by decide +kernel
theorem dX0_requireLevel_15 : decode cX0_requireLevel 15 = .ok (.dup, 1) := by decide +kernel
theorem dX0_requireLevel_16 : decode cX0_requireLevel 16 = .ok (.ldc 114, 2) := by decide +kernel
theorem dX0_requireLevel_18 : decode cX0_requireLevel 18 = .ok (.invokespecial 83, 3) := by decide +kernel
theorem dX0_requireLevel_21 : decode cX0_requireLevel 21 = .ok (.athrow, 1) := by decide +kernel
theorem dX0_requireLevel_22 : decode cX0_requireLevel 22 = .ok (.return_, 1) := by decide +kernel
theorem dX0_requireReader_0 : decode cX0_requireReader 0 = .ok (.iload_n 0, 1) := by decide +kernel
theorem dX0_requireReader_1 : decode cX0_requireReader 1 = .ok (.ifCond .lt 8, 3) := by decide +kernel
theorem dX0_requireReader_4 : decode cX0_requireReader 4 = .ok (.iload_n 0, 1) := by decide +kernel
theorem dX0_requireReader_5 : decode cX0_requireReader 5 = .ok (.iconst 4, 1) := by decide +kernel
theorem dX0_requireReader_6 : decode cX0_requireReader 6 = .ok (.if_icmp .lt 13, 3) := by decide +kernel
theorem dX0_requireReader_9 : decode cX0_requireReader 9 = .ok (.new 79, 3) := by decide +kernel
theorem dX0_requireReader_12 : decode cX0_requireReader 12 = .ok (.dup, 1) := by decide +kernel
theorem dX0_requireReader_13 : decode cX0_requireReader 13 = .ok (.ldc 116, 2) := by decide +kernel
theorem dX0_requireReader_15 : decode cX0_requireReader 15 = .ok (.invokespecial 83, 3) := by decide +kernel
theorem dX0_requireReader_18 : decode cX0_requireReader 18 = .ok (.athrow, 1) := by decide +kernel
theorem dX0_requireReader_19 : decode cX0_requireReader 19 = .ok (.return_, 1) := by decide +kernel
theorem dX0_isPlace_0 : decode cX0_isPlace 0 = .ok (.iload_n 1, 1) := by decide +kernel
theorem dX0_isPlace_1 : decode cX0_isPlace 1 = .ok (.ifCond .lt 33, 3) := by decide +kernel
theorem dX0_isPlace_4 : decode cX0_isPlace 4 = .ok (.iload_n 1, 1) := by decide +kernel
theorem dX0_isPlace_5 : decode cX0_isPlace 5 = .ok (.aload_n 0, 1) := by decide +kernel
theorem dX0_isPlace_6 : decode cX0_isPlace 6 = .ok (.getfield 53, 3) := by decide +kernel
theorem dX0_isPlace_9 : decode cX0_isPlace 9 = .ok (.if_icmp .ge 25, 3) := by decide +kernel
theorem dX0_isPlace_12 : decode cX0_isPlace 12 = .ok (.iload_n 1, 1) := by decide +kernel
theorem dX0_isPlace_13 : decode cX0_isPlace 13 = .ok (.aload_n 0, 1) := by decide +kernel
theorem dX0_isPlace_14 : decode cX0_isPlace 14 = .ok (.getfield 9, 3) := by decide +kernel
theorem dX0_isPlace_17 : decode cX0_isPlace 17 = .ok (.arraylength, 1) := by decide +kernel
theorem dX0_isPlace_18 : decode cX0_isPlace 18 = .ok (.if_icmp .ge 16, 3) := by decide +kernel
theorem dX0_isPlace_21 : decode cX0_isPlace 21 = .ok (.iload_n 1, 1) := by decide +kernel
theorem dX0_isPlace_22 : decode cX0_isPlace 22 = .ok (.aload_n 0, 1) := by decide +kernel
theorem dX0_isPlace_23 : decode cX0_isPlace 23 = .ok (.getfield 13, 3) := by decide +kernel
theorem dX0_isPlace_26 : decode cX0_isPlace 26 = .ok (.arraylength, 1) := by decide +kernel
theorem dX0_isPlace_27 : decode cX0_isPlace 27 = .ok (.if_icmp .ge 7, 3) := by decide +kernel
theorem dX0_isPlace_30 : decode cX0_isPlace 30 = .ok (.iconst 1, 1) := by decide +kernel
theorem dX0_isPlace_31 : decode cX0_isPlace 31 = .ok (.goto 4, 3) := by decide +kernel
theorem dX0_isPlace_34 : decode cX0_isPlace 34 = .ok (.iconst 0, 1) := by decide +kernel
theorem dX0_isPlace_35 : decode cX0_isPlace 35 = .ok (.ireturn, 1) := by decide +kernel
theorem dX0_placeOf_0 : decode cX0_placeOf 0 = .ok (.iconst 0, 1) := by decide +kernel
theorem dX0_placeOf_1 : decode cX0_placeOf 1 = .ok (.istore_n 2, 1) := by decide +kernel
theorem dX0_placeOf_2 : decode cX0_placeOf 2 = .ok (.iload_n 2, 1) := by decide +kernel
theorem dX0_placeOf_3 : decode cX0_placeOf 3 = .ok (.aload_n 0, 1) := by decide +kernel
theorem dX0_placeOf_4 : decode cX0_placeOf 4 = .ok (.getfield 53, 3) := by decide +kernel
theorem dX0_placeOf_7 : decode cX0_placeOf 7 = .ok (.if_icmp .ge 30, 3) := by decide +kernel
theorem dX0_placeOf_10 : decode cX0_placeOf 10 = .ok (.iload_n 2, 1) := by decide +kernel
theorem dX0_placeOf_11 : decode cX0_placeOf 11 = .ok (.aload_n 0, 1) := by decide +kernel
theorem dX0_placeOf_12 : decode cX0_placeOf 12 = .ok (.getfield 9, 3) := by decide +kernel
theorem dX0_placeOf_15 : decode cX0_placeOf 15 = .ok (.arraylength, 1) := by decide +kernel
theorem dX0_placeOf_16 : decode cX0_placeOf 16 = .ok (.if_icmp .ge 21, 3) := by decide +kernel
theorem dX0_placeOf_19 : decode cX0_placeOf 19 = .ok (.aload_n 0, 1) := by decide +kernel
theorem dX0_placeOf_20 : decode cX0_placeOf 20 = .ok (.getfield 9, 3) := by decide +kernel
theorem dX0_placeOf_23 : decode cX0_placeOf 23 = .ok (.iload_n 2, 1) := by decide +kernel
theorem dX0_placeOf_24 : decode cX0_placeOf 24 = .ok (.iaload, 1) := by decide +kernel
theorem dX0_placeOf_25 : decode cX0_placeOf 25 = .ok (.iload_n 1, 1) := by decide +kernel
theorem dX0_placeOf_26 : decode cX0_placeOf 26 = .ok (.if_icmp .ne 5, 3) := by decide +kernel
theorem dX0_placeOf_29 : decode cX0_placeOf 29 = .ok (.iload_n 2, 1) := by decide +kernel
theorem dX0_placeOf_30 : decode cX0_placeOf 30 = .ok (.ireturn, 1) := by decide +kernel
theorem dX0_placeOf_31 : decode cX0_placeOf 31 = .ok (.iinc 2 1, 3) := by decide +kernel
theorem dX0_placeOf_34 : decode cX0_placeOf 34 = .ok (.goto (-32), 3) := by decide +kernel
theorem dX0_placeOf_37 : decode cX0_placeOf 37 = .ok (.iconst (-1), 1) := by decide +kernel
theorem dX0_placeOf_38 : decode cX0_placeOf 38 = .ok (.ireturn, 1) := by decide +kernel
set_option maxRecDepth 20000 in
theorem ggX0_folderAt_X0_isPlace : GoodIn wsX0_folderAt wsX0_isPlace := goodIn_r _ [6, 7, 1, 8, 9, 10, 11, 12, 13, 14, 15, 16] (by decide +kernel) (by decide +kernel)
set_option maxRecDepth 20000 in
theorem gX0_folderAt_X0_isPlace : GoodIn wsX0_folderAt (wsV RX0 118 RX0 yX0_isPlace wsX0_isPlace) := goodIn_app (goodIn_of _ (by decide +kernel)) ggX0_folderAt_X0_isPlace
theorem dX0_folderAt_0 : decode cX0_folderAt 0 = .ok (.aload_n 0, 1) := by decide +kernel
theorem dX0_folderAt_1 : decode cX0_folderAt 1 = .ok (.iload_n 1, 1) := by decide +kernel
theorem dX0_folderAt_2 : decode cX0_folderAt 2 = .ok (.invokevirtual 118, 3) := by decide +kernel
theorem dX0_folderAt_5 : decode cX0_folderAt 5 = .ok (.ifCond .eq 12, 3) := by decide +kernel
theorem dX0_folderAt_8 : decode cX0_folderAt 8 = .ok (.aload_n 0, 1) := by decide +kernel
theorem dX0_folderAt_9 : decode cX0_folderAt 9 = .ok (.getfield 9, 3) := by decide +kernel
theorem dX0_folderAt_12 : decode cX0_folderAt 12 = .ok (.iload_n 1, 1) := by decide +kernel
theorem dX0_folderAt_13 : decode cX0_folderAt 13 = .ok (.iaload, 1) := by decide +kernel
theorem dX0_folderAt_14 : decode cX0_folderAt 14 = .ok (.goto 4, 3) := by decide +kernel
theorem dX0_folderAt_17 : decode cX0_folderAt 17 = .ok (.iconst (-1), 1) := by decide +kernel
theorem dX0_folderAt_18 : decode cX0_folderAt 18 = .ok (.ireturn, 1) := by decide +kernel
set_option maxRecDepth 20000 in
theorem ggX0_markAt_X0_isPlace : GoodIn wsX0_markAt wsX0_isPlace := goodIn_r _ [6, 7, 8, 1, 9, 10, 11, 12, 13, 14, 15, 16] (by decide +kernel) (by decide +kernel)
set_option maxRecDepth 20000 in
theorem gX0_markAt_X0_isPlace : GoodIn wsX0_markAt (wsV RX0 118 RX0 yX0_isPlace wsX0_isPlace) := goodIn_app (goodIn_of _ (by decide +kernel)) ggX0_markAt_X0_isPlace
theorem dX0_markAt_0 : decode cX0_markAt 0 = .ok (.iload_n 1, 1) := by decide +kernel
theorem dX0_markAt_1 : decode cX0_markAt 1 = .ok (.ifCond .ge 5, 3) := by decide +kernel
theorem dX0_markAt_4 : decode cX0_markAt 4 = .ok (.iconst (-1), 1) := by decide +kernel
theorem dX0_markAt_5 : decode cX0_markAt 5 = .ok (.ireturn, 1) := by decide +kernel
theorem dX0_markAt_6 : decode cX0_markAt 6 = .ok (.aload_n 0, 1) := by decide +kernel
theorem dX0_markAt_7 : decode cX0_markAt 7 = .ok (.iload_n 1, 1) := by decide +kernel
theorem dX0_markAt_8 : decode cX0_markAt 8 = .ok (.invokevirtual 118, 3) := by decide +kernel
theorem dX0_markAt_11 : decode cX0_markAt 11 = .ok (.ifCond .eq 12, 3) := by decide +kernel
theorem dX0_markAt_14 : decode cX0_markAt 14 = .ok (.aload_n 0, 1) := by decide +kernel
theorem dX0_markAt_15 : decode cX0_markAt 15 = .ok (.getfield 13, 3) := by decide +kernel
theorem dX0_markAt_18 : decode cX0_markAt 18 = .ok (.iload_n 1, 1) := by decide +kernel
theorem dX0_markAt_19 : decode cX0_markAt 19 = .ok (.iaload, 1) := by decide +kernel
theorem dX0_markAt_20 : decode cX0_markAt 20 = .ok (.goto 6, 3) := by decide +kernel
theorem dX0_markAt_23 : decode cX0_markAt 23 = .ok (.sipush 256, 3) := by decide +kernel
theorem dX0_markAt_26 : decode cX0_markAt 26 = .ok (.ireturn, 1) := by decide +kernel
set_option maxRecDepth 20000 in
theorem ggX0_set_X0_isPlace : GoodIn wsX0_set wsX0_isPlace := goodIn_r _ [7, 8, 1, 2, 9, 10, 11, 12, 13, 14, 15, 16] (by decide +kernel) (by decide +kernel)
set_option maxRecDepth 20000 in
theorem gX0_set_X0_isPlace : GoodIn wsX0_set (wsV RX0 118 RX0 yX0_isPlace wsX0_isPlace) := goodIn_app (goodIn_of _ (by decide +kernel)) ggX0_set_X0_isPlace
theorem dX0_set_0 : decode cX0_set 0 = .ok (.aload_n 0, 1) := by decide +kernel
theorem dX0_set_1 : decode cX0_set 1 = .ok (.iload_n 1, 1) := by decide +kernel
theorem dX0_set_2 : decode cX0_set 2 = .ok (.invokevirtual 118, 3) := by decide +kernel
theorem dX0_set_5 : decode cX0_set 5 = .ok (.ifCond .eq 17, 3) := by decide +kernel
theorem dX0_set_8 : decode cX0_set 8 = .ok (.aload_n 0, 1) := by decide +kernel
theorem dX0_set_9 : decode cX0_set 9 = .ok (.getfield 9, 3) := by decide +kernel
theorem dX0_set_12 : decode cX0_set 12 = .ok (.iload_n 1, 1) := by decide +kernel
theorem dX0_set_13 : decode cX0_set 13 = .ok (.iload_n 2, 1) := by decide +kernel
theorem dX0_set_14 : decode cX0_set 14 = .ok (.iastore, 1) := by decide +kernel
theorem dX0_set_15 : decode cX0_set 15 = .ok (.aload_n 0, 1) := by decide +kernel
theorem dX0_set_16 : decode cX0_set 16 = .ok (.getfield 13, 3) := by decide +kernel
theorem dX0_set_19 : decode cX0_set 19 = .ok (.iload_n 1, 1) := by decide +kernel
theorem dX0_set_20 : decode cX0_set 20 = .ok (.iload_n 3, 1) := by decide +kernel
theorem dX0_set_21 : decode cX0_set 21 = .ok (.iastore, 1) := by decide +kernel
theorem dX0_set_22 : decode cX0_set 22 = .ok (.return_, 1) := by decide +kernel
set_option maxRecDepth 20000 in
theorem ggX0_insertAt_X0_folderAt : GoodIn wsX0_insertAt wsX0_folderAt := goodIn_r _ [6, 7, 8, 9, 10, 5, 11, 1, 12, 21, 22, 23, 24, 25, 26, 27, 28] (by decide +kernel) (by decide +kernel)
set_option maxRecDepth 20000 in
theorem gX0_insertAt_X0_folderAt : GoodIn wsX0_insertAt (wsV RX0 43 RX0 yX0_folderAt wsX0_folderAt) := goodIn_app (goodIn_of _ (by decide +kernel)) ggX0_insertAt_X0_folderAt
set_option maxRecDepth 20000 in
theorem ggX0_insertAt_X0_markAt : GoodIn wsX0_insertAt wsX0_markAt := goodIn_r _ [16, 12, 8, 9, 10, 5, 11, 1, 7, 21, 22, 23, 24, 25, 26, 27, 28] (by decide +kernel) (by decide +kernel)
set_option maxRecDepth 20000 in
theorem gX0_insertAt_X0_markAt : GoodIn wsX0_insertAt (wsV RX0 67 RX0 yX0_markAt wsX0_markAt) := goodIn_app (goodIn_of _ (by decide +kernel)) ggX0_insertAt_X0_markAt
set_option maxRecDepth 20000 in
theorem ggX0_insertAt_X0_set : GoodIn wsX0_insertAt wsX0_set := goodIn_r _ [20, 7, 12, 8, 9, 10, 5, 11, 1, 21, 22, 23, 24, 25, 26, 27, 28] (by decide +kernel) (by decide +kernel)
set_option maxRecDepth 20000 in
theorem gX0_insertAt_X0_set : GoodIn wsX0_insertAt (wsV RX0 122 RX0 yX0_set wsX0_set) := goodIn_app (goodIn_of _ (by decide +kernel)) ggX0_insertAt_X0_set
theorem dX0_insertAt_0 : decode cX0_insertAt 0 = .ok (.iload_n 1, 1) := by decide +kernel
theorem dX0_insertAt_1 : decode cX0_insertAt 1 = .ok (.ifCond .lt 20, 3) := by decide +kernel
theorem dX0_insertAt_4 : decode cX0_insertAt 4 = .ok (.iload_n 1, 1) := by decide +kernel
theorem dX0_insertAt_5 : decode cX0_insertAt 5 = .ok (.aload_n 0, 1) := by decide +kernel
theorem dX0_insertAt_6 : decode cX0_insertAt 6 = .ok (.getfield 53, 3) := by decide +kernel
theorem dX0_insertAt_9 : decode cX0_insertAt 9 = .ok (.if_icmp .gt 12, 3) := by decide +kernel
theorem dX0_insertAt_12 : decode cX0_insertAt 12 = .ok (.aload_n 0, 1) := by decide +kernel
theorem dX0_insertAt_13 : decode cX0_insertAt 13 = .ok (.getfield 53, 3) := by decide +kernel
theorem dX0_insertAt_16 : decode cX0_insertAt 16 = .ok (.bipush 60, 2) := by decide +kernel
theorem dX0_insertAt_18 : decode cX0_insertAt 18 = .ok (.if_icmp .lt 4, 3) := by decide +kernel
theorem dX0_insertAt_21 : decode cX0_insertAt 21 = .ok (.return_, 1) := by decide +kernel
theorem dX0_insertAt_22 : decode cX0_insertAt 22 = .ok (.aload_n 0, 1) := by decide +kernel
theorem dX0_insertAt_23 : decode cX0_insertAt 23 = .ok (.dup, 1) := by decide +kernel
theorem dX0_insertAt_24 : decode cX0_insertAt 24 = .ok (.getfield 53, 3) := by decide +kernel
theorem dX0_insertAt_27 : decode cX0_insertAt 27 = .ok (.iconst 1, 1) := by decide +kernel
theorem dX0_insertAt_28 : decode cX0_insertAt 28 = .ok (.iadd, 1) := by decide +kernel
theorem dX0_insertAt_29 : decode cX0_insertAt 29 = .ok (.putfield 53, 3) := by decide +kernel
theorem dX0_insertAt_32 : decode cX0_insertAt 32 = .ok (.aload_n 0, 1) := by decide +kernel
theorem dX0_insertAt_33 : decode cX0_insertAt 33 = .ok (.getfield 53, 3) := by decide +kernel
theorem dX0_insertAt_36 : decode cX0_insertAt 36 = .ok (.iconst 1, 1) := by decide +kernel
theorem dX0_insertAt_37 : decode cX0_insertAt 37 = .ok (.isub, 1) := by decide +kernel
theorem dX0_insertAt_38 : decode cX0_insertAt 38 = .ok (.istore 4, 2) := by decide +kernel
theorem dX0_insertAt_40 : decode cX0_insertAt 40 = .ok (.iload 4, 2) := by decide +kernel
theorem dX0_insertAt_42 : decode cX0_insertAt 42 = .ok (.iload_n 1, 1) := by decide +kernel
theorem dX0_insertAt_43 : decode cX0_insertAt 43 = .ok (.if_icmp .le 31, 3) := by decide +kernel
theorem dX0_insertAt_46 : decode cX0_insertAt 46 = .ok (.aload_n 0, 1) := by decide +kernel
theorem dX0_insertAt_47 : decode cX0_insertAt 47 = .ok (.iload 4, 2) := by decide +kernel
theorem dX0_insertAt_49 : decode cX0_insertAt 49 = .ok (.aload_n 0, 1) := by decide +kernel
theorem dX0_insertAt_50 : decode cX0_insertAt 50 = .ok (.iload 4, 2) := by decide +kernel
theorem dX0_insertAt_52 : decode cX0_insertAt 52 = .ok (.iconst 1, 1) := by decide +kernel
theorem dX0_insertAt_53 : decode cX0_insertAt 53 = .ok (.isub, 1) := by decide +kernel
theorem dX0_insertAt_54 : decode cX0_insertAt 54 = .ok (.invokevirtual 43, 3) := by decide +kernel
theorem dX0_insertAt_57 : decode cX0_insertAt 57 = .ok (.aload_n 0, 1) := by decide +kernel
theorem dX0_insertAt_58 : decode cX0_insertAt 58 = .ok (.iload 4, 2) := by decide +kernel
theorem dX0_insertAt_60 : decode cX0_insertAt 60 = .ok (.iconst 1, 1) := by decide +kernel
theorem dX0_insertAt_61 : decode cX0_insertAt 61 = .ok (.isub, 1) := by decide +kernel
theorem dX0_insertAt_62 : decode cX0_insertAt 62 = .ok (.invokevirtual 67, 3) := by decide +kernel
theorem dX0_insertAt_65 : decode cX0_insertAt 65 = .ok (.invokevirtual 122, 3) := by decide +kernel
theorem dX0_insertAt_68 : decode cX0_insertAt 68 = .ok (.iinc 4 (-1), 3) := by decide +kernel
theorem dX0_insertAt_71 : decode cX0_insertAt 71 = .ok (.goto (-31), 3) := by decide +kernel
theorem dX0_insertAt_74 : decode cX0_insertAt 74 = .ok (.aload_n 0, 1) := by decide +kernel
theorem dX0_insertAt_75 : decode cX0_insertAt 75 = .ok (.iload_n 1, 1) := by decide +kernel
theorem dX0_insertAt_76 : decode cX0_insertAt 76 = .ok (.iload_n 2, 1) := by decide +kernel
theorem dX0_insertAt_77 : decode cX0_insertAt 77 = .ok (.iload_n 3, 1) := by decide +kernel
theorem dX0_insertAt_78 : decode cX0_insertAt 78 = .ok (.invokevirtual 122, 3) := by decide +kernel
theorem dX0_insertAt_81 : decode cX0_insertAt 81 = .ok (.return_, 1) := by decide +kernel
set_option maxRecDepth 20000 in
theorem ggX0_removeAt_X0_isPlace : GoodIn wsX0_removeAt wsX0_isPlace := goodIn_r _ [6, 1, 7, 8, 21, 22, 23, 24, 25, 26, 27, 28] (by decide +kernel) (by decide +kernel)
set_option maxRecDepth 20000 in
theorem gX0_removeAt_X0_isPlace : GoodIn wsX0_removeAt (wsV RX0 118 RX0 yX0_isPlace wsX0_isPlace) := goodIn_app (goodIn_of _ (by decide +kernel)) ggX0_removeAt_X0_isPlace
set_option maxRecDepth 20000 in
theorem ggX0_removeAt_X0_folderAt : GoodIn wsX0_removeAt wsX0_folderAt := goodIn_r _ [12, 7, 2, 3, 4, 5, 6, 1, 8, 21, 22, 23, 24, 25, 26, 27, 28] (by decide +kernel) (by decide +kernel)
set_option maxRecDepth 20000 in
theorem gX0_removeAt_X0_folderAt : GoodIn wsX0_removeAt (wsV RX0 43 RX0 yX0_folderAt wsX0_folderAt) := goodIn_app (goodIn_of _ (by decide +kernel)) ggX0_removeAt_X0_folderAt
set_option maxRecDepth 20000 in
theorem ggX0_removeAt_X0_markAt : GoodIn wsX0_removeAt wsX0_markAt := goodIn_r _ [16, 8, 2, 3, 4, 5, 6, 1, 7, 21, 22, 23, 24, 25, 26, 27, 28] (by decide +kernel) (by decide +kernel)
set_option maxRecDepth 20000 in
theorem gX0_removeAt_X0_markAt : GoodIn wsX0_removeAt (wsV RX0 67 RX0 yX0_markAt wsX0_markAt) := goodIn_app (goodIn_of _ (by decide +kernel)) ggX0_removeAt_X0_markAt
set_option maxRecDepth 20000 in
theorem ggX0_removeAt_X0_set : GoodIn wsX0_removeAt wsX0_set := goodIn_r _ [20, 7, 8, 2, 3, 4, 5, 6, 1, 21, 22, 23, 24, 25, 26, 27, 28] (by decide +kernel) (by decide +kernel)
set_option maxRecDepth 20000 in
theorem gX0_removeAt_X0_set : GoodIn wsX0_removeAt (wsV RX0 122 RX0 yX0_set wsX0_set) := goodIn_app (goodIn_of _ (by decide +kernel)) ggX0_removeAt_X0_set
theorem dX0_removeAt_0 : decode cX0_removeAt 0 = .ok (.aload_n 0, 1) := by decide +kernel
theorem dX0_removeAt_1 : decode cX0_removeAt 1 = .ok (.iload_n 1, 1) := by decide +kernel
theorem dX0_removeAt_2 : decode cX0_removeAt 2 = .ok (.invokevirtual 118, 3) := by decide +kernel
theorem dX0_removeAt_5 : decode cX0_removeAt 5 = .ok (.ifCond .ne 4, 3) := by decide +kernel
theorem dX0_removeAt_8 : decode cX0_removeAt 8 = .ok (.return_, 1) := by decide +kernel
theorem dX0_removeAt_9 : decode cX0_removeAt 9 = .ok (.iload_n 1, 1) := by decide +kernel
theorem dX0_removeAt_10 : decode cX0_removeAt 10 = .ok (.istore_n 2, 1) := by decide +kernel
theorem dX0_removeAt_11 : decode cX0_removeAt 11 = .ok (.iload_n 2, 1) := by decide +kernel
theorem dX0_removeAt_12 : decode cX0_removeAt 12 = .ok (.aload_n 0, 1) := by decide +kernel
theorem dX0_removeAt_13 : decode cX0_removeAt 13 = .ok (.getfield 53, 3) := by decide +kernel
theorem dX0_removeAt_16 : decode cX0_removeAt 16 = .ok (.iconst 1, 1) := by decide +kernel
theorem dX0_removeAt_17 : decode cX0_removeAt 17 = .ok (.isub, 1) := by decide +kernel
theorem dX0_removeAt_18 : decode cX0_removeAt 18 = .ok (.if_icmp .ge 28, 3) := by decide +kernel
theorem dX0_removeAt_21 : decode cX0_removeAt 21 = .ok (.aload_n 0, 1) := by decide +kernel
theorem dX0_removeAt_22 : decode cX0_removeAt 22 = .ok (.iload_n 2, 1) := by decide +kernel
theorem dX0_removeAt_23 : decode cX0_removeAt 23 = .ok (.aload_n 0, 1) := by decide +kernel
theorem dX0_removeAt_24 : decode cX0_removeAt 24 = .ok (.iload_n 2, 1) := by decide +kernel
theorem dX0_removeAt_25 : decode cX0_removeAt 25 = .ok (.iconst 1, 1) := by decide +kernel
theorem dX0_removeAt_26 : decode cX0_removeAt 26 = .ok (.iadd, 1) := by decide +kernel
theorem dX0_removeAt_27 : decode cX0_removeAt 27 = .ok (.invokevirtual 43, 3) := by decide +kernel
theorem dX0_removeAt_30 : decode cX0_removeAt 30 = .ok (.aload_n 0, 1) := by decide +kernel
theorem dX0_removeAt_31 : decode cX0_removeAt 31 = .ok (.iload_n 2, 1) := by decide +kernel
theorem dX0_removeAt_32 : decode cX0_removeAt 32 = .ok (.iconst 1, 1) := by decide +kernel
theorem dX0_removeAt_33 : decode cX0_removeAt 33 = .ok (.iadd, 1) := by decide +kernel
theorem dX0_removeAt_34 : decode cX0_removeAt 34 = .ok (.invokevirtual 67, 3) := by decide +kernel
theorem dX0_removeAt_37 : decode cX0_removeAt 37 = .ok (.invokevirtual 122, 3) := by decide +kernel
theorem dX0_removeAt_40 : decode cX0_removeAt 40 = .ok (.iinc 2 1, 3) := by decide +kernel
theorem dX0_removeAt_43 : decode cX0_removeAt 43 = .ok (.goto (-32), 3) := by decide +kernel
theorem dX0_removeAt_46 : decode cX0_removeAt 46 = .ok (.aload_n 0, 1) := by decide +kernel
theorem dX0_removeAt_47 : decode cX0_removeAt 47 = .ok (.dup, 1) := by decide +kernel
theorem dX0_removeAt_48 : decode cX0_removeAt 48 = .ok (.getfield 53, 3) := by decide +kernel
theorem dX0_removeAt_51 : decode cX0_removeAt 51 = .ok (.iconst 1, 1) := by decide +kernel
theorem dX0_removeAt_52 : decode cX0_removeAt 52 = .ok (.isub, 1) := by decide +kernel
theorem dX0_removeAt_53 : decode cX0_removeAt 53 = .ok (.putfield 53, 3) := by decide +kernel
theorem dX0_removeAt_56 : decode cX0_removeAt 56 = .ok (.return_, 1) := by decide +kernel
theorem dX0_marksBelow_0 : decode cX0_marksBelow 0 = .ok (.iconst 0, 1) := by decide +kernel
theorem dX0_marksBelow_1 : decode cX0_marksBelow 1 = .ok (.istore_n 2, 1) := by decide +kernel
theorem dX0_marksBelow_2 : decode cX0_marksBelow 2 = .ok (.iload_n 2, 1) := by decide +kernel
theorem dX0_marksBelow_3 : decode cX0_marksBelow 3 = .ok (.aload_n 0, 1) := by decide +kernel
theorem dX0_marksBelow_4 : decode cX0_marksBelow 4 = .ok (.getfield 53, 3) := by decide +kernel
theorem dX0_marksBelow_7 : decode cX0_marksBelow 7 = .ok (.if_icmp .ge 28, 3) := by decide +kernel
theorem dX0_marksBelow_10 : decode cX0_marksBelow 10 = .ok (.iload_n 2, 1) := by decide +kernel
theorem dX0_marksBelow_11 : decode cX0_marksBelow 11 = .ok (.aload_n 0, 1) := by decide +kernel
theorem dX0_marksBelow_12 : decode cX0_marksBelow 12 = .ok (.getfield 13, 3) := by decide +kernel
theorem dX0_marksBelow_15 : decode cX0_marksBelow 15 = .ok (.arraylength, 1) := by decide +kernel
theorem dX0_marksBelow_16 : decode cX0_marksBelow 16 = .ok (.if_icmp .ge 19, 3) := by decide +kernel
theorem dX0_marksBelow_19 : decode cX0_marksBelow 19 = .ok (.aload_n 0, 1) := by decide +kernel
theorem dX0_marksBelow_20 : decode cX0_marksBelow 20 = .ok (.getfield 13, 3) := by decide +kernel
theorem dX0_marksBelow_23 : decode cX0_marksBelow 23 = .ok (.iload_n 2, 1) := by decide +kernel
theorem dX0_marksBelow_24 : decode cX0_marksBelow 24 = .ok (.iaload, 1) := by decide +kernel
theorem dX0_marksBelow_25 : decode cX0_marksBelow 25 = .ok (.iload_n 1, 1) := by decide +kernel
theorem dX0_marksBelow_26 : decode cX0_marksBelow 26 = .ok (.if_icmp .ge 9, 3) := by decide +kernel
theorem dX0_marksBelow_29 : decode cX0_marksBelow 29 = .ok (.iinc 2 1, 3) := by decide +kernel
theorem dX0_marksBelow_32 : decode cX0_marksBelow 32 = .ok (.goto (-30), 3) := by decide +kernel
theorem dX0_marksBelow_35 : decode cX0_marksBelow 35 = .ok (.iload_n 2, 1) := by decide +kernel
theorem dX0_marksBelow_36 : decode cX0_marksBelow 36 = .ok (.ireturn, 1) := by decide +kernel
theorem dX0_nextNumber_0 : decode cX0_nextNumber 0 = .ok (.aload_n 0, 1) := by decide +kernel
theorem dX0_nextNumber_1 : decode cX0_nextNumber 1 = .ok (.getfield 106, 3) := by decide +kernel
theorem dX0_nextNumber_4 : decode cX0_nextNumber 4 = .ok (.istore_n 1, 1) := by decide +kernel
theorem dX0_nextNumber_5 : decode cX0_nextNumber 5 = .ok (.aload_n 0, 1) := by decide +kernel
theorem dX0_nextNumber_6 : decode cX0_nextNumber 6 = .ok (.dup, 1) := by decide +kernel
theorem dX0_nextNumber_7 : decode cX0_nextNumber 7 = .ok (.getfield 106, 3) := by decide +kernel
theorem dX0_nextNumber_10 : decode cX0_nextNumber 10 = .ok (.iconst 1, 1) := by decide +kernel
theorem dX0_nextNumber_11 : decode cX0_nextNumber 11 = .ok (.iadd, 1) := by decide +kernel
theorem dX0_nextNumber_12 : decode cX0_nextNumber 12 = .ok (.putfield 106, 3) := by decide +kernel
theorem dX0_nextNumber_15 : decode cX0_nextNumber 15 = .ok (.iload_n 1, 1) := by decide +kernel
theorem dX0_nextNumber_16 : decode cX0_nextNumber 16 = .ok (.ireturn, 1) := by decide +kernel
set_option maxRecDepth 20000 in
theorem ggX0_putIn_X0_movesByPuttingIn : GoodIn wsX0_putIn wsX0_movesByPuttingIn := goodIn_r _ [6, 7, 8, 9, 5, 10, 11, 12, 13, 14, 15, 16, 17, 18, 19, 20, 21, 22, 23, 24, 25, 26, 27, 28, 29, 30, 31, 32, 33, 34, 35, 36, 37, 38, 39, 40, 41, 42, 43, 44, 45, 46, 47, 48, 49, 50, 51, 52, 53, 54, 55, 77, 78, 79, 80, 81, 82, 83, 84] (by decide +kernel) (by decide +kernel)
set_option maxRecDepth 20000 in
theorem gX0_putIn_X0_movesByPuttingIn : GoodIn wsX0_putIn (wsV RX0 92 RX0 yX0_movesByPuttingIn wsX0_movesByPuttingIn) := goodIn_app (goodIn_of _ (by decide +kernel)) ggX0_putIn_X0_movesByPuttingIn
set_option maxRecDepth 20000 in
theorem ggX0_putIn_X0_hasFreeMark : GoodIn wsX0_putIn wsX0_hasFreeMark := goodIn_r _ [10, 11, 12, 13, 5, 14, 15, 16, 17, 18, 19, 20, 21, 77, 78, 79, 80, 81, 82, 83, 84] (by decide +kernel) (by decide +kernel)
set_option maxRecDepth 20000 in
theorem gX0_putIn_X0_hasFreeMark : GoodIn wsX0_putIn (wsV RX0 126 RX0 yX0_hasFreeMark wsX0_hasFreeMark) := goodIn_app (goodIn_of _ (by decide +kernel)) ggX0_putIn_X0_hasFreeMark
set_option maxRecDepth 20000 in
theorem ggX0_putIn_X0_markAt : GoodIn wsX0_putIn wsX0_markAt := goodIn_r _ [14, 15, 16, 17, 18, 5, 19, 20, 21, 77, 78, 79, 80, 81, 82, 83, 84] (by decide +kernel) (by decide +kernel)
set_option maxRecDepth 20000 in
theorem gX0_putIn_X0_markAt : GoodIn wsX0_putIn (wsV RX0 67 RX0 yX0_markAt wsX0_markAt) := goodIn_app (goodIn_of _ (by decide +kernel)) ggX0_putIn_X0_markAt
set_option maxRecDepth 20000 in
theorem ggX0_putIn_X0_insertAt : GoodIn wsX0_putIn wsX0_insertAt := goodIn_r _ [59, 20, 60, 61, 62, 5, 63, 21, 16, 17, 18, 19, 15, 11, 12, 13, 14, 64, 65, 66, 67, 77, 78, 79, 80, 81, 82, 83, 84] (by decide +kernel) (by decide +kernel)
set_option maxRecDepth 20000 in
theorem gX0_putIn_X0_insertAt : GoodIn wsX0_putIn (wsV RX0 129 RX0 yX0_insertAt wsX0_insertAt) := goodIn_app (goodIn_of _ (by decide +kernel)) ggX0_putIn_X0_insertAt
set_option maxRecDepth 20000 in
theorem ggX0_putIn_X0_spreadOut : GoodIn wsX0_putIn wsX0_spreadOut := goodIn_r _ [71, 22, 23, 24, 5, 25, 26, 27, 28, 29, 30, 31, 32, 33, 34, 11, 12, 13, 14, 15, 16, 17, 18, 19, 20, 21, 35, 36, 37, 38, 39, 40, 41, 42, 43, 44, 45, 46, 47, 48, 49, 56, 57, 58, 59, 60, 61, 62, 63, 64, 65, 66, 67, 50, 51, 52, 53, 54, 55, 72, 73, 74, 75, 76, 77, 78, 79, 80, 81, 82, 83, 84] (by decide +kernel) (by decide +kernel)
set_option maxRecDepth 20000 in
theorem gX0_putIn_X0_spreadOut : GoodIn wsX0_putIn (wsV RX0 132 RX0 yX0_spreadOut wsX0_spreadOut) := goodIn_app (goodIn_of _ (by decide +kernel)) ggX0_putIn_X0_spreadOut
theorem dX0_putIn_0 : decode cX0_putIn 0 = .ok (.aload_n 0, 1) := by decide +kernel
theorem dX0_putIn_1 : decode cX0_putIn 1 = .ok (.dup, 1) := by decide +kernel
theorem dX0_putIn_2 : decode cX0_putIn 2 = .ok (.getfield 95, 3) := by decide +kernel
theorem dX0_putIn_5 : decode cX0_putIn 5 = .ok (.aload_n 0, 1) := by decide +kernel
theorem dX0_putIn_6 : decode cX0_putIn 6 = .ok (.iload_n 2, 1) := by decide +kernel
theorem dX0_putIn_7 : decode cX0_putIn 7 = .ok (.invokevirtual 92, 3) := by decide +kernel
theorem dX0_putIn_10 : decode cX0_putIn 10 = .ok (.iadd, 1) := by decide +kernel
theorem dX0_putIn_11 : decode cX0_putIn 11 = .ok (.putfield 95, 3) := by decide +kernel
theorem dX0_putIn_14 : decode cX0_putIn 14 = .ok (.aload_n 0, 1) := by decide +kernel
theorem dX0_putIn_15 : decode cX0_putIn 15 = .ok (.iload_n 2, 1) := by decide +kernel
theorem dX0_putIn_16 : decode cX0_putIn 16 = .ok (.invokevirtual 126, 3) := by decide +kernel
theorem dX0_putIn_19 : decode cX0_putIn 19 = .ok (.ifCond .eq 27, 3) := by decide +kernel
theorem dX0_putIn_22 : decode cX0_putIn 22 = .ok (.aload_n 0, 1) := by decide +kernel
theorem dX0_putIn_23 : decode cX0_putIn 23 = .ok (.iload_n 2, 1) := by decide +kernel
theorem dX0_putIn_24 : decode cX0_putIn 24 = .ok (.iload_n 1, 1) := by decide +kernel
theorem dX0_putIn_25 : decode cX0_putIn 25 = .ok (.aload_n 0, 1) := by decide +kernel
theorem dX0_putIn_26 : decode cX0_putIn 26 = .ok (.iload_n 2, 1) := by decide +kernel
theorem dX0_putIn_27 : decode cX0_putIn 27 = .ok (.iconst 1, 1) := by decide +kernel
theorem dX0_putIn_28 : decode cX0_putIn 28 = .ok (.isub, 1) := by decide +kernel
theorem dX0_putIn_29 : decode cX0_putIn 29 = .ok (.invokevirtual 67, 3) := by decide +kernel
theorem dX0_putIn_32 : decode cX0_putIn 32 = .ok (.aload_n 0, 1) := by decide +kernel
theorem dX0_putIn_33 : decode cX0_putIn 33 = .ok (.iload_n 2, 1) := by decide +kernel
theorem dX0_putIn_34 : decode cX0_putIn 34 = .ok (.invokevirtual 67, 3) := by decide +kernel
theorem dX0_putIn_37 : decode cX0_putIn 37 = .ok (.iadd, 1) := by decide +kernel
theorem dX0_putIn_38 : decode cX0_putIn 38 = .ok (.iconst 2, 1) := by decide +kernel
theorem dX0_putIn_39 : decode cX0_putIn 39 = .ok (.idiv, 1) := by decide +kernel
theorem dX0_putIn_40 : decode cX0_putIn 40 = .ok (.invokevirtual 129, 3) := by decide +kernel
theorem dX0_putIn_43 : decode cX0_putIn 43 = .ok (.goto 9, 3) := by decide +kernel
theorem dX0_putIn_46 : decode cX0_putIn 46 = .ok (.aload_n 0, 1) := by decide +kernel
theorem dX0_putIn_47 : decode cX0_putIn 47 = .ok (.iload_n 1, 1) := by decide +kernel
theorem dX0_putIn_48 : decode cX0_putIn 48 = .ok (.iload_n 2, 1) := by decide +kernel
theorem dX0_putIn_49 : decode cX0_putIn 49 = .ok (.invokevirtual 132, 3) := by decide +kernel
theorem dX0_putIn_52 : decode cX0_putIn 52 = .ok (.return_, 1) := by decide +kernel
set_option maxRecDepth 20000 in
theorem ggX0_hasFreeMark_X0_markAt : GoodIn wsX0_hasFreeMark wsX0_markAt := goodIn_r _ [5, 6, 7, 8, 9, 4, 10, 11, 12, 13, 14, 15, 16, 17, 18, 19, 20] (by decide +kernel) (by decide +kernel)
set_option maxRecDepth 20000 in
theorem gX0_hasFreeMark_X0_markAt : GoodIn wsX0_hasFreeMark (wsV RX0 67 RX0 yX0_markAt wsX0_markAt) := goodIn_app (goodIn_of _ (by decide +kernel)) ggX0_hasFreeMark_X0_markAt
theorem dX0_hasFreeMark_0 : decode cX0_hasFreeMark 0 = .ok (.aload_n 0, 1) := by decide +kernel
theorem dX0_hasFreeMark_1 : decode cX0_hasFreeMark 1 = .ok (.iload_n 1, 1) := by decide +kernel
theorem dX0_hasFreeMark_2 : decode cX0_hasFreeMark 2 = .ok (.invokevirtual 67, 3) := by decide +kernel
theorem dX0_hasFreeMark_5 : decode cX0_hasFreeMark 5 = .ok (.aload_n 0, 1) := by decide +kernel
theorem dX0_hasFreeMark_6 : decode cX0_hasFreeMark 6 = .ok (.iload_n 1, 1) := by decide +kernel
theorem dX0_hasFreeMark_7 : decode cX0_hasFreeMark 7 = .ok (.iconst 1, 1) := by decide +kernel
theorem dX0_hasFreeMark_8 : decode cX0_hasFreeMark 8 = .ok (.isub, 1) := by decide +kernel
theorem dX0_hasFreeMark_9 : decode cX0_hasFreeMark 9 = .ok (.invokevirtual 67, 3) := by decide +kernel
theorem dX0_hasFreeMark_12 : decode cX0_hasFreeMark 12 = .ok (.isub, 1) := by decide +kernel
theorem dX0_hasFreeMark_13 : decode cX0_hasFreeMark 13 = .ok (.iconst 2, 1) := by decide +kernel
theorem dX0_hasFreeMark_14 : decode cX0_hasFreeMark 14 = .ok (.if_icmp .lt 7, 3) := by decide +kernel
theorem dX0_hasFreeMark_17 : decode cX0_hasFreeMark 17 = .ok (.iconst 1, 1) := by decide +kernel
theorem dX0_hasFreeMark_18 : decode cX0_hasFreeMark 18 = .ok (.goto 4, 3) := by decide +kernel
theorem dX0_hasFreeMark_21 : decode cX0_hasFreeMark 21 = .ok (.iconst 0, 1) := by decide +kernel
theorem dX0_hasFreeMark_22 : decode cX0_hasFreeMark 22 = .ok (.ireturn, 1) := by decide +kernel
set_option maxRecDepth 20000 in
theorem ggX0_spreadOut_X0_levelToSpread : GoodIn wsX0_spreadOut wsX0_levelToSpread := goodIn_r _ [5, 6, 7, 8, 9, 4, 10, 11, 12, 13, 14, 15, 16, 17, 18, 19, 20, 21, 22, 23, 24, 25, 26, 27, 28, 29, 30, 31, 32, 33, 34, 35, 36, 37, 38, 39, 40, 64, 65, 66, 67, 68, 69, 70, 71] (by decide +kernel) (by decide +kernel)
set_option maxRecDepth 20000 in
theorem gX0_spreadOut_X0_levelToSpread : GoodIn wsX0_spreadOut (wsV RX0 135 RX0 yX0_levelToSpread wsX0_levelToSpread) := goodIn_app (goodIn_of _ (by decide +kernel)) ggX0_spreadOut_X0_levelToSpread
set_option maxRecDepth 20000 in
theorem ggX0_spreadOut_X0_shelfToSpread : GoodIn wsX0_spreadOut wsX0_shelfToSpread := goodIn_r _ [10, 11, 12, 13, 14, 15, 16, 17, 4, 18, 19, 20, 21, 22, 23, 24, 25, 64, 65, 66, 67, 68, 69, 70, 71] (by decide +kernel) (by decide +kernel)
set_option maxRecDepth 20000 in
theorem gX0_spreadOut_X0_shelfToSpread : GoodIn wsX0_spreadOut (wsV RX0 138 RX0 yX0_shelfToSpread wsX0_shelfToSpread) := goodIn_app (goodIn_of _ (by decide +kernel)) ggX0_spreadOut_X0_shelfToSpread
set_option maxRecDepth 20000 in
theorem ggX0_spreadOut_X0_firstMark : GoodIn wsX0_spreadOut wsX0_firstMark := goodIn_r _ [36] (by decide +kernel) (by decide +kernel)
set_option maxRecDepth 20000 in
theorem gX0_spreadOut_X0_firstMark : GoodIn wsX0_spreadOut (va_wsS RX0 141 yX0_firstMark wsX0_firstMark) := goodIn_app (goodIn_of _ (by decide +kernel)) ggX0_spreadOut_X0_firstMark
set_option maxRecDepth 20000 in
theorem ggX0_spreadOut_X0_marksBelow : GoodIn wsX0_spreadOut wsX0_marksBelow := goodIn_r _ [40, 24, 19, 64, 65, 66, 67, 68, 69, 70, 71] (by decide +kernel) (by decide +kernel)
set_option maxRecDepth 20000 in
theorem gX0_spreadOut_X0_marksBelow : GoodIn wsX0_spreadOut (wsV RX0 70 RX0 yX0_marksBelow wsX0_marksBelow) := goodIn_app (goodIn_of _ (by decide +kernel)) ggX0_spreadOut_X0_marksBelow
set_option maxRecDepth 20000 in
theorem ggX0_spreadOut_X0_foldersOn : GoodIn wsX0_spreadOut wsX0_foldersOn := goodIn_r _ [33, 34, 35, 4, 36, 37, 38, 39, 40, 24, 19, 64, 65, 66, 67, 68, 69, 70, 71] (by decide +kernel) (by decide +kernel)
set_option maxRecDepth 20000 in
theorem gX0_spreadOut_X0_foldersOn : GoodIn wsX0_spreadOut (wsV RX0 84 RX0 yX0_foldersOn wsX0_foldersOn) := goodIn_app (goodIn_of _ (by decide +kernel)) ggX0_spreadOut_X0_foldersOn
set_option maxRecDepth 20000 in
theorem ggX0_spreadOut_X0_insertAt : GoodIn wsX0_spreadOut wsX0_insertAt := goodIn_r _ [44, 24, 45, 46, 47, 4, 48, 25, 20, 21, 22, 23, 19, 15, 16, 17, 18, 49, 50, 51, 52, 64, 65, 66, 67, 68, 69, 70, 71] (by decide +kernel) (by decide +kernel)
set_option maxRecDepth 20000 in
theorem gX0_spreadOut_X0_insertAt : GoodIn wsX0_spreadOut (wsV RX0 129 RX0 yX0_insertAt wsX0_insertAt) := goodIn_app (goodIn_of _ (by decide +kernel)) ggX0_spreadOut_X0_insertAt
set_option maxRecDepth 20000 in
theorem ggX0_spreadOut_X0_folderAt : GoodIn wsX0_spreadOut wsX0_folderAt := goodIn_r _ [48, 25, 20, 21, 22, 4, 23, 24, 19, 64, 65, 66, 67, 68, 69, 70, 71] (by decide +kernel) (by decide +kernel)
set_option maxRecDepth 20000 in
theorem gX0_spreadOut_X0_folderAt : GoodIn wsX0_spreadOut (wsV RX0 43 RX0 yX0_folderAt wsX0_folderAt) := goodIn_app (goodIn_of _ (by decide +kernel)) ggX0_spreadOut_X0_folderAt
set_option maxRecDepth 20000 in
theorem ggX0_spreadOut_X0_spreadMark : GoodIn wsX0_spreadOut wsX0_spreadMark := goodIn_r _ [55, 56, 57, 4, 58, 34, 35, 36] (by decide +kernel) (by decide +kernel)
set_option maxRecDepth 20000 in
theorem gX0_spreadOut_X0_spreadMark : GoodIn wsX0_spreadOut (va_wsS RX0 144 yX0_spreadMark wsX0_spreadMark) := goodIn_app (goodIn_of _ (by decide +kernel)) ggX0_spreadOut_X0_spreadMark
set_option maxRecDepth 20000 in
theorem ggX0_spreadOut_X0_set : GoodIn wsX0_spreadOut wsX0_set := goodIn_r _ [52, 25, 19, 20, 21, 22, 4, 23, 24, 64, 65, 66, 67, 68, 69, 70, 71] (by decide +kernel) (by decide +kernel)
set_option maxRecDepth 20000 in
theorem gX0_spreadOut_X0_set : GoodIn wsX0_spreadOut (wsV RX0 122 RX0 yX0_set wsX0_set) := goodIn_app (goodIn_of _ (by decide +kernel)) ggX0_spreadOut_X0_set
set_option maxRecDepth 20000 in
theorem ggX0_spreadOut_X0_countSpread : GoodIn wsX0_spreadOut wsX0_countSpread := goodIn_r _ [62, 63, 64, 65, 66, 67, 68, 69, 70, 71] (by decide +kernel) (by decide +kernel)
set_option maxRecDepth 20000 in
theorem gX0_spreadOut_X0_countSpread : GoodIn wsX0_spreadOut (wsV RX0 148 RX0 yX0_countSpread wsX0_countSpread) := goodIn_app (goodIn_of _ (by decide +kernel)) ggX0_spreadOut_X0_countSpread
theorem dX0_spreadOut_0 : decode cX0_spreadOut 0 = .ok (.aload_n 0, 1) := by decide +kernel
theorem dX0_spreadOut_1 : decode cX0_spreadOut 1 = .ok (.iload_n 2, 1) := by decide +kernel
theorem dX0_spreadOut_2 : decode cX0_spreadOut 2 = .ok (.invokevirtual 135, 3) := by decide +kernel
theorem dX0_spreadOut_5 : decode cX0_spreadOut 5 = .ok (.istore_n 3, 1) := by decide +kernel
theorem dX0_spreadOut_6 : decode cX0_spreadOut 6 = .ok (.aload_n 0, 1) := by decide +kernel
theorem dX0_spreadOut_7 : decode cX0_spreadOut 7 = .ok (.iload_n 2, 1) := by decide +kernel
theorem dX0_spreadOut_8 : decode cX0_spreadOut 8 = .ok (.iload_n 3, 1) := by decide +kernel
theorem dX0_spreadOut_9 : decode cX0_spreadOut 9 = .ok (.invokevirtual 138, 3) := by decide +kernel
theorem dX0_spreadOut_12 : decode cX0_spreadOut 12 = .ok (.istore 4, 2) := by decide +kernel
theorem dX0_spreadOut_14 : decode cX0_spreadOut 14 = .ok (.aload_n 0, 1) := by decide +kernel
theorem dX0_spreadOut_15 : decode cX0_spreadOut 15 = .ok (.iload_n 3, 1) := by decide +kernel
theorem dX0_spreadOut_16 : decode cX0_spreadOut 16 = .ok (.iload 4, 2) := by decide +kernel
theorem dX0_spreadOut_18 : decode cX0_spreadOut 18 = .ok (.invokestatic 141, 3) := by decide +kernel
theorem dX0_spreadOut_21 : decode cX0_spreadOut 21 = .ok (.invokevirtual 70, 3) := by decide +kernel
theorem dX0_spreadOut_24 : decode cX0_spreadOut 24 = .ok (.istore 5, 2) := by decide +kernel
theorem dX0_spreadOut_26 : decode cX0_spreadOut 26 = .ok (.aload_n 0, 1) := by decide +kernel
theorem dX0_spreadOut_27 : decode cX0_spreadOut 27 = .ok (.iload_n 3, 1) := by decide +kernel
theorem dX0_spreadOut_28 : decode cX0_spreadOut 28 = .ok (.iload 4, 2) := by decide +kernel
theorem dX0_spreadOut_30 : decode cX0_spreadOut 30 = .ok (.invokevirtual 84, 3) := by decide +kernel
theorem dX0_spreadOut_33 : decode cX0_spreadOut 33 = .ok (.iconst 1, 1) := by decide +kernel
theorem dX0_spreadOut_34 : decode cX0_spreadOut 34 = .ok (.iadd, 1) := by decide +kernel
theorem dX0_spreadOut_35 : decode cX0_spreadOut 35 = .ok (.istore 6, 2) := by decide +kernel
theorem dX0_spreadOut_37 : decode cX0_spreadOut 37 = .ok (.aload_n 0, 1) := by decide +kernel
theorem dX0_spreadOut_38 : decode cX0_spreadOut 38 = .ok (.iload_n 2, 1) := by decide +kernel
theorem dX0_spreadOut_39 : decode cX0_spreadOut 39 = .ok (.iload_n 1, 1) := by decide +kernel
theorem dX0_spreadOut_40 : decode cX0_spreadOut 40 = .ok (.iload_n 3, 1) := by decide +kernel
theorem dX0_spreadOut_41 : decode cX0_spreadOut 41 = .ok (.iload 4, 2) := by decide +kernel
theorem dX0_spreadOut_43 : decode cX0_spreadOut 43 = .ok (.invokestatic 141, 3) := by decide +kernel
theorem dX0_spreadOut_46 : decode cX0_spreadOut 46 = .ok (.invokevirtual 129, 3) := by decide +kernel
theorem dX0_spreadOut_49 : decode cX0_spreadOut 49 = .ok (.iconst 0, 1) := by decide +kernel
theorem dX0_spreadOut_50 : decode cX0_spreadOut 50 = .ok (.istore 7, 2) := by decide +kernel
theorem dX0_spreadOut_52 : decode cX0_spreadOut 52 = .ok (.iload 7, 2) := by decide +kernel
theorem dX0_spreadOut_54 : decode cX0_spreadOut 54 = .ok (.iload 6, 2) := by decide +kernel
theorem dX0_spreadOut_56 : decode cX0_spreadOut 56 = .ok (.if_icmp .ge 37, 3) := by decide +kernel
theorem dX0_spreadOut_59 : decode cX0_spreadOut 59 = .ok (.aload_n 0, 1) := by decide +kernel
theorem dX0_spreadOut_60 : decode cX0_spreadOut 60 = .ok (.iload 5, 2) := by decide +kernel
theorem dX0_spreadOut_62 : decode cX0_spreadOut 62 = .ok (.iload 7, 2) := by decide +kernel
theorem dX0_spreadOut_64 : decode cX0_spreadOut 64 = .ok (.iadd, 1) := by decide +kernel
theorem dX0_spreadOut_65 : decode cX0_spreadOut 65 = .ok (.aload_n 0, 1) := by decide +kernel
theorem dX0_spreadOut_66 : decode cX0_spreadOut 66 = .ok (.iload 5, 2) := by decide +kernel
theorem dX0_spreadOut_68 : decode cX0_spreadOut 68 = .ok (.iload 7, 2) := by decide +kernel
theorem dX0_spreadOut_70 : decode cX0_spreadOut 70 = .ok (.iadd, 1) := by decide +kernel
theorem dX0_spreadOut_71 : decode cX0_spreadOut 71 = .ok (.invokevirtual 43, 3) := by decide +kernel
theorem dX0_spreadOut_74 : decode cX0_spreadOut 74 = .ok (.iload_n 3, 1) := by decide +kernel
theorem dX0_spreadOut_75 : decode cX0_spreadOut 75 = .ok (.iload 4, 2) := by decide +kernel
theorem dX0_spreadOut_77 : decode cX0_spreadOut 77 = .ok (.iload 7, 2) := by decide +kernel
theorem dX0_spreadOut_79 : decode cX0_spreadOut 79 = .ok (.iload 6, 2) := by decide +kernel
theorem dX0_spreadOut_81 : decode cX0_spreadOut 81 = .ok (.invokestatic 144, 3) := by decide +kernel
theorem dX0_spreadOut_84 : decode cX0_spreadOut 84 = .ok (.invokevirtual 122, 3) := by decide +kernel
theorem dX0_spreadOut_87 : decode cX0_spreadOut 87 = .ok (.iinc 7 1, 3) := by decide +kernel
theorem dX0_spreadOut_90 : decode cX0_spreadOut 90 = .ok (.goto (-38), 3) := by decide +kernel
theorem dX0_spreadOut_93 : decode cX0_spreadOut 93 = .ok (.aload_n 0, 1) := by decide +kernel
theorem dX0_spreadOut_94 : decode cX0_spreadOut 94 = .ok (.iload_n 3, 1) := by decide +kernel
theorem dX0_spreadOut_95 : decode cX0_spreadOut 95 = .ok (.invokevirtual 148, 3) := by decide +kernel
theorem dX0_spreadOut_98 : decode cX0_spreadOut 98 = .ok (.return_, 1) := by decide +kernel
set_option maxRecDepth 20000 in
theorem ggX0_movesByPuttingIn_X0_hasFreeMark : GoodIn wsX0_movesByPuttingIn wsX0_hasFreeMark := goodIn_r _ [5, 6, 7, 8, 4, 9, 10, 11, 12, 13, 14, 15, 16, 51, 52, 53, 54, 55, 56, 57, 58] (by decide +kernel) (by decide +kernel)
set_option maxRecDepth 20000 in
theorem gX0_movesByPuttingIn_X0_hasFreeMark : GoodIn wsX0_movesByPuttingIn (wsV RX0 126 RX0 yX0_hasFreeMark wsX0_hasFreeMark) := goodIn_app (goodIn_of _ (by decide +kernel)) ggX0_movesByPuttingIn_X0_hasFreeMark
set_option maxRecDepth 20000 in
theorem ggX0_movesByPuttingIn_X0_levelToSpread : GoodIn wsX0_movesByPuttingIn wsX0_levelToSpread := goodIn_r _ [20, 21, 22, 23, 24, 4, 25, 26, 27, 28, 29, 6, 7, 8, 9, 10, 11, 12, 13, 14, 15, 16, 30, 31, 32, 33, 34, 35, 36, 37, 38, 39, 40, 41, 42, 43, 44, 51, 52, 53, 54, 55, 56, 57, 58] (by decide +kernel) (by decide +kernel)
set_option maxRecDepth 20000 in
theorem gX0_movesByPuttingIn_X0_levelToSpread : GoodIn wsX0_movesByPuttingIn (wsV RX0 135 RX0 yX0_levelToSpread wsX0_levelToSpread) := goodIn_app (goodIn_of _ (by decide +kernel)) ggX0_movesByPuttingIn_X0_levelToSpread
set_option maxRecDepth 20000 in
theorem ggX0_movesByPuttingIn_X0_shelfToSpread : GoodIn wsX0_movesByPuttingIn wsX0_shelfToSpread := goodIn_r _ [25, 26, 27, 28, 29, 6, 7, 8, 4, 9, 10, 11, 12, 13, 14, 15, 16, 51, 52, 53, 54, 55, 56, 57, 58] (by decide +kernel) (by decide +kernel)
set_option maxRecDepth 20000 in
theorem gX0_movesByPuttingIn_X0_shelfToSpread : GoodIn wsX0_movesByPuttingIn (wsV RX0 138 RX0 yX0_shelfToSpread wsX0_shelfToSpread) := goodIn_app (goodIn_of _ (by decide +kernel)) ggX0_movesByPuttingIn_X0_shelfToSpread
set_option maxRecDepth 20000 in
theorem ggX0_movesByPuttingIn_X0_firstMark : GoodIn wsX0_movesByPuttingIn wsX0_firstMark := goodIn_r _ [40] (by decide +kernel) (by decide +kernel)
set_option maxRecDepth 20000 in
theorem gX0_movesByPuttingIn_X0_firstMark : GoodIn wsX0_movesByPuttingIn (va_wsS RX0 141 yX0_firstMark wsX0_firstMark) := goodIn_app (goodIn_of _ (by decide +kernel)) ggX0_movesByPuttingIn_X0_firstMark
set_option maxRecDepth 20000 in
theorem ggX0_movesByPuttingIn_X0_marksBelow : GoodIn wsX0_movesByPuttingIn wsX0_marksBelow := goodIn_r _ [44, 15, 10, 51, 52, 53, 54, 55, 56, 57, 58] (by decide +kernel) (by decide +kernel)
set_option maxRecDepth 20000 in
theorem gX0_movesByPuttingIn_X0_marksBelow : GoodIn wsX0_movesByPuttingIn (wsV RX0 70 RX0 yX0_marksBelow wsX0_marksBelow) := goodIn_app (goodIn_of _ (by decide +kernel)) ggX0_movesByPuttingIn_X0_marksBelow
set_option maxRecDepth 20000 in
theorem ggX0_movesByPuttingIn_X0_foldersOn : GoodIn wsX0_movesByPuttingIn wsX0_foldersOn := goodIn_r _ [37, 38, 39, 4, 40, 41, 42, 43, 44, 15, 10, 51, 52, 53, 54, 55, 56, 57, 58] (by decide +kernel) (by decide +kernel)
set_option maxRecDepth 20000 in
theorem gX0_movesByPuttingIn_X0_foldersOn : GoodIn wsX0_movesByPuttingIn (wsV RX0 84 RX0 yX0_foldersOn wsX0_foldersOn) := goodIn_app (goodIn_of _ (by decide +kernel)) ggX0_movesByPuttingIn_X0_foldersOn
set_option maxRecDepth 20000 in
theorem ggX0_movesByPuttingIn_X0_markAt : GoodIn wsX0_movesByPuttingIn wsX0_markAt := goodIn_r _ [9, 10, 11, 12, 13, 4, 14, 15, 16, 51, 52, 53, 54, 55, 56, 57, 58] (by decide +kernel) (by decide +kernel)
set_option maxRecDepth 20000 in
theorem gX0_movesByPuttingIn_X0_markAt : GoodIn wsX0_movesByPuttingIn (wsV RX0 67 RX0 yX0_markAt wsX0_markAt) := goodIn_app (goodIn_of _ (by decide +kernel)) ggX0_movesByPuttingIn_X0_markAt
set_option maxRecDepth 20000 in
theorem ggX0_movesByPuttingIn_X0_spreadMark : GoodIn wsX0_movesByPuttingIn wsX0_spreadMark := goodIn_r _ [47, 48, 49, 4, 50, 38, 39, 40] (by decide +kernel) (by decide +kernel)
set_option maxRecDepth 20000 in
theorem gX0_movesByPuttingIn_X0_spreadMark : GoodIn wsX0_movesByPuttingIn (va_wsS RX0 144 yX0_spreadMark wsX0_spreadMark) := goodIn_app (goodIn_of _ (by decide +kernel)) ggX0_movesByPuttingIn_X0_spreadMark
theorem dX0_movesByPuttingIn_0 : decode cX0_movesByPuttingIn 0 = .ok (.aload_n 0, 1) := by decide +kernel
theorem dX0_movesByPuttingIn_1 : decode cX0_movesByPuttingIn 1 = .ok (.iload_n 1, 1) := by decide +kernel
theorem dX0_movesByPuttingIn_2 : decode cX0_movesByPuttingIn 2 = .ok (.invokevirtual 126, 3) := by decide +kernel
theorem dX0_movesByPuttingIn_5 : decode cX0_movesByPuttingIn 5 = .ok (.ifCond .eq 5, 3) := by decide +kernel
theorem dX0_movesByPuttingIn_8 : decode cX0_movesByPuttingIn 8 = .ok (.iconst 0, 1) := by decide +kernel
theorem dX0_movesByPuttingIn_9 : decode cX0_movesByPuttingIn 9 = .ok (.ireturn, 1) := by decide +kernel
theorem dX0_movesByPuttingIn_10 : decode cX0_movesByPuttingIn 10 = .ok (.aload_n 0, 1) := by decide +kernel
theorem dX0_movesByPuttingIn_11 : decode cX0_movesByPuttingIn 11 = .ok (.iload_n 1, 1) := by decide +kernel
theorem dX0_movesByPuttingIn_12 : decode cX0_movesByPuttingIn 12 = .ok (.invokevirtual 135, 3) := by decide +kernel
theorem dX0_movesByPuttingIn_15 : decode cX0_movesByPuttingIn 15 = .ok (.istore_n 2, 1) := by decide +kernel
theorem dX0_movesByPuttingIn_16 : decode cX0_movesByPuttingIn 16 = .ok (.aload_n 0, 1) := by decide +kernel
theorem dX0_movesByPuttingIn_17 : decode cX0_movesByPuttingIn 17 = .ok (.iload_n 1, 1) := by decide +kernel
theorem dX0_movesByPuttingIn_18 : decode cX0_movesByPuttingIn 18 = .ok (.iload_n 2, 1) := by decide +kernel
theorem dX0_movesByPuttingIn_19 : decode cX0_movesByPuttingIn 19 = .ok (.invokevirtual 138, 3) := by decide +kernel
theorem dX0_movesByPuttingIn_22 : decode cX0_movesByPuttingIn 22 = .ok (.istore_n 3, 1) := by decide +kernel
theorem dX0_movesByPuttingIn_23 : decode cX0_movesByPuttingIn 23 = .ok (.aload_n 0, 1) := by decide +kernel
theorem dX0_movesByPuttingIn_24 : decode cX0_movesByPuttingIn 24 = .ok (.iload_n 2, 1) := by decide +kernel
theorem dX0_movesByPuttingIn_25 : decode cX0_movesByPuttingIn 25 = .ok (.iload_n 3, 1) := by decide +kernel
theorem dX0_movesByPuttingIn_26 : decode cX0_movesByPuttingIn 26 = .ok (.invokestatic 141, 3) := by decide +kernel
theorem dX0_movesByPuttingIn_29 : decode cX0_movesByPuttingIn 29 = .ok (.invokevirtual 70, 3) := by decide +kernel
theorem dX0_movesByPuttingIn_32 : decode cX0_movesByPuttingIn 32 = .ok (.istore 4, 2) := by decide +kernel
theorem dX0_movesByPuttingIn_34 : decode cX0_movesByPuttingIn 34 = .ok (.aload_n 0, 1) := by decide +kernel
theorem dX0_movesByPuttingIn_35 : decode cX0_movesByPuttingIn 35 = .ok (.iload_n 2, 1) := by decide +kernel
theorem dX0_movesByPuttingIn_36 : decode cX0_movesByPuttingIn 36 = .ok (.iload_n 3, 1) := by decide +kernel
theorem dX0_movesByPuttingIn_37 : decode cX0_movesByPuttingIn 37 = .ok (.invokevirtual 84, 3) := by decide +kernel
theorem dX0_movesByPuttingIn_40 : decode cX0_movesByPuttingIn 40 = .ok (.istore 5, 2) := by decide +kernel
theorem dX0_movesByPuttingIn_42 : decode cX0_movesByPuttingIn 42 = .ok (.iconst 0, 1) := by decide +kernel
theorem dX0_movesByPuttingIn_43 : decode cX0_movesByPuttingIn 43 = .ok (.istore 6, 2) := by decide +kernel
theorem dX0_movesByPuttingIn_45 : decode cX0_movesByPuttingIn 45 = .ok (.iload 4, 2) := by decide +kernel
theorem dX0_movesByPuttingIn_47 : decode cX0_movesByPuttingIn 47 = .ok (.istore 7, 2) := by decide +kernel
theorem dX0_movesByPuttingIn_49 : decode cX0_movesByPuttingIn 49 = .ok (.iload 7, 2) := by decide +kernel
theorem dX0_movesByPuttingIn_51 : decode cX0_movesByPuttingIn 51 = .ok (.iload 4, 2) := by decide +kernel
theorem dX0_movesByPuttingIn_53 : decode cX0_movesByPuttingIn 53 = .ok (.iload 5, 2) := by decide +kernel
theorem dX0_movesByPuttingIn_55 : decode cX0_movesByPuttingIn 55 = .ok (.iadd, 1) := by decide +kernel
theorem dX0_movesByPuttingIn_56 : decode cX0_movesByPuttingIn 56 = .ok (.if_icmp .ge 52, 3) := by decide +kernel
theorem dX0_movesByPuttingIn_59 : decode cX0_movesByPuttingIn 59 = .ok (.iload 7, 2) := by decide +kernel
theorem dX0_movesByPuttingIn_61 : decode cX0_movesByPuttingIn 61 = .ok (.iload_n 1, 1) := by decide +kernel
theorem dX0_movesByPuttingIn_62 : decode cX0_movesByPuttingIn 62 = .ok (.if_icmp .ge 8, 3) := by decide +kernel
theorem dX0_movesByPuttingIn_65 : decode cX0_movesByPuttingIn 65 = .ok (.iload 7, 2) := by decide +kernel
theorem dX0_movesByPuttingIn_67 : decode cX0_movesByPuttingIn 67 = .ok (.goto 7, 3) := by decide +kernel
theorem dX0_movesByPuttingIn_70 : decode cX0_movesByPuttingIn 70 = .ok (.iload 7, 2) := by decide +kernel
theorem dX0_movesByPuttingIn_72 : decode cX0_movesByPuttingIn 72 = .ok (.iconst 1, 1) := by decide +kernel
theorem dX0_movesByPuttingIn_73 : decode cX0_movesByPuttingIn 73 = .ok (.iadd, 1) := by decide +kernel
theorem dX0_movesByPuttingIn_74 : decode cX0_movesByPuttingIn 74 = .ok (.iload 4, 2) := by decide +kernel
theorem dX0_movesByPuttingIn_76 : decode cX0_movesByPuttingIn 76 = .ok (.isub, 1) := by decide +kernel
theorem dX0_movesByPuttingIn_77 : decode cX0_movesByPuttingIn 77 = .ok (.istore 8, 2) := by decide +kernel
theorem dX0_movesByPuttingIn_79 : decode cX0_movesByPuttingIn 79 = .ok (.aload_n 0, 1) := by decide +kernel
theorem dX0_movesByPuttingIn_80 : decode cX0_movesByPuttingIn 80 = .ok (.iload 7, 2) := by decide +kernel
theorem dX0_movesByPuttingIn_82 : decode cX0_movesByPuttingIn 82 = .ok (.invokevirtual 67, 3) := by decide +kernel
theorem dX0_movesByPuttingIn_85 : decode cX0_movesByPuttingIn 85 = .ok (.iload_n 2, 1) := by decide +kernel
theorem dX0_movesByPuttingIn_86 : decode cX0_movesByPuttingIn 86 = .ok (.iload_n 3, 1) := by decide +kernel
theorem dX0_movesByPuttingIn_87 : decode cX0_movesByPuttingIn 87 = .ok (.iload 8, 2) := by decide +kernel
theorem dX0_movesByPuttingIn_89 : decode cX0_movesByPuttingIn 89 = .ok (.iload 5, 2) := by decide +kernel
theorem dX0_movesByPuttingIn_91 : decode cX0_movesByPuttingIn 91 = .ok (.iconst 1, 1) := by decide +kernel
theorem dX0_movesByPuttingIn_92 : decode cX0_movesByPuttingIn 92 = .ok (.iadd, 1) := by decide +kernel
theorem dX0_movesByPuttingIn_93 : decode cX0_movesByPuttingIn 93 = .ok (.invokestatic 144, 3) := by decide +kernel
theorem dX0_movesByPuttingIn_96 : decode cX0_movesByPuttingIn 96 = .ok (.if_icmp .eq 6, 3) := by decide +kernel
theorem dX0_movesByPuttingIn_99 : decode cX0_movesByPuttingIn 99 = .ok (.iinc 6 1, 3) := by decide +kernel
theorem dX0_movesByPuttingIn_102 : decode cX0_movesByPuttingIn 102 = .ok (.iinc 7 1, 3) := by decide +kernel
theorem dX0_movesByPuttingIn_105 : decode cX0_movesByPuttingIn 105 = .ok (.goto (-56), 3) := by decide +kernel
theorem dX0_movesByPuttingIn_108 : decode cX0_movesByPuttingIn 108 = .ok (.iload 6, 2) := by decide +kernel
theorem dX0_movesByPuttingIn_110 : decode cX0_movesByPuttingIn 110 = .ok (.ireturn, 1) := by decide +kernel
set_option maxRecDepth 20000 in
theorem ggX0_levelToSpread_X0_shelfToSpread : GoodIn wsX0_levelToSpread wsX0_shelfToSpread := goodIn_r _ [6, 7, 8, 9, 10, 11, 12, 13, 5, 14, 15, 16, 17, 18, 19, 20, 21, 37, 38, 39, 40, 41, 42, 43, 44] (by decide +kernel) (by decide +kernel)
set_option maxRecDepth 20000 in
theorem gX0_levelToSpread_X0_shelfToSpread : GoodIn wsX0_levelToSpread (wsV RX0 138 RX0 yX0_shelfToSpread wsX0_shelfToSpread) := goodIn_app (goodIn_of _ (by decide +kernel)) ggX0_levelToSpread_X0_shelfToSpread
set_option maxRecDepth 20000 in
theorem ggX0_levelToSpread_X0_isLoaded : GoodIn wsX0_levelToSpread wsX0_isLoaded := goodIn_r _ [25, 1, 26, 27, 28, 5, 29, 30, 31, 32, 33, 34, 35, 36, 20, 15, 37, 38, 39, 40, 41, 42, 43, 44] (by decide +kernel) (by decide +kernel)
set_option maxRecDepth 20000 in
theorem gX0_levelToSpread_X0_isLoaded : GoodIn wsX0_levelToSpread (wsV RX0 88 RX0 yX0_isLoaded wsX0_isLoaded) := goodIn_app (goodIn_of _ (by decide +kernel)) ggX0_levelToSpread_X0_isLoaded
theorem dX0_levelToSpread_0 : decode cX0_levelToSpread 0 = .ok (.getstatic 16, 3) := by decide +kernel
theorem dX0_levelToSpread_3 : decode cX0_levelToSpread 3 = .ok (.arraylength, 1) := by decide +kernel
theorem dX0_levelToSpread_4 : decode cX0_levelToSpread 4 = .ok (.iconst 1, 1) := by decide +kernel
theorem dX0_levelToSpread_5 : decode cX0_levelToSpread 5 = .ok (.isub, 1) := by decide +kernel
theorem dX0_levelToSpread_6 : decode cX0_levelToSpread 6 = .ok (.istore_n 2, 1) := by decide +kernel
theorem dX0_levelToSpread_7 : decode cX0_levelToSpread 7 = .ok (.iconst 1, 1) := by decide +kernel
theorem dX0_levelToSpread_8 : decode cX0_levelToSpread 8 = .ok (.istore_n 3, 1) := by decide +kernel
theorem dX0_levelToSpread_9 : decode cX0_levelToSpread 9 = .ok (.iload_n 3, 1) := by decide +kernel
theorem dX0_levelToSpread_10 : decode cX0_levelToSpread 10 = .ok (.iload_n 2, 1) := by decide +kernel
theorem dX0_levelToSpread_11 : decode cX0_levelToSpread 11 = .ok (.if_icmp .ge 23, 3) := by decide +kernel
theorem dX0_levelToSpread_14 : decode cX0_levelToSpread 14 = .ok (.aload_n 0, 1) := by decide +kernel
theorem dX0_levelToSpread_15 : decode cX0_levelToSpread 15 = .ok (.iload_n 3, 1) := by decide +kernel
theorem dX0_levelToSpread_16 : decode cX0_levelToSpread 16 = .ok (.aload_n 0, 1) := by decide +kernel
theorem dX0_levelToSpread_17 : decode cX0_levelToSpread 17 = .ok (.iload_n 1, 1) := by decide +kernel
theorem dX0_levelToSpread_18 : decode cX0_levelToSpread 18 = .ok (.iload_n 3, 1) := by decide +kernel
theorem dX0_levelToSpread_19 : decode cX0_levelToSpread 19 = .ok (.invokevirtual 138, 3) := by decide +kernel
theorem dX0_levelToSpread_22 : decode cX0_levelToSpread 22 = .ok (.invokevirtual 88, 3) := by decide +kernel
theorem dX0_levelToSpread_25 : decode cX0_levelToSpread 25 = .ok (.ifCond .eq 9, 3) := by decide +kernel
theorem dX0_levelToSpread_28 : decode cX0_levelToSpread 28 = .ok (.iinc 3 1, 3) := by decide +kernel
theorem dX0_levelToSpread_31 : decode cX0_levelToSpread 31 = .ok (.goto (-22), 3) := by decide +kernel
theorem dX0_levelToSpread_34 : decode cX0_levelToSpread 34 = .ok (.iload_n 3, 1) := by decide +kernel
theorem dX0_levelToSpread_35 : decode cX0_levelToSpread 35 = .ok (.ireturn, 1) := by decide +kernel
set_option maxRecDepth 20000 in
theorem ggX0_shelfToSpread_X0_markAt : GoodIn wsX0_shelfToSpread wsX0_markAt := goodIn_r _ [9, 10, 11, 12, 13, 8, 14, 15, 16, 17, 18, 19, 20, 21, 22, 23, 24] (by decide +kernel) (by decide +kernel)
set_option maxRecDepth 20000 in
theorem gX0_shelfToSpread_X0_markAt : GoodIn wsX0_shelfToSpread (wsV RX0 67 RX0 yX0_markAt wsX0_markAt) := goodIn_app (goodIn_of _ (by decide +kernel)) ggX0_shelfToSpread_X0_markAt
theorem dX0_shelfToSpread_0 : decode cX0_shelfToSpread 0 = .ok (.aload_n 0, 1) := by decide +kernel
theorem dX0_shelfToSpread_1 : decode cX0_shelfToSpread 1 = .ok (.iload_n 1, 1) := by decide +kernel
theorem dX0_shelfToSpread_2 : decode cX0_shelfToSpread 2 = .ok (.iconst 1, 1) := by decide +kernel
theorem dX0_shelfToSpread_3 : decode cX0_shelfToSpread 3 = .ok (.isub, 1) := by decide +kernel
theorem dX0_shelfToSpread_4 : decode cX0_shelfToSpread 4 = .ok (.invokevirtual 67, 3) := by decide +kernel
theorem dX0_shelfToSpread_7 : decode cX0_shelfToSpread 7 = .ok (.iconst 0, 1) := by decide +kernel
theorem dX0_shelfToSpread_8 : decode cX0_shelfToSpread 8 = .ok (.invokestatic 151, 3) := by decide +kernel
theorem dX0_shelfToSpread_11 : decode cX0_shelfToSpread 11 = .ok (.iload_n 2, 1) := by decide +kernel
theorem dX0_shelfToSpread_12 : decode cX0_shelfToSpread 12 = .ok (.ishr, 1) := by decide +kernel
theorem dX0_shelfToSpread_13 : decode cX0_shelfToSpread 13 = .ok (.ireturn, 1) := by decide +kernel
set_option maxRecDepth 20000 in
theorem ggX0_spreadMark_X0_shelfSize : GoodIn wsX0_spreadMark wsX0_shelfSize := goodIn_r _ [4] (by decide +kernel) (by decide +kernel)
set_option maxRecDepth 20000 in
theorem gX0_spreadMark_X0_shelfSize : GoodIn wsX0_spreadMark (va_wsS RX0 156 yX0_shelfSize wsX0_shelfSize) := goodIn_app (goodIn_of _ (by decide +kernel)) ggX0_spreadMark_X0_shelfSize
set_option maxRecDepth 20000 in
theorem ggX0_spreadMark_X0_firstMark : GoodIn wsX0_spreadMark wsX0_firstMark := goodIn_r _ [7] (by decide +kernel) (by decide +kernel)
set_option maxRecDepth 20000 in
theorem gX0_spreadMark_X0_firstMark : GoodIn wsX0_spreadMark (va_wsS RX0 141 yX0_firstMark wsX0_firstMark) := goodIn_app (goodIn_of _ (by decide +kernel)) ggX0_spreadMark_X0_firstMark
theorem dX0_spreadMark_0 : decode cX0_spreadMark 0 = .ok (.iload_n 3, 1) := by decide +kernel
theorem dX0_spreadMark_1 : decode cX0_spreadMark 1 = .ok (.ifCond .le 14, 3) := by decide +kernel
theorem dX0_spreadMark_4 : decode cX0_spreadMark 4 = .ok (.iload_n 2, 1) := by decide +kernel
theorem dX0_spreadMark_5 : decode cX0_spreadMark 5 = .ok (.iload_n 0, 1) := by decide +kernel
theorem dX0_spreadMark_6 : decode cX0_spreadMark 6 = .ok (.invokestatic 156, 3) := by decide +kernel
theorem dX0_spreadMark_9 : decode cX0_spreadMark 9 = .ok (.imul, 1) := by decide +kernel
theorem dX0_spreadMark_10 : decode cX0_spreadMark 10 = .ok (.iload_n 3, 1) := by decide +kernel
theorem dX0_spreadMark_11 : decode cX0_spreadMark 11 = .ok (.idiv, 1) := by decide +kernel
theorem dX0_spreadMark_12 : decode cX0_spreadMark 12 = .ok (.goto 4, 3) := by decide +kernel
theorem dX0_spreadMark_15 : decode cX0_spreadMark 15 = .ok (.iconst 0, 1) := by decide +kernel
theorem dX0_spreadMark_16 : decode cX0_spreadMark 16 = .ok (.istore 4, 2) := by decide +kernel
theorem dX0_spreadMark_18 : decode cX0_spreadMark 18 = .ok (.iload_n 0, 1) := by decide +kernel
theorem dX0_spreadMark_19 : decode cX0_spreadMark 19 = .ok (.iload_n 1, 1) := by decide +kernel
theorem dX0_spreadMark_20 : decode cX0_spreadMark 20 = .ok (.invokestatic 141, 3) := by decide +kernel
theorem dX0_spreadMark_23 : decode cX0_spreadMark 23 = .ok (.iload 4, 2) := by decide +kernel
theorem dX0_spreadMark_25 : decode cX0_spreadMark 25 = .ok (.iadd, 1) := by decide +kernel
theorem dX0_spreadMark_26 : decode cX0_spreadMark 26 = .ok (.ireturn, 1) := by decide +kernel
theorem dX0_countSpread_0 : decode cX0_countSpread 0 = .ok (.iload_n 1, 1) := by decide +kernel
theorem dX0_countSpread_1 : decode cX0_countSpread 1 = .ok (.ifCond .lt 22, 3) := by decide +kernel
theorem dX0_countSpread_4 : decode cX0_countSpread 4 = .ok (.iload_n 1, 1) := by decide +kernel
theorem dX0_countSpread_5 : decode cX0_countSpread 5 = .ok (.aload_n 0, 1) := by decide +kernel
theorem dX0_countSpread_6 : decode cX0_countSpread 6 = .ok (.getfield 19, 3) := by decide +kernel
theorem dX0_countSpread_9 : decode cX0_countSpread 9 = .ok (.arraylength, 1) := by decide +kernel
theorem dX0_countSpread_10 : decode cX0_countSpread 10 = .ok (.if_icmp .ge 13, 3) := by decide +kernel
theorem dX0_countSpread_13 : decode cX0_countSpread 13 = .ok (.aload_n 0, 1) := by decide +kernel
theorem dX0_countSpread_14 : decode cX0_countSpread 14 = .ok (.getfield 19, 3) := by decide +kernel
theorem dX0_countSpread_17 : decode cX0_countSpread 17 = .ok (.iload_n 1, 1) := by decide +kernel
theorem dX0_countSpread_18 : decode cX0_countSpread 18 = .ok (.dup2, 1) := by decide +kernel
theorem dX0_countSpread_19 : decode cX0_countSpread 19 = .ok (.iaload, 1) := by decide +kernel
theorem dX0_countSpread_20 : decode cX0_countSpread 20 = .ok (.iconst 1, 1) := by decide +kernel
theorem dX0_countSpread_21 : decode cX0_countSpread 21 = .ok (.iadd, 1) := by decide +kernel
theorem dX0_countSpread_22 : decode cX0_countSpread 22 = .ok (.iastore, 1) := by decide +kernel
theorem dX0_countSpread_23 : decode cX0_countSpread 23 = .ok (.return_, 1) := by decide +kernel
theorem dX0_shelfSize_0 : decode cX0_shelfSize 0 = .ok (.iconst 1, 1) := by decide +kernel
theorem dX0_shelfSize_1 : decode cX0_shelfSize 1 = .ok (.iload_n 0, 1) := by decide +kernel
theorem dX0_shelfSize_2 : decode cX0_shelfSize 2 = .ok (.ishl, 1) := by decide +kernel
theorem dX0_shelfSize_3 : decode cX0_shelfSize 3 = .ok (.ireturn, 1) := by decide +kernel
theorem dX0_shelvesOf_0 : decode cX0_shelvesOf 0 = .ok (.sipush 256, 3) := by decide +kernel
theorem dX0_shelvesOf_3 : decode cX0_shelvesOf 3 = .ok (.iload_n 0, 1) := by decide +kernel
theorem dX0_shelvesOf_4 : decode cX0_shelvesOf 4 = .ok (.ishr, 1) := by decide +kernel
theorem dX0_shelvesOf_5 : decode cX0_shelvesOf 5 = .ok (.ireturn, 1) := by decide +kernel
theorem dX0_firstMark_0 : decode cX0_firstMark 0 = .ok (.iload_n 1, 1) := by decide +kernel
theorem dX0_firstMark_1 : decode cX0_firstMark 1 = .ok (.iload_n 0, 1) := by decide +kernel
theorem dX0_firstMark_2 : decode cX0_firstMark 2 = .ok (.ishl, 1) := by decide +kernel
theorem dX0_firstMark_3 : decode cX0_firstMark 3 = .ok (.ireturn, 1) := by decide +kernel
set_option maxRecDepth 20000 in
theorem ggX0_foldersOn_X0_firstMark : GoodIn wsX0_foldersOn wsX0_firstMark := goodIn_r _ [4] (by decide +kernel) (by decide +kernel)
set_option maxRecDepth 20000 in
theorem gX0_foldersOn_X0_firstMark : GoodIn wsX0_foldersOn (va_wsS RX0 141 yX0_firstMark wsX0_firstMark) := goodIn_app (goodIn_of _ (by decide +kernel)) ggX0_foldersOn_X0_firstMark
set_option maxRecDepth 20000 in
theorem ggX0_foldersOn_X0_marksBelow : GoodIn wsX0_foldersOn wsX0_marksBelow := goodIn_r _ [8, 9, 10, 11, 12, 13, 14, 15, 16, 17, 18] (by decide +kernel) (by decide +kernel)
set_option maxRecDepth 20000 in
theorem gX0_foldersOn_X0_marksBelow : GoodIn wsX0_foldersOn (wsV RX0 70 RX0 yX0_marksBelow wsX0_marksBelow) := goodIn_app (goodIn_of _ (by decide +kernel)) ggX0_foldersOn_X0_marksBelow
theorem dX0_foldersOn_0 : decode cX0_foldersOn 0 = .ok (.aload_n 0, 1) := by decide +kernel
theorem dX0_foldersOn_1 : decode cX0_foldersOn 1 = .ok (.iload_n 1, 1) := by decide +kernel
theorem dX0_foldersOn_2 : decode cX0_foldersOn 2 = .ok (.iload_n 2, 1) := by decide +kernel
theorem dX0_foldersOn_3 : decode cX0_foldersOn 3 = .ok (.iconst 1, 1) := by decide +kernel
theorem dX0_foldersOn_4 : decode cX0_foldersOn 4 = .ok (.iadd, 1) := by decide +kernel
theorem dX0_foldersOn_5 : decode cX0_foldersOn 5 = .ok (.invokestatic 141, 3) := by decide +kernel
theorem dX0_foldersOn_8 : decode cX0_foldersOn 8 = .ok (.invokevirtual 70, 3) := by decide +kernel
theorem dX0_foldersOn_11 : decode cX0_foldersOn 11 = .ok (.aload_n 0, 1) := by decide +kernel
theorem dX0_foldersOn_12 : decode cX0_foldersOn 12 = .ok (.iload_n 1, 1) := by decide +kernel
theorem dX0_foldersOn_13 : decode cX0_foldersOn 13 = .ok (.iload_n 2, 1) := by decide +kernel
theorem dX0_foldersOn_14 : decode cX0_foldersOn 14 = .ok (.invokestatic 141, 3) := by decide +kernel
theorem dX0_foldersOn_17 : decode cX0_foldersOn 17 = .ok (.invokevirtual 70, 3) := by decide +kernel
theorem dX0_foldersOn_20 : decode cX0_foldersOn 20 = .ok (.isub, 1) := by decide +kernel
theorem dX0_foldersOn_21 : decode cX0_foldersOn 21 = .ok (.ireturn, 1) := by decide +kernel
set_option maxRecDepth 20000 in
theorem ggX0_isLoaded_X0_foldersOn : GoodIn wsX0_isLoaded wsX0_foldersOn := goodIn_r _ [6, 7, 8, 5, 9, 10, 11, 12, 13, 14, 15, 16, 17, 18, 19, 20, 21, 22, 23] (by decide +kernel) (by decide +kernel)
set_option maxRecDepth 20000 in
theorem gX0_isLoaded_X0_foldersOn : GoodIn wsX0_isLoaded (wsV RX0 84 RX0 yX0_foldersOn wsX0_foldersOn) := goodIn_app (goodIn_of _ (by decide +kernel)) ggX0_isLoaded_X0_foldersOn
theorem dX0_isLoaded_0 : decode cX0_isLoaded 0 = .ok (.iload_n 1, 1) := by decide +kernel
theorem dX0_isLoaded_1 : decode cX0_isLoaded 1 = .ok (.ifCond .lt 29, 3) := by decide +kernel
theorem dX0_isLoaded_4 : decode cX0_isLoaded 4 = .ok (.iload_n 1, 1) := by decide +kernel
theorem dX0_isLoaded_5 : decode cX0_isLoaded 5 = .ok (.getstatic 16, 3) := by decide +kernel
theorem dX0_isLoaded_8 : decode cX0_isLoaded 8 = .ok (.arraylength, 1) := by decide +kernel
theorem dX0_isLoaded_9 : decode cX0_isLoaded 9 = .ok (.if_icmp .ge 21, 3) := by decide +kernel
theorem dX0_isLoaded_12 : decode cX0_isLoaded 12 = .ok (.aload_n 0, 1) := by decide +kernel
theorem dX0_isLoaded_13 : decode cX0_isLoaded 13 = .ok (.iload_n 1, 1) := by decide +kernel
theorem dX0_isLoaded_14 : decode cX0_isLoaded 14 = .ok (.iload_n 2, 1) := by decide +kernel
theorem dX0_isLoaded_15 : decode cX0_isLoaded 15 = .ok (.invokevirtual 84, 3) := by decide +kernel
theorem dX0_isLoaded_18 : decode cX0_isLoaded 18 = .ok (.getstatic 16, 3) := by decide +kernel
theorem dX0_isLoaded_21 : decode cX0_isLoaded 21 = .ok (.iload_n 1, 1) := by decide +kernel
theorem dX0_isLoaded_22 : decode cX0_isLoaded 22 = .ok (.iaload, 1) := by decide +kernel
theorem dX0_isLoaded_23 : decode cX0_isLoaded 23 = .ok (.if_icmp .lt 7, 3) := by decide +kernel
theorem dX0_isLoaded_26 : decode cX0_isLoaded 26 = .ok (.iconst 1, 1) := by decide +kernel
theorem dX0_isLoaded_27 : decode cX0_isLoaded 27 = .ok (.goto 4, 3) := by decide +kernel
theorem dX0_isLoaded_30 : decode cX0_isLoaded 30 = .ok (.iconst 0, 1) := by decide +kernel
theorem dX0_isLoaded_31 : decode cX0_isLoaded 31 = .ok (.ireturn, 1) := by decide +kernel
theorem dX0_readersAt_0 : decode cX0_readersAt 0 = .ok (.iconst 0, 1) := by decide +kernel
theorem dX0_readersAt_1 : decode cX0_readersAt 1 = .ok (.istore_n 2, 1) := by decide +kernel
theorem dX0_readersAt_2 : decode cX0_readersAt 2 = .ok (.iconst 0, 1) := by decide +kernel
theorem dX0_readersAt_3 : decode cX0_readersAt 3 = .ok (.istore_n 3, 1) := by decide +kernel
theorem dX0_readersAt_4 : decode cX0_readersAt 4 = .ok (.iload_n 3, 1) := by decide +kernel
theorem dX0_readersAt_5 : decode cX0_readersAt 5 = .ok (.iconst 4, 1) := by decide +kernel
theorem dX0_readersAt_6 : decode cX0_readersAt 6 = .ok (.if_icmp .ge 22, 3) := by decide +kernel
theorem dX0_readersAt_9 : decode cX0_readersAt 9 = .ok (.aload_n 0, 1) := by decide +kernel
theorem dX0_readersAt_10 : decode cX0_readersAt 10 = .ok (.getfield 22, 3) := by decide +kernel
theorem dX0_readersAt_13 : decode cX0_readersAt 13 = .ok (.iload_n 3, 1) := by decide +kernel
theorem dX0_readersAt_14 : decode cX0_readersAt 14 = .ok (.iaload, 1) := by decide +kernel
theorem dX0_readersAt_15 : decode cX0_readersAt 15 = .ok (.iload_n 1, 1) := by decide +kernel
theorem dX0_readersAt_16 : decode cX0_readersAt 16 = .ok (.if_icmp .ne 6, 3) := by decide +kernel
theorem dX0_readersAt_19 : decode cX0_readersAt 19 = .ok (.iinc 2 1, 3) := by decide +kernel
theorem dX0_readersAt_22 : decode cX0_readersAt 22 = .ok (.iinc 3 1, 3) := by decide +kernel
theorem dX0_readersAt_25 : decode cX0_readersAt 25 = .ok (.goto (-21), 3) := by decide +kernel
theorem dX0_readersAt_28 : decode cX0_readersAt 28 = .ok (.iload_n 2, 1) := by decide +kernel
theorem dX0_readersAt_29 : decode cX0_readersAt 29 = .ok (.ireturn, 1) := by decide +kernel
theorem dX0_sendReadersOn_0 : decode cX0_sendReadersOn 0 = .ok (.iconst 0, 1) := by decide +kernel
theorem dX0_sendReadersOn_1 : decode cX0_sendReadersOn 1 = .ok (.istore_n 3, 1) := by decide +kernel
theorem dX0_sendReadersOn_2 : decode cX0_sendReadersOn 2 = .ok (.iload_n 3, 1) := by decide +kernel
theorem dX0_sendReadersOn_3 : decode cX0_sendReadersOn 3 = .ok (.iconst 4, 1) := by decide +kernel
theorem dX0_sendReadersOn_4 : decode cX0_sendReadersOn 4 = .ok (.if_icmp .ge 26, 3) := by decide +kernel
theorem dX0_sendReadersOn_7 : decode cX0_sendReadersOn 7 = .ok (.aload_n 0, 1) := by decide +kernel
theorem dX0_sendReadersOn_8 : decode cX0_sendReadersOn 8 = .ok (.getfield 22, 3) := by decide +kernel
theorem dX0_sendReadersOn_11 : decode cX0_sendReadersOn 11 = .ok (.iload_n 3, 1) := by decide +kernel
theorem dX0_sendReadersOn_12 : decode cX0_sendReadersOn 12 = .ok (.iaload, 1) := by decide +kernel
theorem dX0_sendReadersOn_13 : decode cX0_sendReadersOn 13 = .ok (.iload_n 1, 1) := by decide +kernel
theorem dX0_sendReadersOn_14 : decode cX0_sendReadersOn 14 = .ok (.if_icmp .ne 10, 3) := by decide +kernel
theorem dX0_sendReadersOn_17 : decode cX0_sendReadersOn 17 = .ok (.aload_n 0, 1) := by decide +kernel
theorem dX0_sendReadersOn_18 : decode cX0_sendReadersOn 18 = .ok (.getfield 22, 3) := by decide +kernel
theorem dX0_sendReadersOn_21 : decode cX0_sendReadersOn 21 = .ok (.iload_n 3, 1) := by decide +kernel
theorem dX0_sendReadersOn_22 : decode cX0_sendReadersOn 22 = .ok (.iload_n 2, 1) := by decide +kernel
theorem dX0_sendReadersOn_23 : decode cX0_sendReadersOn 23 = .ok (.iastore, 1) := by decide +kernel
theorem dX0_sendReadersOn_24 : decode cX0_sendReadersOn 24 = .ok (.iinc 3 1, 3) := by decide +kernel
theorem dX0_sendReadersOn_27 : decode cX0_sendReadersOn 27 = .ok (.goto (-25), 3) := by decide +kernel
theorem dX0_sendReadersOn_30 : decode cX0_sendReadersOn 30 = .ok (.return_, 1) := by decide +kernel
theorem dX1_init_0 : decode cX1_init 0 = .ok (.aload_n 0, 1) := by decide +kernel
theorem dX1_init_1 : decode cX1_init 1 = .ok (.invokespecial 1, 3) := by decide +kernel
theorem dX1_init_4 : decode cX1_init 4 = .ok (.aload_n 0, 1) := by decide +kernel
theorem dX1_init_5 : decode cX1_init 5 = .ok (.bipush 60, 2) := by decide +kernel
theorem dX1_init_7 : decode cX1_init 7 = .ok (.newarray .int, 2) := by decide +kernel
theorem dX1_init_9 : decode cX1_init 9 = .ok (.putfield 7, 3) := by decide +kernel
theorem dX1_init_12 : decode cX1_init 12 = .ok (.aload_n 0, 1) := by decide +kernel
theorem dX1_init_13 : decode cX1_init 13 = .ok (.sipush 200, 3) := by decide +kernel
theorem dX1_init_16 : decode cX1_init 16 = .ok (.newarray .int, 2) := by decide +kernel
theorem dX1_init_18 : decode cX1_init 18 = .ok (.putfield 13, 3) := by decide +kernel
end
section
theorem dX1_init_21 : decode cX1_init 21 = .ok (.aload_n 0, 1) := by decide +kernel
theorem dX1_init_22 : decode cX1_init 22 = .ok (.sipush 200, 3) := by decide +kernel
theorem dX1_init_25 : decode cX1_init 25 = .ok (.newarray .boolean, 2) := by decide +kernel
theorem dX1_init_27 : decode cX1_init 27 = .ok (.putfield 16, 3) := by decide +kernel
theorem dX1_init_30 : decode cX1_init 30 = .ok (.aload_n 0, 1) := by decide +kernel
theorem dX1_init_31 : decode cX1_init 31 = .ok (.bipush 9, 2) := by decide +kernel
theorem dX1_init_33 : decode cX1_init 33 = .ok (.newarray .int, 2) := by decide +kernel
theorem dX1_init_35 : decode cX1_init 35 = .ok (.putfield 20, 3) := by decide +kernel
theorem dX1_init_38 : decode cX1_init 38 = .ok (.aload_n 0, 1) := by decide +kernel
theorem dX1_init_39 : decode cX1_init 39 = .ok (.iconst 4, 1) := by decide +kernel
theorem dX1_init_40 : decode cX1_init 40 = .ok (.newarray .int, 2) := by decide +kernel
theorem dX1_init_42 : decode cX1_init 42 = .ok (.dup, 1) := by decide +kernel
theorem dX1_init_43 : decode cX1_init 43 = .ok (.iconst 0, 1) := by decide +kernel
theorem dX1_init_44 : decode cX1_init 44 = .ok (.iconst (-1), 1) := by decide +kernel
theorem dX1_init_45 : decode cX1_init 45 = .ok (.iastore, 1) := by decide +kernel
theorem dX1_init_46 : decode cX1_init 46 = .ok (.dup, 1) := by decide +kernel
theorem dX1_init_47 : decode cX1_init 47 = .ok (.iconst 1, 1) := by decide +kernel
theorem dX1_init_48 : decode cX1_init 48 = .ok (.iconst (-1), 1) := by decide +kernel
theorem dX1_init_49 : decode cX1_init 49 = .ok (.iastore, 1) := by decide +kernel
theorem dX1_init_50 : decode cX1_init 50 = .ok (.dup, 1) := by decide +kernel
theorem dX1_init_51 : decode cX1_init 51 = .ok (.iconst 2, 1) := by decide +kernel
theorem dX1_init_52 : decode cX1_init 52 = .ok (.iconst (-1), 1) := by decide +kernel
theorem dX1_init_53 : decode cX1_init 53 = .ok (.iastore, 1) := by decide +kernel
theorem dX1_init_54 : decode cX1_init 54 = .ok (.dup, 1) := by decide +kernel
theorem dX1_init_55 : decode cX1_init 55 = .ok (.iconst 3, 1) := by decide +kernel
theorem dX1_init_56 : decode cX1_init 56 = .ok (.iconst (-1), 1) := by decide +kernel
theorem dX1_init_57 : decode cX1_init 57 = .ok (.iastore, 1) := by decide +kernel
theorem dX1_init_58 : decode cX1_init 58 = .ok (.putfield 23, 3) := by decide +kernel
theorem dX1_init_61 : decode cX1_init 61 = .ok (.aload_n 0, 1) := by decide +kernel
theorem dX1_init_62 : decode cX1_init 62 = .ok (.iconst 4, 1) := by decide +kernel
theorem dX1_init_63 : decode cX1_init 63 = .ok (.newarray .int, 2) := by decide +kernel
theorem dX1_init_65 : decode cX1_init 65 = .ok (.putfield 26, 3) := by decide +kernel
theorem dX1_init_68 : decode cX1_init 68 = .ok (.return_, 1) := by decide +kernel
theorem dX1_thrown_0 : decode cX1_thrown 0 = .ok (.aload_n 0, 1) := by decide +kernel
theorem dX1_thrown_1 : decode cX1_thrown 1 = .ok (.getfield 29, 3) := by decide +kernel
theorem dX1_thrown_4 : decode cX1_thrown 4 = .ok (.ireturn, 1) := by decide +kernel
theorem dX1_limit_0 : decode cX1_limit 0 = .ok (.iload_n 0, 1) := by decide +kernel
theorem dX1_limit_1 : decode cX1_limit 1 = .ok (.ifCond .ne 7, 3) := by decide +kernel
theorem dX1_limit_4 : decode cX1_limit 4 = .ok (.iconst 1, 1) := by decide +kernel
theorem dX1_limit_5 : decode cX1_limit 5 = .ok (.goto 74, 3) := by decide +kernel
theorem dX1_limit_8 : decode cX1_limit 8 = .ok (.iload_n 0, 1) := by decide +kernel
theorem dX1_limit_9 : decode cX1_limit 9 = .ok (.iconst 1, 1) := by decide +kernel
theorem dX1_limit_10 : decode cX1_limit 10 = .ok (.if_icmp .ne 7, 3) := by decide +kernel
theorem dX1_limit_13 : decode cX1_limit 13 = .ok (.iconst 2, 1) := by decide +kernel
theorem dX1_limit_14 : decode cX1_limit 14 = .ok (.goto 65, 3) := by decide +kernel
theorem dX1_limit_17 : decode cX1_limit 17 = .ok (.iload_n 0, 1) := by decide +kernel
theorem dX1_limit_18 : decode cX1_limit 18 = .ok (.iconst 2, 1) := by decide +kernel
theorem dX1_limit_19 : decode cX1_limit 19 = .ok (.if_icmp .ne 7, 3) := by decide +kernel
theorem dX1_limit_22 : decode cX1_limit 22 = .ok (.iconst 3, 1) := by decide +kernel
theorem dX1_limit_23 : decode cX1_limit 23 = .ok (.goto 56, 3) := by decide +kernel
theorem dX1_limit_26 : decode cX1_limit 26 = .ok (.iload_n 0, 1) := by decide +kernel
theorem dX1_limit_27 : decode cX1_limit 27 = .ok (.iconst 3, 1) := by decide +kernel
theorem dX1_limit_28 : decode cX1_limit 28 = .ok (.if_icmp .ne 7, 3) := by decide +kernel
theorem dX1_limit_31 : decode cX1_limit 31 = .ok (.iconst 5, 1) := by decide +kernel
theorem dX1_limit_32 : decode cX1_limit 32 = .ok (.goto 47, 3) := by decide +kernel
theorem dX1_limit_35 : decode cX1_limit 35 = .ok (.iload_n 0, 1) := by decide +kernel
theorem dX1_limit_36 : decode cX1_limit 36 = .ok (.iconst 4, 1) := by decide +kernel
theorem dX1_limit_37 : decode cX1_limit 37 = .ok (.if_icmp .ne 8, 3) := by decide +kernel
theorem dX1_limit_40 : decode cX1_limit 40 = .ok (.bipush 8, 2) := by decide +kernel
theorem dX1_limit_42 : decode cX1_limit 42 = .ok (.goto 37, 3) := by decide +kernel
theorem dX1_limit_45 : decode cX1_limit 45 = .ok (.iload_n 0, 1) := by decide +kernel
theorem dX1_limit_46 : decode cX1_limit 46 = .ok (.iconst 5, 1) := by decide +kernel
theorem dX1_limit_47 : decode cX1_limit 47 = .ok (.if_icmp .ne 8, 3) := by decide +kernel
theorem dX1_limit_50 : decode cX1_limit 50 = .ok (.bipush 14, 2) := by decide +kernel
theorem dX1_limit_52 : decode cX1_limit 52 = .ok (.goto 27, 3) := by decide +kernel
theorem dX1_limit_55 : decode cX1_limit 55 = .ok (.iload_n 0, 1) := by decide +kernel
theorem dX1_limit_56 : decode cX1_limit 56 = .ok (.bipush 6, 2) := by decide +kernel
theorem dX1_limit_58 : decode cX1_limit 58 = .ok (.if_icmp .ne 8, 3) := by decide +kernel
theorem dX1_limit_61 : decode cX1_limit 61 = .ok (.bipush 24, 2) := by decide +kernel
theorem dX1_limit_63 : decode cX1_limit 63 = .ok (.goto 16, 3) := by decide +kernel
theorem dX1_limit_66 : decode cX1_limit 66 = .ok (.iload_n 0, 1) := by decide +kernel
theorem dX1_limit_67 : decode cX1_limit 67 = .ok (.bipush 7, 2) := by decide +kernel
theorem dX1_limit_69 : decode cX1_limit 69 = .ok (.if_icmp .ne 8, 3) := by decide +kernel
theorem dX1_limit_72 : decode cX1_limit 72 = .ok (.bipush 42, 2) := by decide +kernel
theorem dX1_limit_74 : decode cX1_limit 74 = .ok (.goto 5, 3) := by decide +kernel
theorem dX1_limit_77 : decode cX1_limit 77 = .ok (.bipush 73, 2) := by decide +kernel
theorem dX1_limit_79 : decode cX1_limit 79 = .ok (.ireturn, 1) := by decide +kernel
theorem dX1_known_0 : decode cX1_known 0 = .ok (.iload_n 1, 1) := by decide +kernel
theorem dX1_known_1 : decode cX1_known 1 = .ok (.ifCond .lt 24, 3) := by decide +kernel
theorem dX1_known_4 : decode cX1_known 4 = .ok (.iload_n 1, 1) := by decide +kernel
theorem dX1_known_5 : decode cX1_known 5 = .ok (.aload_n 0, 1) := by decide +kernel
theorem dX1_known_6 : decode cX1_known 6 = .ok (.getfield 33, 3) := by decide +kernel
theorem dX1_known_9 : decode cX1_known 9 = .ok (.if_icmp .ge 16, 3) := by decide +kernel
theorem dX1_known_12 : decode cX1_known 12 = .ok (.aload_n 0, 1) := by decide +kernel
theorem dX1_known_13 : decode cX1_known 13 = .ok (.getfield 16, 3) := by decide +kernel
theorem dX1_known_16 : decode cX1_known 16 = .ok (.iload_n 1, 1) := by decide +kernel
theorem dX1_known_17 : decode cX1_known 17 = .ok (.baload, 1) := by decide +kernel
theorem dX1_known_18 : decode cX1_known 18 = .ok (.ifCond .eq 7, 3) := by decide +kernel
theorem dX1_known_21 : decode cX1_known 21 = .ok (.iconst 1, 1) := by decide +kernel
theorem dX1_known_22 : decode cX1_known 22 = .ok (.goto 4, 3) := by decide +kernel
theorem dX1_known_25 : decode cX1_known 25 = .ok (.iconst 0, 1) := by decide +kernel
theorem dX1_known_26 : decode cX1_known 26 = .ok (.ireturn, 1) := by decide +kernel
theorem dX1_place_0 : decode cX1_place 0 = .ok (.iconst 0, 1) := by decide +kernel
theorem dX1_place_1 : decode cX1_place 1 = .ok (.istore_n 2, 1) := by decide +kernel
theorem dX1_place_2 : decode cX1_place 2 = .ok (.aload_n 0, 1) := by decide +kernel
theorem dX1_place_3 : decode cX1_place 3 = .ok (.getfield 7, 3) := by decide +kernel
theorem dX1_place_6 : decode cX1_place 6 = .ok (.iload_n 2, 1) := by decide +kernel
theorem dX1_place_7 : decode cX1_place 7 = .ok (.iaload, 1) := by decide +kernel
theorem dX1_place_8 : decode cX1_place 8 = .ok (.iload_n 1, 1) := by decide +kernel
theorem dX1_place_9 : decode cX1_place 9 = .ok (.if_icmp .eq 9, 3) := by decide +kernel
theorem dX1_place_12 : decode cX1_place 12 = .ok (.iinc 2 1, 3) := by decide +kernel
theorem dX1_place_15 : decode cX1_place 15 = .ok (.goto (-13), 3) := by decide +kernel
theorem dX1_place_18 : decode cX1_place 18 = .ok (.iload_n 2, 1) := by decide +kernel
theorem dX1_place_19 : decode cX1_place 19 = .ok (.ireturn, 1) := by decide +kernel
theorem dX1_between_0 : decode cX1_between 0 = .ok (.iconst 0, 1) := by decide +kernel
theorem dX1_between_1 : decode cX1_between 1 = .ok (.istore_n 3, 1) := by decide +kernel
theorem dX1_between_2 : decode cX1_between 2 = .ok (.iconst 0, 1) := by decide +kernel
theorem dX1_between_3 : decode cX1_between 3 = .ok (.istore 4, 2) := by decide +kernel
theorem dX1_between_5 : decode cX1_between 5 = .ok (.iload 4, 2) := by decide +kernel
theorem dX1_between_7 : decode cX1_between 7 = .ok (.aload_n 0, 1) := by decide +kernel
theorem dX1_between_8 : decode cX1_between 8 = .ok (.getfield 36, 3) := by decide +kernel
theorem dX1_between_11 : decode cX1_between 11 = .ok (.if_icmp .ge 49, 3) := by decide +kernel
theorem dX1_between_14 : decode cX1_between 14 = .ok (.iload_n 3, 1) := by decide +kernel
theorem dX1_between_15 : decode cX1_between 15 = .ok (.aload_n 0, 1) := by decide +kernel
theorem dX1_between_16 : decode cX1_between 16 = .ok (.getfield 13, 3) := by decide +kernel
theorem dX1_between_19 : decode cX1_between 19 = .ok (.aload_n 0, 1) := by decide +kernel
theorem dX1_between_20 : decode cX1_between 20 = .ok (.getfield 7, 3) := by decide +kernel
theorem dX1_between_23 : decode cX1_between 23 = .ok (.iload 4, 2) := by decide +kernel
theorem dX1_between_25 : decode cX1_between 25 = .ok (.iaload, 1) := by decide +kernel
theorem dX1_between_26 : decode cX1_between 26 = .ok (.iaload, 1) := by decide +kernel
theorem dX1_between_27 : decode cX1_between 27 = .ok (.iload_n 1, 1) := by decide +kernel
theorem dX1_between_28 : decode cX1_between 28 = .ok (.if_icmp .lt 23, 3) := by decide +kernel
theorem dX1_between_31 : decode cX1_between 31 = .ok (.aload_n 0, 1) := by decide +kernel
theorem dX1_between_32 : decode cX1_between 32 = .ok (.getfield 13, 3) := by decide +kernel
theorem dX1_between_35 : decode cX1_between 35 = .ok (.aload_n 0, 1) := by decide +kernel
theorem dX1_between_36 : decode cX1_between 36 = .ok (.getfield 7, 3) := by decide +kernel
theorem dX1_between_39 : decode cX1_between 39 = .ok (.iload 4, 2) := by decide +kernel
theorem dX1_between_41 : decode cX1_between 41 = .ok (.iaload, 1) := by decide +kernel
theorem dX1_between_42 : decode cX1_between 42 = .ok (.iaload, 1) := by decide +kernel
theorem dX1_between_43 : decode cX1_between 43 = .ok (.iload_n 2, 1) := by decide +kernel
theorem dX1_between_44 : decode cX1_between 44 = .ok (.if_icmp .ge 7, 3) := by decide +kernel
theorem dX1_between_47 : decode cX1_between 47 = .ok (.iconst 1, 1) := by decide +kernel
theorem dX1_between_48 : decode cX1_between 48 = .ok (.goto 4, 3) := by decide +kernel
theorem dX1_between_51 : decode cX1_between 51 = .ok (.iconst 0, 1) := by decide +kernel
theorem dX1_between_52 : decode cX1_between 52 = .ok (.iadd, 1) := by decide +kernel
theorem dX1_between_53 : decode cX1_between 53 = .ok (.istore_n 3, 1) := by decide +kernel
theorem dX1_between_54 : decode cX1_between 54 = .ok (.iinc 4 1, 3) := by decide +kernel
theorem dX1_between_57 : decode cX1_between 57 = .ok (.goto (-52), 3) := by decide +kernel
theorem dX1_between_60 : decode cX1_between 60 = .ok (.iload_n 3, 1) := by decide +kernel
theorem dX1_between_61 : decode cX1_between 61 = .ok (.ireturn, 1) := by decide +kernel
set_option maxRecDepth 20000 in
theorem ggX1_loadOf_X1_between : GoodIn wsX1_loadOf wsX1_between := goodIn_r _ [5, 6, 7, 8, 9, 10, 11, 12, 13, 14, 15, 16, 17, 18] (by decide +kernel) (by decide +kernel)
set_option maxRecDepth 20000 in
theorem gX1_loadOf_X1_between : GoodIn wsX1_loadOf (wsV RX1 39 RX1 yX1_between wsX1_between) := goodIn_app (goodIn_of _ (by decide +kernel)) ggX1_loadOf_X1_between
theorem dX1_loadOf_0 : decode cX1_loadOf 0 = .ok (.aload_n 0, 1) := by decide +kernel
theorem dX1_loadOf_1 : decode cX1_loadOf 1 = .ok (.iload_n 2, 1) := by decide +kernel
theorem dX1_loadOf_2 : decode cX1_loadOf 2 = .ok (.iload_n 1, 1) := by decide +kernel
theorem dX1_loadOf_3 : decode cX1_loadOf 3 = .ok (.ishl, 1) := by decide +kernel
theorem dX1_loadOf_4 : decode cX1_loadOf 4 = .ok (.iload_n 2, 1) := by decide +kernel
theorem dX1_loadOf_5 : decode cX1_loadOf 5 = .ok (.iconst 1, 1) := by decide +kernel
theorem dX1_loadOf_6 : decode cX1_loadOf 6 = .ok (.iadd, 1) := by decide +kernel
theorem dX1_loadOf_7 : decode cX1_loadOf 7 = .ok (.iload_n 1, 1) := by decide +kernel
theorem dX1_loadOf_8 : decode cX1_loadOf 8 = .ok (.ishl, 1) := by decide +kernel
theorem dX1_loadOf_9 : decode cX1_loadOf 9 = .ok (.invokevirtual 39, 3) := by decide +kernel
theorem dX1_loadOf_12 : decode cX1_loadOf 12 = .ok (.ireturn, 1) := by decide +kernel
theorem dX1_markAhead_0 : decode cX1_markAhead 0 = .ok (.iload_n 1, 1) := by decide +kernel
theorem dX1_markAhead_1 : decode cX1_markAhead 1 = .ok (.ifCond .ne 7, 3) := by decide +kernel
theorem dX1_markAhead_4 : decode cX1_markAhead 4 = .ok (.iconst (-1), 1) := by decide +kernel
theorem dX1_markAhead_5 : decode cX1_markAhead 5 = .ok (.goto 16, 3) := by decide +kernel
theorem dX1_markAhead_8 : decode cX1_markAhead 8 = .ok (.aload_n 0, 1) := by decide +kernel
theorem dX1_markAhead_9 : decode cX1_markAhead 9 = .ok (.getfield 13, 3) := by decide +kernel
theorem dX1_markAhead_12 : decode cX1_markAhead 12 = .ok (.aload_n 0, 1) := by decide +kernel
theorem dX1_markAhead_13 : decode cX1_markAhead 13 = .ok (.getfield 7, 3) := by decide +kernel
theorem dX1_markAhead_16 : decode cX1_markAhead 16 = .ok (.iload_n 1, 1) := by decide +kernel
theorem dX1_markAhead_17 : decode cX1_markAhead 17 = .ok (.iconst 1, 1) := by decide +kernel
theorem dX1_markAhead_18 : decode cX1_markAhead 18 = .ok (.isub, 1) := by decide +kernel
theorem dX1_markAhead_19 : decode cX1_markAhead 19 = .ok (.iaload, 1) := by decide +kernel
theorem dX1_markAhead_20 : decode cX1_markAhead 20 = .ok (.iaload, 1) := by decide +kernel
theorem dX1_markAhead_21 : decode cX1_markAhead 21 = .ok (.ireturn, 1) := by decide +kernel
theorem dX1_markBehind_0 : decode cX1_markBehind 0 = .ok (.iload_n 1, 1) := by decide +kernel
theorem dX1_markBehind_1 : decode cX1_markBehind 1 = .ok (.aload_n 0, 1) := by decide +kernel
theorem dX1_markBehind_2 : decode cX1_markBehind 2 = .ok (.getfield 36, 3) := by decide +kernel
theorem dX1_markBehind_5 : decode cX1_markBehind 5 = .ok (.if_icmp .ne 9, 3) := by decide +kernel
theorem dX1_markBehind_8 : decode cX1_markBehind 8 = .ok (.sipush 256, 3) := by decide +kernel
theorem dX1_markBehind_11 : decode cX1_markBehind 11 = .ok (.goto 14, 3) := by decide +kernel
theorem dX1_markBehind_14 : decode cX1_markBehind 14 = .ok (.aload_n 0, 1) := by decide +kernel
theorem dX1_markBehind_15 : decode cX1_markBehind 15 = .ok (.getfield 13, 3) := by decide +kernel
theorem dX1_markBehind_18 : decode cX1_markBehind 18 = .ok (.aload_n 0, 1) := by decide +kernel
theorem dX1_markBehind_19 : decode cX1_markBehind 19 = .ok (.getfield 7, 3) := by decide +kernel
theorem dX1_markBehind_22 : decode cX1_markBehind 22 = .ok (.iload_n 1, 1) := by decide +kernel
theorem dX1_markBehind_23 : decode cX1_markBehind 23 = .ok (.iaload, 1) := by decide +kernel
theorem dX1_markBehind_24 : decode cX1_markBehind 24 = .ok (.iaload, 1) := by decide +kernel
theorem dX1_markBehind_25 : decode cX1_markBehind 25 = .ok (.ireturn, 1) := by decide +kernel
set_option maxRecDepth 20000 in
theorem ggX1_levelFor_X1_loadOf : GoodIn wsX1_levelFor wsX1_loadOf := goodIn_r _ [5, 6, 7, 8, 4, 9, 10, 11, 12, 16, 17, 18, 19, 20, 21, 22, 23, 24, 25] (by decide +kernel) (by decide +kernel)
set_option maxRecDepth 20000 in
theorem gX1_levelFor_X1_loadOf : GoodIn wsX1_levelFor (wsV RX1 43 RX1 yX1_loadOf wsX1_loadOf) := goodIn_app (goodIn_of _ (by decide +kernel)) ggX1_levelFor_X1_loadOf
set_option maxRecDepth 20000 in
theorem ggX1_levelFor_X1_limit : GoodIn wsX1_levelFor wsX1_limit := goodIn_r _ [15] (by decide +kernel) (by decide +kernel)
set_option maxRecDepth 20000 in
theorem gX1_levelFor_X1_limit : GoodIn wsX1_levelFor (va_wsS RX1 46 yX1_limit wsX1_limit) := goodIn_app (goodIn_of _ (by decide +kernel)) ggX1_levelFor_X1_limit
theorem dX1_levelFor_0 : decode cX1_levelFor 0 = .ok (.iconst 1, 1) := by decide +kernel
theorem dX1_levelFor_1 : decode cX1_levelFor 1 = .ok (.istore_n 2, 1) := by decide +kernel
theorem dX1_levelFor_2 : decode cX1_levelFor 2 = .ok (.aload_n 0, 1) := by decide +kernel
theorem dX1_levelFor_3 : decode cX1_levelFor 3 = .ok (.iload_n 2, 1) := by decide +kernel
theorem dX1_levelFor_4 : decode cX1_levelFor 4 = .ok (.iload_n 1, 1) := by decide +kernel
theorem dX1_levelFor_5 : decode cX1_levelFor 5 = .ok (.iload_n 2, 1) := by decide +kernel
theorem dX1_levelFor_6 : decode cX1_levelFor 6 = .ok (.ishr, 1) := by decide +kernel
theorem dX1_levelFor_7 : decode cX1_levelFor 7 = .ok (.invokevirtual 43, 3) := by decide +kernel
theorem dX1_levelFor_10 : decode cX1_levelFor 10 = .ok (.iload_n 2, 1) := by decide +kernel
theorem dX1_levelFor_11 : decode cX1_levelFor 11 = .ok (.invokestatic 46, 3) := by decide +kernel
theorem dX1_levelFor_14 : decode cX1_levelFor 14 = .ok (.if_icmp .lt 9, 3) := by decide +kernel
theorem dX1_levelFor_17 : decode cX1_levelFor 17 = .ok (.iinc 2 1, 3) := by decide +kernel
theorem dX1_levelFor_20 : decode cX1_levelFor 20 = .ok (.goto (-18), 3) := by decide +kernel
theorem dX1_levelFor_23 : decode cX1_levelFor 23 = .ok (.iload_n 2, 1) := by decide +kernel
theorem dX1_levelFor_24 : decode cX1_levelFor 24 = .ok (.ireturn, 1) := by decide +kernel
set_option maxRecDepth 20000 in
theorem ggX1_puts_X1_markAhead : GoodIn wsX1_puts wsX1_markAhead := goodIn_r _ [8, 3, 2, 30, 31, 32, 33, 34, 35, 36, 37, 38, 39] (by decide +kernel) (by decide +kernel)
set_option maxRecDepth 20000 in
theorem gX1_puts_X1_markAhead : GoodIn wsX1_puts (wsV RX1 50 RX1 yX1_markAhead wsX1_markAhead) := goodIn_app (goodIn_of _ (by decide +kernel)) ggX1_puts_X1_markAhead
set_option maxRecDepth 20000 in
theorem ggX1_puts_X1_markBehind : GoodIn wsX1_puts wsX1_markBehind := goodIn_r _ [12, 1, 3, 2, 30, 31, 32, 33, 34, 35, 36, 37, 38, 39] (by decide +kernel) (by decide +kernel)
set_option maxRecDepth 20000 in
theorem gX1_puts_X1_markBehind : GoodIn wsX1_puts (wsV RX1 53 RX1 yX1_markBehind wsX1_markBehind) := goodIn_app (goodIn_of _ (by decide +kernel)) ggX1_puts_X1_markBehind
set_option maxRecDepth 20000 in
theorem ggX1_puts_X1_levelWithout : GoodIn wsX1_puts wsX1_levelWithout := goodIn_r _ [16, 17, 18, 19, 7, 20, 1, 3, 2, 21, 22, 23, 30, 31, 32, 33, 34, 35, 36, 37, 38, 39] (by decide +kernel) (by decide +kernel)
set_option maxRecDepth 20000 in
theorem gX1_puts_X1_levelWithout : GoodIn wsX1_puts (wsV RX1 56 RX1 yX1_levelWithout wsX1_levelWithout) := goodIn_app (goodIn_of _ (by decide +kernel)) ggX1_puts_X1_levelWithout
set_option maxRecDepth 20000 in
theorem ggX1_puts_X1_spreads : GoodIn wsX1_puts wsX1_spreads := goodIn_r _ [27, 1, 3, 2, 28, 29, 30, 31, 32, 33, 34, 35, 36, 37, 38, 39] (by decide +kernel) (by decide +kernel)
set_option maxRecDepth 20000 in
theorem gX1_puts_X1_spreads : GoodIn wsX1_puts (wsV RX1 59 RX1 yX1_spreads wsX1_spreads) := goodIn_app (goodIn_of _ (by decide +kernel)) ggX1_puts_X1_spreads
theorem dX1_puts_0 : decode cX1_puts 0 = .ok (.aload_n 0, 1) := by decide +kernel
theorem dX1_puts_1 : decode cX1_puts 1 = .ok (.iload_n 2, 1) := by decide +kernel
theorem dX1_puts_2 : decode cX1_puts 2 = .ok (.invokevirtual 50, 3) := by decide +kernel
theorem dX1_puts_5 : decode cX1_puts 5 = .ok (.istore_n 3, 1) := by decide +kernel
theorem dX1_puts_6 : decode cX1_puts 6 = .ok (.aload_n 0, 1) := by decide +kernel
theorem dX1_puts_7 : decode cX1_puts 7 = .ok (.iload_n 2, 1) := by decide +kernel
theorem dX1_puts_8 : decode cX1_puts 8 = .ok (.invokevirtual 53, 3) := by decide +kernel
theorem dX1_puts_11 : decode cX1_puts 11 = .ok (.istore 4, 2) := by decide +kernel
theorem dX1_puts_13 : decode cX1_puts 13 = .ok (.aload_n 0, 1) := by decide +kernel
theorem dX1_puts_14 : decode cX1_puts 14 = .ok (.getfield 36, 3) := by decide +kernel
theorem dX1_puts_17 : decode cX1_puts 17 = .ok (.istore 5, 2) := by decide +kernel
theorem dX1_puts_19 : decode cX1_puts 19 = .ok (.iload 5, 2) := by decide +kernel
theorem dX1_puts_21 : decode cX1_puts 21 = .ok (.iload_n 2, 1) := by decide +kernel
theorem dX1_puts_22 : decode cX1_puts 22 = .ok (.if_icmp .le 25, 3) := by decide +kernel
theorem dX1_puts_25 : decode cX1_puts 25 = .ok (.aload_n 0, 1) := by decide +kernel
theorem dX1_puts_26 : decode cX1_puts 26 = .ok (.getfield 7, 3) := by decide +kernel
theorem dX1_puts_29 : decode cX1_puts 29 = .ok (.iload 5, 2) := by decide +kernel
theorem dX1_puts_31 : decode cX1_puts 31 = .ok (.aload_n 0, 1) := by decide +kernel
theorem dX1_puts_32 : decode cX1_puts 32 = .ok (.getfield 7, 3) := by decide +kernel
theorem dX1_puts_35 : decode cX1_puts 35 = .ok (.iload 5, 2) := by decide +kernel
theorem dX1_puts_37 : decode cX1_puts 37 = .ok (.iconst 1, 1) := by decide +kernel
theorem dX1_puts_38 : decode cX1_puts 38 = .ok (.isub, 1) := by decide +kernel
theorem dX1_puts_39 : decode cX1_puts 39 = .ok (.iaload, 1) := by decide +kernel
theorem dX1_puts_40 : decode cX1_puts 40 = .ok (.iastore, 1) := by decide +kernel
theorem dX1_puts_41 : decode cX1_puts 41 = .ok (.iinc 5 (-1), 3) := by decide +kernel
theorem dX1_puts_44 : decode cX1_puts 44 = .ok (.goto (-25), 3) := by decide +kernel
theorem dX1_puts_47 : decode cX1_puts 47 = .ok (.aload_n 0, 1) := by decide +kernel
theorem dX1_puts_48 : decode cX1_puts 48 = .ok (.getfield 7, 3) := by decide +kernel
theorem dX1_puts_51 : decode cX1_puts 51 = .ok (.iload_n 2, 1) := by decide +kernel
theorem dX1_puts_52 : decode cX1_puts 52 = .ok (.iload_n 1, 1) := by decide +kernel
theorem dX1_puts_53 : decode cX1_puts 53 = .ok (.iastore, 1) := by decide +kernel
theorem dX1_puts_54 : decode cX1_puts 54 = .ok (.iload 4, 2) := by decide +kernel
theorem dX1_puts_56 : decode cX1_puts 56 = .ok (.iload_n 3, 1) := by decide +kernel
theorem dX1_puts_57 : decode cX1_puts 57 = .ok (.isub, 1) := by decide +kernel
theorem dX1_puts_58 : decode cX1_puts 58 = .ok (.iconst 2, 1) := by decide +kernel
theorem dX1_puts_59 : decode cX1_puts 59 = .ok (.if_icmp .lt 26, 3) := by decide +kernel
theorem dX1_puts_62 : decode cX1_puts 62 = .ok (.aload_n 0, 1) := by decide +kernel
theorem dX1_puts_63 : decode cX1_puts 63 = .ok (.getfield 13, 3) := by decide +kernel
theorem dX1_puts_66 : decode cX1_puts 66 = .ok (.iload_n 1, 1) := by decide +kernel
theorem dX1_puts_67 : decode cX1_puts 67 = .ok (.iload_n 3, 1) := by decide +kernel
theorem dX1_puts_68 : decode cX1_puts 68 = .ok (.iload 4, 2) := by decide +kernel
theorem dX1_puts_70 : decode cX1_puts 70 = .ok (.iadd, 1) := by decide +kernel
theorem dX1_puts_71 : decode cX1_puts 71 = .ok (.iconst 1, 1) := by decide +kernel
theorem dX1_puts_72 : decode cX1_puts 72 = .ok (.ishr, 1) := by decide +kernel
theorem dX1_puts_73 : decode cX1_puts 73 = .ok (.iastore, 1) := by decide +kernel
theorem dX1_puts_74 : decode cX1_puts 74 = .ok (.aload_n 0, 1) := by decide +kernel
theorem dX1_puts_75 : decode cX1_puts 75 = .ok (.dup, 1) := by decide +kernel
theorem dX1_puts_76 : decode cX1_puts 76 = .ok (.getfield 36, 3) := by decide +kernel
theorem dX1_puts_79 : decode cX1_puts 79 = .ok (.iconst 1, 1) := by decide +kernel
theorem dX1_puts_80 : decode cX1_puts 80 = .ok (.iadd, 1) := by decide +kernel
theorem dX1_puts_81 : decode cX1_puts 81 = .ok (.putfield 36, 3) := by decide +kernel
theorem dX1_puts_84 : decode cX1_puts 84 = .ok (.return_, 1) := by decide +kernel
theorem dX1_puts_85 : decode cX1_puts 85 = .ok (.iload_n 3, 1) := by decide +kernel
theorem dX1_puts_86 : decode cX1_puts 86 = .ok (.ifCond .ge 7, 3) := by decide +kernel
theorem dX1_puts_89 : decode cX1_puts 89 = .ok (.iconst 0, 1) := by decide +kernel
theorem dX1_puts_90 : decode cX1_puts 90 = .ok (.goto 4, 3) := by decide +kernel
theorem dX1_puts_93 : decode cX1_puts 93 = .ok (.iload_n 3, 1) := by decide +kernel
theorem dX1_puts_94 : decode cX1_puts 94 = .ok (.istore 5, 2) := by decide +kernel
theorem dX1_puts_96 : decode cX1_puts 96 = .ok (.aload_n 0, 1) := by decide +kernel
theorem dX1_puts_97 : decode cX1_puts 97 = .ok (.iload_n 2, 1) := by decide +kernel
theorem dX1_puts_98 : decode cX1_puts 98 = .ok (.iload 5, 2) := by decide +kernel
theorem dX1_puts_100 : decode cX1_puts 100 = .ok (.invokevirtual 56, 3) := by decide +kernel
theorem dX1_puts_103 : decode cX1_puts 103 = .ok (.istore 6, 2) := by decide +kernel
theorem dX1_puts_105 : decode cX1_puts 105 = .ok (.aload_n 0, 1) := by decide +kernel
theorem dX1_puts_106 : decode cX1_puts 106 = .ok (.dup, 1) := by decide +kernel
theorem dX1_puts_107 : decode cX1_puts 107 = .ok (.getfield 36, 3) := by decide +kernel
theorem dX1_puts_110 : decode cX1_puts 110 = .ok (.iconst 1, 1) := by decide +kernel
theorem dX1_puts_111 : decode cX1_puts 111 = .ok (.iadd, 1) := by decide +kernel
theorem dX1_puts_112 : decode cX1_puts 112 = .ok (.putfield 36, 3) := by decide +kernel
theorem dX1_puts_115 : decode cX1_puts 115 = .ok (.aload_n 0, 1) := by decide +kernel
theorem dX1_puts_116 : decode cX1_puts 116 = .ok (.iload_n 2, 1) := by decide +kernel
theorem dX1_puts_117 : decode cX1_puts 117 = .ok (.iload 6, 2) := by decide +kernel
theorem dX1_puts_119 : decode cX1_puts 119 = .ok (.iload 5, 2) := by decide +kernel
theorem dX1_puts_121 : decode cX1_puts 121 = .ok (.iload 6, 2) := by decide +kernel
theorem dX1_puts_123 : decode cX1_puts 123 = .ok (.ishr, 1) := by decide +kernel
theorem dX1_puts_124 : decode cX1_puts 124 = .ok (.iload 6, 2) := by decide +kernel
theorem dX1_puts_126 : decode cX1_puts 126 = .ok (.ishl, 1) := by decide +kernel
theorem dX1_puts_127 : decode cX1_puts 127 = .ok (.invokevirtual 59, 3) := by decide +kernel
theorem dX1_puts_130 : decode cX1_puts 130 = .ok (.return_, 1) := by decide +kernel
set_option maxRecDepth 20000 in
theorem ggX1_levelWithout_X1_loadWithout : GoodIn wsX1_levelWithout wsX1_loadWithout := goodIn_r _ [5, 6, 7, 8, 12, 13, 14, 15, 16, 17, 18, 19, 20, 21] (by decide +kernel) (by decide +kernel)
set_option maxRecDepth 20000 in
theorem gX1_levelWithout_X1_loadWithout : GoodIn wsX1_levelWithout (wsV RX1 63 RX1 yX1_loadWithout wsX1_loadWithout) := goodIn_app (goodIn_of _ (by decide +kernel)) ggX1_levelWithout_X1_loadWithout
set_option maxRecDepth 20000 in
theorem ggX1_levelWithout_X1_limit : GoodIn wsX1_levelWithout wsX1_limit := goodIn_r _ [11] (by decide +kernel) (by decide +kernel)
set_option maxRecDepth 20000 in
theorem gX1_levelWithout_X1_limit : GoodIn wsX1_levelWithout (va_wsS RX1 46 yX1_limit wsX1_limit) := goodIn_app (goodIn_of _ (by decide +kernel)) ggX1_levelWithout_X1_limit
theorem dX1_levelWithout_0 : decode cX1_levelWithout 0 = .ok (.iconst 1, 1) := by decide +kernel
theorem dX1_levelWithout_1 : decode cX1_levelWithout 1 = .ok (.istore_n 3, 1) := by decide +kernel
theorem dX1_levelWithout_2 : decode cX1_levelWithout 2 = .ok (.aload_n 0, 1) := by decide +kernel
theorem dX1_levelWithout_3 : decode cX1_levelWithout 3 = .ok (.iload_n 1, 1) := by decide +kernel
theorem dX1_levelWithout_4 : decode cX1_levelWithout 4 = .ok (.iload_n 2, 1) := by decide +kernel
theorem dX1_levelWithout_5 : decode cX1_levelWithout 5 = .ok (.iload_n 3, 1) := by decide +kernel
theorem dX1_levelWithout_6 : decode cX1_levelWithout 6 = .ok (.ishr, 1) := by decide +kernel
theorem dX1_levelWithout_7 : decode cX1_levelWithout 7 = .ok (.iload_n 3, 1) := by decide +kernel
theorem dX1_levelWithout_8 : decode cX1_levelWithout 8 = .ok (.ishl, 1) := by decide +kernel
theorem dX1_levelWithout_9 : decode cX1_levelWithout 9 = .ok (.iconst 1, 1) := by decide +kernel
theorem dX1_levelWithout_10 : decode cX1_levelWithout 10 = .ok (.iload_n 3, 1) := by decide +kernel
theorem dX1_levelWithout_11 : decode cX1_levelWithout 11 = .ok (.ishl, 1) := by decide +kernel
theorem dX1_levelWithout_12 : decode cX1_levelWithout 12 = .ok (.invokevirtual 63, 3) := by decide +kernel
theorem dX1_levelWithout_15 : decode cX1_levelWithout 15 = .ok (.iload_n 3, 1) := by decide +kernel
theorem dX1_levelWithout_16 : decode cX1_levelWithout 16 = .ok (.invokestatic 46, 3) := by decide +kernel
theorem dX1_levelWithout_19 : decode cX1_levelWithout 19 = .ok (.if_icmp .lt 9, 3) := by decide +kernel
theorem dX1_levelWithout_22 : decode cX1_levelWithout 22 = .ok (.iinc 3 1, 3) := by decide +kernel
theorem dX1_levelWithout_25 : decode cX1_levelWithout 25 = .ok (.goto (-23), 3) := by decide +kernel
theorem dX1_levelWithout_28 : decode cX1_levelWithout 28 = .ok (.iload_n 3, 1) := by decide +kernel
theorem dX1_levelWithout_29 : decode cX1_levelWithout 29 = .ok (.ireturn, 1) := by decide +kernel
theorem dX1_loadWithout_0 : decode cX1_loadWithout 0 = .ok (.iconst 0, 1) := by decide +kernel
theorem dX1_loadWithout_1 : decode cX1_loadWithout 1 = .ok (.istore 4, 2) := by decide +kernel
theorem dX1_loadWithout_3 : decode cX1_loadWithout 3 = .ok (.iconst 0, 1) := by decide +kernel
theorem dX1_loadWithout_4 : decode cX1_loadWithout 4 = .ok (.istore 5, 2) := by decide +kernel
theorem dX1_loadWithout_6 : decode cX1_loadWithout 6 = .ok (.iload 5, 2) := by decide +kernel
theorem dX1_loadWithout_8 : decode cX1_loadWithout 8 = .ok (.aload_n 0, 1) := by decide +kernel
theorem dX1_loadWithout_9 : decode cX1_loadWithout 9 = .ok (.getfield 36, 3) := by decide +kernel
theorem dX1_loadWithout_12 : decode cX1_loadWithout 12 = .ok (.if_icmp .gt 53, 3) := by decide +kernel
theorem dX1_loadWithout_15 : decode cX1_loadWithout 15 = .ok (.aload_n 0, 1) := by decide +kernel
theorem dX1_loadWithout_16 : decode cX1_loadWithout 16 = .ok (.getfield 13, 3) := by decide +kernel
theorem dX1_loadWithout_19 : decode cX1_loadWithout 19 = .ok (.aload_n 0, 1) := by decide +kernel
theorem dX1_loadWithout_20 : decode cX1_loadWithout 20 = .ok (.getfield 7, 3) := by decide +kernel
theorem dX1_loadWithout_23 : decode cX1_loadWithout 23 = .ok (.iload 5, 2) := by decide +kernel
theorem dX1_loadWithout_25 : decode cX1_loadWithout 25 = .ok (.iaload, 1) := by decide +kernel
theorem dX1_loadWithout_26 : decode cX1_loadWithout 26 = .ok (.iaload, 1) := by decide +kernel
theorem dX1_loadWithout_27 : decode cX1_loadWithout 27 = .ok (.istore 6, 2) := by decide +kernel
theorem dX1_loadWithout_29 : decode cX1_loadWithout 29 = .ok (.iload 4, 2) := by decide +kernel
theorem dX1_loadWithout_31 : decode cX1_loadWithout 31 = .ok (.iload 5, 2) := by decide +kernel
theorem dX1_loadWithout_33 : decode cX1_loadWithout 33 = .ok (.iload_n 1, 1) := by decide +kernel
theorem dX1_loadWithout_34 : decode cX1_loadWithout 34 = .ok (.if_icmp .eq 21, 3) := by decide +kernel
theorem dX1_loadWithout_37 : decode cX1_loadWithout 37 = .ok (.iload 6, 2) := by decide +kernel
theorem dX1_loadWithout_39 : decode cX1_loadWithout 39 = .ok (.iload_n 2, 1) := by decide +kernel
theorem dX1_loadWithout_40 : decode cX1_loadWithout 40 = .ok (.if_icmp .lt 15, 3) := by decide +kernel
theorem dX1_loadWithout_43 : decode cX1_loadWithout 43 = .ok (.iload 6, 2) := by decide +kernel
theorem dX1_loadWithout_45 : decode cX1_loadWithout 45 = .ok (.iload_n 2, 1) := by decide +kernel
theorem dX1_loadWithout_46 : decode cX1_loadWithout 46 = .ok (.iload_n 3, 1) := by decide +kernel
theorem dX1_loadWithout_47 : decode cX1_loadWithout 47 = .ok (.iadd, 1) := by decide +kernel
theorem dX1_loadWithout_48 : decode cX1_loadWithout 48 = .ok (.if_icmp .ge 7, 3) := by decide +kernel
theorem dX1_loadWithout_51 : decode cX1_loadWithout 51 = .ok (.iconst 1, 1) := by decide +kernel
theorem dX1_loadWithout_52 : decode cX1_loadWithout 52 = .ok (.goto 4, 3) := by decide +kernel
theorem dX1_loadWithout_55 : decode cX1_loadWithout 55 = .ok (.iconst 0, 1) := by decide +kernel
theorem dX1_loadWithout_56 : decode cX1_loadWithout 56 = .ok (.iadd, 1) := by decide +kernel
theorem dX1_loadWithout_57 : decode cX1_loadWithout 57 = .ok (.istore 4, 2) := by decide +kernel
theorem dX1_loadWithout_59 : decode cX1_loadWithout 59 = .ok (.iinc 5 1, 3) := by decide +kernel
theorem dX1_loadWithout_62 : decode cX1_loadWithout 62 = .ok (.goto (-56), 3) := by decide +kernel
theorem dX1_loadWithout_65 : decode cX1_loadWithout 65 = .ok (.iload 4, 2) := by decide +kernel
theorem dX1_loadWithout_67 : decode cX1_loadWithout 67 = .ok (.ireturn, 1) := by decide +kernel
theorem dX1_spreads_0 : decode cX1_spreads 0 = .ok (.iconst 1, 1) := by decide +kernel
theorem dX1_spreads_1 : decode cX1_spreads 1 = .ok (.iload_n 2, 1) := by decide +kernel
theorem dX1_spreads_2 : decode cX1_spreads 2 = .ok (.ishl, 1) := by decide +kernel
theorem dX1_spreads_3 : decode cX1_spreads 3 = .ok (.istore 4, 2) := by decide +kernel
theorem dX1_spreads_5 : decode cX1_spreads 5 = .ok (.iconst 1, 1) := by decide +kernel
theorem dX1_spreads_6 : decode cX1_spreads 6 = .ok (.istore 5, 2) := by decide +kernel
theorem dX1_spreads_8 : decode cX1_spreads 8 = .ok (.iload_n 1, 1) := by decide +kernel
theorem dX1_spreads_9 : decode cX1_spreads 9 = .ok (.istore 6, 2) := by decide +kernel
theorem dX1_spreads_11 : decode cX1_spreads 11 = .ok (.iconst 0, 1) := by decide +kernel
theorem dX1_spreads_12 : decode cX1_spreads 12 = .ok (.istore 7, 2) := by decide +kernel
theorem dX1_spreads_14 : decode cX1_spreads 14 = .ok (.iload 7, 2) := by decide +kernel
theorem dX1_spreads_16 : decode cX1_spreads 16 = .ok (.aload_n 0, 1) := by decide +kernel
theorem dX1_spreads_17 : decode cX1_spreads 17 = .ok (.getfield 36, 3) := by decide +kernel
theorem dX1_spreads_20 : decode cX1_spreads 20 = .ok (.if_icmp .ge 93, 3) := by decide +kernel
theorem dX1_spreads_23 : decode cX1_spreads 23 = .ok (.iload 7, 2) := by decide +kernel
theorem dX1_spreads_25 : decode cX1_spreads 25 = .ok (.iload_n 1, 1) := by decide +kernel
theorem dX1_spreads_26 : decode cX1_spreads 26 = .ok (.if_icmp .eq 42, 3) := by decide +kernel
theorem dX1_spreads_29 : decode cX1_spreads 29 = .ok (.aload_n 0, 1) := by decide +kernel
theorem dX1_spreads_30 : decode cX1_spreads 30 = .ok (.getfield 13, 3) := by decide +kernel
theorem dX1_spreads_33 : decode cX1_spreads 33 = .ok (.aload_n 0, 1) := by decide +kernel
theorem dX1_spreads_34 : decode cX1_spreads 34 = .ok (.getfield 7, 3) := by decide +kernel
theorem dX1_spreads_37 : decode cX1_spreads 37 = .ok (.iload 7, 2) := by decide +kernel
theorem dX1_spreads_39 : decode cX1_spreads 39 = .ok (.iaload, 1) := by decide +kernel
theorem dX1_spreads_40 : decode cX1_spreads 40 = .ok (.iaload, 1) := by decide +kernel
theorem dX1_spreads_41 : decode cX1_spreads 41 = .ok (.iload_n 3, 1) := by decide +kernel
theorem dX1_spreads_42 : decode cX1_spreads 42 = .ok (.if_icmp .lt 26, 3) := by decide +kernel
theorem dX1_spreads_45 : decode cX1_spreads 45 = .ok (.aload_n 0, 1) := by decide +kernel
theorem dX1_spreads_46 : decode cX1_spreads 46 = .ok (.getfield 13, 3) := by decide +kernel
theorem dX1_spreads_49 : decode cX1_spreads 49 = .ok (.aload_n 0, 1) := by decide +kernel
theorem dX1_spreads_50 : decode cX1_spreads 50 = .ok (.getfield 7, 3) := by decide +kernel
theorem dX1_spreads_53 : decode cX1_spreads 53 = .ok (.iload 7, 2) := by decide +kernel
theorem dX1_spreads_55 : decode cX1_spreads 55 = .ok (.iaload, 1) := by decide +kernel
theorem dX1_spreads_56 : decode cX1_spreads 56 = .ok (.iaload, 1) := by decide +kernel
theorem dX1_spreads_57 : decode cX1_spreads 57 = .ok (.iload_n 3, 1) := by decide +kernel
theorem dX1_spreads_58 : decode cX1_spreads 58 = .ok (.iload 4, 2) := by decide +kernel
theorem dX1_spreads_60 : decode cX1_spreads 60 = .ok (.iadd, 1) := by decide +kernel
theorem dX1_spreads_61 : decode cX1_spreads 61 = .ok (.if_icmp .ge 7, 3) := by decide +kernel
theorem dX1_spreads_64 : decode cX1_spreads 64 = .ok (.iconst 1, 1) := by decide +kernel
theorem dX1_spreads_65 : decode cX1_spreads 65 = .ok (.goto 4, 3) := by decide +kernel
theorem dX1_spreads_68 : decode cX1_spreads 68 = .ok (.iconst 0, 1) := by decide +kernel
theorem dX1_spreads_69 : decode cX1_spreads 69 = .ok (.istore 8, 2) := by decide +kernel
theorem dX1_spreads_71 : decode cX1_spreads 71 = .ok (.iload 5, 2) := by decide +kernel
theorem dX1_spreads_73 : decode cX1_spreads 73 = .ok (.iload 8, 2) := by decide +kernel
theorem dX1_spreads_75 : decode cX1_spreads 75 = .ok (.ifCond .eq 7, 3) := by decide +kernel
theorem dX1_spreads_78 : decode cX1_spreads 78 = .ok (.iconst 1, 1) := by decide +kernel
theorem dX1_spreads_79 : decode cX1_spreads 79 = .ok (.goto 4, 3) := by decide +kernel
theorem dX1_spreads_82 : decode cX1_spreads 82 = .ok (.iconst 0, 1) := by decide +kernel
theorem dX1_spreads_83 : decode cX1_spreads 83 = .ok (.iadd, 1) := by decide +kernel
theorem dX1_spreads_84 : decode cX1_spreads 84 = .ok (.istore 5, 2) := by decide +kernel
theorem dX1_spreads_86 : decode cX1_spreads 86 = .ok (.iload 8, 2) := by decide +kernel
theorem dX1_spreads_88 : decode cX1_spreads 88 = .ok (.ifCond .eq 15, 3) := by decide +kernel
theorem dX1_spreads_91 : decode cX1_spreads 91 = .ok (.iload 7, 2) := by decide +kernel
theorem dX1_spreads_93 : decode cX1_spreads 93 = .ok (.iload 6, 2) := by decide +kernel
theorem dX1_spreads_95 : decode cX1_spreads 95 = .ok (.if_icmp .ge 8, 3) := by decide +kernel
theorem dX1_spreads_98 : decode cX1_spreads 98 = .ok (.iload 7, 2) := by decide +kernel
theorem dX1_spreads_100 : decode cX1_spreads 100 = .ok (.goto 5, 3) := by decide +kernel
theorem dX1_spreads_103 : decode cX1_spreads 103 = .ok (.iload 6, 2) := by decide +kernel
theorem dX1_spreads_105 : decode cX1_spreads 105 = .ok (.istore 6, 2) := by decide +kernel
theorem dX1_spreads_107 : decode cX1_spreads 107 = .ok (.iinc 7 1, 3) := by decide +kernel
theorem dX1_spreads_110 : decode cX1_spreads 110 = .ok (.goto (-96), 3) := by decide +kernel
theorem dX1_spreads_113 : decode cX1_spreads 113 = .ok (.iconst 0, 1) := by decide +kernel
theorem dX1_spreads_114 : decode cX1_spreads 114 = .ok (.istore 7, 2) := by decide +kernel
theorem dX1_spreads_116 : decode cX1_spreads 116 = .ok (.iload 7, 2) := by decide +kernel
theorem dX1_spreads_118 : decode cX1_spreads 118 = .ok (.iload 5, 2) := by decide +kernel
theorem dX1_spreads_120 : decode cX1_spreads 120 = .ok (.if_icmp .ge 77, 3) := by decide +kernel
theorem dX1_spreads_123 : decode cX1_spreads 123 = .ok (.aload_n 0, 1) := by decide +kernel
theorem dX1_spreads_124 : decode cX1_spreads 124 = .ok (.getfield 7, 3) := by decide +kernel
theorem dX1_spreads_127 : decode cX1_spreads 127 = .ok (.iload 6, 2) := by decide +kernel
theorem dX1_spreads_129 : decode cX1_spreads 129 = .ok (.iload 7, 2) := by decide +kernel
theorem dX1_spreads_131 : decode cX1_spreads 131 = .ok (.iadd, 1) := by decide +kernel
theorem dX1_spreads_132 : decode cX1_spreads 132 = .ok (.iaload, 1) := by decide +kernel
theorem dX1_spreads_133 : decode cX1_spreads 133 = .ok (.istore 8, 2) := by decide +kernel
theorem dX1_spreads_135 : decode cX1_spreads 135 = .ok (.iload_n 3, 1) := by decide +kernel
theorem dX1_spreads_136 : decode cX1_spreads 136 = .ok (.iload 7, 2) := by decide +kernel
theorem dX1_spreads_138 : decode cX1_spreads 138 = .ok (.iload 4, 2) := by decide +kernel
theorem dX1_spreads_140 : decode cX1_spreads 140 = .ok (.imul, 1) := by decide +kernel
theorem dX1_spreads_141 : decode cX1_spreads 141 = .ok (.iload 5, 2) := by decide +kernel
theorem dX1_spreads_143 : decode cX1_spreads 143 = .ok (.idiv, 1) := by decide +kernel
theorem dX1_spreads_144 : decode cX1_spreads 144 = .ok (.iadd, 1) := by decide +kernel
theorem dX1_spreads_145 : decode cX1_spreads 145 = .ok (.istore 9, 2) := by decide +kernel
theorem dX1_spreads_147 : decode cX1_spreads 147 = .ok (.aload_n 0, 1) := by decide +kernel
theorem dX1_spreads_148 : decode cX1_spreads 148 = .ok (.dup, 1) := by decide +kernel
theorem dX1_spreads_149 : decode cX1_spreads 149 = .ok (.getfield 67, 3) := by decide +kernel
theorem dX1_spreads_152 : decode cX1_spreads 152 = .ok (.iload 6, 2) := by decide +kernel
theorem dX1_spreads_154 : decode cX1_spreads 154 = .ok (.iload 7, 2) := by decide +kernel
theorem dX1_spreads_156 : decode cX1_spreads 156 = .ok (.iadd, 1) := by decide +kernel
theorem dX1_spreads_157 : decode cX1_spreads 157 = .ok (.iload_n 1, 1) := by decide +kernel
theorem dX1_spreads_158 : decode cX1_spreads 158 = .ok (.if_icmp .eq 19, 3) := by decide +kernel
theorem dX1_spreads_161 : decode cX1_spreads 161 = .ok (.aload_n 0, 1) := by decide +kernel
theorem dX1_spreads_162 : decode cX1_spreads 162 = .ok (.getfield 13, 3) := by decide +kernel
theorem dX1_spreads_165 : decode cX1_spreads 165 = .ok (.iload 8, 2) := by decide +kernel
theorem dX1_spreads_167 : decode cX1_spreads 167 = .ok (.iaload, 1) := by decide +kernel
theorem dX1_spreads_168 : decode cX1_spreads 168 = .ok (.iload 9, 2) := by decide +kernel
theorem dX1_spreads_170 : decode cX1_spreads 170 = .ok (.if_icmp .eq 7, 3) := by decide +kernel
theorem dX1_spreads_173 : decode cX1_spreads 173 = .ok (.iconst 1, 1) := by decide +kernel
theorem dX1_spreads_174 : decode cX1_spreads 174 = .ok (.goto 4, 3) := by decide +kernel
theorem dX1_spreads_177 : decode cX1_spreads 177 = .ok (.iconst 0, 1) := by decide +kernel
theorem dX1_spreads_178 : decode cX1_spreads 178 = .ok (.iadd, 1) := by decide +kernel
theorem dX1_spreads_179 : decode cX1_spreads 179 = .ok (.putfield 67, 3) := by decide +kernel
theorem dX1_spreads_182 : decode cX1_spreads 182 = .ok (.aload_n 0, 1) := by decide +kernel
theorem dX1_spreads_183 : decode cX1_spreads 183 = .ok (.getfield 13, 3) := by decide +kernel
theorem dX1_spreads_186 : decode cX1_spreads 186 = .ok (.iload 8, 2) := by decide +kernel
theorem dX1_spreads_188 : decode cX1_spreads 188 = .ok (.iload 9, 2) := by decide +kernel
theorem dX1_spreads_190 : decode cX1_spreads 190 = .ok (.iastore, 1) := by decide +kernel
theorem dX1_spreads_191 : decode cX1_spreads 191 = .ok (.iinc 7 1, 3) := by decide +kernel
theorem dX1_spreads_194 : decode cX1_spreads 194 = .ok (.goto (-78), 3) := by decide +kernel
theorem dX1_spreads_197 : decode cX1_spreads 197 = .ok (.aload_n 0, 1) := by decide +kernel
theorem dX1_spreads_198 : decode cX1_spreads 198 = .ok (.getfield 20, 3) := by decide +kernel
theorem dX1_spreads_201 : decode cX1_spreads 201 = .ok (.iload_n 2, 1) := by decide +kernel
theorem dX1_spreads_202 : decode cX1_spreads 202 = .ok (.dup2, 1) := by decide +kernel
theorem dX1_spreads_203 : decode cX1_spreads 203 = .ok (.iaload, 1) := by decide +kernel
theorem dX1_spreads_204 : decode cX1_spreads 204 = .ok (.iconst 1, 1) := by decide +kernel
theorem dX1_spreads_205 : decode cX1_spreads 205 = .ok (.iadd, 1) := by decide +kernel
theorem dX1_spreads_206 : decode cX1_spreads 206 = .ok (.iastore, 1) := by decide +kernel
theorem dX1_spreads_207 : decode cX1_spreads 207 = .ok (.return_, 1) := by decide +kernel
set_option maxRecDepth 20000 in
theorem ggX1_comes_X1_puts : GoodIn wsX1_comes wsX1_puts := goodIn_r _ [7, 8, 9, 10, 11, 12, 13, 6, 14, 15, 16, 17, 18, 19, 20, 21, 22, 23, 24, 25, 26, 27, 28, 29, 30, 31, 32, 33, 34, 35, 36, 37, 38, 39, 40, 41, 42, 43, 44, 45] (by decide +kernel) (by decide +kernel)
set_option maxRecDepth 20000 in
theorem gX1_comes_X1_puts : GoodIn wsX1_comes (wsV RX1 70 RX1 yX1_puts wsX1_puts) := goodIn_app (goodIn_of _ (by decide +kernel)) ggX1_comes_X1_puts
theorem dX1_comes_0 : decode cX1_comes 0 = .ok (.aload_n 0, 1) := by decide +kernel
theorem dX1_comes_1 : decode cX1_comes 1 = .ok (.getfield 33, 3) := by decide +kernel
theorem dX1_comes_4 : decode cX1_comes 4 = .ok (.istore_n 2, 1) := by decide +kernel
theorem dX1_comes_5 : decode cX1_comes 5 = .ok (.aload_n 0, 1) := by decide +kernel
theorem dX1_comes_6 : decode cX1_comes 6 = .ok (.getfield 16, 3) := by decide +kernel
theorem dX1_comes_9 : decode cX1_comes 9 = .ok (.iload_n 2, 1) := by decide +kernel
theorem dX1_comes_10 : decode cX1_comes 10 = .ok (.iconst 1, 1) := by decide +kernel
theorem dX1_comes_11 : decode cX1_comes 11 = .ok (.bastore, 1) := by decide +kernel
theorem dX1_comes_12 : decode cX1_comes 12 = .ok (.aload_n 0, 1) := by decide +kernel
theorem dX1_comes_13 : decode cX1_comes 13 = .ok (.dup, 1) := by decide +kernel
theorem dX1_comes_14 : decode cX1_comes 14 = .ok (.getfield 33, 3) := by decide +kernel
theorem dX1_comes_17 : decode cX1_comes 17 = .ok (.iconst 1, 1) := by decide +kernel
theorem dX1_comes_18 : decode cX1_comes 18 = .ok (.iadd, 1) := by decide +kernel
theorem dX1_comes_19 : decode cX1_comes 19 = .ok (.putfield 33, 3) := by decide +kernel
theorem dX1_comes_22 : decode cX1_comes 22 = .ok (.aload_n 0, 1) := by decide +kernel
theorem dX1_comes_23 : decode cX1_comes 23 = .ok (.iload_n 2, 1) := by decide +kernel
theorem dX1_comes_24 : decode cX1_comes 24 = .ok (.iload_n 1, 1) := by decide +kernel
theorem dX1_comes_25 : decode cX1_comes 25 = .ok (.invokevirtual 70, 3) := by decide +kernel
theorem dX1_comes_28 : decode cX1_comes 28 = .ok (.iload_n 2, 1) := by decide +kernel
theorem dX1_comes_29 : decode cX1_comes 29 = .ok (.ireturn, 1) := by decide +kernel
theorem dX1_isFull_0 : decode cX1_isFull 0 = .ok (.aload_n 0, 1) := by decide +kernel
theorem dX1_isFull_1 : decode cX1_isFull 1 = .ok (.getfield 33, 3) := by decide +kernel
theorem dX1_isFull_4 : decode cX1_isFull 4 = .ok (.sipush 200, 3) := by decide +kernel
theorem dX1_isFull_7 : decode cX1_isFull 7 = .ok (.if_icmp .eq 12, 3) := by decide +kernel
theorem dX1_isFull_10 : decode cX1_isFull 10 = .ok (.aload_n 0, 1) := by decide +kernel
theorem dX1_isFull_11 : decode cX1_isFull 11 = .ok (.getfield 36, 3) := by decide +kernel
theorem dX1_isFull_14 : decode cX1_isFull 14 = .ok (.bipush 60, 2) := by decide +kernel
theorem dX1_isFull_16 : decode cX1_isFull 16 = .ok (.if_icmp .ne 7, 3) := by decide +kernel
theorem dX1_isFull_19 : decode cX1_isFull 19 = .ok (.iconst 1, 1) := by decide +kernel
theorem dX1_isFull_20 : decode cX1_isFull 20 = .ok (.goto 4, 3) := by decide +kernel
theorem dX1_isFull_23 : decode cX1_isFull 23 = .ok (.iconst 0, 1) := by decide +kernel
theorem dX1_isFull_24 : decode cX1_isFull 24 = .ok (.ireturn, 1) := by decide +kernel
set_option maxRecDepth 20000 in
theorem ggX1_putFirst_X1_isFull : GoodIn wsX1_putFirst wsX1_isFull := goodIn_r _ [6, 7, 8, 45, 46, 47, 48, 49, 50, 51, 52, 53, 54] (by decide +kernel) (by decide +kernel)
set_option maxRecDepth 20000 in
theorem gX1_putFirst_X1_isFull : GoodIn wsX1_putFirst (wsV RX1 74 RX1 yX1_isFull wsX1_isFull) := goodIn_app (goodIn_of _ (by decide +kernel)) ggX1_putFirst_X1_isFull
set_option maxRecDepth 20000 in
theorem ggX1_putFirst_X1_comes : GoodIn wsX1_putFirst wsX1_comes := goodIn_r _ [12, 7, 13, 14, 15, 16, 5, 17, 8, 18, 19, 20, 21, 22, 23, 24, 25, 26, 27, 28, 29, 30, 31, 32, 33, 34, 35, 36, 37, 38, 39, 40, 41, 42, 43, 44, 45, 46, 47, 48, 49, 50, 51, 52, 53, 54] (by decide +kernel) (by decide +kernel)
set_option maxRecDepth 20000 in
theorem gX1_putFirst_X1_comes : GoodIn wsX1_putFirst (wsV RX1 78 RX1 yX1_comes wsX1_comes) := goodIn_app (goodIn_of _ (by decide +kernel)) ggX1_putFirst_X1_comes
theorem dX1_putFirst_0 : decode cX1_putFirst 0 = .ok (.aload_n 0, 1) := by decide +kernel
theorem dX1_putFirst_1 : decode cX1_putFirst 1 = .ok (.aload_n 0, 1) := by decide +kernel
theorem dX1_putFirst_2 : decode cX1_putFirst 2 = .ok (.invokevirtual 74, 3) := by decide +kernel
theorem dX1_putFirst_5 : decode cX1_putFirst 5 = .ok (.ifCond .eq 7, 3) := by decide +kernel
theorem dX1_putFirst_8 : decode cX1_putFirst 8 = .ok (.iconst 1, 1) := by decide +kernel
theorem dX1_putFirst_9 : decode cX1_putFirst 9 = .ok (.goto 4, 3) := by decide +kernel
theorem dX1_putFirst_12 : decode cX1_putFirst 12 = .ok (.iconst 0, 1) := by decide +kernel
theorem dX1_putFirst_13 : decode cX1_putFirst 13 = .ok (.putfield 29, 3) := by decide +kernel
theorem dX1_putFirst_16 : decode cX1_putFirst 16 = .ok (.aload_n 0, 1) := by decide +kernel
theorem dX1_putFirst_17 : decode cX1_putFirst 17 = .ok (.getfield 29, 3) := by decide +kernel
theorem dX1_putFirst_20 : decode cX1_putFirst 20 = .ok (.ifCond .le 7, 3) := by decide +kernel
theorem dX1_putFirst_23 : decode cX1_putFirst 23 = .ok (.iconst 0, 1) := by decide +kernel
theorem dX1_putFirst_24 : decode cX1_putFirst 24 = .ok (.goto 8, 3) := by decide +kernel
theorem dX1_putFirst_27 : decode cX1_putFirst 27 = .ok (.aload_n 0, 1) := by decide +kernel
theorem dX1_putFirst_28 : decode cX1_putFirst 28 = .ok (.iconst 0, 1) := by decide +kernel
theorem dX1_putFirst_29 : decode cX1_putFirst 29 = .ok (.invokevirtual 78, 3) := by decide +kernel
theorem dX1_putFirst_32 : decode cX1_putFirst 32 = .ok (.ireturn, 1) := by decide +kernel
set_option maxRecDepth 20000 in
theorem ggX1_putBehind_X1_known : GoodIn wsX1_putBehind wsX1_known := goodIn_r _ [6, 7, 8, 53, 54, 55, 56, 57, 58, 59, 60, 61, 62] (by decide +kernel) (by decide +kernel)
set_option maxRecDepth 20000 in
theorem gX1_putBehind_X1_known : GoodIn wsX1_putBehind (wsV RX1 81 RX1 yX1_known wsX1_known) := goodIn_app (goodIn_of _ (by decide +kernel)) ggX1_putBehind_X1_known
set_option maxRecDepth 20000 in
theorem ggX1_putBehind_X1_isFull : GoodIn wsX1_putBehind wsX1_isFull := goodIn_r _ [12, 7, 13, 53, 54, 55, 56, 57, 58, 59, 60, 61, 62] (by decide +kernel) (by decide +kernel)
set_option maxRecDepth 20000 in
theorem gX1_putBehind_X1_isFull : GoodIn wsX1_putBehind (wsV RX1 74 RX1 yX1_isFull wsX1_isFull) := goodIn_app (goodIn_of _ (by decide +kernel)) ggX1_putBehind_X1_isFull
set_option maxRecDepth 20000 in
theorem ggX1_putBehind_X1_place : GoodIn wsX1_putBehind wsX1_place := goodIn_r _ [17, 18, 53, 54, 55, 56, 57, 58, 59, 60, 61, 62] (by decide +kernel) (by decide +kernel)
set_option maxRecDepth 20000 in
theorem gX1_putBehind_X1_place : GoodIn wsX1_putBehind (wsV RX1 85 RX1 yX1_place wsX1_place) := goodIn_app (goodIn_of _ (by decide +kernel)) ggX1_putBehind_X1_place
set_option maxRecDepth 20000 in
theorem ggX1_putBehind_X1_comes : GoodIn wsX1_putBehind wsX1_comes := goodIn_r _ [22, 7, 8, 23, 24, 25, 5, 26, 13, 18, 27, 28, 29, 30, 31, 32, 33, 34, 35, 36, 37, 38, 39, 40, 41, 42, 43, 44, 45, 46, 47, 48, 49, 50, 51, 52, 53, 54, 55, 56, 57, 58, 59, 60, 61, 62] (by decide +kernel) (by decide +kernel)
set_option maxRecDepth 20000 in
theorem gX1_putBehind_X1_comes : GoodIn wsX1_putBehind (wsV RX1 78 RX1 yX1_comes wsX1_comes) := goodIn_app (goodIn_of _ (by decide +kernel)) ggX1_putBehind_X1_comes
theorem dX1_putBehind_0 : decode cX1_putBehind 0 = .ok (.aload_n 0, 1) := by decide +kernel
theorem dX1_putBehind_1 : decode cX1_putBehind 1 = .ok (.aload_n 0, 1) := by decide +kernel
theorem dX1_putBehind_2 : decode cX1_putBehind 2 = .ok (.iload_n 1, 1) := by decide +kernel
theorem dX1_putBehind_3 : decode cX1_putBehind 3 = .ok (.invokevirtual 81, 3) := by decide +kernel
theorem dX1_putBehind_6 : decode cX1_putBehind 6 = .ok (.ifCond .ne 7, 3) := by decide +kernel
theorem dX1_putBehind_9 : decode cX1_putBehind 9 = .ok (.iconst 1, 1) := by decide +kernel
theorem dX1_putBehind_10 : decode cX1_putBehind 10 = .ok (.goto 15, 3) := by decide +kernel
theorem dX1_putBehind_13 : decode cX1_putBehind 13 = .ok (.aload_n 0, 1) := by decide +kernel
theorem dX1_putBehind_14 : decode cX1_putBehind 14 = .ok (.invokevirtual 74, 3) := by decide +kernel
theorem dX1_putBehind_17 : decode cX1_putBehind 17 = .ok (.ifCond .eq 7, 3) := by decide +kernel
theorem dX1_putBehind_20 : decode cX1_putBehind 20 = .ok (.iconst 2, 1) := by decide +kernel
theorem dX1_putBehind_21 : decode cX1_putBehind 21 = .ok (.goto 4, 3) := by decide +kernel
theorem dX1_putBehind_24 : decode cX1_putBehind 24 = .ok (.iconst 0, 1) := by decide +kernel
theorem dX1_putBehind_25 : decode cX1_putBehind 25 = .ok (.putfield 29, 3) := by decide +kernel
theorem dX1_putBehind_28 : decode cX1_putBehind 28 = .ok (.aload_n 0, 1) := by decide +kernel
theorem dX1_putBehind_29 : decode cX1_putBehind 29 = .ok (.getfield 29, 3) := by decide +kernel
theorem dX1_putBehind_32 : decode cX1_putBehind 32 = .ok (.ifCond .le 7, 3) := by decide +kernel
theorem dX1_putBehind_35 : decode cX1_putBehind 35 = .ok (.iconst 0, 1) := by decide +kernel
theorem dX1_putBehind_36 : decode cX1_putBehind 36 = .ok (.goto 14, 3) := by decide +kernel
theorem dX1_putBehind_39 : decode cX1_putBehind 39 = .ok (.aload_n 0, 1) := by decide +kernel
theorem dX1_putBehind_40 : decode cX1_putBehind 40 = .ok (.aload_n 0, 1) := by decide +kernel
theorem dX1_putBehind_41 : decode cX1_putBehind 41 = .ok (.iload_n 1, 1) := by decide +kernel
theorem dX1_putBehind_42 : decode cX1_putBehind 42 = .ok (.invokevirtual 85, 3) := by decide +kernel
theorem dX1_putBehind_45 : decode cX1_putBehind 45 = .ok (.iconst 1, 1) := by decide +kernel
theorem dX1_putBehind_46 : decode cX1_putBehind 46 = .ok (.iadd, 1) := by decide +kernel
theorem dX1_putBehind_47 : decode cX1_putBehind 47 = .ok (.invokevirtual 78, 3) := by decide +kernel
theorem dX1_putBehind_50 : decode cX1_putBehind 50 = .ok (.ireturn, 1) := by decide +kernel
set_option maxRecDepth 20000 in
theorem ggX1_lifts_X1_place : GoodIn wsX1_lifts wsX1_place := goodIn_r _ [7, 2, 8, 9, 10, 11, 12, 13, 14, 15, 16, 17] (by decide +kernel) (by decide +kernel)
set_option maxRecDepth 20000 in
theorem gX1_lifts_X1_place : GoodIn wsX1_lifts (wsV RX1 85 RX1 yX1_place wsX1_place) := goodIn_app (goodIn_of _ (by decide +kernel)) ggX1_lifts_X1_place
theorem dX1_lifts_0 : decode cX1_lifts 0 = .ok (.aload_n 0, 1) := by decide +kernel
theorem dX1_lifts_1 : decode cX1_lifts 1 = .ok (.iload_n 1, 1) := by decide +kernel
theorem dX1_lifts_2 : decode cX1_lifts 2 = .ok (.invokevirtual 85, 3) := by decide +kernel
theorem dX1_lifts_5 : decode cX1_lifts 5 = .ok (.istore_n 2, 1) := by decide +kernel
theorem dX1_lifts_6 : decode cX1_lifts 6 = .ok (.iload_n 2, 1) := by decide +kernel
theorem dX1_lifts_7 : decode cX1_lifts 7 = .ok (.aload_n 0, 1) := by decide +kernel
theorem dX1_lifts_8 : decode cX1_lifts 8 = .ok (.getfield 36, 3) := by decide +kernel
theorem dX1_lifts_11 : decode cX1_lifts 11 = .ok (.iconst 1, 1) := by decide +kernel
theorem dX1_lifts_12 : decode cX1_lifts 12 = .ok (.isub, 1) := by decide +kernel
theorem dX1_lifts_13 : decode cX1_lifts 13 = .ok (.if_icmp .ge 23, 3) := by decide +kernel
theorem dX1_lifts_16 : decode cX1_lifts 16 = .ok (.aload_n 0, 1) := by decide +kernel
theorem dX1_lifts_17 : decode cX1_lifts 17 = .ok (.getfield 7, 3) := by decide +kernel
theorem dX1_lifts_20 : decode cX1_lifts 20 = .ok (.iload_n 2, 1) := by decide +kernel
theorem dX1_lifts_21 : decode cX1_lifts 21 = .ok (.aload_n 0, 1) := by decide +kernel
theorem dX1_lifts_22 : decode cX1_lifts 22 = .ok (.getfield 7, 3) := by decide +kernel
theorem dX1_lifts_25 : decode cX1_lifts 25 = .ok (.iload_n 2, 1) := by decide +kernel
theorem dX1_lifts_26 : decode cX1_lifts 26 = .ok (.iconst 1, 1) := by decide +kernel
theorem dX1_lifts_27 : decode cX1_lifts 27 = .ok (.iadd, 1) := by decide +kernel
theorem dX1_lifts_28 : decode cX1_lifts 28 = .ok (.iaload, 1) := by decide +kernel
theorem dX1_lifts_29 : decode cX1_lifts 29 = .ok (.iastore, 1) := by decide +kernel
theorem dX1_lifts_30 : decode cX1_lifts 30 = .ok (.iinc 2 1, 3) := by decide +kernel
theorem dX1_lifts_33 : decode cX1_lifts 33 = .ok (.goto (-27), 3) := by decide +kernel
theorem dX1_lifts_36 : decode cX1_lifts 36 = .ok (.aload_n 0, 1) := by decide +kernel
theorem dX1_lifts_37 : decode cX1_lifts 37 = .ok (.dup, 1) := by decide +kernel
theorem dX1_lifts_38 : decode cX1_lifts 38 = .ok (.getfield 36, 3) := by decide +kernel
theorem dX1_lifts_41 : decode cX1_lifts 41 = .ok (.iconst 1, 1) := by decide +kernel
theorem dX1_lifts_42 : decode cX1_lifts 42 = .ok (.isub, 1) := by decide +kernel
theorem dX1_lifts_43 : decode cX1_lifts 43 = .ok (.putfield 36, 3) := by decide +kernel
theorem dX1_lifts_46 : decode cX1_lifts 46 = .ok (.return_, 1) := by decide +kernel
set_option maxRecDepth 20000 in
theorem ggX1_takeOut_X1_known : GoodIn wsX1_takeOut wsX1_known := goodIn_r _ [9, 10, 3, 24, 25, 26, 27, 28, 29, 30, 31, 32, 33] (by decide +kernel) (by decide +kernel)
set_option maxRecDepth 20000 in
theorem gX1_takeOut_X1_known : GoodIn wsX1_takeOut (wsV RX1 81 RX1 yX1_known wsX1_known) := goodIn_app (goodIn_of _ (by decide +kernel)) ggX1_takeOut_X1_known
set_option maxRecDepth 20000 in
theorem ggX1_takeOut_X1_behind : GoodIn wsX1_takeOut wsX1_behind := goodIn_r _ [14, 4, 15, 16, 17, 18, 8, 19, 24, 25, 26, 27, 28, 29, 30, 31, 32, 33] (by decide +kernel) (by decide +kernel)
set_option maxRecDepth 20000 in
theorem gX1_takeOut_X1_behind : GoodIn wsX1_takeOut (wsV RX1 88 RX1 yX1_behind wsX1_behind) := goodIn_app (goodIn_of _ (by decide +kernel)) ggX1_takeOut_X1_behind
set_option maxRecDepth 20000 in
theorem ggX1_takeOut_X1_lifts : GoodIn wsX1_takeOut wsX1_lifts := goodIn_r _ [23, 4, 15, 16, 17, 18, 8, 19, 24, 25, 26, 27, 28, 29, 30, 31, 32, 33] (by decide +kernel) (by decide +kernel)
set_option maxRecDepth 20000 in
theorem gX1_takeOut_X1_lifts : GoodIn wsX1_takeOut (wsV RX1 91 RX1 yX1_lifts wsX1_lifts) := goodIn_app (goodIn_of _ (by decide +kernel)) ggX1_takeOut_X1_lifts
theorem dX1_takeOut_0 : decode cX1_takeOut 0 = .ok (.aload_n 0, 1) := by decide +kernel
theorem dX1_takeOut_1 : decode cX1_takeOut 1 = .ok (.aload_n 0, 1) := by decide +kernel
theorem dX1_takeOut_2 : decode cX1_takeOut 2 = .ok (.iload_n 1, 1) := by decide +kernel
theorem dX1_takeOut_3 : decode cX1_takeOut 3 = .ok (.invokevirtual 81, 3) := by decide +kernel
theorem dX1_takeOut_6 : decode cX1_takeOut 6 = .ok (.ifCond .eq 7, 3) := by decide +kernel
theorem dX1_takeOut_9 : decode cX1_takeOut 9 = .ok (.iconst 0, 1) := by decide +kernel
theorem dX1_takeOut_10 : decode cX1_takeOut 10 = .ok (.goto 4, 3) := by decide +kernel
theorem dX1_takeOut_13 : decode cX1_takeOut 13 = .ok (.iconst 1, 1) := by decide +kernel
theorem dX1_takeOut_14 : decode cX1_takeOut 14 = .ok (.putfield 29, 3) := by decide +kernel
theorem dX1_takeOut_17 : decode cX1_takeOut 17 = .ok (.aload_n 0, 1) := by decide +kernel
theorem dX1_takeOut_18 : decode cX1_takeOut 18 = .ok (.getfield 29, 3) := by decide +kernel
theorem dX1_takeOut_21 : decode cX1_takeOut 21 = .ok (.ifCond .le 5, 3) := by decide +kernel
theorem dX1_takeOut_24 : decode cX1_takeOut 24 = .ok (.iconst 0, 1) := by decide +kernel
theorem dX1_takeOut_25 : decode cX1_takeOut 25 = .ok (.ireturn, 1) := by decide +kernel
theorem dX1_takeOut_26 : decode cX1_takeOut 26 = .ok (.aload_n 0, 1) := by decide +kernel
theorem dX1_takeOut_27 : decode cX1_takeOut 27 = .ok (.iload_n 1, 1) := by decide +kernel
theorem dX1_takeOut_28 : decode cX1_takeOut 28 = .ok (.invokevirtual 88, 3) := by decide +kernel
theorem dX1_takeOut_31 : decode cX1_takeOut 31 = .ok (.istore_n 2, 1) := by decide +kernel
theorem dX1_takeOut_32 : decode cX1_takeOut 32 = .ok (.iconst 0, 1) := by decide +kernel
theorem dX1_takeOut_33 : decode cX1_takeOut 33 = .ok (.istore_n 3, 1) := by decide +kernel
theorem dX1_takeOut_34 : decode cX1_takeOut 34 = .ok (.iload_n 3, 1) := by decide +kernel
theorem dX1_takeOut_35 : decode cX1_takeOut 35 = .ok (.iconst 4, 1) := by decide +kernel
theorem dX1_takeOut_36 : decode cX1_takeOut 36 = .ok (.if_icmp .ge 35, 3) := by decide +kernel
theorem dX1_takeOut_39 : decode cX1_takeOut 39 = .ok (.aload_n 0, 1) := by decide +kernel
theorem dX1_takeOut_40 : decode cX1_takeOut 40 = .ok (.getfield 23, 3) := by decide +kernel
theorem dX1_takeOut_43 : decode cX1_takeOut 43 = .ok (.iload_n 3, 1) := by decide +kernel
theorem dX1_takeOut_44 : decode cX1_takeOut 44 = .ok (.aload_n 0, 1) := by decide +kernel
theorem dX1_takeOut_45 : decode cX1_takeOut 45 = .ok (.getfield 23, 3) := by decide +kernel
theorem dX1_takeOut_48 : decode cX1_takeOut 48 = .ok (.iload_n 3, 1) := by decide +kernel
theorem dX1_takeOut_49 : decode cX1_takeOut 49 = .ok (.iaload, 1) := by decide +kernel
theorem dX1_takeOut_50 : decode cX1_takeOut 50 = .ok (.iload_n 1, 1) := by decide +kernel
theorem dX1_takeOut_51 : decode cX1_takeOut 51 = .ok (.if_icmp .ne 7, 3) := by decide +kernel
theorem dX1_takeOut_54 : decode cX1_takeOut 54 = .ok (.iload_n 2, 1) := by decide +kernel
theorem dX1_takeOut_55 : decode cX1_takeOut 55 = .ok (.goto 9, 3) := by decide +kernel
theorem dX1_takeOut_58 : decode cX1_takeOut 58 = .ok (.aload_n 0, 1) := by decide +kernel
theorem dX1_takeOut_59 : decode cX1_takeOut 59 = .ok (.getfield 23, 3) := by decide +kernel
theorem dX1_takeOut_62 : decode cX1_takeOut 62 = .ok (.iload_n 3, 1) := by decide +kernel
theorem dX1_takeOut_63 : decode cX1_takeOut 63 = .ok (.iaload, 1) := by decide +kernel
theorem dX1_takeOut_64 : decode cX1_takeOut 64 = .ok (.iastore, 1) := by decide +kernel
theorem dX1_takeOut_65 : decode cX1_takeOut 65 = .ok (.iinc 3 1, 3) := by decide +kernel
theorem dX1_takeOut_68 : decode cX1_takeOut 68 = .ok (.goto (-34), 3) := by decide +kernel
theorem dX1_takeOut_71 : decode cX1_takeOut 71 = .ok (.aload_n 0, 1) := by decide +kernel
theorem dX1_takeOut_72 : decode cX1_takeOut 72 = .ok (.iload_n 1, 1) := by decide +kernel
theorem dX1_takeOut_73 : decode cX1_takeOut 73 = .ok (.invokevirtual 91, 3) := by decide +kernel
theorem dX1_takeOut_76 : decode cX1_takeOut 76 = .ok (.aload_n 0, 1) := by decide +kernel
theorem dX1_takeOut_77 : decode cX1_takeOut 77 = .ok (.getfield 16, 3) := by decide +kernel
theorem dX1_takeOut_80 : decode cX1_takeOut 80 = .ok (.iload_n 1, 1) := by decide +kernel
theorem dX1_takeOut_81 : decode cX1_takeOut 81 = .ok (.iconst 0, 1) := by decide +kernel
theorem dX1_takeOut_82 : decode cX1_takeOut 82 = .ok (.bastore, 1) := by decide +kernel
theorem dX1_takeOut_83 : decode cX1_takeOut 83 = .ok (.aload_n 0, 1) := by decide +kernel
theorem dX1_takeOut_84 : decode cX1_takeOut 84 = .ok (.getfield 36, 3) := by decide +kernel
theorem dX1_takeOut_87 : decode cX1_takeOut 87 = .ok (.ireturn, 1) := by decide +kernel
set_option maxRecDepth 20000 in
theorem ggX1_carry_X1_known : GoodIn wsX1_carry wsX1_known := goodIn_r _ [7, 8, 9, 49, 50, 51, 52, 53, 54, 55, 56, 57, 58] (by decide +kernel) (by decide +kernel)
set_option maxRecDepth 20000 in
theorem gX1_carry_X1_known : GoodIn wsX1_carry (wsV RX1 81 RX1 yX1_known wsX1_known) := goodIn_app (goodIn_of _ (by decide +kernel)) ggX1_carry_X1_known
set_option maxRecDepth 20000 in
theorem ggX1_carry_X1_lifts : GoodIn wsX1_carry wsX1_lifts := goodIn_r _ [13, 14, 15, 16, 17, 18, 6, 19, 49, 50, 51, 52, 53, 54, 55, 56, 57, 58] (by decide +kernel) (by decide +kernel)
set_option maxRecDepth 20000 in
theorem gX1_carry_X1_lifts : GoodIn wsX1_carry (wsV RX1 91 RX1 yX1_lifts wsX1_lifts) := goodIn_app (goodIn_of _ (by decide +kernel)) ggX1_carry_X1_lifts
set_option maxRecDepth 20000 in
theorem ggX1_carry_X1_place : GoodIn wsX1_carry wsX1_place := goodIn_r _ [19, 15, 49, 50, 51, 52, 53, 54, 55, 56, 57, 58] (by decide +kernel) (by decide +kernel)
set_option maxRecDepth 20000 in
theorem gX1_carry_X1_place : GoodIn wsX1_carry (wsV RX1 85 RX1 yX1_place wsX1_place) := goodIn_app (goodIn_of _ (by decide +kernel)) ggX1_carry_X1_place
set_option maxRecDepth 20000 in
theorem ggX1_carry_X1_puts : GoodIn wsX1_carry wsX1_puts := goodIn_r _ [23, 14, 15, 2, 24, 25, 26, 6, 27, 28, 29, 30, 31, 32, 33, 34, 35, 36, 37, 38, 39, 40, 41, 42, 43, 44, 45, 46, 47, 48, 49, 50, 51, 52, 53, 54, 55, 56, 57, 58] (by decide +kernel) (by decide +kernel)
set_option maxRecDepth 20000 in
theorem gX1_carry_X1_puts : GoodIn wsX1_carry (wsV RX1 70 RX1 yX1_puts wsX1_puts) := goodIn_app (goodIn_of _ (by decide +kernel)) ggX1_carry_X1_puts
theorem dX1_carry_0 : decode cX1_carry 0 = .ok (.aload_n 0, 1) := by decide +kernel
theorem dX1_carry_1 : decode cX1_carry 1 = .ok (.aload_n 0, 1) := by decide +kernel
theorem dX1_carry_2 : decode cX1_carry 2 = .ok (.iload_n 1, 1) := by decide +kernel
theorem dX1_carry_3 : decode cX1_carry 3 = .ok (.invokevirtual 81, 3) := by decide +kernel
theorem dX1_carry_6 : decode cX1_carry 6 = .ok (.ifCond .eq 11, 3) := by decide +kernel
theorem dX1_carry_9 : decode cX1_carry 9 = .ok (.aload_n 0, 1) := by decide +kernel
theorem dX1_carry_10 : decode cX1_carry 10 = .ok (.iload_n 2, 1) := by decide +kernel
theorem dX1_carry_11 : decode cX1_carry 11 = .ok (.invokevirtual 81, 3) := by decide +kernel
theorem dX1_carry_14 : decode cX1_carry 14 = .ok (.ifCond .ne 7, 3) := by decide +kernel
theorem dX1_carry_17 : decode cX1_carry 17 = .ok (.iconst 1, 1) := by decide +kernel
theorem dX1_carry_18 : decode cX1_carry 18 = .ok (.goto 13, 3) := by decide +kernel
theorem dX1_carry_21 : decode cX1_carry 21 = .ok (.iload_n 1, 1) := by decide +kernel
theorem dX1_carry_22 : decode cX1_carry 22 = .ok (.iload_n 2, 1) := by decide +kernel
theorem dX1_carry_23 : decode cX1_carry 23 = .ok (.if_icmp .ne 7, 3) := by decide +kernel
theorem dX1_carry_26 : decode cX1_carry 26 = .ok (.iconst 2, 1) := by decide +kernel
theorem dX1_carry_27 : decode cX1_carry 27 = .ok (.goto 4, 3) := by decide +kernel
theorem dX1_carry_30 : decode cX1_carry 30 = .ok (.iconst 0, 1) := by decide +kernel
theorem dX1_carry_31 : decode cX1_carry 31 = .ok (.putfield 29, 3) := by decide +kernel
theorem dX1_carry_34 : decode cX1_carry 34 = .ok (.aload_n 0, 1) := by decide +kernel
theorem dX1_carry_35 : decode cX1_carry 35 = .ok (.getfield 29, 3) := by decide +kernel
theorem dX1_carry_38 : decode cX1_carry 38 = .ok (.ifCond .le 5, 3) := by decide +kernel
theorem dX1_carry_41 : decode cX1_carry 41 = .ok (.iconst 0, 1) := by decide +kernel
theorem dX1_carry_42 : decode cX1_carry 42 = .ok (.ireturn, 1) := by decide +kernel
theorem dX1_carry_43 : decode cX1_carry 43 = .ok (.aload_n 0, 1) := by decide +kernel
theorem dX1_carry_44 : decode cX1_carry 44 = .ok (.iload_n 1, 1) := by decide +kernel
theorem dX1_carry_45 : decode cX1_carry 45 = .ok (.invokevirtual 91, 3) := by decide +kernel
theorem dX1_carry_48 : decode cX1_carry 48 = .ok (.aload_n 0, 1) := by decide +kernel
theorem dX1_carry_49 : decode cX1_carry 49 = .ok (.iload_n 1, 1) := by decide +kernel
theorem dX1_carry_50 : decode cX1_carry 50 = .ok (.aload_n 0, 1) := by decide +kernel
theorem dX1_carry_51 : decode cX1_carry 51 = .ok (.iload_n 2, 1) := by decide +kernel
theorem dX1_carry_52 : decode cX1_carry 52 = .ok (.invokevirtual 85, 3) := by decide +kernel
theorem dX1_carry_55 : decode cX1_carry 55 = .ok (.iconst 1, 1) := by decide +kernel
theorem dX1_carry_56 : decode cX1_carry 56 = .ok (.iadd, 1) := by decide +kernel
theorem dX1_carry_57 : decode cX1_carry 57 = .ok (.invokevirtual 70, 3) := by decide +kernel
theorem dX1_carry_60 : decode cX1_carry 60 = .ok (.aload_n 0, 1) := by decide +kernel
theorem dX1_carry_61 : decode cX1_carry 61 = .ok (.getfield 13, 3) := by decide +kernel
theorem dX1_carry_64 : decode cX1_carry 64 = .ok (.iload_n 1, 1) := by decide +kernel
theorem dX1_carry_65 : decode cX1_carry 65 = .ok (.iaload, 1) := by decide +kernel
theorem dX1_carry_66 : decode cX1_carry 66 = .ok (.ireturn, 1) := by decide +kernel
theorem dX1_size_0 : decode cX1_size 0 = .ok (.aload_n 0, 1) := by decide +kernel
theorem dX1_size_1 : decode cX1_size 1 = .ok (.iconst 0, 1) := by decide +kernel
theorem dX1_size_2 : decode cX1_size 2 = .ok (.putfield 29, 3) := by decide +kernel
theorem dX1_size_5 : decode cX1_size 5 = .ok (.aload_n 0, 1) := by decide +kernel
theorem dX1_size_6 : decode cX1_size 6 = .ok (.getfield 36, 3) := by decide +kernel
theorem dX1_size_9 : decode cX1_size 9 = .ok (.ireturn, 1) := by decide +kernel
theorem dX1_first_0 : decode cX1_first 0 = .ok (.aload_n 0, 1) := by decide +kernel
theorem dX1_first_1 : decode cX1_first 1 = .ok (.iconst 0, 1) := by decide +kernel
theorem dX1_first_2 : decode cX1_first 2 = .ok (.putfield 29, 3) := by decide +kernel
theorem dX1_first_5 : decode cX1_first 5 = .ok (.aload_n 0, 1) := by decide +kernel
theorem dX1_first_6 : decode cX1_first 6 = .ok (.getfield 36, 3) := by decide +kernel
theorem dX1_first_9 : decode cX1_first 9 = .ok (.ifCond .ne 7, 3) := by decide +kernel
theorem dX1_first_12 : decode cX1_first 12 = .ok (.iconst (-1), 1) := by decide +kernel
theorem dX1_first_13 : decode cX1_first 13 = .ok (.goto 9, 3) := by decide +kernel
theorem dX1_first_16 : decode cX1_first 16 = .ok (.aload_n 0, 1) := by decide +kernel
theorem dX1_first_17 : decode cX1_first 17 = .ok (.getfield 7, 3) := by decide +kernel
theorem dX1_first_20 : decode cX1_first 20 = .ok (.iconst 0, 1) := by decide +kernel
theorem dX1_first_21 : decode cX1_first 21 = .ok (.iaload, 1) := by decide +kernel
theorem dX1_first_22 : decode cX1_first 22 = .ok (.ireturn, 1) := by decide +kernel
set_option maxRecDepth 20000 in
theorem ggX1_behind_X1_place : GoodIn wsX1_behind wsX1_place := goodIn_r _ [7, 2, 8, 9, 10, 11, 12, 13, 14, 15, 16, 17] (by decide +kernel) (by decide +kernel)
set_option maxRecDepth 20000 in
theorem gX1_behind_X1_place : GoodIn wsX1_behind (wsV RX1 85 RX1 yX1_place wsX1_place) := goodIn_app (goodIn_of _ (by decide +kernel)) ggX1_behind_X1_place
theorem dX1_behind_0 : decode cX1_behind 0 = .ok (.aload_n 0, 1) := by decide +kernel
theorem dX1_behind_1 : decode cX1_behind 1 = .ok (.iload_n 1, 1) := by decide +kernel
theorem dX1_behind_2 : decode cX1_behind 2 = .ok (.invokevirtual 85, 3) := by decide +kernel
theorem dX1_behind_5 : decode cX1_behind 5 = .ok (.istore_n 2, 1) := by decide +kernel
theorem dX1_behind_6 : decode cX1_behind 6 = .ok (.iload_n 2, 1) := by decide +kernel
theorem dX1_behind_7 : decode cX1_behind 7 = .ok (.aload_n 0, 1) := by decide +kernel
theorem dX1_behind_8 : decode cX1_behind 8 = .ok (.getfield 36, 3) := by decide +kernel
theorem dX1_behind_11 : decode cX1_behind 11 = .ok (.iconst 1, 1) := by decide +kernel
theorem dX1_behind_12 : decode cX1_behind 12 = .ok (.isub, 1) := by decide +kernel
theorem dX1_behind_13 : decode cX1_behind 13 = .ok (.if_icmp .ne 7, 3) := by decide +kernel
theorem dX1_behind_16 : decode cX1_behind 16 = .ok (.iconst (-1), 1) := by decide +kernel
theorem dX1_behind_17 : decode cX1_behind 17 = .ok (.goto 11, 3) := by decide +kernel
theorem dX1_behind_20 : decode cX1_behind 20 = .ok (.aload_n 0, 1) := by decide +kernel
theorem dX1_behind_21 : decode cX1_behind 21 = .ok (.getfield 7, 3) := by decide +kernel
theorem dX1_behind_24 : decode cX1_behind 24 = .ok (.iload_n 2, 1) := by decide +kernel
theorem dX1_behind_25 : decode cX1_behind 25 = .ok (.iconst 1, 1) := by decide +kernel
theorem dX1_behind_26 : decode cX1_behind 26 = .ok (.iadd, 1) := by decide +kernel
theorem dX1_behind_27 : decode cX1_behind 27 = .ok (.iaload, 1) := by decide +kernel
theorem dX1_behind_28 : decode cX1_behind 28 = .ok (.ireturn, 1) := by decide +kernel
set_option maxRecDepth 20000 in
theorem ggX1_next_X1_known : GoodIn wsX1_next wsX1_known := goodIn_r _ [6, 7, 8, 19, 20, 21, 22, 23, 24, 25, 26, 27, 28] (by decide +kernel) (by decide +kernel)
set_option maxRecDepth 20000 in
theorem gX1_next_X1_known : GoodIn wsX1_next (wsV RX1 81 RX1 yX1_known wsX1_known) := goodIn_app (goodIn_of _ (by decide +kernel)) ggX1_next_X1_known
set_option maxRecDepth 20000 in
theorem ggX1_next_X1_behind : GoodIn wsX1_next wsX1_behind := goodIn_r _ [12, 13, 14, 15, 16, 17, 5, 18, 19, 20, 21, 22, 23, 24, 25, 26, 27, 28] (by decide +kernel) (by decide +kernel)
set_option maxRecDepth 20000 in
theorem gX1_next_X1_behind : GoodIn wsX1_next (wsV RX1 88 RX1 yX1_behind wsX1_behind) := goodIn_app (goodIn_of _ (by decide +kernel)) ggX1_next_X1_behind
theorem dX1_next_0 : decode cX1_next 0 = .ok (.aload_n 0, 1) := by decide +kernel
theorem dX1_next_1 : decode cX1_next 1 = .ok (.aload_n 0, 1) := by decide +kernel
theorem dX1_next_2 : decode cX1_next 2 = .ok (.iload_n 1, 1) := by decide +kernel
theorem dX1_next_3 : decode cX1_next 3 = .ok (.invokevirtual 81, 3) := by decide +kernel
theorem dX1_next_6 : decode cX1_next 6 = .ok (.ifCond .eq 7, 3) := by decide +kernel
theorem dX1_next_9 : decode cX1_next 9 = .ok (.iconst 0, 1) := by decide +kernel
theorem dX1_next_10 : decode cX1_next 10 = .ok (.goto 4, 3) := by decide +kernel
theorem dX1_next_13 : decode cX1_next 13 = .ok (.iconst 1, 1) := by decide +kernel
theorem dX1_next_14 : decode cX1_next 14 = .ok (.putfield 29, 3) := by decide +kernel
theorem dX1_next_17 : decode cX1_next 17 = .ok (.aload_n 0, 1) := by decide +kernel
theorem dX1_next_18 : decode cX1_next 18 = .ok (.getfield 29, 3) := by decide +kernel
theorem dX1_next_21 : decode cX1_next 21 = .ok (.ifCond .le 7, 3) := by decide +kernel
theorem dX1_next_24 : decode cX1_next 24 = .ok (.iconst 0, 1) := by decide +kernel
theorem dX1_next_25 : decode cX1_next 25 = .ok (.goto 8, 3) := by decide +kernel
theorem dX1_next_28 : decode cX1_next 28 = .ok (.aload_n 0, 1) := by decide +kernel
theorem dX1_next_29 : decode cX1_next 29 = .ok (.iload_n 1, 1) := by decide +kernel
theorem dX1_next_30 : decode cX1_next 30 = .ok (.invokevirtual 88, 3) := by decide +kernel
theorem dX1_next_33 : decode cX1_next 33 = .ok (.ireturn, 1) := by decide +kernel
set_option maxRecDepth 20000 in
theorem ggX1_previous_X1_known : GoodIn wsX1_previous wsX1_known := goodIn_r _ [7, 8, 9, 14, 15, 16, 17, 18, 19, 20, 21, 22, 23] (by decide +kernel) (by decide +kernel)
set_option maxRecDepth 20000 in
theorem gX1_previous_X1_known : GoodIn wsX1_previous (wsV RX1 81 RX1 yX1_known wsX1_known) := goodIn_app (goodIn_of _ (by decide +kernel)) ggX1_previous_X1_known
set_option maxRecDepth 20000 in
theorem ggX1_previous_X1_place : GoodIn wsX1_previous wsX1_place := goodIn_r _ [13, 2, 14, 15, 16, 17, 18, 19, 20, 21, 22, 23] (by decide +kernel) (by decide +kernel)
set_option maxRecDepth 20000 in
theorem gX1_previous_X1_place : GoodIn wsX1_previous (wsV RX1 85 RX1 yX1_place wsX1_place) := goodIn_app (goodIn_of _ (by decide +kernel)) ggX1_previous_X1_place
theorem dX1_previous_0 : decode cX1_previous 0 = .ok (.aload_n 0, 1) := by decide +kernel
theorem dX1_previous_1 : decode cX1_previous 1 = .ok (.aload_n 0, 1) := by decide +kernel
theorem dX1_previous_2 : decode cX1_previous 2 = .ok (.iload_n 1, 1) := by decide +kernel
theorem dX1_previous_3 : decode cX1_previous 3 = .ok (.invokevirtual 81, 3) := by decide +kernel
theorem dX1_previous_6 : decode cX1_previous 6 = .ok (.ifCond .eq 7, 3) := by decide +kernel
theorem dX1_previous_9 : decode cX1_previous 9 = .ok (.iconst 0, 1) := by decide +kernel
theorem dX1_previous_10 : decode cX1_previous 10 = .ok (.goto 4, 3) := by decide +kernel
theorem dX1_previous_13 : decode cX1_previous 13 = .ok (.iconst 1, 1) := by decide +kernel
theorem dX1_previous_14 : decode cX1_previous 14 = .ok (.putfield 29, 3) := by decide +kernel
theorem dX1_previous_17 : decode cX1_previous 17 = .ok (.aload_n 0, 1) := by decide +kernel
theorem dX1_previous_18 : decode cX1_previous 18 = .ok (.getfield 29, 3) := by decide +kernel
theorem dX1_previous_21 : decode cX1_previous 21 = .ok (.ifCond .le 5, 3) := by decide +kernel
theorem dX1_previous_24 : decode cX1_previous 24 = .ok (.iconst 0, 1) := by decide +kernel
theorem dX1_previous_25 : decode cX1_previous 25 = .ok (.ireturn, 1) := by decide +kernel
theorem dX1_previous_26 : decode cX1_previous 26 = .ok (.aload_n 0, 1) := by decide +kernel
theorem dX1_previous_27 : decode cX1_previous 27 = .ok (.iload_n 1, 1) := by decide +kernel
theorem dX1_previous_28 : decode cX1_previous 28 = .ok (.invokevirtual 85, 3) := by decide +kernel
theorem dX1_previous_31 : decode cX1_previous 31 = .ok (.istore_n 2, 1) := by decide +kernel
theorem dX1_previous_32 : decode cX1_previous 32 = .ok (.iload_n 2, 1) := by decide +kernel
theorem dX1_previous_33 : decode cX1_previous 33 = .ok (.ifCond .ne 7, 3) := by decide +kernel
theorem dX1_previous_36 : decode cX1_previous 36 = .ok (.iconst (-1), 1) := by decide +kernel
theorem dX1_previous_37 : decode cX1_previous 37 = .ok (.goto 11, 3) := by decide +kernel
theorem dX1_previous_40 : decode cX1_previous 40 = .ok (.aload_n 0, 1) := by decide +kernel
theorem dX1_previous_41 : decode cX1_previous 41 = .ok (.getfield 7, 3) := by decide +kernel
theorem dX1_previous_44 : decode cX1_previous 44 = .ok (.iload_n 2, 1) := by decide +kernel
theorem dX1_previous_45 : decode cX1_previous 45 = .ok (.iconst 1, 1) := by decide +kernel
theorem dX1_previous_46 : decode cX1_previous 46 = .ok (.isub, 1) := by decide +kernel
theorem dX1_previous_47 : decode cX1_previous 47 = .ok (.iaload, 1) := by decide +kernel
theorem dX1_previous_48 : decode cX1_previous 48 = .ok (.ireturn, 1) := by decide +kernel
set_option maxRecDepth 20000 in
theorem ggX1_has_X1_known : GoodIn wsX1_has wsX1_known := goodIn_r _ [6, 7, 8, 9, 10, 11, 12, 13, 14, 15, 16, 17, 18] (by decide +kernel) (by decide +kernel)
set_option maxRecDepth 20000 in
theorem gX1_has_X1_known : GoodIn wsX1_has (wsV RX1 81 RX1 yX1_known wsX1_known) := goodIn_app (goodIn_of _ (by decide +kernel)) ggX1_has_X1_known
theorem dX1_has_0 : decode cX1_has 0 = .ok (.aload_n 0, 1) := by decide +kernel
theorem dX1_has_1 : decode cX1_has 1 = .ok (.iconst 0, 1) := by decide +kernel
theorem dX1_has_2 : decode cX1_has 2 = .ok (.putfield 29, 3) := by decide +kernel
theorem dX1_has_5 : decode cX1_has 5 = .ok (.aload_n 0, 1) := by decide +kernel
theorem dX1_has_6 : decode cX1_has 6 = .ok (.iload_n 1, 1) := by decide +kernel
theorem dX1_has_7 : decode cX1_has 7 = .ok (.invokevirtual 81, 3) := by decide +kernel
theorem dX1_has_10 : decode cX1_has 10 = .ok (.ireturn, 1) := by decide +kernel
set_option maxRecDepth 20000 in
theorem ggX1_mark_X1_known : GoodIn wsX1_mark wsX1_known := goodIn_r _ [7, 8, 9, 10, 11, 12, 13, 14, 15, 16, 17, 18, 19] (by decide +kernel) (by decide +kernel)
set_option maxRecDepth 20000 in
theorem gX1_mark_X1_known : GoodIn wsX1_mark (wsV RX1 81 RX1 yX1_known wsX1_known) := goodIn_app (goodIn_of _ (by decide +kernel)) ggX1_mark_X1_known
theorem dX1_mark_0 : decode cX1_mark 0 = .ok (.aload_n 0, 1) := by decide +kernel
theorem dX1_mark_1 : decode cX1_mark 1 = .ok (.aload_n 0, 1) := by decide +kernel
theorem dX1_mark_2 : decode cX1_mark 2 = .ok (.iload_n 1, 1) := by decide +kernel
theorem dX1_mark_3 : decode cX1_mark 3 = .ok (.invokevirtual 81, 3) := by decide +kernel
theorem dX1_mark_6 : decode cX1_mark 6 = .ok (.ifCond .eq 7, 3) := by decide +kernel
theorem dX1_mark_9 : decode cX1_mark 9 = .ok (.iconst 0, 1) := by decide +kernel
theorem dX1_mark_10 : decode cX1_mark 10 = .ok (.goto 4, 3) := by decide +kernel
theorem dX1_mark_13 : decode cX1_mark 13 = .ok (.iconst 1, 1) := by decide +kernel
theorem dX1_mark_14 : decode cX1_mark 14 = .ok (.putfield 29, 3) := by decide +kernel
theorem dX1_mark_17 : decode cX1_mark 17 = .ok (.aload_n 0, 1) := by decide +kernel
theorem dX1_mark_18 : decode cX1_mark 18 = .ok (.getfield 29, 3) := by decide +kernel
theorem dX1_mark_21 : decode cX1_mark 21 = .ok (.ifCond .le 7, 3) := by decide +kernel
theorem dX1_mark_24 : decode cX1_mark 24 = .ok (.iconst 0, 1) := by decide +kernel
theorem dX1_mark_25 : decode cX1_mark 25 = .ok (.goto 9, 3) := by decide +kernel
theorem dX1_mark_28 : decode cX1_mark 28 = .ok (.aload_n 0, 1) := by decide +kernel
theorem dX1_mark_29 : decode cX1_mark 29 = .ok (.getfield 13, 3) := by decide +kernel
theorem dX1_mark_32 : decode cX1_mark 32 = .ok (.iload_n 1, 1) := by decide +kernel
theorem dX1_mark_33 : decode cX1_mark 33 = .ok (.iaload, 1) := by decide +kernel
theorem dX1_mark_34 : decode cX1_mark 34 = .ok (.ireturn, 1) := by decide +kernel
set_option maxRecDepth 20000 in
theorem ggX1_ahead_X1_known : GoodIn wsX1_ahead wsX1_known := goodIn_r _ [7, 8, 9, 16, 17, 18, 19, 20, 21, 22, 23, 24, 25] (by decide +kernel) (by decide +kernel)
set_option maxRecDepth 20000 in
theorem gX1_ahead_X1_known : GoodIn wsX1_ahead (wsV RX1 81 RX1 yX1_known wsX1_known) := goodIn_app (goodIn_of _ (by decide +kernel)) ggX1_ahead_X1_known
set_option maxRecDepth 20000 in
theorem ggX1_ahead_X1_between : GoodIn wsX1_ahead wsX1_between := goodIn_r _ [13, 14, 2, 15, 16, 17, 18, 19, 20, 21, 22, 23, 24, 25] (by decide +kernel) (by decide +kernel)
set_option maxRecDepth 20000 in
theorem gX1_ahead_X1_between : GoodIn wsX1_ahead (wsV RX1 39 RX1 yX1_between wsX1_between) := goodIn_app (goodIn_of _ (by decide +kernel)) ggX1_ahead_X1_between
theorem dX1_ahead_0 : decode cX1_ahead 0 = .ok (.aload_n 0, 1) := by decide +kernel
theorem dX1_ahead_1 : decode cX1_ahead 1 = .ok (.aload_n 0, 1) := by decide +kernel
theorem dX1_ahead_2 : decode cX1_ahead 2 = .ok (.iload_n 1, 1) := by decide +kernel
theorem dX1_ahead_3 : decode cX1_ahead 3 = .ok (.invokevirtual 81, 3) := by decide +kernel
theorem dX1_ahead_6 : decode cX1_ahead 6 = .ok (.ifCond .eq 7, 3) := by decide +kernel
theorem dX1_ahead_9 : decode cX1_ahead 9 = .ok (.iconst 0, 1) := by decide +kernel
theorem dX1_ahead_10 : decode cX1_ahead 10 = .ok (.goto 4, 3) := by decide +kernel
theorem dX1_ahead_13 : decode cX1_ahead 13 = .ok (.iconst 1, 1) := by decide +kernel
theorem dX1_ahead_14 : decode cX1_ahead 14 = .ok (.putfield 29, 3) := by decide +kernel
theorem dX1_ahead_17 : decode cX1_ahead 17 = .ok (.aload_n 0, 1) := by decide +kernel
theorem dX1_ahead_18 : decode cX1_ahead 18 = .ok (.getfield 29, 3) := by decide +kernel
theorem dX1_ahead_21 : decode cX1_ahead 21 = .ok (.ifCond .le 7, 3) := by decide +kernel
theorem dX1_ahead_24 : decode cX1_ahead 24 = .ok (.iconst 0, 1) := by decide +kernel
theorem dX1_ahead_25 : decode cX1_ahead 25 = .ok (.goto 14, 3) := by decide +kernel
theorem dX1_ahead_28 : decode cX1_ahead 28 = .ok (.aload_n 0, 1) := by decide +kernel
theorem dX1_ahead_29 : decode cX1_ahead 29 = .ok (.iconst 0, 1) := by decide +kernel
theorem dX1_ahead_30 : decode cX1_ahead 30 = .ok (.aload_n 0, 1) := by decide +kernel
theorem dX1_ahead_31 : decode cX1_ahead 31 = .ok (.getfield 13, 3) := by decide +kernel
theorem dX1_ahead_34 : decode cX1_ahead 34 = .ok (.iload_n 1, 1) := by decide +kernel
theorem dX1_ahead_35 : decode cX1_ahead 35 = .ok (.iaload, 1) := by decide +kernel
theorem dX1_ahead_36 : decode cX1_ahead 36 = .ok (.invokevirtual 39, 3) := by decide +kernel
theorem dX1_ahead_39 : decode cX1_ahead 39 = .ok (.ireturn, 1) := by decide +kernel
theorem dX1_from_0 : decode cX1_from 0 = .ok (.aload_n 0, 1) := by decide +kernel
theorem dX1_from_1 : decode cX1_from 1 = .ok (.iconst 0, 1) := by decide +kernel
theorem dX1_from_2 : decode cX1_from 2 = .ok (.putfield 29, 3) := by decide +kernel
theorem dX1_from_5 : decode cX1_from 5 = .ok (.iconst 0, 1) := by decide +kernel
theorem dX1_from_6 : decode cX1_from 6 = .ok (.istore_n 2, 1) := by decide +kernel
theorem dX1_from_7 : decode cX1_from 7 = .ok (.iload_n 2, 1) := by decide +kernel
theorem dX1_from_8 : decode cX1_from 8 = .ok (.aload_n 0, 1) := by decide +kernel
theorem dX1_from_9 : decode cX1_from 9 = .ok (.getfield 36, 3) := by decide +kernel
theorem dX1_from_12 : decode cX1_from 12 = .ok (.if_icmp .ge 31, 3) := by decide +kernel
theorem dX1_from_15 : decode cX1_from 15 = .ok (.aload_n 0, 1) := by decide +kernel
theorem dX1_from_16 : decode cX1_from 16 = .ok (.getfield 13, 3) := by decide +kernel
theorem dX1_from_19 : decode cX1_from 19 = .ok (.aload_n 0, 1) := by decide +kernel
theorem dX1_from_20 : decode cX1_from 20 = .ok (.getfield 7, 3) := by decide +kernel
theorem dX1_from_23 : decode cX1_from 23 = .ok (.iload_n 2, 1) := by decide +kernel
theorem dX1_from_24 : decode cX1_from 24 = .ok (.iaload, 1) := by decide +kernel
theorem dX1_from_25 : decode cX1_from 25 = .ok (.iaload, 1) := by decide +kernel
theorem dX1_from_26 : decode cX1_from 26 = .ok (.iload_n 1, 1) := by decide +kernel
theorem dX1_from_27 : decode cX1_from 27 = .ok (.if_icmp .lt 10, 3) := by decide +kernel
theorem dX1_from_30 : decode cX1_from 30 = .ok (.aload_n 0, 1) := by decide +kernel
theorem dX1_from_31 : decode cX1_from 31 = .ok (.getfield 7, 3) := by decide +kernel
theorem dX1_from_34 : decode cX1_from 34 = .ok (.iload_n 2, 1) := by decide +kernel
theorem dX1_from_35 : decode cX1_from 35 = .ok (.iaload, 1) := by decide +kernel
theorem dX1_from_36 : decode cX1_from 36 = .ok (.ireturn, 1) := by decide +kernel
theorem dX1_from_37 : decode cX1_from 37 = .ok (.iinc 2 1, 3) := by decide +kernel
theorem dX1_from_40 : decode cX1_from 40 = .ok (.goto (-33), 3) := by decide +kernel
theorem dX1_from_43 : decode cX1_from 43 = .ok (.iconst (-1), 1) := by decide +kernel
theorem dX1_from_44 : decode cX1_from 44 = .ok (.ireturn, 1) := by decide +kernel
set_option maxRecDepth 20000 in
theorem ggX1_gapBehind_X1_known : GoodIn wsX1_gapBehind wsX1_known := goodIn_r _ [7, 8, 9, 20, 21, 22, 23, 24, 25, 26, 27, 28, 29] (by decide +kernel) (by decide +kernel)
set_option maxRecDepth 20000 in
theorem gX1_gapBehind_X1_known : GoodIn wsX1_gapBehind (wsV RX1 81 RX1 yX1_known wsX1_known) := goodIn_app (goodIn_of _ (by decide +kernel)) ggX1_gapBehind_X1_known
set_option maxRecDepth 20000 in
theorem ggX1_gapBehind_X1_place : GoodIn wsX1_gapBehind wsX1_place := goodIn_r _ [13, 14, 20, 21, 22, 23, 24, 25, 26, 27, 28, 29] (by decide +kernel) (by decide +kernel)
set_option maxRecDepth 20000 in
theorem gX1_gapBehind_X1_place : GoodIn wsX1_gapBehind (wsV RX1 85 RX1 yX1_place wsX1_place) := goodIn_app (goodIn_of _ (by decide +kernel)) ggX1_gapBehind_X1_place
set_option maxRecDepth 20000 in
theorem ggX1_gapBehind_X1_markBehind : GoodIn wsX1_gapBehind wsX1_markBehind := goodIn_r _ [18, 19, 2, 14, 20, 21, 22, 23, 24, 25, 26, 27, 28, 29] (by decide +kernel) (by decide +kernel)
set_option maxRecDepth 20000 in
theorem gX1_gapBehind_X1_markBehind : GoodIn wsX1_gapBehind (wsV RX1 53 RX1 yX1_markBehind wsX1_markBehind) := goodIn_app (goodIn_of _ (by decide +kernel)) ggX1_gapBehind_X1_markBehind
theorem dX1_gapBehind_0 : decode cX1_gapBehind 0 = .ok (.aload_n 0, 1) := by decide +kernel
theorem dX1_gapBehind_1 : decode cX1_gapBehind 1 = .ok (.aload_n 0, 1) := by decide +kernel
theorem dX1_gapBehind_2 : decode cX1_gapBehind 2 = .ok (.iload_n 1, 1) := by decide +kernel
theorem dX1_gapBehind_3 : decode cX1_gapBehind 3 = .ok (.invokevirtual 81, 3) := by decide +kernel
theorem dX1_gapBehind_6 : decode cX1_gapBehind 6 = .ok (.ifCond .eq 7, 3) := by decide +kernel
theorem dX1_gapBehind_9 : decode cX1_gapBehind 9 = .ok (.iconst 0, 1) := by decide +kernel
theorem dX1_gapBehind_10 : decode cX1_gapBehind 10 = .ok (.goto 4, 3) := by decide +kernel
theorem dX1_gapBehind_13 : decode cX1_gapBehind 13 = .ok (.iconst 1, 1) := by decide +kernel
theorem dX1_gapBehind_14 : decode cX1_gapBehind 14 = .ok (.putfield 29, 3) := by decide +kernel
theorem dX1_gapBehind_17 : decode cX1_gapBehind 17 = .ok (.aload_n 0, 1) := by decide +kernel
theorem dX1_gapBehind_18 : decode cX1_gapBehind 18 = .ok (.getfield 29, 3) := by decide +kernel
theorem dX1_gapBehind_21 : decode cX1_gapBehind 21 = .ok (.ifCond .le 7, 3) := by decide +kernel
theorem dX1_gapBehind_24 : decode cX1_gapBehind 24 = .ok (.iconst 0, 1) := by decide +kernel
theorem dX1_gapBehind_25 : decode cX1_gapBehind 25 = .ok (.goto 23, 3) := by decide +kernel
theorem dX1_gapBehind_28 : decode cX1_gapBehind 28 = .ok (.aload_n 0, 1) := by decide +kernel
theorem dX1_gapBehind_29 : decode cX1_gapBehind 29 = .ok (.aload_n 0, 1) := by decide +kernel
theorem dX1_gapBehind_30 : decode cX1_gapBehind 30 = .ok (.iload_n 1, 1) := by decide +kernel
theorem dX1_gapBehind_31 : decode cX1_gapBehind 31 = .ok (.invokevirtual 85, 3) := by decide +kernel
theorem dX1_gapBehind_34 : decode cX1_gapBehind 34 = .ok (.iconst 1, 1) := by decide +kernel
theorem dX1_gapBehind_35 : decode cX1_gapBehind 35 = .ok (.iadd, 1) := by decide +kernel
theorem dX1_gapBehind_36 : decode cX1_gapBehind 36 = .ok (.invokevirtual 53, 3) := by decide +kernel
theorem dX1_gapBehind_39 : decode cX1_gapBehind 39 = .ok (.aload_n 0, 1) := by decide +kernel
theorem dX1_gapBehind_40 : decode cX1_gapBehind 40 = .ok (.getfield 13, 3) := by decide +kernel
theorem dX1_gapBehind_43 : decode cX1_gapBehind 43 = .ok (.iload_n 1, 1) := by decide +kernel
theorem dX1_gapBehind_44 : decode cX1_gapBehind 44 = .ok (.iaload, 1) := by decide +kernel
theorem dX1_gapBehind_45 : decode cX1_gapBehind 45 = .ok (.isub, 1) := by decide +kernel
theorem dX1_gapBehind_46 : decode cX1_gapBehind 46 = .ok (.iconst 1, 1) := by decide +kernel
theorem dX1_gapBehind_47 : decode cX1_gapBehind 47 = .ok (.isub, 1) := by decide +kernel
theorem dX1_gapBehind_48 : decode cX1_gapBehind 48 = .ok (.ireturn, 1) := by decide +kernel
theorem dX1_isLevel_0 : decode cX1_isLevel 0 = .ok (.iload_n 0, 1) := by decide +kernel
theorem dX1_isLevel_1 : decode cX1_isLevel 1 = .ok (.ifCond .lt 13, 3) := by decide +kernel
theorem dX1_isLevel_4 : decode cX1_isLevel 4 = .ok (.iload_n 0, 1) := by decide +kernel
theorem dX1_isLevel_5 : decode cX1_isLevel 5 = .ok (.bipush 9, 2) := by decide +kernel
theorem dX1_isLevel_7 : decode cX1_isLevel 7 = .ok (.if_icmp .ge 7, 3) := by decide +kernel
theorem dX1_isLevel_10 : decode cX1_isLevel 10 = .ok (.iconst 1, 1) := by decide +kernel
theorem dX1_isLevel_11 : decode cX1_isLevel 11 = .ok (.goto 4, 3) := by decide +kernel
theorem dX1_isLevel_14 : decode cX1_isLevel 14 = .ok (.iconst 0, 1) := by decide +kernel
theorem dX1_isLevel_15 : decode cX1_isLevel 15 = .ok (.ireturn, 1) := by decide +kernel
set_option maxRecDepth 20000 in
theorem ggX1_load_X1_isLevel : GoodIn wsX1_load wsX1_isLevel := goodIn_r _ [5] (by decide +kernel) (by decide +kernel)
set_option maxRecDepth 20000 in
theorem gX1_load_X1_isLevel : GoodIn wsX1_load (va_wsS RX1 95 yX1_isLevel wsX1_isLevel) := goodIn_app (goodIn_of _ (by decide +kernel)) ggX1_load_X1_isLevel
set_option maxRecDepth 20000 in
theorem ggX1_load_X1_loadOf : GoodIn wsX1_load wsX1_loadOf := goodIn_r _ [9, 10, 11, 12, 4, 13, 14, 15, 16, 17, 18, 19, 20, 21, 22, 23, 24, 25, 26] (by decide +kernel) (by decide +kernel)
set_option maxRecDepth 20000 in
theorem gX1_load_X1_loadOf : GoodIn wsX1_load (wsV RX1 43 RX1 yX1_loadOf wsX1_loadOf) := goodIn_app (goodIn_of _ (by decide +kernel)) ggX1_load_X1_loadOf
theorem dX1_load_0 : decode cX1_load 0 = .ok (.aload_n 0, 1) := by decide +kernel
theorem dX1_load_1 : decode cX1_load 1 = .ok (.iload_n 1, 1) := by decide +kernel
theorem dX1_load_2 : decode cX1_load 2 = .ok (.invokestatic 95, 3) := by decide +kernel
theorem dX1_load_5 : decode cX1_load 5 = .ok (.ifCond .eq 20, 3) := by decide +kernel
theorem dX1_load_8 : decode cX1_load 8 = .ok (.iload_n 2, 1) := by decide +kernel
theorem dX1_load_9 : decode cX1_load 9 = .ok (.ifCond .lt 16, 3) := by decide +kernel
theorem dX1_load_12 : decode cX1_load 12 = .ok (.iload_n 2, 1) := by decide +kernel
theorem dX1_load_13 : decode cX1_load 13 = .ok (.sipush 256, 3) := by decide +kernel
theorem dX1_load_16 : decode cX1_load 16 = .ok (.iload_n 1, 1) := by decide +kernel
theorem dX1_load_17 : decode cX1_load 17 = .ok (.ishr, 1) := by decide +kernel
theorem dX1_load_18 : decode cX1_load 18 = .ok (.if_icmp .ge 7, 3) := by decide +kernel
theorem dX1_load_21 : decode cX1_load 21 = .ok (.iconst 0, 1) := by decide +kernel
theorem dX1_load_22 : decode cX1_load 22 = .ok (.goto 4, 3) := by decide +kernel
theorem dX1_load_25 : decode cX1_load 25 = .ok (.iconst 1, 1) := by decide +kernel
theorem dX1_load_26 : decode cX1_load 26 = .ok (.putfield 29, 3) := by decide +kernel
theorem dX1_load_29 : decode cX1_load 29 = .ok (.aload_n 0, 1) := by decide +kernel
theorem dX1_load_30 : decode cX1_load 30 = .ok (.getfield 29, 3) := by decide +kernel
theorem dX1_load_33 : decode cX1_load 33 = .ok (.ifCond .le 7, 3) := by decide +kernel
theorem dX1_load_36 : decode cX1_load 36 = .ok (.iconst 0, 1) := by decide +kernel
theorem dX1_load_37 : decode cX1_load 37 = .ok (.goto 9, 3) := by decide +kernel
theorem dX1_load_40 : decode cX1_load 40 = .ok (.aload_n 0, 1) := by decide +kernel
theorem dX1_load_41 : decode cX1_load 41 = .ok (.iload_n 1, 1) := by decide +kernel
theorem dX1_load_42 : decode cX1_load 42 = .ok (.iload_n 2, 1) := by decide +kernel
theorem dX1_load_43 : decode cX1_load 43 = .ok (.invokevirtual 43, 3) := by decide +kernel
theorem dX1_load_46 : decode cX1_load 46 = .ok (.ireturn, 1) := by decide +kernel
set_option maxRecDepth 20000 in
theorem ggX1_loaded_X1_isLevel : GoodIn wsX1_loaded wsX1_isLevel := goodIn_r _ [5] (by decide +kernel) (by decide +kernel)
set_option maxRecDepth 20000 in
theorem gX1_loaded_X1_isLevel : GoodIn wsX1_loaded (va_wsS RX1 95 yX1_isLevel wsX1_isLevel) := goodIn_app (goodIn_of _ (by decide +kernel)) ggX1_loaded_X1_isLevel
set_option maxRecDepth 20000 in
theorem ggX1_loaded_X1_loadOf : GoodIn wsX1_loaded wsX1_loadOf := goodIn_r _ [9, 10, 11, 12, 4, 13, 14, 15, 16, 20, 21, 22, 23, 24, 25, 26, 27, 28, 29] (by decide +kernel) (by decide +kernel)
set_option maxRecDepth 20000 in
theorem gX1_loaded_X1_loadOf : GoodIn wsX1_loaded (wsV RX1 43 RX1 yX1_loadOf wsX1_loadOf) := goodIn_app (goodIn_of _ (by decide +kernel)) ggX1_loaded_X1_loadOf
set_option maxRecDepth 20000 in
theorem ggX1_loaded_X1_limit : GoodIn wsX1_loaded wsX1_limit := goodIn_r _ [19] (by decide +kernel) (by decide +kernel)
set_option maxRecDepth 20000 in
theorem gX1_loaded_X1_limit : GoodIn wsX1_loaded (va_wsS RX1 46 yX1_limit wsX1_limit) := goodIn_app (goodIn_of _ (by decide +kernel)) ggX1_loaded_X1_limit
theorem dX1_loaded_0 : decode cX1_loaded 0 = .ok (.aload_n 0, 1) := by decide +kernel
theorem dX1_loaded_1 : decode cX1_loaded 1 = .ok (.iload_n 1, 1) := by decide +kernel
theorem dX1_loaded_2 : decode cX1_loaded 2 = .ok (.invokestatic 95, 3) := by decide +kernel
theorem dX1_loaded_5 : decode cX1_loaded 5 = .ok (.ifCond .eq 7, 3) := by decide +kernel
theorem dX1_loaded_8 : decode cX1_loaded 8 = .ok (.iconst 0, 1) := by decide +kernel
theorem dX1_loaded_9 : decode cX1_loaded 9 = .ok (.goto 4, 3) := by decide +kernel
theorem dX1_loaded_12 : decode cX1_loaded 12 = .ok (.iconst 1, 1) := by decide +kernel
theorem dX1_loaded_13 : decode cX1_loaded 13 = .ok (.putfield 29, 3) := by decide +kernel
theorem dX1_loaded_16 : decode cX1_loaded 16 = .ok (.iconst 0, 1) := by decide +kernel
theorem dX1_loaded_17 : decode cX1_loaded 17 = .ok (.istore_n 2, 1) := by decide +kernel
theorem dX1_loaded_18 : decode cX1_loaded 18 = .ok (.iconst 0, 1) := by decide +kernel
theorem dX1_loaded_19 : decode cX1_loaded 19 = .ok (.istore_n 3, 1) := by decide +kernel
theorem dX1_loaded_20 : decode cX1_loaded 20 = .ok (.aload_n 0, 1) := by decide +kernel
theorem dX1_loaded_21 : decode cX1_loaded 21 = .ok (.getfield 29, 3) := by decide +kernel
theorem dX1_loaded_24 : decode cX1_loaded 24 = .ok (.ifCond .ne 39, 3) := by decide +kernel
theorem dX1_loaded_27 : decode cX1_loaded 27 = .ok (.iload_n 3, 1) := by decide +kernel
theorem dX1_loaded_28 : decode cX1_loaded 28 = .ok (.sipush 256, 3) := by decide +kernel
theorem dX1_loaded_31 : decode cX1_loaded 31 = .ok (.iload_n 1, 1) := by decide +kernel
theorem dX1_loaded_32 : decode cX1_loaded 32 = .ok (.ishr, 1) := by decide +kernel
theorem dX1_loaded_33 : decode cX1_loaded 33 = .ok (.if_icmp .ge 30, 3) := by decide +kernel
theorem dX1_loaded_36 : decode cX1_loaded 36 = .ok (.iload_n 2, 1) := by decide +kernel
theorem dX1_loaded_37 : decode cX1_loaded 37 = .ok (.aload_n 0, 1) := by decide +kernel
theorem dX1_loaded_38 : decode cX1_loaded 38 = .ok (.iload_n 1, 1) := by decide +kernel
theorem dX1_loaded_39 : decode cX1_loaded 39 = .ok (.iload_n 3, 1) := by decide +kernel
theorem dX1_loaded_40 : decode cX1_loaded 40 = .ok (.invokevirtual 43, 3) := by decide +kernel
theorem dX1_loaded_43 : decode cX1_loaded 43 = .ok (.iload_n 1, 1) := by decide +kernel
theorem dX1_loaded_44 : decode cX1_loaded 44 = .ok (.invokestatic 46, 3) := by decide +kernel
theorem dX1_loaded_47 : decode cX1_loaded 47 = .ok (.if_icmp .lt 7, 3) := by decide +kernel
theorem dX1_loaded_50 : decode cX1_loaded 50 = .ok (.iconst 1, 1) := by decide +kernel
theorem dX1_loaded_51 : decode cX1_loaded 51 = .ok (.goto 4, 3) := by decide +kernel
theorem dX1_loaded_54 : decode cX1_loaded 54 = .ok (.iconst 0, 1) := by decide +kernel
theorem dX1_loaded_55 : decode cX1_loaded 55 = .ok (.iadd, 1) := by decide +kernel
theorem dX1_loaded_56 : decode cX1_loaded 56 = .ok (.istore_n 2, 1) := by decide +kernel
theorem dX1_loaded_57 : decode cX1_loaded 57 = .ok (.iinc 3 1, 3) := by decide +kernel
theorem dX1_loaded_60 : decode cX1_loaded 60 = .ok (.goto (-40), 3) := by decide +kernel
theorem dX1_loaded_63 : decode cX1_loaded 63 = .ok (.iload_n 2, 1) := by decide +kernel
theorem dX1_loaded_64 : decode cX1_loaded 64 = .ok (.ireturn, 1) := by decide +kernel
set_option maxRecDepth 20000 in
theorem ggX1_wouldMove_X1_known : GoodIn wsX1_wouldMove wsX1_known := goodIn_r _ [9, 10, 11, 35, 36, 37, 38, 39, 40, 41, 42, 43, 44] (by decide +kernel) (by decide +kernel)
set_option maxRecDepth 20000 in
theorem gX1_wouldMove_X1_known : GoodIn wsX1_wouldMove (wsV RX1 81 RX1 yX1_known wsX1_known) := goodIn_app (goodIn_of _ (by decide +kernel)) ggX1_wouldMove_X1_known
set_option maxRecDepth 20000 in
theorem ggX1_wouldMove_X1_place : GoodIn wsX1_wouldMove wsX1_place := goodIn_r _ [15, 4, 35, 36, 37, 38, 39, 40, 41, 42, 43, 44] (by decide +kernel) (by decide +kernel)
set_option maxRecDepth 20000 in
theorem gX1_wouldMove_X1_place : GoodIn wsX1_wouldMove (wsV RX1 85 RX1 yX1_place wsX1_place) := goodIn_app (goodIn_of _ (by decide +kernel)) ggX1_wouldMove_X1_place
set_option maxRecDepth 20000 in
theorem ggX1_wouldMove_X1_markBehind : GoodIn wsX1_wouldMove wsX1_markBehind := goodIn_r _ [19, 3, 2, 4, 35, 36, 37, 38, 39, 40, 41, 42, 43, 44] (by decide +kernel) (by decide +kernel)
set_option maxRecDepth 20000 in
theorem gX1_wouldMove_X1_markBehind : GoodIn wsX1_wouldMove (wsV RX1 53 RX1 yX1_markBehind wsX1_markBehind) := goodIn_app (goodIn_of _ (by decide +kernel)) ggX1_wouldMove_X1_markBehind
set_option maxRecDepth 20000 in
theorem ggX1_wouldMove_X1_levelFor : GoodIn wsX1_wouldMove wsX1_levelFor := goodIn_r _ [23, 24, 25, 26, 8, 27, 28, 29, 30, 31, 3, 2, 4, 32, 33, 34, 35, 36, 37, 38, 39, 40, 41, 42, 43, 44] (by decide +kernel) (by decide +kernel)
set_option maxRecDepth 20000 in
theorem gX1_wouldMove_X1_levelFor : GoodIn wsX1_wouldMove (wsV RX1 98 RX1 yX1_levelFor wsX1_levelFor) := goodIn_app (goodIn_of _ (by decide +kernel)) ggX1_wouldMove_X1_levelFor
set_option maxRecDepth 20000 in
theorem ggX1_wouldMove_X1_between : GoodIn wsX1_wouldMove wsX1_between := goodIn_r _ [31, 3, 2, 4, 35, 36, 37, 38, 39, 40, 41, 42, 43, 44] (by decide +kernel) (by decide +kernel)
set_option maxRecDepth 20000 in
theorem gX1_wouldMove_X1_between : GoodIn wsX1_wouldMove (wsV RX1 39 RX1 yX1_between wsX1_between) := goodIn_app (goodIn_of _ (by decide +kernel)) ggX1_wouldMove_X1_between
theorem dX1_wouldMove_0 : decode cX1_wouldMove 0 = .ok (.aload_n 0, 1) := by decide +kernel
theorem dX1_wouldMove_1 : decode cX1_wouldMove 1 = .ok (.aload_n 0, 1) := by decide +kernel
theorem dX1_wouldMove_2 : decode cX1_wouldMove 2 = .ok (.iload_n 1, 1) := by decide +kernel
theorem dX1_wouldMove_3 : decode cX1_wouldMove 3 = .ok (.invokevirtual 81, 3) := by decide +kernel
theorem dX1_wouldMove_6 : decode cX1_wouldMove 6 = .ok (.ifCond .eq 7, 3) := by decide +kernel
theorem dX1_wouldMove_9 : decode cX1_wouldMove 9 = .ok (.iconst 0, 1) := by decide +kernel
theorem dX1_wouldMove_10 : decode cX1_wouldMove 10 = .ok (.goto 4, 3) := by decide +kernel
theorem dX1_wouldMove_13 : decode cX1_wouldMove 13 = .ok (.iconst 1, 1) := by decide +kernel
theorem dX1_wouldMove_14 : decode cX1_wouldMove 14 = .ok (.putfield 29, 3) := by decide +kernel
theorem dX1_wouldMove_17 : decode cX1_wouldMove 17 = .ok (.aload_n 0, 1) := by decide +kernel
theorem dX1_wouldMove_18 : decode cX1_wouldMove 18 = .ok (.getfield 29, 3) := by decide +kernel
theorem dX1_wouldMove_21 : decode cX1_wouldMove 21 = .ok (.ifCond .le 5, 3) := by decide +kernel
theorem dX1_wouldMove_24 : decode cX1_wouldMove 24 = .ok (.iconst 0, 1) := by decide +kernel
theorem dX1_wouldMove_25 : decode cX1_wouldMove 25 = .ok (.ireturn, 1) := by decide +kernel
theorem dX1_wouldMove_26 : decode cX1_wouldMove 26 = .ok (.aload_n 0, 1) := by decide +kernel
theorem dX1_wouldMove_27 : decode cX1_wouldMove 27 = .ok (.iload_n 1, 1) := by decide +kernel
theorem dX1_wouldMove_28 : decode cX1_wouldMove 28 = .ok (.invokevirtual 85, 3) := by decide +kernel
theorem dX1_wouldMove_31 : decode cX1_wouldMove 31 = .ok (.iconst 1, 1) := by decide +kernel
theorem dX1_wouldMove_32 : decode cX1_wouldMove 32 = .ok (.iadd, 1) := by decide +kernel
theorem dX1_wouldMove_33 : decode cX1_wouldMove 33 = .ok (.istore_n 2, 1) := by decide +kernel
theorem dX1_wouldMove_34 : decode cX1_wouldMove 34 = .ok (.aload_n 0, 1) := by decide +kernel
theorem dX1_wouldMove_35 : decode cX1_wouldMove 35 = .ok (.iload_n 2, 1) := by decide +kernel
theorem dX1_wouldMove_36 : decode cX1_wouldMove 36 = .ok (.invokevirtual 53, 3) := by decide +kernel
theorem dX1_wouldMove_39 : decode cX1_wouldMove 39 = .ok (.aload_n 0, 1) := by decide +kernel
theorem dX1_wouldMove_40 : decode cX1_wouldMove 40 = .ok (.getfield 13, 3) := by decide +kernel
theorem dX1_wouldMove_43 : decode cX1_wouldMove 43 = .ok (.iload_n 1, 1) := by decide +kernel
theorem dX1_wouldMove_44 : decode cX1_wouldMove 44 = .ok (.iaload, 1) := by decide +kernel
theorem dX1_wouldMove_45 : decode cX1_wouldMove 45 = .ok (.isub, 1) := by decide +kernel
theorem dX1_wouldMove_46 : decode cX1_wouldMove 46 = .ok (.iconst 2, 1) := by decide +kernel
theorem dX1_wouldMove_47 : decode cX1_wouldMove 47 = .ok (.if_icmp .lt 5, 3) := by decide +kernel
theorem dX1_wouldMove_50 : decode cX1_wouldMove 50 = .ok (.iconst 0, 1) := by decide +kernel
theorem dX1_wouldMove_51 : decode cX1_wouldMove 51 = .ok (.ireturn, 1) := by decide +kernel
theorem dX1_wouldMove_52 : decode cX1_wouldMove 52 = .ok (.aload_n 0, 1) := by decide +kernel
theorem dX1_wouldMove_53 : decode cX1_wouldMove 53 = .ok (.aload_n 0, 1) := by decide +kernel
theorem dX1_wouldMove_54 : decode cX1_wouldMove 54 = .ok (.getfield 13, 3) := by decide +kernel
theorem dX1_wouldMove_57 : decode cX1_wouldMove 57 = .ok (.iload_n 1, 1) := by decide +kernel
theorem dX1_wouldMove_58 : decode cX1_wouldMove 58 = .ok (.iaload, 1) := by decide +kernel
theorem dX1_wouldMove_59 : decode cX1_wouldMove 59 = .ok (.invokevirtual 98, 3) := by decide +kernel
theorem dX1_wouldMove_62 : decode cX1_wouldMove 62 = .ok (.istore_n 3, 1) := by decide +kernel
theorem dX1_wouldMove_63 : decode cX1_wouldMove 63 = .ok (.iconst 1, 1) := by decide +kernel
theorem dX1_wouldMove_64 : decode cX1_wouldMove 64 = .ok (.iload_n 3, 1) := by decide +kernel
theorem dX1_wouldMove_65 : decode cX1_wouldMove 65 = .ok (.ishl, 1) := by decide +kernel
theorem dX1_wouldMove_66 : decode cX1_wouldMove 66 = .ok (.istore 4, 2) := by decide +kernel
theorem dX1_wouldMove_68 : decode cX1_wouldMove 68 = .ok (.aload_n 0, 1) := by decide +kernel
theorem dX1_wouldMove_69 : decode cX1_wouldMove 69 = .ok (.getfield 13, 3) := by decide +kernel
theorem dX1_wouldMove_72 : decode cX1_wouldMove 72 = .ok (.iload_n 1, 1) := by decide +kernel
theorem dX1_wouldMove_73 : decode cX1_wouldMove 73 = .ok (.iaload, 1) := by decide +kernel
theorem dX1_wouldMove_74 : decode cX1_wouldMove 74 = .ok (.iload_n 3, 1) := by decide +kernel
theorem dX1_wouldMove_75 : decode cX1_wouldMove 75 = .ok (.ishr, 1) := by decide +kernel
theorem dX1_wouldMove_76 : decode cX1_wouldMove 76 = .ok (.iload_n 3, 1) := by decide +kernel
theorem dX1_wouldMove_77 : decode cX1_wouldMove 77 = .ok (.ishl, 1) := by decide +kernel
theorem dX1_wouldMove_78 : decode cX1_wouldMove 78 = .ok (.istore 5, 2) := by decide +kernel
theorem dX1_wouldMove_80 : decode cX1_wouldMove 80 = .ok (.aload_n 0, 1) := by decide +kernel
theorem dX1_wouldMove_81 : decode cX1_wouldMove 81 = .ok (.iload 5, 2) := by decide +kernel
theorem dX1_wouldMove_83 : decode cX1_wouldMove 83 = .ok (.iload 5, 2) := by decide +kernel
theorem dX1_wouldMove_85 : decode cX1_wouldMove 85 = .ok (.iload 4, 2) := by decide +kernel
theorem dX1_wouldMove_87 : decode cX1_wouldMove 87 = .ok (.iadd, 1) := by decide +kernel
theorem dX1_wouldMove_88 : decode cX1_wouldMove 88 = .ok (.invokevirtual 39, 3) := by decide +kernel
theorem dX1_wouldMove_91 : decode cX1_wouldMove 91 = .ok (.iconst 1, 1) := by decide +kernel
theorem dX1_wouldMove_92 : decode cX1_wouldMove 92 = .ok (.iadd, 1) := by decide +kernel
theorem dX1_wouldMove_93 : decode cX1_wouldMove 93 = .ok (.istore 6, 2) := by decide +kernel
theorem dX1_wouldMove_95 : decode cX1_wouldMove 95 = .ok (.iconst 0, 1) := by decide +kernel
theorem dX1_wouldMove_96 : decode cX1_wouldMove 96 = .ok (.istore 7, 2) := by decide +kernel
theorem dX1_wouldMove_98 : decode cX1_wouldMove 98 = .ok (.iconst 0, 1) := by decide +kernel
theorem dX1_wouldMove_99 : decode cX1_wouldMove 99 = .ok (.istore 8, 2) := by decide +kernel
theorem dX1_wouldMove_101 : decode cX1_wouldMove 101 = .ok (.iconst 0, 1) := by decide +kernel
theorem dX1_wouldMove_102 : decode cX1_wouldMove 102 = .ok (.istore 9, 2) := by decide +kernel
theorem dX1_wouldMove_104 : decode cX1_wouldMove 104 = .ok (.iload 9, 2) := by decide +kernel
theorem dX1_wouldMove_106 : decode cX1_wouldMove 106 = .ok (.aload_n 0, 1) := by decide +kernel
theorem dX1_wouldMove_107 : decode cX1_wouldMove 107 = .ok (.getfield 36, 3) := by decide +kernel
theorem dX1_wouldMove_110 : decode cX1_wouldMove 110 = .ok (.if_icmp .ge 87, 3) := by decide +kernel
theorem dX1_wouldMove_113 : decode cX1_wouldMove 113 = .ok (.aload_n 0, 1) := by decide +kernel
theorem dX1_wouldMove_114 : decode cX1_wouldMove 114 = .ok (.getfield 13, 3) := by decide +kernel
theorem dX1_wouldMove_117 : decode cX1_wouldMove 117 = .ok (.aload_n 0, 1) := by decide +kernel
theorem dX1_wouldMove_118 : decode cX1_wouldMove 118 = .ok (.getfield 7, 3) := by decide +kernel
theorem dX1_wouldMove_121 : decode cX1_wouldMove 121 = .ok (.iload 9, 2) := by decide +kernel
theorem dX1_wouldMove_123 : decode cX1_wouldMove 123 = .ok (.iaload, 1) := by decide +kernel
theorem dX1_wouldMove_124 : decode cX1_wouldMove 124 = .ok (.iaload, 1) := by decide +kernel
theorem dX1_wouldMove_125 : decode cX1_wouldMove 125 = .ok (.istore 10, 2) := by decide +kernel
theorem dX1_wouldMove_127 : decode cX1_wouldMove 127 = .ok (.iload 10, 2) := by decide +kernel
theorem dX1_wouldMove_129 : decode cX1_wouldMove 129 = .ok (.iload 5, 2) := by decide +kernel
theorem dX1_wouldMove_131 : decode cX1_wouldMove 131 = .ok (.if_icmp .lt 60, 3) := by decide +kernel
theorem dX1_wouldMove_134 : decode cX1_wouldMove 134 = .ok (.iload 10, 2) := by decide +kernel
theorem dX1_wouldMove_136 : decode cX1_wouldMove 136 = .ok (.iload 5, 2) := by decide +kernel
theorem dX1_wouldMove_138 : decode cX1_wouldMove 138 = .ok (.iload 4, 2) := by decide +kernel
theorem dX1_wouldMove_140 : decode cX1_wouldMove 140 = .ok (.iadd, 1) := by decide +kernel
theorem dX1_wouldMove_141 : decode cX1_wouldMove 141 = .ok (.if_icmp .ge 50, 3) := by decide +kernel
theorem dX1_wouldMove_144 : decode cX1_wouldMove 144 = .ok (.iload 8, 2) := by decide +kernel
theorem dX1_wouldMove_146 : decode cX1_wouldMove 146 = .ok (.iload 10, 2) := by decide +kernel
theorem dX1_wouldMove_148 : decode cX1_wouldMove 148 = .ok (.iload 5, 2) := by decide +kernel
theorem dX1_wouldMove_150 : decode cX1_wouldMove 150 = .ok (.iload 7, 2) := by decide +kernel
theorem dX1_wouldMove_152 : decode cX1_wouldMove 152 = .ok (.iload 4, 2) := by decide +kernel
theorem dX1_wouldMove_154 : decode cX1_wouldMove 154 = .ok (.imul, 1) := by decide +kernel
theorem dX1_wouldMove_155 : decode cX1_wouldMove 155 = .ok (.iload 6, 2) := by decide +kernel
theorem dX1_wouldMove_157 : decode cX1_wouldMove 157 = .ok (.idiv, 1) := by decide +kernel
theorem dX1_wouldMove_158 : decode cX1_wouldMove 158 = .ok (.iadd, 1) := by decide +kernel
theorem dX1_wouldMove_159 : decode cX1_wouldMove 159 = .ok (.if_icmp .ne 7, 3) := by decide +kernel
theorem dX1_wouldMove_162 : decode cX1_wouldMove 162 = .ok (.iconst 0, 1) := by decide +kernel
theorem dX1_wouldMove_163 : decode cX1_wouldMove 163 = .ok (.goto 4, 3) := by decide +kernel
theorem dX1_wouldMove_166 : decode cX1_wouldMove 166 = .ok (.iconst 1, 1) := by decide +kernel
theorem dX1_wouldMove_167 : decode cX1_wouldMove 167 = .ok (.iadd, 1) := by decide +kernel
theorem dX1_wouldMove_168 : decode cX1_wouldMove 168 = .ok (.istore 8, 2) := by decide +kernel
theorem dX1_wouldMove_170 : decode cX1_wouldMove 170 = .ok (.iload 7, 2) := by decide +kernel
theorem dX1_wouldMove_172 : decode cX1_wouldMove 172 = .ok (.iload 10, 2) := by decide +kernel
theorem dX1_wouldMove_174 : decode cX1_wouldMove 174 = .ok (.aload_n 0, 1) := by decide +kernel
theorem dX1_wouldMove_175 : decode cX1_wouldMove 175 = .ok (.getfield 13, 3) := by decide +kernel
theorem dX1_wouldMove_178 : decode cX1_wouldMove 178 = .ok (.iload_n 1, 1) := by decide +kernel
theorem dX1_wouldMove_179 : decode cX1_wouldMove 179 = .ok (.iaload, 1) := by decide +kernel
theorem dX1_wouldMove_180 : decode cX1_wouldMove 180 = .ok (.if_icmp .ne 7, 3) := by decide +kernel
theorem dX1_wouldMove_183 : decode cX1_wouldMove 183 = .ok (.iconst 2, 1) := by decide +kernel
theorem dX1_wouldMove_184 : decode cX1_wouldMove 184 = .ok (.goto 4, 3) := by decide +kernel
theorem dX1_wouldMove_187 : decode cX1_wouldMove 187 = .ok (.iconst 1, 1) := by decide +kernel
theorem dX1_wouldMove_188 : decode cX1_wouldMove 188 = .ok (.iadd, 1) := by decide +kernel
theorem dX1_wouldMove_189 : decode cX1_wouldMove 189 = .ok (.istore 7, 2) := by decide +kernel
theorem dX1_wouldMove_191 : decode cX1_wouldMove 191 = .ok (.iinc 9 1, 3) := by decide +kernel
theorem dX1_wouldMove_194 : decode cX1_wouldMove 194 = .ok (.goto (-90), 3) := by decide +kernel
theorem dX1_wouldMove_197 : decode cX1_wouldMove 197 = .ok (.iload 8, 2) := by decide +kernel
theorem dX1_wouldMove_199 : decode cX1_wouldMove 199 = .ok (.ireturn, 1) := by decide +kernel
theorem dX1_moved_0 : decode cX1_moved 0 = .ok (.aload_n 0, 1) := by decide +kernel
theorem dX1_moved_1 : decode cX1_moved 1 = .ok (.iconst 0, 1) := by decide +kernel
theorem dX1_moved_2 : decode cX1_moved 2 = .ok (.putfield 29, 3) := by decide +kernel
theorem dX1_moved_5 : decode cX1_moved 5 = .ok (.aload_n 0, 1) := by decide +kernel
theorem dX1_moved_6 : decode cX1_moved 6 = .ok (.getfield 67, 3) := by decide +kernel
theorem dX1_moved_9 : decode cX1_moved 9 = .ok (.ireturn, 1) := by decide +kernel
set_option maxRecDepth 20000 in
theorem ggX1_spread_X1_isLevel : GoodIn wsX1_spread wsX1_isLevel := goodIn_r _ [6] (by decide +kernel) (by decide +kernel)
set_option maxRecDepth 20000 in
theorem gX1_spread_X1_isLevel : GoodIn wsX1_spread (va_wsS RX1 95 yX1_isLevel wsX1_isLevel) := goodIn_app (goodIn_of _ (by decide +kernel)) ggX1_spread_X1_isLevel
theorem dX1_spread_0 : decode cX1_spread 0 = .ok (.aload_n 0, 1) := by decide +kernel
theorem dX1_spread_1 : decode cX1_spread 1 = .ok (.iload_n 1, 1) := by decide +kernel
theorem dX1_spread_2 : decode cX1_spread 2 = .ok (.invokestatic 95, 3) := by decide +kernel
theorem dX1_spread_5 : decode cX1_spread 5 = .ok (.ifCond .eq 7, 3) := by decide +kernel
theorem dX1_spread_8 : decode cX1_spread 8 = .ok (.iconst 0, 1) := by decide +kernel
theorem dX1_spread_9 : decode cX1_spread 9 = .ok (.goto 4, 3) := by decide +kernel
theorem dX1_spread_12 : decode cX1_spread 12 = .ok (.iconst 1, 1) := by decide +kernel
theorem dX1_spread_13 : decode cX1_spread 13 = .ok (.putfield 29, 3) := by decide +kernel
theorem dX1_spread_16 : decode cX1_spread 16 = .ok (.aload_n 0, 1) := by decide +kernel
theorem dX1_spread_17 : decode cX1_spread 17 = .ok (.getfield 29, 3) := by decide +kernel
theorem dX1_spread_20 : decode cX1_spread 20 = .ok (.ifCond .le 7, 3) := by decide +kernel
theorem dX1_spread_23 : decode cX1_spread 23 = .ok (.iconst 0, 1) := by decide +kernel
theorem dX1_spread_24 : decode cX1_spread 24 = .ok (.goto 9, 3) := by decide +kernel
theorem dX1_spread_27 : decode cX1_spread 27 = .ok (.aload_n 0, 1) := by decide +kernel
theorem dX1_spread_28 : decode cX1_spread 28 = .ok (.getfield 20, 3) := by decide +kernel
theorem dX1_spread_31 : decode cX1_spread 31 = .ok (.iload_n 1, 1) := by decide +kernel
theorem dX1_spread_32 : decode cX1_spread 32 = .ok (.iaload, 1) := by decide +kernel
theorem dX1_spread_33 : decode cX1_spread 33 = .ok (.ireturn, 1) := by decide +kernel
theorem dX1_isReader_0 : decode cX1_isReader 0 = .ok (.iload_n 0, 1) := by decide +kernel
theorem dX1_isReader_1 : decode cX1_isReader 1 = .ok (.ifCond .lt 12, 3) := by decide +kernel
theorem dX1_isReader_4 : decode cX1_isReader 4 = .ok (.iload_n 0, 1) := by decide +kernel
theorem dX1_isReader_5 : decode cX1_isReader 5 = .ok (.iconst 4, 1) := by decide +kernel
theorem dX1_isReader_6 : decode cX1_isReader 6 = .ok (.if_icmp .ge 7, 3) := by decide +kernel
theorem dX1_isReader_9 : decode cX1_isReader 9 = .ok (.iconst 1, 1) := by decide +kernel
theorem dX1_isReader_10 : decode cX1_isReader 10 = .ok (.goto 4, 3) := by decide +kernel
theorem dX1_isReader_13 : decode cX1_isReader 13 = .ok (.iconst 0, 1) := by decide +kernel
theorem dX1_isReader_14 : decode cX1_isReader 14 = .ok (.ireturn, 1) := by decide +kernel
set_option maxRecDepth 20000 in
theorem ggX1_seat_X1_isReader : GoodIn wsX1_seat wsX1_isReader := goodIn_r _ [6] (by decide +kernel) (by decide +kernel)
set_option maxRecDepth 20000 in
theorem gX1_seat_X1_isReader : GoodIn wsX1_seat (va_wsS RX1 101 yX1_isReader wsX1_isReader) := goodIn_app (goodIn_of _ (by decide +kernel)) ggX1_seat_X1_isReader
set_option maxRecDepth 20000 in
theorem ggX1_seat_X1_known : GoodIn wsX1_seat wsX1_known := goodIn_r _ [10, 11, 12, 13, 14, 15, 16, 17, 18, 19, 20, 21, 22] (by decide +kernel) (by decide +kernel)
set_option maxRecDepth 20000 in
theorem gX1_seat_X1_known : GoodIn wsX1_seat (wsV RX1 81 RX1 yX1_known wsX1_known) := goodIn_app (goodIn_of _ (by decide +kernel)) ggX1_seat_X1_known
theorem dX1_seat_0 : decode cX1_seat 0 = .ok (.aload_n 0, 1) := by decide +kernel
theorem dX1_seat_1 : decode cX1_seat 1 = .ok (.iload_n 1, 1) := by decide +kernel
theorem dX1_seat_2 : decode cX1_seat 2 = .ok (.invokestatic 101, 3) := by decide +kernel
theorem dX1_seat_5 : decode cX1_seat 5 = .ok (.ifCond .eq 15, 3) := by decide +kernel
theorem dX1_seat_8 : decode cX1_seat 8 = .ok (.aload_n 0, 1) := by decide +kernel
theorem dX1_seat_9 : decode cX1_seat 9 = .ok (.iload_n 2, 1) := by decide +kernel
theorem dX1_seat_10 : decode cX1_seat 10 = .ok (.invokevirtual 81, 3) := by decide +kernel
theorem dX1_seat_13 : decode cX1_seat 13 = .ok (.ifCond .eq 7, 3) := by decide +kernel
theorem dX1_seat_16 : decode cX1_seat 16 = .ok (.iconst 0, 1) := by decide +kernel
theorem dX1_seat_17 : decode cX1_seat 17 = .ok (.goto 4, 3) := by decide +kernel
theorem dX1_seat_20 : decode cX1_seat 20 = .ok (.iconst 1, 1) := by decide +kernel
theorem dX1_seat_21 : decode cX1_seat 21 = .ok (.putfield 29, 3) := by decide +kernel
theorem dX1_seat_24 : decode cX1_seat 24 = .ok (.aload_n 0, 1) := by decide +kernel
theorem dX1_seat_25 : decode cX1_seat 25 = .ok (.getfield 29, 3) := by decide +kernel
theorem dX1_seat_28 : decode cX1_seat 28 = .ok (.ifCond .le 5, 3) := by decide +kernel
theorem dX1_seat_31 : decode cX1_seat 31 = .ok (.iconst 0, 1) := by decide +kernel
theorem dX1_seat_32 : decode cX1_seat 32 = .ok (.ireturn, 1) := by decide +kernel
theorem dX1_seat_33 : decode cX1_seat 33 = .ok (.aload_n 0, 1) := by decide +kernel
theorem dX1_seat_34 : decode cX1_seat 34 = .ok (.getfield 23, 3) := by decide +kernel
theorem dX1_seat_37 : decode cX1_seat 37 = .ok (.iload_n 1, 1) := by decide +kernel
theorem dX1_seat_38 : decode cX1_seat 38 = .ok (.iload_n 2, 1) := by decide +kernel
theorem dX1_seat_39 : decode cX1_seat 39 = .ok (.iastore, 1) := by decide +kernel
theorem dX1_seat_40 : decode cX1_seat 40 = .ok (.iconst 0, 1) := by decide +kernel
theorem dX1_seat_41 : decode cX1_seat 41 = .ok (.istore_n 3, 1) := by decide +kernel
theorem dX1_seat_42 : decode cX1_seat 42 = .ok (.iconst 0, 1) := by decide +kernel
theorem dX1_seat_43 : decode cX1_seat 43 = .ok (.istore 4, 2) := by decide +kernel
theorem dX1_seat_45 : decode cX1_seat 45 = .ok (.iload 4, 2) := by decide +kernel
theorem dX1_seat_47 : decode cX1_seat 47 = .ok (.iconst 4, 1) := by decide +kernel
theorem dX1_seat_48 : decode cX1_seat 48 = .ok (.if_icmp .ge 28, 3) := by decide +kernel
theorem dX1_seat_51 : decode cX1_seat 51 = .ok (.iload_n 3, 1) := by decide +kernel
theorem dX1_seat_52 : decode cX1_seat 52 = .ok (.aload_n 0, 1) := by decide +kernel
theorem dX1_seat_53 : decode cX1_seat 53 = .ok (.getfield 23, 3) := by decide +kernel
theorem dX1_seat_56 : decode cX1_seat 56 = .ok (.iload 4, 2) := by decide +kernel
theorem dX1_seat_58 : decode cX1_seat 58 = .ok (.iaload, 1) := by decide +kernel
theorem dX1_seat_59 : decode cX1_seat 59 = .ok (.iload_n 2, 1) := by decide +kernel
theorem dX1_seat_60 : decode cX1_seat 60 = .ok (.if_icmp .ne 7, 3) := by decide +kernel
theorem dX1_seat_63 : decode cX1_seat 63 = .ok (.iconst 1, 1) := by decide +kernel
theorem dX1_seat_64 : decode cX1_seat 64 = .ok (.goto 4, 3) := by decide +kernel
theorem dX1_seat_67 : decode cX1_seat 67 = .ok (.iconst 0, 1) := by decide +kernel
theorem dX1_seat_68 : decode cX1_seat 68 = .ok (.iadd, 1) := by decide +kernel
theorem dX1_seat_69 : decode cX1_seat 69 = .ok (.istore_n 3, 1) := by decide +kernel
theorem dX1_seat_70 : decode cX1_seat 70 = .ok (.iinc 4 1, 3) := by decide +kernel
theorem dX1_seat_73 : decode cX1_seat 73 = .ok (.goto (-28), 3) := by decide +kernel
theorem dX1_seat_76 : decode cX1_seat 76 = .ok (.iload_n 3, 1) := by decide +kernel
theorem dX1_seat_77 : decode cX1_seat 77 = .ok (.ireturn, 1) := by decide +kernel
set_option maxRecDepth 20000 in
theorem ggX1_passDay_X1_behind : GoodIn wsX1_passDay wsX1_behind := goodIn_r _ [8, 9, 10, 11, 12, 13, 7, 14, 15, 16, 17, 18, 19, 20, 21, 22, 23, 24] (by decide +kernel) (by decide +kernel)
set_option maxRecDepth 20000 in
theorem gX1_passDay_X1_behind : GoodIn wsX1_passDay (wsV RX1 88 RX1 yX1_behind wsX1_behind) := goodIn_app (goodIn_of _ (by decide +kernel)) ggX1_passDay_X1_behind
theorem dX1_passDay_0 : decode cX1_passDay 0 = .ok (.aload_n 0, 1) := by decide +kernel
theorem dX1_passDay_1 : decode cX1_passDay 1 = .ok (.iconst 0, 1) := by decide +kernel
theorem dX1_passDay_2 : decode cX1_passDay 2 = .ok (.putfield 29, 3) := by decide +kernel
theorem dX1_passDay_5 : decode cX1_passDay 5 = .ok (.iconst 0, 1) := by decide +kernel
end
section
theorem dX1_passDay_6 : decode cX1_passDay 6 = .ok (.istore_n 1, 1) := by decide +kernel
theorem dX1_passDay_7 : decode cX1_passDay 7 = .ok (.iconst 0, 1) := by decide +kernel
theorem dX1_passDay_8 : decode cX1_passDay 8 = .ok (.istore_n 2, 1) := by decide +kernel
theorem dX1_passDay_9 : decode cX1_passDay 9 = .ok (.iload_n 2, 1) := by decide +kernel
theorem dX1_passDay_10 : decode cX1_passDay 10 = .ok (.iconst 4, 1) := by decide +kernel
theorem dX1_passDay_11 : decode cX1_passDay 11 = .ok (.if_icmp .ge 63, 3) := by decide +kernel
theorem dX1_passDay_14 : decode cX1_passDay 14 = .ok (.aload_n 0, 1) := by decide +kernel
theorem dX1_passDay_15 : decode cX1_passDay 15 = .ok (.getfield 23, 3) := by decide +kernel
theorem dX1_passDay_18 : decode cX1_passDay 18 = .ok (.iload_n 2, 1) := by decide +kernel
theorem dX1_passDay_19 : decode cX1_passDay 19 = .ok (.iaload, 1) := by decide +kernel
theorem dX1_passDay_20 : decode cX1_passDay 20 = .ok (.iconst (-1), 1) := by decide +kernel
theorem dX1_passDay_21 : decode cX1_passDay 21 = .ok (.if_icmp .eq 47, 3) := by decide +kernel
theorem dX1_passDay_24 : decode cX1_passDay 24 = .ok (.aload_n 0, 1) := by decide +kernel
theorem dX1_passDay_25 : decode cX1_passDay 25 = .ok (.getfield 26, 3) := by decide +kernel
theorem dX1_passDay_28 : decode cX1_passDay 28 = .ok (.iload_n 2, 1) := by decide +kernel
theorem dX1_passDay_29 : decode cX1_passDay 29 = .ok (.dup2, 1) := by decide +kernel
theorem dX1_passDay_30 : decode cX1_passDay 30 = .ok (.iaload, 1) := by decide +kernel
theorem dX1_passDay_31 : decode cX1_passDay 31 = .ok (.iconst 1, 1) := by decide +kernel
theorem dX1_passDay_32 : decode cX1_passDay 32 = .ok (.iadd, 1) := by decide +kernel
theorem dX1_passDay_33 : decode cX1_passDay 33 = .ok (.iastore, 1) := by decide +kernel
theorem dX1_passDay_34 : decode cX1_passDay 34 = .ok (.aload_n 0, 1) := by decide +kernel
theorem dX1_passDay_35 : decode cX1_passDay 35 = .ok (.getfield 23, 3) := by decide +kernel
theorem dX1_passDay_38 : decode cX1_passDay 38 = .ok (.iload_n 2, 1) := by decide +kernel
theorem dX1_passDay_39 : decode cX1_passDay 39 = .ok (.aload_n 0, 1) := by decide +kernel
theorem dX1_passDay_40 : decode cX1_passDay 40 = .ok (.aload_n 0, 1) := by decide +kernel
theorem dX1_passDay_41 : decode cX1_passDay 41 = .ok (.getfield 23, 3) := by decide +kernel
theorem dX1_passDay_44 : decode cX1_passDay 44 = .ok (.iload_n 2, 1) := by decide +kernel
theorem dX1_passDay_45 : decode cX1_passDay 45 = .ok (.iaload, 1) := by decide +kernel
theorem dX1_passDay_46 : decode cX1_passDay 46 = .ok (.invokevirtual 88, 3) := by decide +kernel
theorem dX1_passDay_49 : decode cX1_passDay 49 = .ok (.iastore, 1) := by decide +kernel
theorem dX1_passDay_50 : decode cX1_passDay 50 = .ok (.iload_n 1, 1) := by decide +kernel
theorem dX1_passDay_51 : decode cX1_passDay 51 = .ok (.aload_n 0, 1) := by decide +kernel
theorem dX1_passDay_52 : decode cX1_passDay 52 = .ok (.getfield 23, 3) := by decide +kernel
theorem dX1_passDay_55 : decode cX1_passDay 55 = .ok (.iload_n 2, 1) := by decide +kernel
theorem dX1_passDay_56 : decode cX1_passDay 56 = .ok (.iaload, 1) := by decide +kernel
theorem dX1_passDay_57 : decode cX1_passDay 57 = .ok (.iconst (-1), 1) := by decide +kernel
theorem dX1_passDay_58 : decode cX1_passDay 58 = .ok (.if_icmp .ne 7, 3) := by decide +kernel
theorem dX1_passDay_61 : decode cX1_passDay 61 = .ok (.iconst 0, 1) := by decide +kernel
theorem dX1_passDay_62 : decode cX1_passDay 62 = .ok (.goto 4, 3) := by decide +kernel
theorem dX1_passDay_65 : decode cX1_passDay 65 = .ok (.iconst 1, 1) := by decide +kernel
theorem dX1_passDay_66 : decode cX1_passDay 66 = .ok (.iadd, 1) := by decide +kernel
theorem dX1_passDay_67 : decode cX1_passDay 67 = .ok (.istore_n 1, 1) := by decide +kernel
theorem dX1_passDay_68 : decode cX1_passDay 68 = .ok (.iinc 2 1, 3) := by decide +kernel
theorem dX1_passDay_71 : decode cX1_passDay 71 = .ok (.goto (-62), 3) := by decide +kernel
theorem dX1_passDay_74 : decode cX1_passDay 74 = .ok (.iload_n 1, 1) := by decide +kernel
theorem dX1_passDay_75 : decode cX1_passDay 75 = .ok (.ireturn, 1) := by decide +kernel
set_option maxRecDepth 20000 in
theorem ggX1_at_X1_isReader : GoodIn wsX1_at wsX1_isReader := goodIn_r _ [6] (by decide +kernel) (by decide +kernel)
set_option maxRecDepth 20000 in
theorem gX1_at_X1_isReader : GoodIn wsX1_at (va_wsS RX1 101 yX1_isReader wsX1_isReader) := goodIn_app (goodIn_of _ (by decide +kernel)) ggX1_at_X1_isReader
theorem dX1_at_0 : decode cX1_at 0 = .ok (.aload_n 0, 1) := by decide +kernel
theorem dX1_at_1 : decode cX1_at 1 = .ok (.iload_n 1, 1) := by decide +kernel
theorem dX1_at_2 : decode cX1_at 2 = .ok (.invokestatic 101, 3) := by decide +kernel
theorem dX1_at_5 : decode cX1_at 5 = .ok (.ifCond .eq 7, 3) := by decide +kernel
theorem dX1_at_8 : decode cX1_at 8 = .ok (.iconst 0, 1) := by decide +kernel
theorem dX1_at_9 : decode cX1_at 9 = .ok (.goto 4, 3) := by decide +kernel
theorem dX1_at_12 : decode cX1_at 12 = .ok (.iconst 1, 1) := by decide +kernel
theorem dX1_at_13 : decode cX1_at 13 = .ok (.putfield 29, 3) := by decide +kernel
theorem dX1_at_16 : decode cX1_at 16 = .ok (.aload_n 0, 1) := by decide +kernel
theorem dX1_at_17 : decode cX1_at 17 = .ok (.getfield 29, 3) := by decide +kernel
theorem dX1_at_20 : decode cX1_at 20 = .ok (.ifCond .le 7, 3) := by decide +kernel
theorem dX1_at_23 : decode cX1_at 23 = .ok (.iconst 0, 1) := by decide +kernel
theorem dX1_at_24 : decode cX1_at 24 = .ok (.goto 9, 3) := by decide +kernel
theorem dX1_at_27 : decode cX1_at 27 = .ok (.aload_n 0, 1) := by decide +kernel
theorem dX1_at_28 : decode cX1_at 28 = .ok (.getfield 23, 3) := by decide +kernel
theorem dX1_at_31 : decode cX1_at 31 = .ok (.iload_n 1, 1) := by decide +kernel
theorem dX1_at_32 : decode cX1_at 32 = .ok (.iaload, 1) := by decide +kernel
theorem dX1_at_33 : decode cX1_at 33 = .ok (.ireturn, 1) := by decide +kernel
set_option maxRecDepth 20000 in
theorem ggX1_read_X1_isReader : GoodIn wsX1_read wsX1_isReader := goodIn_r _ [6] (by decide +kernel) (by decide +kernel)
set_option maxRecDepth 20000 in
theorem gX1_read_X1_isReader : GoodIn wsX1_read (va_wsS RX1 101 yX1_isReader wsX1_isReader) := goodIn_app (goodIn_of _ (by decide +kernel)) ggX1_read_X1_isReader
theorem dX1_read_0 : decode cX1_read 0 = .ok (.aload_n 0, 1) := by decide +kernel
theorem dX1_read_1 : decode cX1_read 1 = .ok (.iload_n 1, 1) := by decide +kernel
theorem dX1_read_2 : decode cX1_read 2 = .ok (.invokestatic 101, 3) := by decide +kernel
theorem dX1_read_5 : decode cX1_read 5 = .ok (.ifCond .eq 7, 3) := by decide +kernel
theorem dX1_read_8 : decode cX1_read 8 = .ok (.iconst 0, 1) := by decide +kernel
theorem dX1_read_9 : decode cX1_read 9 = .ok (.goto 4, 3) := by decide +kernel
theorem dX1_read_12 : decode cX1_read 12 = .ok (.iconst 1, 1) := by decide +kernel
theorem dX1_read_13 : decode cX1_read 13 = .ok (.putfield 29, 3) := by decide +kernel
theorem dX1_read_16 : decode cX1_read 16 = .ok (.aload_n 0, 1) := by decide +kernel
theorem dX1_read_17 : decode cX1_read 17 = .ok (.getfield 29, 3) := by decide +kernel
theorem dX1_read_20 : decode cX1_read 20 = .ok (.ifCond .le 7, 3) := by decide +kernel
theorem dX1_read_23 : decode cX1_read 23 = .ok (.iconst 0, 1) := by decide +kernel
theorem dX1_read_24 : decode cX1_read 24 = .ok (.goto 9, 3) := by decide +kernel
theorem dX1_read_27 : decode cX1_read 27 = .ok (.aload_n 0, 1) := by decide +kernel
theorem dX1_read_28 : decode cX1_read 28 = .ok (.getfield 26, 3) := by decide +kernel
theorem dX1_read_31 : decode cX1_read 31 = .ok (.iload_n 1, 1) := by decide +kernel
theorem dX1_read_32 : decode cX1_read 32 = .ok (.iaload, 1) := by decide +kernel
theorem dX1_read_33 : decode cX1_read 33 = .ok (.ireturn, 1) := by decide +kernel
set_option maxRecDepth 20000 in
theorem ggX1_daysTo_X1_isReader : GoodIn wsX1_daysTo wsX1_isReader := goodIn_r _ [6] (by decide +kernel) (by decide +kernel)
set_option maxRecDepth 20000 in
theorem gX1_daysTo_X1_isReader : GoodIn wsX1_daysTo (va_wsS RX1 101 yX1_isReader wsX1_isReader) := goodIn_app (goodIn_of _ (by decide +kernel)) ggX1_daysTo_X1_isReader
set_option maxRecDepth 20000 in
theorem ggX1_daysTo_X1_place : GoodIn wsX1_daysTo wsX1_place := goodIn_r _ [10, 11, 12, 13, 14, 15, 16, 17, 18, 19, 20, 21] (by decide +kernel) (by decide +kernel)
set_option maxRecDepth 20000 in
theorem gX1_daysTo_X1_place : GoodIn wsX1_daysTo (wsV RX1 85 RX1 yX1_place wsX1_place) := goodIn_app (goodIn_of _ (by decide +kernel)) ggX1_daysTo_X1_place
theorem dX1_daysTo_0 : decode cX1_daysTo 0 = .ok (.aload_n 0, 1) := by decide +kernel
theorem dX1_daysTo_1 : decode cX1_daysTo 1 = .ok (.iload_n 1, 1) := by decide +kernel
theorem dX1_daysTo_2 : decode cX1_daysTo 2 = .ok (.invokestatic 101, 3) := by decide +kernel
theorem dX1_daysTo_5 : decode cX1_daysTo 5 = .ok (.ifCond .eq 14, 3) := by decide +kernel
theorem dX1_daysTo_8 : decode cX1_daysTo 8 = .ok (.iload_n 2, 1) := by decide +kernel
theorem dX1_daysTo_9 : decode cX1_daysTo 9 = .ok (.invokestatic 101, 3) := by decide +kernel
theorem dX1_daysTo_12 : decode cX1_daysTo 12 = .ok (.ifCond .eq 7, 3) := by decide +kernel
theorem dX1_daysTo_15 : decode cX1_daysTo 15 = .ok (.iconst 0, 1) := by decide +kernel
theorem dX1_daysTo_16 : decode cX1_daysTo 16 = .ok (.goto 4, 3) := by decide +kernel
theorem dX1_daysTo_19 : decode cX1_daysTo 19 = .ok (.iconst 1, 1) := by decide +kernel
theorem dX1_daysTo_20 : decode cX1_daysTo 20 = .ok (.putfield 29, 3) := by decide +kernel
theorem dX1_daysTo_23 : decode cX1_daysTo 23 = .ok (.aload_n 0, 1) := by decide +kernel
theorem dX1_daysTo_24 : decode cX1_daysTo 24 = .ok (.getfield 29, 3) := by decide +kernel
theorem dX1_daysTo_27 : decode cX1_daysTo 27 = .ok (.ifCond .gt 23, 3) := by decide +kernel
theorem dX1_daysTo_30 : decode cX1_daysTo 30 = .ok (.aload_n 0, 1) := by decide +kernel
theorem dX1_daysTo_31 : decode cX1_daysTo 31 = .ok (.getfield 23, 3) := by decide +kernel
theorem dX1_daysTo_34 : decode cX1_daysTo 34 = .ok (.iload_n 1, 1) := by decide +kernel
theorem dX1_daysTo_35 : decode cX1_daysTo 35 = .ok (.iaload, 1) := by decide +kernel
theorem dX1_daysTo_36 : decode cX1_daysTo 36 = .ok (.iconst (-1), 1) := by decide +kernel
theorem dX1_daysTo_37 : decode cX1_daysTo 37 = .ok (.if_icmp .eq 13, 3) := by decide +kernel
theorem dX1_daysTo_40 : decode cX1_daysTo 40 = .ok (.aload_n 0, 1) := by decide +kernel
theorem dX1_daysTo_41 : decode cX1_daysTo 41 = .ok (.getfield 23, 3) := by decide +kernel
theorem dX1_daysTo_44 : decode cX1_daysTo 44 = .ok (.iload_n 2, 1) := by decide +kernel
theorem dX1_daysTo_45 : decode cX1_daysTo 45 = .ok (.iaload, 1) := by decide +kernel
theorem dX1_daysTo_46 : decode cX1_daysTo 46 = .ok (.iconst (-1), 1) := by decide +kernel
theorem dX1_daysTo_47 : decode cX1_daysTo 47 = .ok (.if_icmp .ne 16, 3) := by decide +kernel
theorem dX1_daysTo_50 : decode cX1_daysTo 50 = .ok (.aload_n 0, 1) := by decide +kernel
theorem dX1_daysTo_51 : decode cX1_daysTo 51 = .ok (.getfield 29, 3) := by decide +kernel
theorem dX1_daysTo_54 : decode cX1_daysTo 54 = .ok (.ifCond .le 7, 3) := by decide +kernel
theorem dX1_daysTo_57 : decode cX1_daysTo 57 = .ok (.iconst 0, 1) := by decide +kernel
theorem dX1_daysTo_58 : decode cX1_daysTo 58 = .ok (.goto 4, 3) := by decide +kernel
theorem dX1_daysTo_61 : decode cX1_daysTo 61 = .ok (.iconst (-1), 1) := by decide +kernel
theorem dX1_daysTo_62 : decode cX1_daysTo 62 = .ok (.ireturn, 1) := by decide +kernel
theorem dX1_daysTo_63 : decode cX1_daysTo 63 = .ok (.aload_n 0, 1) := by decide +kernel
theorem dX1_daysTo_64 : decode cX1_daysTo 64 = .ok (.aload_n 0, 1) := by decide +kernel
theorem dX1_daysTo_65 : decode cX1_daysTo 65 = .ok (.getfield 23, 3) := by decide +kernel
theorem dX1_daysTo_68 : decode cX1_daysTo 68 = .ok (.iload_n 2, 1) := by decide +kernel
theorem dX1_daysTo_69 : decode cX1_daysTo 69 = .ok (.iaload, 1) := by decide +kernel
theorem dX1_daysTo_70 : decode cX1_daysTo 70 = .ok (.invokevirtual 85, 3) := by decide +kernel
theorem dX1_daysTo_73 : decode cX1_daysTo 73 = .ok (.aload_n 0, 1) := by decide +kernel
theorem dX1_daysTo_74 : decode cX1_daysTo 74 = .ok (.aload_n 0, 1) := by decide +kernel
theorem dX1_daysTo_75 : decode cX1_daysTo 75 = .ok (.getfield 23, 3) := by decide +kernel
theorem dX1_daysTo_78 : decode cX1_daysTo 78 = .ok (.iload_n 1, 1) := by decide +kernel
theorem dX1_daysTo_79 : decode cX1_daysTo 79 = .ok (.iaload, 1) := by decide +kernel
theorem dX1_daysTo_80 : decode cX1_daysTo 80 = .ok (.invokevirtual 85, 3) := by decide +kernel
theorem dX1_daysTo_83 : decode cX1_daysTo 83 = .ok (.isub, 1) := by decide +kernel
theorem dX1_daysTo_84 : decode cX1_daysTo 84 = .ok (.istore_n 3, 1) := by decide +kernel
theorem dX1_daysTo_85 : decode cX1_daysTo 85 = .ok (.iload_n 3, 1) := by decide +kernel
theorem dX1_daysTo_86 : decode cX1_daysTo 86 = .ok (.ifCond .ge 7, 3) := by decide +kernel
theorem dX1_daysTo_89 : decode cX1_daysTo 89 = .ok (.iconst (-1), 1) := by decide +kernel
theorem dX1_daysTo_90 : decode cX1_daysTo 90 = .ok (.goto 4, 3) := by decide +kernel
theorem dX1_daysTo_93 : decode cX1_daysTo 93 = .ok (.iload_n 3, 1) := by decide +kernel
theorem dX1_daysTo_94 : decode cX1_daysTo 94 = .ok (.ireturn, 1) := by decide +kernel
theorem dJ9_max_7cf53_0 : decode cJ9_max_7cf53 0 = .ok (.iload_n 0, 1) := by decide +kernel
theorem dJ9_max_7cf53_1 : decode cJ9_max_7cf53 1 = .ok (.iload_n 1, 1) := by decide +kernel
theorem dJ9_max_7cf53_2 : decode cJ9_max_7cf53 2 = .ok (.if_icmp .lt 7, 3) := by decide +kernel
theorem dJ9_max_7cf53_5 : decode cJ9_max_7cf53 5 = .ok (.iload_n 0, 1) := by decide +kernel
theorem dJ9_max_7cf53_6 : decode cJ9_max_7cf53 6 = .ok (.goto 4, 3) := by decide +kernel
theorem dJ9_max_7cf53_9 : decode cJ9_max_7cf53 9 = .ok (.iload_n 1, 1) := by decide +kernel
theorem dJ9_max_7cf53_10 : decode cJ9_max_7cf53 10 = .ok (.ireturn, 1) := by decide +kernel
set_option maxRecDepth 20000 in
theorem ggL_putFirst_X0_putFirst : GoodIn wsL_putFirst wsX0_putFirst := goodIn_ca (goodIn_r _ [6, 7, 8, 9, 5, 10, 11, 12, 13, 14, 15, 16, 17, 18, 19, 20, 21, 22, 23, 24, 25, 26, 27, 28, 29, 30, 31, 32, 33, 34, 35, 36, 37, 38, 39, 40, 41, 42, 43, 44, 45, 46, 47, 48, 49, 50, 51, 52, 53, 54, 55, 56, 57, 58, 59, 60, 61, 62, 63, 64, 65, 66, 67, 68, 69, 70, 71, 72, 73, 74, 75, 76, 77, 78, 79, 80, 81, 82, 83, 84, 85, 86, 87, 88, 89, 90, 91, 92, 93, 94, 95, 96, 97, 98, 99, 100, 101, 102, 103, 104] (by decide +kernel) (by decide +kernel)) (goodIn_sub (fun _ h => List.mem_cons_of_mem _ (List.mem_append_right _ h)) (by decide +kernel))
set_option maxRecDepth 20000 in
theorem gL_putFirst_X0_putFirst : GoodIn wsL_putFirst (wsV RL 7 RX0 yX0_putFirst wsX0_putFirst) := goodIn_app (goodIn_of _ (by decide +kernel)) ggL_putFirst_X0_putFirst
theorem dL_putFirst_0 : decode cL_putFirst 0 = .ok (.aload_n 1, 1) := by decide +kernel
theorem dL_putFirst_1 : decode cL_putFirst 1 = .ok (.iconst 0, 1) := by decide +kernel
theorem dL_putFirst_2 : decode cL_putFirst 2 = .ok (.aload_n 0, 1) := by decide +kernel
theorem dL_putFirst_3 : decode cL_putFirst 3 = .ok (.invokevirtual 7, 3) := by decide +kernel
theorem dL_putFirst_6 : decode cL_putFirst 6 = .ok (.i2l, 1) := by decide +kernel
theorem dL_putFirst_7 : decode cL_putFirst 7 = .ok (.lastore, 1) := by decide +kernel
theorem dL_putFirst_8 : decode cL_putFirst 8 = .ok (.goto 6, 3) := by decide +kernel
theorem dL_putFirst_11 : decode cL_putFirst 11 = .ok (.astore_n 2, 1) := by decide +kernel
theorem dL_putFirst_12 : decode cL_putFirst 12 = .ok (.iconst 1, 1) := by decide +kernel
theorem dL_putFirst_13 : decode cL_putFirst 13 = .ok (.ireturn, 1) := by decide +kernel
theorem dL_putFirst_14 : decode cL_putFirst 14 = .ok (.iconst 0, 1) := by decide +kernel
theorem dL_putFirst_15 : decode cL_putFirst 15 = .ok (.ireturn, 1) := by decide +kernel
set_option maxRecDepth 20000 in
theorem ggL_putBehind_X0_putBehind : GoodIn wsL_putBehind wsX0_putBehind := goodIn_ca (goodIn_ca (goodIn_r _ [7, 8, 9, 10, 6, 11, 12, 13, 14, 15, 16, 17, 18, 19, 20, 21, 22, 23, 24, 25, 26, 27, 28, 29, 30, 31, 32, 33, 34, 35, 36, 37, 38, 39, 40, 41, 42, 43, 44, 45, 46, 47, 48, 49, 50, 51, 52, 53, 54, 55, 56, 57, 58, 59, 60, 61, 62, 63, 64, 65, 66, 67, 68, 69, 70, 71, 72, 73, 74, 75, 76, 77, 78, 79, 80, 81, 82, 83, 84, 85, 86, 87, 88, 89, 90, 91, 92, 93, 94, 95, 96, 97, 98, 99, 100, 101, 102, 103, 104, 105, 106, 107, 108, 109, 110, 111, 112, 113, 114, 115] (by decide +kernel) (by decide +kernel)) (goodIn_sub (fun _ h => List.mem_cons_of_mem _ (List.mem_append_left _ (List.mem_append_right _ h))) (by decide +kernel))) (goodIn_sub (fun _ h => List.mem_cons_of_mem _ (List.mem_append_right _ h)) (by decide +kernel))
set_option maxRecDepth 20000 in
theorem gL_putBehind_X0_putBehind : GoodIn wsL_putBehind (wsV RL 15 RX0 yX0_putBehind wsX0_putBehind) := goodIn_app (goodIn_of _ (by decide +kernel)) ggL_putBehind_X0_putBehind
theorem dL_putBehind_0 : decode cL_putBehind 0 = .ok (.aload_n 2, 1) := by decide +kernel
theorem dL_putBehind_1 : decode cL_putBehind 1 = .ok (.iconst 0, 1) := by decide +kernel
theorem dL_putBehind_2 : decode cL_putBehind 2 = .ok (.aload_n 0, 1) := by decide +kernel
theorem dL_putBehind_3 : decode cL_putBehind 3 = .ok (.iload_n 1, 1) := by decide +kernel
theorem dL_putBehind_4 : decode cL_putBehind 4 = .ok (.invokevirtual 15, 3) := by decide +kernel
theorem dL_putBehind_7 : decode cL_putBehind 7 = .ok (.i2l, 1) := by decide +kernel
theorem dL_putBehind_8 : decode cL_putBehind 8 = .ok (.lastore, 1) := by decide +kernel
theorem dL_putBehind_9 : decode cL_putBehind 9 = .ok (.goto 9, 3) := by decide +kernel
theorem dL_putBehind_12 : decode cL_putBehind 12 = .ok (.astore_n 3, 1) := by decide +kernel
theorem dL_putBehind_13 : decode cL_putBehind 13 = .ok (.iconst 1, 1) := by decide +kernel
theorem dL_putBehind_14 : decode cL_putBehind 14 = .ok (.ireturn, 1) := by decide +kernel
theorem dL_putBehind_15 : decode cL_putBehind 15 = .ok (.astore_n 3, 1) := by decide +kernel
theorem dL_putBehind_16 : decode cL_putBehind 16 = .ok (.iconst 2, 1) := by decide +kernel
theorem dL_putBehind_17 : decode cL_putBehind 17 = .ok (.ireturn, 1) := by decide +kernel
theorem dL_putBehind_18 : decode cL_putBehind 18 = .ok (.iconst 0, 1) := by decide +kernel
theorem dL_putBehind_19 : decode cL_putBehind 19 = .ok (.ireturn, 1) := by decide +kernel
set_option maxRecDepth 20000 in
theorem ggL_takeOut_X0_takeOut : GoodIn wsL_takeOut wsX0_takeOut := goodIn_ca (goodIn_r _ [6, 7, 8, 9, 10, 5, 11, 12, 13, 14, 15, 16, 17, 18, 19, 20, 21, 22, 23, 24, 25, 26, 27, 28, 29, 30, 31, 32, 33, 34, 35, 36, 37, 38, 39, 40, 41, 42, 43, 44, 45, 46, 47, 48, 49, 50, 51, 52] (by decide +kernel) (by decide +kernel)) (goodIn_sub (fun _ h => List.mem_cons_of_mem _ (List.mem_append_right _ h)) (by decide +kernel))
set_option maxRecDepth 20000 in
theorem gL_takeOut_X0_takeOut : GoodIn wsL_takeOut (wsV RL 21 RX0 yX0_takeOut wsX0_takeOut) := goodIn_app (goodIn_of _ (by decide +kernel)) ggL_takeOut_X0_takeOut
theorem dL_takeOut_0 : decode cL_takeOut 0 = .ok (.aload_n 2, 1) := by decide +kernel
theorem dL_takeOut_1 : decode cL_takeOut 1 = .ok (.iconst 0, 1) := by decide +kernel
theorem dL_takeOut_2 : decode cL_takeOut 2 = .ok (.aload_n 0, 1) := by decide +kernel
theorem dL_takeOut_3 : decode cL_takeOut 3 = .ok (.iload_n 1, 1) := by decide +kernel
theorem dL_takeOut_4 : decode cL_takeOut 4 = .ok (.invokevirtual 21, 3) := by decide +kernel
theorem dL_takeOut_7 : decode cL_takeOut 7 = .ok (.i2l, 1) := by decide +kernel
theorem dL_takeOut_8 : decode cL_takeOut 8 = .ok (.lastore, 1) := by decide +kernel
theorem dL_takeOut_9 : decode cL_takeOut 9 = .ok (.goto 6, 3) := by decide +kernel
theorem dL_takeOut_12 : decode cL_takeOut 12 = .ok (.astore_n 3, 1) := by decide +kernel
theorem dL_takeOut_13 : decode cL_takeOut 13 = .ok (.iconst 1, 1) := by decide +kernel
theorem dL_takeOut_14 : decode cL_takeOut 14 = .ok (.ireturn, 1) := by decide +kernel
theorem dL_takeOut_15 : decode cL_takeOut 15 = .ok (.iconst 0, 1) := by decide +kernel
theorem dL_takeOut_16 : decode cL_takeOut 16 = .ok (.ireturn, 1) := by decide +kernel
set_option maxRecDepth 20000 in
theorem ggL_carry_X0_carry : GoodIn wsL_carry wsX0_carry := goodIn_ca (goodIn_ca (goodIn_r _ [7, 8, 9, 10, 11, 12, 6, 13, 14, 15, 16, 17, 18, 19, 20, 21, 22, 23, 24, 25, 26, 27, 28, 29, 30, 31, 32, 33, 34, 35, 36, 37, 38, 39, 40, 41, 42, 43, 44, 45, 46, 47, 48, 49, 50, 51, 52, 53, 54, 55, 56, 57, 58, 59, 60, 61, 62, 63, 64, 65, 66, 67, 68, 69, 70, 71, 72, 73, 74, 75, 76, 77, 78, 79, 80, 81, 82, 83, 84, 85, 86, 87, 88, 89, 90, 91, 92, 93, 94, 95, 96, 97, 98, 99, 100, 101, 102, 103, 104, 105, 106, 107, 108, 109, 110] (by decide +kernel) (by decide +kernel)) (goodIn_sub (fun _ h => List.mem_cons_of_mem _ (List.mem_append_left _ (List.mem_append_right _ h))) (by decide +kernel))) (goodIn_sub (fun _ h => List.mem_cons_of_mem _ (List.mem_append_right _ h)) (by decide +kernel))
set_option maxRecDepth 20000 in
theorem gL_carry_X0_carry : GoodIn wsL_carry (wsV RL 24 RX0 yX0_carry wsX0_carry) := goodIn_app (goodIn_of _ (by decide +kernel)) ggL_carry_X0_carry
theorem dL_carry_0 : decode cL_carry 0 = .ok (.aload_n 3, 1) := by decide +kernel
theorem dL_carry_1 : decode cL_carry 1 = .ok (.iconst 0, 1) := by decide +kernel
theorem dL_carry_2 : decode cL_carry 2 = .ok (.aload_n 0, 1) := by decide +kernel
theorem dL_carry_3 : decode cL_carry 3 = .ok (.iload_n 1, 1) := by decide +kernel
theorem dL_carry_4 : decode cL_carry 4 = .ok (.iload_n 2, 1) := by decide +kernel
theorem dL_carry_5 : decode cL_carry 5 = .ok (.invokevirtual 24, 3) := by decide +kernel
theorem dL_carry_8 : decode cL_carry 8 = .ok (.i2l, 1) := by decide +kernel
theorem dL_carry_9 : decode cL_carry 9 = .ok (.lastore, 1) := by decide +kernel
theorem dL_carry_10 : decode cL_carry 10 = .ok (.goto 11, 3) := by decide +kernel
theorem dL_carry_13 : decode cL_carry 13 = .ok (.astore 4, 2) := by decide +kernel
theorem dL_carry_15 : decode cL_carry 15 = .ok (.iconst 1, 1) := by decide +kernel
theorem dL_carry_16 : decode cL_carry 16 = .ok (.ireturn, 1) := by decide +kernel
theorem dL_carry_17 : decode cL_carry 17 = .ok (.astore 4, 2) := by decide +kernel
theorem dL_carry_19 : decode cL_carry 19 = .ok (.iconst 2, 1) := by decide +kernel
theorem dL_carry_20 : decode cL_carry 20 = .ok (.ireturn, 1) := by decide +kernel
theorem dL_carry_21 : decode cL_carry 21 = .ok (.iconst 0, 1) := by decide +kernel
theorem dL_carry_22 : decode cL_carry 22 = .ok (.ireturn, 1) := by decide +kernel
set_option maxRecDepth 20000 in
theorem ggL_next_X0_next : GoodIn wsL_next wsX0_next := goodIn_ca (goodIn_r _ [6, 7, 8, 9, 5, 10, 11, 12, 13, 14, 15, 16, 17, 18, 19, 20, 21, 22, 23, 24, 25, 26, 27, 28, 29, 30, 31, 32, 33, 34, 35] (by decide +kernel) (by decide +kernel)) (goodIn_sub (fun _ h => List.mem_cons_of_mem _ (List.mem_append_right _ h)) (by decide +kernel))
set_option maxRecDepth 20000 in
theorem gL_next_X0_next : GoodIn wsL_next (wsV RL 30 RX0 yX0_next wsX0_next) := goodIn_app (goodIn_of _ (by decide +kernel)) ggL_next_X0_next
theorem dL_next_0 : decode cL_next 0 = .ok (.aload_n 2, 1) := by decide +kernel
theorem dL_next_1 : decode cL_next 1 = .ok (.iconst 0, 1) := by decide +kernel
theorem dL_next_2 : decode cL_next 2 = .ok (.aload_n 0, 1) := by decide +kernel
theorem dL_next_3 : decode cL_next 3 = .ok (.iload_n 1, 1) := by decide +kernel
theorem dL_next_4 : decode cL_next 4 = .ok (.invokevirtual 30, 3) := by decide +kernel
theorem dL_next_7 : decode cL_next 7 = .ok (.i2l, 1) := by decide +kernel
theorem dL_next_8 : decode cL_next 8 = .ok (.lastore, 1) := by decide +kernel
theorem dL_next_9 : decode cL_next 9 = .ok (.goto 6, 3) := by decide +kernel
theorem dL_next_12 : decode cL_next 12 = .ok (.astore_n 3, 1) := by decide +kernel
theorem dL_next_13 : decode cL_next 13 = .ok (.iconst 1, 1) := by decide +kernel
theorem dL_next_14 : decode cL_next 14 = .ok (.ireturn, 1) := by decide +kernel
theorem dL_next_15 : decode cL_next 15 = .ok (.iconst 0, 1) := by decide +kernel
theorem dL_next_16 : decode cL_next 16 = .ok (.ireturn, 1) := by decide +kernel
set_option maxRecDepth 20000 in
theorem ggL_previous_X0_previous : GoodIn wsL_previous wsX0_previous := goodIn_ca (goodIn_r _ [6, 7, 8, 9, 5, 10, 11, 12, 13, 14, 15, 16, 17, 18, 19, 20, 21, 22, 23, 24, 25, 26, 27, 28, 29, 30, 31, 32, 33, 34, 35] (by decide +kernel) (by decide +kernel)) (goodIn_sub (fun _ h => List.mem_cons_of_mem _ (List.mem_append_right _ h)) (by decide +kernel))
set_option maxRecDepth 20000 in
theorem gL_previous_X0_previous : GoodIn wsL_previous (wsV RL 33 RX0 yX0_previous wsX0_previous) := goodIn_app (goodIn_of _ (by decide +kernel)) ggL_previous_X0_previous
theorem dL_previous_0 : decode cL_previous 0 = .ok (.aload_n 2, 1) := by decide +kernel
theorem dL_previous_1 : decode cL_previous 1 = .ok (.iconst 0, 1) := by decide +kernel
theorem dL_previous_2 : decode cL_previous 2 = .ok (.aload_n 0, 1) := by decide +kernel
theorem dL_previous_3 : decode cL_previous 3 = .ok (.iload_n 1, 1) := by decide +kernel
theorem dL_previous_4 : decode cL_previous 4 = .ok (.invokevirtual 33, 3) := by decide +kernel
theorem dL_previous_7 : decode cL_previous 7 = .ok (.i2l, 1) := by decide +kernel
theorem dL_previous_8 : decode cL_previous 8 = .ok (.lastore, 1) := by decide +kernel
theorem dL_previous_9 : decode cL_previous 9 = .ok (.goto 6, 3) := by decide +kernel
theorem dL_previous_12 : decode cL_previous 12 = .ok (.astore_n 3, 1) := by decide +kernel
theorem dL_previous_13 : decode cL_previous 13 = .ok (.iconst 1, 1) := by decide +kernel
theorem dL_previous_14 : decode cL_previous 14 = .ok (.ireturn, 1) := by decide +kernel
theorem dL_previous_15 : decode cL_previous 15 = .ok (.iconst 0, 1) := by decide +kernel
theorem dL_previous_16 : decode cL_previous 16 = .ok (.ireturn, 1) := by decide +kernel
set_option maxRecDepth 20000 in
theorem ggL_mark_X0_mark : GoodIn wsL_mark wsX0_mark := goodIn_ca (goodIn_r _ [6, 7, 8, 9, 5, 10, 11, 12, 13, 14, 15, 16, 17, 18, 19, 20, 21, 22, 23, 24, 25, 26, 27, 28, 29, 30, 31, 32, 33, 34, 35] (by decide +kernel) (by decide +kernel)) (goodIn_sub (fun _ h => List.mem_cons_of_mem _ (List.mem_append_right _ h)) (by decide +kernel))
set_option maxRecDepth 20000 in
theorem gL_mark_X0_mark : GoodIn wsL_mark (wsV RL 36 RX0 yX0_mark wsX0_mark) := goodIn_app (goodIn_of _ (by decide +kernel)) ggL_mark_X0_mark
theorem dL_mark_0 : decode cL_mark 0 = .ok (.aload_n 2, 1) := by decide +kernel
theorem dL_mark_1 : decode cL_mark 1 = .ok (.iconst 0, 1) := by decide +kernel
theorem dL_mark_2 : decode cL_mark 2 = .ok (.aload_n 0, 1) := by decide +kernel
theorem dL_mark_3 : decode cL_mark 3 = .ok (.iload_n 1, 1) := by decide +kernel
theorem dL_mark_4 : decode cL_mark 4 = .ok (.invokevirtual 36, 3) := by decide +kernel
theorem dL_mark_7 : decode cL_mark 7 = .ok (.i2l, 1) := by decide +kernel
theorem dL_mark_8 : decode cL_mark 8 = .ok (.lastore, 1) := by decide +kernel
theorem dL_mark_9 : decode cL_mark 9 = .ok (.goto 6, 3) := by decide +kernel
theorem dL_mark_12 : decode cL_mark 12 = .ok (.astore_n 3, 1) := by decide +kernel
theorem dL_mark_13 : decode cL_mark 13 = .ok (.iconst 1, 1) := by decide +kernel
theorem dL_mark_14 : decode cL_mark 14 = .ok (.ireturn, 1) := by decide +kernel
theorem dL_mark_15 : decode cL_mark 15 = .ok (.iconst 0, 1) := by decide +kernel
theorem dL_mark_16 : decode cL_mark 16 = .ok (.ireturn, 1) := by decide +kernel
set_option maxRecDepth 20000 in
theorem ggL_ahead_X0_ahead : GoodIn wsL_ahead wsX0_ahead := goodIn_ca (goodIn_r _ [6, 7, 8, 9, 5, 10, 11, 12, 13, 14, 15, 16, 17, 18, 19, 20, 21, 22, 23, 24, 25, 26, 27, 28, 29, 30, 31, 32, 33, 34, 35, 36, 37, 38, 39] (by decide +kernel) (by decide +kernel)) (goodIn_sub (fun _ h => List.mem_cons_of_mem _ (List.mem_append_right _ h)) (by decide +kernel))
set_option maxRecDepth 20000 in
theorem gL_ahead_X0_ahead : GoodIn wsL_ahead (wsV RL 39 RX0 yX0_ahead wsX0_ahead) := goodIn_app (goodIn_of _ (by decide +kernel)) ggL_ahead_X0_ahead
theorem dL_ahead_0 : decode cL_ahead 0 = .ok (.aload_n 2, 1) := by decide +kernel
theorem dL_ahead_1 : decode cL_ahead 1 = .ok (.iconst 0, 1) := by decide +kernel
theorem dL_ahead_2 : decode cL_ahead 2 = .ok (.aload_n 0, 1) := by decide +kernel
theorem dL_ahead_3 : decode cL_ahead 3 = .ok (.iload_n 1, 1) := by decide +kernel
theorem dL_ahead_4 : decode cL_ahead 4 = .ok (.invokevirtual 39, 3) := by decide +kernel
theorem dL_ahead_7 : decode cL_ahead 7 = .ok (.i2l, 1) := by decide +kernel
theorem dL_ahead_8 : decode cL_ahead 8 = .ok (.lastore, 1) := by decide +kernel
theorem dL_ahead_9 : decode cL_ahead 9 = .ok (.goto 6, 3) := by decide +kernel
theorem dL_ahead_12 : decode cL_ahead 12 = .ok (.astore_n 3, 1) := by decide +kernel
theorem dL_ahead_13 : decode cL_ahead 13 = .ok (.iconst 1, 1) := by decide +kernel
theorem dL_ahead_14 : decode cL_ahead 14 = .ok (.ireturn, 1) := by decide +kernel
theorem dL_ahead_15 : decode cL_ahead 15 = .ok (.iconst 0, 1) := by decide +kernel
theorem dL_ahead_16 : decode cL_ahead 16 = .ok (.ireturn, 1) := by decide +kernel
set_option maxRecDepth 20000 in
theorem ggL_gapBehind_X0_gapBehind : GoodIn wsL_gapBehind wsX0_gapBehind := goodIn_ca (goodIn_r _ [6, 7, 8, 9, 5, 10, 11, 12, 13, 14, 15, 16, 17, 18, 19, 20, 21, 22, 23, 24, 25, 26, 27, 28, 29, 30, 31, 32, 33, 34, 35] (by decide +kernel) (by decide +kernel)) (goodIn_sub (fun _ h => List.mem_cons_of_mem _ (List.mem_append_right _ h)) (by decide +kernel))
set_option maxRecDepth 20000 in
theorem gL_gapBehind_X0_gapBehind : GoodIn wsL_gapBehind (wsV RL 42 RX0 yX0_gapBehind wsX0_gapBehind) := goodIn_app (goodIn_of _ (by decide +kernel)) ggL_gapBehind_X0_gapBehind
theorem dL_gapBehind_0 : decode cL_gapBehind 0 = .ok (.aload_n 2, 1) := by decide +kernel
theorem dL_gapBehind_1 : decode cL_gapBehind 1 = .ok (.iconst 0, 1) := by decide +kernel
theorem dL_gapBehind_2 : decode cL_gapBehind 2 = .ok (.aload_n 0, 1) := by decide +kernel
theorem dL_gapBehind_3 : decode cL_gapBehind 3 = .ok (.iload_n 1, 1) := by decide +kernel
theorem dL_gapBehind_4 : decode cL_gapBehind 4 = .ok (.invokevirtual 42, 3) := by decide +kernel
theorem dL_gapBehind_7 : decode cL_gapBehind 7 = .ok (.i2l, 1) := by decide +kernel
theorem dL_gapBehind_8 : decode cL_gapBehind 8 = .ok (.lastore, 1) := by decide +kernel
theorem dL_gapBehind_9 : decode cL_gapBehind 9 = .ok (.goto 6, 3) := by decide +kernel
theorem dL_gapBehind_12 : decode cL_gapBehind 12 = .ok (.astore_n 3, 1) := by decide +kernel
theorem dL_gapBehind_13 : decode cL_gapBehind 13 = .ok (.iconst 1, 1) := by decide +kernel
theorem dL_gapBehind_14 : decode cL_gapBehind 14 = .ok (.ireturn, 1) := by decide +kernel
theorem dL_gapBehind_15 : decode cL_gapBehind 15 = .ok (.iconst 0, 1) := by decide +kernel
theorem dL_gapBehind_16 : decode cL_gapBehind 16 = .ok (.ireturn, 1) := by decide +kernel
set_option maxRecDepth 20000 in
theorem ggL_load_X0_load : GoodIn wsL_load wsX0_load := goodIn_ca (goodIn_r _ [6, 7, 8, 9, 10, 5, 11, 12, 13, 14, 15, 16, 17, 18, 19, 20, 21, 22, 23, 24, 25, 26, 27, 28, 29, 30, 31, 32, 33, 34, 35, 36] (by decide +kernel) (by decide +kernel)) (goodIn_sub (fun _ h => List.mem_cons_of_mem _ (List.mem_append_right _ h)) (by decide +kernel))
set_option maxRecDepth 20000 in
theorem gL_load_X0_load : GoodIn wsL_load (wsV RL 45 RX0 yX0_load wsX0_load) := goodIn_app (goodIn_of _ (by decide +kernel)) ggL_load_X0_load
theorem dL_load_0 : decode cL_load 0 = .ok (.aload_n 3, 1) := by decide +kernel
theorem dL_load_1 : decode cL_load 1 = .ok (.iconst 0, 1) := by decide +kernel
theorem dL_load_2 : decode cL_load 2 = .ok (.aload_n 0, 1) := by decide +kernel
theorem dL_load_3 : decode cL_load 3 = .ok (.iload_n 1, 1) := by decide +kernel
theorem dL_load_4 : decode cL_load 4 = .ok (.iload_n 2, 1) := by decide +kernel
theorem dL_load_5 : decode cL_load 5 = .ok (.invokevirtual 45, 3) := by decide +kernel
theorem dL_load_8 : decode cL_load 8 = .ok (.i2l, 1) := by decide +kernel
theorem dL_load_9 : decode cL_load 9 = .ok (.lastore, 1) := by decide +kernel
theorem dL_load_10 : decode cL_load 10 = .ok (.goto 7, 3) := by decide +kernel
theorem dL_load_13 : decode cL_load 13 = .ok (.astore 4, 2) := by decide +kernel
theorem dL_load_15 : decode cL_load 15 = .ok (.iconst 1, 1) := by decide +kernel
theorem dL_load_16 : decode cL_load 16 = .ok (.ireturn, 1) := by decide +kernel
theorem dL_load_17 : decode cL_load 17 = .ok (.iconst 0, 1) := by decide +kernel
theorem dL_load_18 : decode cL_load 18 = .ok (.ireturn, 1) := by decide +kernel
set_option maxRecDepth 20000 in
theorem ggL_loaded_X0_loaded : GoodIn wsL_loaded wsX0_loaded := goodIn_ca (goodIn_r _ [6, 7, 8, 9, 5, 10, 11, 12, 13, 14, 15, 16, 17, 18, 19, 20, 21, 22, 23, 24, 25, 26, 27, 28, 29, 30, 31, 32, 33, 34, 35, 36, 37, 38, 39, 40, 41, 42, 43, 44, 45, 46] (by decide +kernel) (by decide +kernel)) (goodIn_sub (fun _ h => List.mem_cons_of_mem _ (List.mem_append_right _ h)) (by decide +kernel))
set_option maxRecDepth 20000 in
theorem gL_loaded_X0_loaded : GoodIn wsL_loaded (wsV RL 48 RX0 yX0_loaded wsX0_loaded) := goodIn_app (goodIn_of _ (by decide +kernel)) ggL_loaded_X0_loaded
theorem dL_loaded_0 : decode cL_loaded 0 = .ok (.aload_n 2, 1) := by decide +kernel
theorem dL_loaded_1 : decode cL_loaded 1 = .ok (.iconst 0, 1) := by decide +kernel
theorem dL_loaded_2 : decode cL_loaded 2 = .ok (.aload_n 0, 1) := by decide +kernel
theorem dL_loaded_3 : decode cL_loaded 3 = .ok (.iload_n 1, 1) := by decide +kernel
theorem dL_loaded_4 : decode cL_loaded 4 = .ok (.invokevirtual 48, 3) := by decide +kernel
theorem dL_loaded_7 : decode cL_loaded 7 = .ok (.i2l, 1) := by decide +kernel
theorem dL_loaded_8 : decode cL_loaded 8 = .ok (.lastore, 1) := by decide +kernel
theorem dL_loaded_9 : decode cL_loaded 9 = .ok (.goto 6, 3) := by decide +kernel
theorem dL_loaded_12 : decode cL_loaded 12 = .ok (.astore_n 3, 1) := by decide +kernel
theorem dL_loaded_13 : decode cL_loaded 13 = .ok (.iconst 1, 1) := by decide +kernel
theorem dL_loaded_14 : decode cL_loaded 14 = .ok (.ireturn, 1) := by decide +kernel
theorem dL_loaded_15 : decode cL_loaded 15 = .ok (.iconst 0, 1) := by decide +kernel
theorem dL_loaded_16 : decode cL_loaded 16 = .ok (.ireturn, 1) := by decide +kernel
set_option maxRecDepth 20000 in
theorem ggL_wouldMove_X0_wouldMove : GoodIn wsL_wouldMove wsX0_wouldMove := goodIn_ca (goodIn_r _ [6, 7, 8, 9, 5, 10, 11, 12, 13, 14, 15, 16, 17, 18, 19, 20, 21, 22, 23, 24, 25, 26, 27, 28, 29, 30, 31, 32, 33, 34, 35, 36, 37, 38, 39, 40, 41, 42, 43, 44, 45, 46, 47, 48, 49, 50, 51, 52, 53, 54, 55, 56, 57, 58, 59, 60, 61, 62, 63, 64, 65, 66, 67, 68, 69, 70, 71, 72, 73, 74, 75, 76, 77] (by decide +kernel) (by decide +kernel)) (goodIn_sub (fun _ h => List.mem_cons_of_mem _ (List.mem_append_right _ h)) (by decide +kernel))
set_option maxRecDepth 20000 in
theorem gL_wouldMove_X0_wouldMove : GoodIn wsL_wouldMove (wsV RL 51 RX0 yX0_wouldMove wsX0_wouldMove) := goodIn_app (goodIn_of _ (by decide +kernel)) ggL_wouldMove_X0_wouldMove
theorem dL_wouldMove_0 : decode cL_wouldMove 0 = .ok (.aload_n 2, 1) := by decide +kernel
theorem dL_wouldMove_1 : decode cL_wouldMove 1 = .ok (.iconst 0, 1) := by decide +kernel
theorem dL_wouldMove_2 : decode cL_wouldMove 2 = .ok (.aload_n 0, 1) := by decide +kernel
theorem dL_wouldMove_3 : decode cL_wouldMove 3 = .ok (.iload_n 1, 1) := by decide +kernel
theorem dL_wouldMove_4 : decode cL_wouldMove 4 = .ok (.invokevirtual 51, 3) := by decide +kernel
theorem dL_wouldMove_7 : decode cL_wouldMove 7 = .ok (.i2l, 1) := by decide +kernel
theorem dL_wouldMove_8 : decode cL_wouldMove 8 = .ok (.lastore, 1) := by decide +kernel
theorem dL_wouldMove_9 : decode cL_wouldMove 9 = .ok (.goto 6, 3) := by decide +kernel
theorem dL_wouldMove_12 : decode cL_wouldMove 12 = .ok (.astore_n 3, 1) := by decide +kernel
theorem dL_wouldMove_13 : decode cL_wouldMove 13 = .ok (.iconst 1, 1) := by decide +kernel
theorem dL_wouldMove_14 : decode cL_wouldMove 14 = .ok (.ireturn, 1) := by decide +kernel
theorem dL_wouldMove_15 : decode cL_wouldMove 15 = .ok (.iconst 0, 1) := by decide +kernel
theorem dL_wouldMove_16 : decode cL_wouldMove 16 = .ok (.ireturn, 1) := by decide +kernel
set_option maxRecDepth 20000 in
theorem ggL_spread_X0_spread : GoodIn wsL_spread wsX0_spread := goodIn_ca (goodIn_r _ [6, 7, 8, 9, 5, 10, 11, 12, 13, 14, 15, 16, 17, 18, 19, 20, 21] (by decide +kernel) (by decide +kernel)) (goodIn_sub (fun _ h => List.mem_cons_of_mem _ (List.mem_append_right _ h)) (by decide +kernel))
set_option maxRecDepth 20000 in
theorem gL_spread_X0_spread : GoodIn wsL_spread (wsV RL 54 RX0 yX0_spread wsX0_spread) := goodIn_app (goodIn_of _ (by decide +kernel)) ggL_spread_X0_spread
theorem dL_spread_0 : decode cL_spread 0 = .ok (.aload_n 2, 1) := by decide +kernel
theorem dL_spread_1 : decode cL_spread 1 = .ok (.iconst 0, 1) := by decide +kernel
theorem dL_spread_2 : decode cL_spread 2 = .ok (.aload_n 0, 1) := by decide +kernel
theorem dL_spread_3 : decode cL_spread 3 = .ok (.iload_n 1, 1) := by decide +kernel
theorem dL_spread_4 : decode cL_spread 4 = .ok (.invokevirtual 54, 3) := by decide +kernel
theorem dL_spread_7 : decode cL_spread 7 = .ok (.i2l, 1) := by decide +kernel
theorem dL_spread_8 : decode cL_spread 8 = .ok (.lastore, 1) := by decide +kernel
theorem dL_spread_9 : decode cL_spread 9 = .ok (.goto 6, 3) := by decide +kernel
theorem dL_spread_12 : decode cL_spread 12 = .ok (.astore_n 3, 1) := by decide +kernel
theorem dL_spread_13 : decode cL_spread 13 = .ok (.iconst 1, 1) := by decide +kernel
theorem dL_spread_14 : decode cL_spread 14 = .ok (.ireturn, 1) := by decide +kernel
theorem dL_spread_15 : decode cL_spread 15 = .ok (.iconst 0, 1) := by decide +kernel
theorem dL_spread_16 : decode cL_spread 16 = .ok (.ireturn, 1) := by decide +kernel
set_option maxRecDepth 20000 in
theorem ggL_seat_X0_seat : GoodIn wsL_seat wsX0_seat := goodIn_ca (goodIn_r _ [6, 7, 8, 9, 5, 10, 11, 12, 13, 14, 15, 16, 17, 18, 19, 20, 21, 22, 23, 24, 25, 26, 27, 28, 29, 30, 31, 32, 33, 34] (by decide +kernel) (by decide +kernel)) (goodIn_sub (fun _ h => List.mem_cons_of_mem _ (List.mem_append_right _ h)) (by decide +kernel))
set_option maxRecDepth 20000 in
theorem gL_seat_X0_seat : GoodIn wsL_seat (wsV RL 57 RX0 yX0_seat wsX0_seat) := goodIn_app (goodIn_of _ (by decide +kernel)) ggL_seat_X0_seat
theorem dL_seat_0 : decode cL_seat 0 = .ok (.aload_n 3, 1) := by decide +kernel
theorem dL_seat_1 : decode cL_seat 1 = .ok (.iconst 0, 1) := by decide +kernel
theorem dL_seat_2 : decode cL_seat 2 = .ok (.aload_n 0, 1) := by decide +kernel
theorem dL_seat_3 : decode cL_seat 3 = .ok (.iload_n 1, 1) := by decide +kernel
theorem dL_seat_4 : decode cL_seat 4 = .ok (.iload_n 2, 1) := by decide +kernel
theorem dL_seat_5 : decode cL_seat 5 = .ok (.invokevirtual 57, 3) := by decide +kernel
theorem dL_seat_8 : decode cL_seat 8 = .ok (.i2l, 1) := by decide +kernel
theorem dL_seat_9 : decode cL_seat 9 = .ok (.lastore, 1) := by decide +kernel
theorem dL_seat_10 : decode cL_seat 10 = .ok (.goto 7, 3) := by decide +kernel
theorem dL_seat_13 : decode cL_seat 13 = .ok (.astore 4, 2) := by decide +kernel
theorem dL_seat_15 : decode cL_seat 15 = .ok (.iconst 1, 1) := by decide +kernel
theorem dL_seat_16 : decode cL_seat 16 = .ok (.ireturn, 1) := by decide +kernel
theorem dL_seat_17 : decode cL_seat 17 = .ok (.iconst 0, 1) := by decide +kernel
theorem dL_seat_18 : decode cL_seat 18 = .ok (.ireturn, 1) := by decide +kernel
set_option maxRecDepth 20000 in
theorem ggL_at_X0_at : GoodIn wsL_at wsX0_at := goodIn_ca (goodIn_r _ [6, 7, 8, 9, 5, 10, 11, 12, 13, 14, 15, 16, 17, 18, 19, 20] (by decide +kernel) (by decide +kernel)) (goodIn_sub (fun _ h => List.mem_cons_of_mem _ (List.mem_append_right _ h)) (by decide +kernel))
set_option maxRecDepth 20000 in
theorem gL_at_X0_at : GoodIn wsL_at (wsV RL 60 RX0 yX0_at wsX0_at) := goodIn_app (goodIn_of _ (by decide +kernel)) ggL_at_X0_at
theorem dL_at_0 : decode cL_at 0 = .ok (.aload_n 2, 1) := by decide +kernel
theorem dL_at_1 : decode cL_at 1 = .ok (.iconst 0, 1) := by decide +kernel
theorem dL_at_2 : decode cL_at 2 = .ok (.aload_n 0, 1) := by decide +kernel
theorem dL_at_3 : decode cL_at 3 = .ok (.iload_n 1, 1) := by decide +kernel
theorem dL_at_4 : decode cL_at 4 = .ok (.invokevirtual 60, 3) := by decide +kernel
theorem dL_at_7 : decode cL_at 7 = .ok (.i2l, 1) := by decide +kernel
theorem dL_at_8 : decode cL_at 8 = .ok (.lastore, 1) := by decide +kernel
theorem dL_at_9 : decode cL_at 9 = .ok (.goto 6, 3) := by decide +kernel
theorem dL_at_12 : decode cL_at 12 = .ok (.astore_n 3, 1) := by decide +kernel
theorem dL_at_13 : decode cL_at 13 = .ok (.iconst 1, 1) := by decide +kernel
theorem dL_at_14 : decode cL_at 14 = .ok (.ireturn, 1) := by decide +kernel
theorem dL_at_15 : decode cL_at 15 = .ok (.iconst 0, 1) := by decide +kernel
theorem dL_at_16 : decode cL_at 16 = .ok (.ireturn, 1) := by decide +kernel
set_option maxRecDepth 20000 in
theorem ggL_read_X0_read : GoodIn wsL_read wsX0_read := goodIn_ca (goodIn_r _ [6, 7, 8, 9, 5, 10, 11, 12, 13, 14, 15, 16, 17, 18, 19, 20] (by decide +kernel) (by decide +kernel)) (goodIn_sub (fun _ h => List.mem_cons_of_mem _ (List.mem_append_right _ h)) (by decide +kernel))
set_option maxRecDepth 20000 in
theorem gL_read_X0_read : GoodIn wsL_read (wsV RL 63 RX0 yX0_read wsX0_read) := goodIn_app (goodIn_of _ (by decide +kernel)) ggL_read_X0_read
theorem dL_read_0 : decode cL_read 0 = .ok (.aload_n 2, 1) := by decide +kernel
theorem dL_read_1 : decode cL_read 1 = .ok (.iconst 0, 1) := by decide +kernel
theorem dL_read_2 : decode cL_read 2 = .ok (.aload_n 0, 1) := by decide +kernel
theorem dL_read_3 : decode cL_read 3 = .ok (.iload_n 1, 1) := by decide +kernel
theorem dL_read_4 : decode cL_read 4 = .ok (.invokevirtual 63, 3) := by decide +kernel
theorem dL_read_7 : decode cL_read 7 = .ok (.i2l, 1) := by decide +kernel
theorem dL_read_8 : decode cL_read 8 = .ok (.lastore, 1) := by decide +kernel
theorem dL_read_9 : decode cL_read 9 = .ok (.goto 6, 3) := by decide +kernel
theorem dL_read_12 : decode cL_read 12 = .ok (.astore_n 3, 1) := by decide +kernel
theorem dL_read_13 : decode cL_read 13 = .ok (.iconst 1, 1) := by decide +kernel
theorem dL_read_14 : decode cL_read 14 = .ok (.ireturn, 1) := by decide +kernel
theorem dL_read_15 : decode cL_read 15 = .ok (.iconst 0, 1) := by decide +kernel
theorem dL_read_16 : decode cL_read 16 = .ok (.ireturn, 1) := by decide +kernel
set_option maxRecDepth 20000 in
theorem ggL_daysTo_X0_daysTo : GoodIn wsL_daysTo wsX0_daysTo := goodIn_ca (goodIn_r _ [6, 7, 8, 9, 5, 10, 11, 12, 13, 14, 15, 16, 17, 18, 19, 20, 21, 22, 23, 24, 25, 26] (by decide +kernel) (by decide +kernel)) (goodIn_sub (fun _ h => List.mem_cons_of_mem _ (List.mem_append_right _ h)) (by decide +kernel))
set_option maxRecDepth 20000 in
theorem gL_daysTo_X0_daysTo : GoodIn wsL_daysTo (wsV RL 66 RX0 yX0_daysTo wsX0_daysTo) := goodIn_app (goodIn_of _ (by decide +kernel)) ggL_daysTo_X0_daysTo
theorem dL_daysTo_0 : decode cL_daysTo 0 = .ok (.aload_n 3, 1) := by decide +kernel
theorem dL_daysTo_1 : decode cL_daysTo 1 = .ok (.iconst 0, 1) := by decide +kernel
theorem dL_daysTo_2 : decode cL_daysTo 2 = .ok (.aload_n 0, 1) := by decide +kernel
theorem dL_daysTo_3 : decode cL_daysTo 3 = .ok (.iload_n 1, 1) := by decide +kernel
theorem dL_daysTo_4 : decode cL_daysTo 4 = .ok (.iload_n 2, 1) := by decide +kernel
theorem dL_daysTo_5 : decode cL_daysTo 5 = .ok (.invokevirtual 66, 3) := by decide +kernel
theorem dL_daysTo_8 : decode cL_daysTo 8 = .ok (.i2l, 1) := by decide +kernel
theorem dL_daysTo_9 : decode cL_daysTo 9 = .ok (.lastore, 1) := by decide +kernel
theorem dL_daysTo_10 : decode cL_daysTo 10 = .ok (.goto 7, 3) := by decide +kernel
theorem dL_daysTo_13 : decode cL_daysTo 13 = .ok (.astore 4, 2) := by decide +kernel
theorem dL_daysTo_15 : decode cL_daysTo 15 = .ok (.iconst 1, 1) := by decide +kernel
theorem dL_daysTo_16 : decode cL_daysTo 16 = .ok (.ireturn, 1) := by decide +kernel
theorem dL_daysTo_17 : decode cL_daysTo 17 = .ok (.iconst 0, 1) := by decide +kernel
theorem dL_daysTo_18 : decode cL_daysTo 18 = .ok (.ireturn, 1) := by decide +kernel
set_option maxRecDepth 20000 in
theorem ggL_law_X0_init : GoodIn wsL_law wsX0_init := goodIn_r _ [9, 10, 11, 12, 13, 14, 15, 16, 17, 18, 19, 466, 467, 468, 469, 470, 471, 472, 473] (by decide +kernel) (by decide +kernel)
set_option maxRecDepth 20000 in
theorem gL_law_X0_init : GoodIn wsL_law (wsX0_init) := ggL_law_X0_init
set_option maxRecDepth 20000 in
theorem ggL_law_X1_init : GoodIn wsL_law wsX1_init := goodIn_r _ [22, 23, 11, 12, 13, 24, 25, 26, 27, 28, 29, 30, 474, 475, 476, 477, 478, 479, 480, 481, 482, 483] (by decide +kernel) (by decide +kernel)
set_option maxRecDepth 20000 in
theorem gL_law_X1_init : GoodIn wsL_law (wsX1_init) := ggL_law_X1_init
set_option maxRecDepth 20000 in
theorem ggL_law_L_putFirst : GoodIn wsL_law wsL_putFirst := goodIn_ca (goodIn_r _ [34, 35, 36, 37, 38, 2, 39, 40, 41, 42, 43, 44, 45, 46, 47, 48, 49, 50, 51, 52, 53, 54, 55, 56, 57, 58, 59, 60, 61, 62, 63, 64, 65, 66, 67, 68, 15, 69, 70, 71, 72, 14, 73, 74, 75, 76, 16, 77, 78, 79, 80, 81, 82, 83, 84, 85, 86, 87, 88, 89, 90, 91, 92, 93, 94, 95, 96, 97, 98, 99, 100, 101, 102, 103, 104, 105, 106, 107, 108, 109, 110, 111, 112, 113, 114, 115, 116, 117, 118, 119, 120, 121, 122, 123, 124, 125, 17, 466, 467, 468, 469, 470, 471, 472, 473] (by decide +kernel) (by decide +kernel)) (goodIn_sub (fun _ h => List.mem_append_left _ (List.mem_append_left _ (List.mem_append_right _ h))) (by decide +kernel))
set_option maxRecDepth 20000 in
theorem gL_law_L_putFirst : GoodIn wsL_law (va_wsS RL 73 yL_putFirst wsL_putFirst) := goodIn_app (goodIn_of _ (by decide +kernel)) ggL_law_L_putFirst
set_option maxRecDepth 20000 in
theorem ggL_law_X1_putFirst : GoodIn wsL_law wsX1_putFirst := goodIn_r _ [129, 130, 131, 132, 133, 5, 134, 135, 136, 137, 138, 139, 140, 27, 141, 142, 143, 144, 24, 25, 145, 146, 147, 148, 149, 150, 151, 152, 153, 154, 155, 156, 157, 158, 159, 160, 161, 162, 163, 164, 165, 166, 167, 168, 28, 474, 475, 476, 477, 478, 479, 480, 481, 482, 483] (by decide +kernel) (by decide +kernel)
set_option maxRecDepth 20000 in
theorem gL_law_X1_putFirst : GoodIn wsL_law (wsV RL 78 RX1 yX1_putFirst wsX1_putFirst) := goodIn_app (goodIn_of _ (by decide +kernel)) ggL_law_X1_putFirst
set_option maxRecDepth 20000 in
theorem ggL_law_X1_thrown : GoodIn wsL_law wsX1_thrown := goodIn_r _ [172, 130, 474, 475, 476, 477, 478, 479, 480, 481, 482, 483] (by decide +kernel) (by decide +kernel)
set_option maxRecDepth 20000 in
theorem gL_law_X1_thrown : GoodIn wsL_law (wsV RL 79 RX1 yX1_thrown wsX1_thrown) := goodIn_app (goodIn_of _ (by decide +kernel)) ggL_law_X1_thrown
set_option maxRecDepth 20000 in
theorem ggL_law_L_putBehind : GoodIn wsL_law wsL_putBehind := goodIn_ca (goodIn_ca (goodIn_r _ [175, 176, 35, 177, 178, 179, 2, 180, 181, 182, 183, 184, 185, 186, 187, 188, 189, 190, 47, 14, 40, 41, 42, 43, 44, 45, 46, 48, 49, 50, 51, 52, 53, 54, 55, 56, 57, 58, 59, 60, 61, 62, 63, 64, 65, 66, 67, 68, 15, 69, 70, 71, 72, 73, 74, 75, 76, 16, 77, 78, 79, 80, 81, 82, 83, 84, 85, 86, 87, 88, 89, 90, 91, 92, 93, 94, 95, 96, 97, 98, 99, 100, 101, 102, 103, 104, 105, 106, 107, 108, 109, 110, 111, 112, 113, 114, 115, 116, 117, 118, 119, 120, 121, 122, 123, 124, 125, 17, 466, 467, 468, 469, 470, 471, 472, 473] (by decide +kernel) (by decide +kernel)) (goodIn_sub (fun _ h => List.mem_append_left _ (List.mem_append_right _ h)) (by decide +kernel))) (goodIn_sub (fun _ h => List.mem_append_left _ (List.mem_append_left _ (List.mem_append_right _ h))) (by decide +kernel))
set_option maxRecDepth 20000 in
theorem gL_law_L_putBehind : GoodIn wsL_law (va_wsS RL 82 yL_putBehind wsL_putBehind) := goodIn_app (goodIn_of _ (by decide +kernel)) ggL_law_L_putBehind
set_option maxRecDepth 20000 in
theorem ggL_law_X1_putBehind : GoodIn wsL_law wsX1_putBehind := goodIn_r _ [194, 130, 195, 196, 197, 5, 198, 135, 27, 131, 132, 133, 134, 136, 199, 200, 201, 202, 24, 137, 138, 139, 140, 141, 142, 143, 144, 25, 145, 146, 147, 148, 149, 150, 151, 152, 153, 154, 155, 156, 157, 158, 159, 160, 161, 162, 163, 164, 165, 166, 167, 168, 28, 474, 475, 476, 477, 478, 479, 480, 481, 482, 483] (by decide +kernel) (by decide +kernel)
set_option maxRecDepth 20000 in
theorem gL_law_X1_putBehind : GoodIn wsL_law (wsV RL 85 RX1 yX1_putBehind wsX1_putBehind) := goodIn_app (goodIn_of _ (by decide +kernel)) ggL_law_X1_putBehind
set_option maxRecDepth 20000 in
theorem ggL_law_L_takeOut : GoodIn wsL_law wsL_takeOut := goodIn_ca (goodIn_r _ [205, 176, 206, 207, 208, 2, 209, 47, 181, 182, 183, 184, 185, 186, 187, 188, 189, 190, 14, 110, 111, 112, 113, 69, 70, 71, 72, 15, 210, 211, 212, 213, 18, 214, 215, 216, 217, 65, 66, 67, 68, 114, 115, 116, 117, 466, 467, 468, 469, 470, 471, 472, 473] (by decide +kernel) (by decide +kernel)) (goodIn_sub (fun _ h => List.mem_append_left _ (List.mem_append_right _ h)) (by decide +kernel))
set_option maxRecDepth 20000 in
theorem gL_law_L_takeOut : GoodIn wsL_law (va_wsS RL 86 yL_takeOut wsL_takeOut) := goodIn_app (goodIn_of _ (by decide +kernel)) ggL_law_L_takeOut
set_option maxRecDepth 20000 in
theorem ggL_law_X1_takeOut : GoodIn wsL_law wsX1_takeOut := goodIn_r _ [221, 130, 29, 27, 136, 195, 196, 197, 5, 198, 135, 222, 223, 224, 225, 24, 199, 200, 201, 202, 226, 227, 228, 229, 474, 475, 476, 477, 478, 479, 480, 481, 482, 483] (by decide +kernel) (by decide +kernel)
set_option maxRecDepth 20000 in
theorem gL_law_X1_takeOut : GoodIn wsL_law (wsV RL 88 RX1 yX1_takeOut wsX1_takeOut) := goodIn_app (goodIn_of _ (by decide +kernel)) ggL_law_X1_takeOut
set_option maxRecDepth 20000 in
theorem ggL_law_L_carry : GoodIn wsL_law wsL_carry := goodIn_ca (goodIn_ca (goodIn_r _ [232, 176, 233, 234, 235, 236, 2, 237, 238, 239, 181, 182, 183, 184, 185, 186, 187, 188, 189, 190, 47, 14, 214, 215, 216, 217, 69, 70, 71, 72, 15, 110, 111, 112, 113, 65, 66, 67, 68, 114, 115, 116, 117, 52, 53, 54, 55, 56, 57, 58, 59, 60, 61, 62, 63, 64, 73, 74, 75, 76, 16, 77, 78, 79, 80, 81, 82, 83, 84, 85, 86, 87, 88, 89, 90, 91, 92, 93, 94, 95, 96, 97, 98, 99, 100, 101, 102, 103, 104, 105, 106, 107, 108, 109, 118, 119, 120, 121, 122, 123, 124, 125, 17, 466, 467, 468, 469, 470, 471, 472, 473] (by decide +kernel) (by decide +kernel)) (goodIn_sub (fun _ h => List.mem_append_right _ h) (by decide +kernel))) (goodIn_sub (fun _ h => List.mem_append_left _ (List.mem_append_right _ h)) (by decide +kernel))
set_option maxRecDepth 20000 in
theorem gL_law_L_carry : GoodIn wsL_law (va_wsS RL 89 yL_carry wsL_carry) := goodIn_app (goodIn_of _ (by decide +kernel)) ggL_law_L_carry
set_option maxRecDepth 20000 in
theorem ggL_law_X1_carry : GoodIn wsL_law wsX1_carry := goodIn_r _ [243, 130, 25, 195, 196, 197, 5, 198, 135, 27, 226, 227, 228, 229, 136, 24, 199, 200, 201, 202, 141, 142, 143, 144, 145, 146, 147, 148, 149, 150, 151, 152, 153, 154, 155, 156, 157, 158, 159, 160, 161, 162, 163, 164, 165, 166, 167, 168, 28, 474, 475, 476, 477, 478, 479, 480, 481, 482, 483] (by decide +kernel) (by decide +kernel)
set_option maxRecDepth 20000 in
theorem gL_law_X1_carry : GoodIn wsL_law (wsV RL 92 RX1 yX1_carry wsX1_carry) := goodIn_app (goodIn_of _ (by decide +kernel)) ggL_law_X1_carry
set_option maxRecDepth 20000 in
theorem ggL_law_X0_size : GoodIn wsL_law wsX0_size := goodIn_r _ [247, 47, 466, 467, 468, 469, 470, 471, 472, 473] (by decide +kernel) (by decide +kernel)
set_option maxRecDepth 20000 in
theorem gL_law_X0_size : GoodIn wsL_law (wsV RL 93 RX0 yX0_size wsX0_size) := goodIn_app (goodIn_of _ (by decide +kernel)) ggL_law_X0_size
set_option maxRecDepth 20000 in
theorem ggL_law_X1_size : GoodIn wsL_law wsX1_size := goodIn_r _ [251, 130, 136, 474, 475, 476, 477, 478, 479, 480, 481, 482, 483] (by decide +kernel) (by decide +kernel)
set_option maxRecDepth 20000 in
theorem gL_law_X1_size : GoodIn wsL_law (wsV RL 96 RX1 yX1_size wsX1_size) := goodIn_app (goodIn_of _ (by decide +kernel)) ggL_law_X1_size
set_option maxRecDepth 20000 in
theorem ggL_law_X0_first : GoodIn wsL_law wsX0_first := goodIn_r _ [255, 110, 111, 112, 2, 113, 14, 69, 70, 71, 72, 47, 15, 466, 467, 468, 469, 470, 471, 472, 473] (by decide +kernel) (by decide +kernel)
set_option maxRecDepth 20000 in
theorem gL_law_X0_first : GoodIn wsL_law (wsV RL 97 RX0 yX0_first wsX0_first) := goodIn_app (goodIn_of _ (by decide +kernel)) ggL_law_X0_first
set_option maxRecDepth 20000 in
theorem ggL_law_X1_first : GoodIn wsL_law wsX1_first := goodIn_r _ [259, 130, 136, 24, 474, 475, 476, 477, 478, 479, 480, 481, 482, 483] (by decide +kernel) (by decide +kernel)
set_option maxRecDepth 20000 in
theorem gL_law_X1_first : GoodIn wsL_law (wsV RL 100 RX1 yX1_first wsX1_first) := goodIn_app (goodIn_of _ (by decide +kernel)) ggL_law_X1_first
set_option maxRecDepth 20000 in
theorem ggL_law_L_next : GoodIn wsL_law wsL_next := goodIn_ca (goodIn_r _ [262, 176, 263, 264, 265, 2, 266, 181, 182, 183, 184, 185, 186, 187, 188, 189, 190, 47, 14, 110, 111, 112, 113, 69, 70, 71, 72, 15, 466, 467, 468, 469, 470, 471, 472, 473] (by decide +kernel) (by decide +kernel)) (goodIn_sub (fun _ h => List.mem_append_left _ (List.mem_append_right _ h)) (by decide +kernel))
set_option maxRecDepth 20000 in
theorem gL_law_L_next : GoodIn wsL_law (va_wsS RL 101 yL_next wsL_next) := goodIn_app (goodIn_of _ (by decide +kernel)) ggL_law_L_next
set_option maxRecDepth 20000 in
theorem ggL_law_X1_next : GoodIn wsL_law wsX1_next := goodIn_r _ [270, 130, 195, 196, 197, 5, 198, 135, 27, 222, 223, 224, 225, 136, 24, 199, 200, 201, 202, 474, 475, 476, 477, 478, 479, 480, 481, 482, 483] (by decide +kernel) (by decide +kernel)
set_option maxRecDepth 20000 in
theorem gL_law_X1_next : GoodIn wsL_law (wsV RL 103 RX1 yX1_next wsX1_next) := goodIn_app (goodIn_of _ (by decide +kernel)) ggL_law_X1_next
set_option maxRecDepth 20000 in
theorem ggL_law_L_previous : GoodIn wsL_law wsL_previous := goodIn_ca (goodIn_r _ [273, 176, 274, 275, 276, 2, 277, 181, 182, 183, 184, 185, 186, 187, 188, 189, 190, 47, 14, 110, 111, 112, 113, 69, 70, 71, 72, 15, 466, 467, 468, 469, 470, 471, 472, 473] (by decide +kernel) (by decide +kernel)) (goodIn_sub (fun _ h => List.mem_append_left _ (List.mem_append_right _ h)) (by decide +kernel))
set_option maxRecDepth 20000 in
theorem gL_law_L_previous : GoodIn wsL_law (va_wsS RL 104 yL_previous wsL_previous) := goodIn_app (goodIn_of _ (by decide +kernel)) ggL_law_L_previous
set_option maxRecDepth 20000 in
theorem ggL_law_X1_previous : GoodIn wsL_law wsX1_previous := goodIn_r _ [281, 130, 24, 195, 196, 197, 5, 198, 135, 27, 199, 200, 201, 202, 474, 475, 476, 477, 478, 479, 480, 481, 482, 483] (by decide +kernel) (by decide +kernel)
set_option maxRecDepth 20000 in
theorem gL_law_X1_previous : GoodIn wsL_law (wsV RL 106 RX1 yX1_previous wsX1_previous) := goodIn_app (goodIn_of _ (by decide +kernel)) ggL_law_X1_previous
set_option maxRecDepth 20000 in
theorem ggL_law_X0_has : GoodIn wsL_law wsX0_has := goodIn_r _ [285, 187, 188, 189, 2, 190, 47, 14, 466, 467, 468, 469, 470, 471, 472, 473] (by decide +kernel) (by decide +kernel)
set_option maxRecDepth 20000 in
theorem gL_law_X0_has : GoodIn wsL_law (wsV RL 107 RX0 yX0_has wsX0_has) := goodIn_app (goodIn_of _ (by decide +kernel)) ggL_law_X0_has
set_option maxRecDepth 20000 in
theorem ggL_law_X1_has : GoodIn wsL_law wsX1_has := goodIn_r _ [289, 130, 195, 196, 197, 5, 198, 135, 27, 474, 475, 476, 477, 478, 479, 480, 481, 482, 483] (by decide +kernel) (by decide +kernel)
set_option maxRecDepth 20000 in
theorem gL_law_X1_has : GoodIn wsL_law (wsV RL 111 RX1 yX1_has wsX1_has) := goodIn_app (goodIn_of _ (by decide +kernel)) ggL_law_X1_has
set_option maxRecDepth 20000 in
theorem ggL_law_L_mark : GoodIn wsL_law wsL_mark := goodIn_ca (goodIn_r _ [292, 176, 293, 294, 295, 2, 296, 181, 182, 183, 184, 185, 186, 187, 188, 189, 190, 47, 14, 65, 66, 67, 68, 15, 69, 70, 71, 72, 466, 467, 468, 469, 470, 471, 472, 473] (by decide +kernel) (by decide +kernel)) (goodIn_sub (fun _ h => List.mem_append_left _ (List.mem_append_right _ h)) (by decide +kernel))
set_option maxRecDepth 20000 in
theorem gL_law_L_mark : GoodIn wsL_law (va_wsS RL 112 yL_mark wsL_mark) := goodIn_app (goodIn_of _ (by decide +kernel)) ggL_law_L_mark
set_option maxRecDepth 20000 in
theorem ggL_law_X1_mark : GoodIn wsL_law wsX1_mark := goodIn_r _ [300, 130, 25, 195, 196, 197, 5, 198, 135, 27, 474, 475, 476, 477, 478, 479, 480, 481, 482, 483] (by decide +kernel) (by decide +kernel)
set_option maxRecDepth 20000 in
theorem gL_law_X1_mark : GoodIn wsL_law (wsV RL 114 RX1 yX1_mark wsX1_mark) := goodIn_app (goodIn_of _ (by decide +kernel)) ggL_law_X1_mark
set_option maxRecDepth 20000 in
theorem ggL_law_L_ahead : GoodIn wsL_law wsL_ahead := goodIn_ca (goodIn_r _ [303, 176, 304, 305, 306, 2, 307, 181, 182, 183, 184, 185, 186, 187, 188, 189, 190, 47, 14, 65, 66, 67, 68, 15, 69, 70, 71, 72, 96, 97, 98, 99, 466, 467, 468, 469, 470, 471, 472, 473] (by decide +kernel) (by decide +kernel)) (goodIn_sub (fun _ h => List.mem_append_left _ (List.mem_append_right _ h)) (by decide +kernel))
set_option maxRecDepth 20000 in
theorem gL_law_L_ahead : GoodIn wsL_law (va_wsS RL 115 yL_ahead wsL_ahead) := goodIn_app (goodIn_of _ (by decide +kernel)) ggL_law_L_ahead
set_option maxRecDepth 20000 in
theorem ggL_law_X1_ahead : GoodIn wsL_law wsX1_ahead := goodIn_r _ [311, 130, 25, 195, 196, 197, 5, 198, 135, 27, 312, 313, 314, 315, 136, 24, 474, 475, 476, 477, 478, 479, 480, 481, 482, 483] (by decide +kernel) (by decide +kernel)
set_option maxRecDepth 20000 in
theorem gL_law_X1_ahead : GoodIn wsL_law (wsV RL 117 RX1 yX1_ahead wsX1_ahead) := goodIn_app (goodIn_of _ (by decide +kernel)) ggL_law_X1_ahead
set_option maxRecDepth 20000 in
theorem ggL_law_X0_from : GoodIn wsL_law wsX0_from := goodIn_r _ [319, 96, 97, 98, 2, 99, 47, 15, 110, 111, 112, 113, 14, 69, 70, 71, 72, 466, 467, 468, 469, 470, 471, 472, 473] (by decide +kernel) (by decide +kernel)
set_option maxRecDepth 20000 in
theorem gL_law_X0_from : GoodIn wsL_law (wsV RL 118 RX0 yX0_from wsX0_from) := goodIn_app (goodIn_of _ (by decide +kernel)) ggL_law_X0_from
set_option maxRecDepth 20000 in
theorem ggL_law_X1_from : GoodIn wsL_law wsX1_from := goodIn_r _ [323, 130, 136, 25, 24, 474, 475, 476, 477, 478, 479, 480, 481, 482, 483] (by decide +kernel) (by decide +kernel)
set_option maxRecDepth 20000 in
theorem gL_law_X1_from : GoodIn wsL_law (wsV RL 121 RX1 yX1_from wsX1_from) := goodIn_app (goodIn_of _ (by decide +kernel)) ggL_law_X1_from
set_option maxRecDepth 20000 in
theorem ggL_law_L_gapBehind : GoodIn wsL_law wsL_gapBehind := goodIn_ca (goodIn_r _ [326, 176, 327, 328, 329, 2, 330, 181, 182, 183, 184, 185, 186, 187, 188, 189, 190, 47, 14, 65, 66, 67, 68, 15, 69, 70, 71, 72, 466, 467, 468, 469, 470, 471, 472, 473] (by decide +kernel) (by decide +kernel)) (goodIn_sub (fun _ h => List.mem_append_left _ (List.mem_append_right _ h)) (by decide +kernel))
set_option maxRecDepth 20000 in
theorem gL_law_L_gapBehind : GoodIn wsL_law (va_wsS RL 122 yL_gapBehind wsL_gapBehind) := goodIn_app (goodIn_of _ (by decide +kernel)) ggL_law_L_gapBehind
set_option maxRecDepth 20000 in
theorem ggL_law_X1_gapBehind : GoodIn wsL_law wsX1_gapBehind := goodIn_r _ [334, 130, 25, 195, 196, 197, 5, 198, 135, 27, 199, 200, 201, 202, 24, 149, 150, 151, 152, 136, 474, 475, 476, 477, 478, 479, 480, 481, 482, 483] (by decide +kernel) (by decide +kernel)
set_option maxRecDepth 20000 in
theorem gL_law_X1_gapBehind : GoodIn wsL_law (wsV RL 124 RX1 yX1_gapBehind wsX1_gapBehind) := goodIn_app (goodIn_of _ (by decide +kernel)) ggL_law_X1_gapBehind
set_option maxRecDepth 20000 in
theorem ggL_law_L_load : GoodIn wsL_law wsL_load := goodIn_ca (goodIn_r _ [337, 176, 338, 339, 340, 2, 341, 185, 186, 342, 343, 344, 16, 345, 346, 347, 89, 90, 91, 92, 93, 94, 95, 96, 97, 98, 99, 47, 15, 466, 467, 468, 469, 470, 471, 472, 473] (by decide +kernel) (by decide +kernel)) (goodIn_sub (fun _ h => List.mem_append_left _ (List.mem_append_right _ h)) (by decide +kernel))
set_option maxRecDepth 20000 in
theorem gL_law_L_load : GoodIn wsL_law (va_wsS RL 125 yL_load wsL_load) := goodIn_app (goodIn_of _ (by decide +kernel)) ggL_law_L_load
set_option maxRecDepth 20000 in
theorem ggL_law_X1_load : GoodIn wsL_law wsX1_load := goodIn_r _ [351, 130, 352, 353, 5, 354, 355, 356, 357, 358, 312, 313, 314, 315, 136, 25, 24, 474, 475, 476, 477, 478, 479, 480, 481, 482, 483] (by decide +kernel) (by decide +kernel)
set_option maxRecDepth 20000 in
theorem gL_law_X1_load : GoodIn wsL_law (wsV RL 127 RX1 yX1_load wsX1_load) := goodIn_app (goodIn_of _ (by decide +kernel)) ggL_law_X1_load
set_option maxRecDepth 20000 in
theorem ggL_law_L_loaded : GoodIn wsL_law wsL_loaded := goodIn_ca (goodIn_r _ [361, 176, 362, 363, 364, 2, 365, 47, 342, 343, 344, 185, 186, 16, 65, 66, 67, 68, 15, 69, 70, 71, 72, 14, 85, 86, 87, 88, 89, 90, 91, 92, 93, 94, 95, 96, 97, 98, 99, 466, 467, 468, 469, 470, 471, 472, 473] (by decide +kernel) (by decide +kernel)) (goodIn_sub (fun _ h => List.mem_append_left _ (List.mem_append_right _ h)) (by decide +kernel))
set_option maxRecDepth 20000 in
theorem gL_law_L_loaded : GoodIn wsL_law (va_wsS RL 128 yL_loaded wsL_loaded) := goodIn_app (goodIn_of _ (by decide +kernel)) ggL_law_L_loaded
set_option maxRecDepth 20000 in
theorem ggL_law_X1_loaded : GoodIn wsL_law wsX1_loaded := goodIn_r _ [369, 130, 352, 353, 5, 354, 355, 356, 357, 358, 312, 313, 314, 315, 136, 25, 24, 161, 162, 163, 474, 475, 476, 477, 478, 479, 480, 481, 482, 483] (by decide +kernel) (by decide +kernel)
set_option maxRecDepth 20000 in
theorem gL_law_X1_loaded : GoodIn wsL_law (wsV RL 130 RX1 yX1_loaded wsX1_loaded) := goodIn_app (goodIn_of _ (by decide +kernel)) ggL_law_X1_loaded
set_option maxRecDepth 20000 in
theorem ggL_law_L_wouldMove : GoodIn wsL_law wsL_wouldMove := goodIn_ca (goodIn_r _ [372, 176, 373, 374, 375, 2, 376, 181, 182, 183, 184, 185, 186, 187, 188, 189, 190, 47, 14, 57, 58, 59, 60, 61, 62, 63, 64, 65, 66, 67, 68, 15, 69, 70, 71, 72, 73, 74, 75, 76, 16, 77, 78, 79, 80, 81, 82, 83, 84, 85, 86, 87, 88, 89, 90, 91, 92, 93, 94, 95, 96, 97, 98, 99, 100, 101, 102, 103, 104, 105, 466, 467, 468, 469, 470, 471, 472, 473] (by decide +kernel) (by decide +kernel)) (goodIn_sub (fun _ h => List.mem_append_left _ (List.mem_append_right _ h)) (by decide +kernel))
set_option maxRecDepth 20000 in
theorem gL_law_L_wouldMove : GoodIn wsL_law (va_wsS RL 131 yL_wouldMove wsL_wouldMove) := goodIn_app (goodIn_of _ (by decide +kernel)) ggL_law_L_wouldMove
set_option maxRecDepth 20000 in
theorem ggL_law_X1_wouldMove : GoodIn wsL_law wsX1_wouldMove := goodIn_r _ [380, 130, 25, 136, 24, 195, 196, 197, 5, 198, 135, 27, 199, 200, 201, 202, 149, 150, 151, 152, 381, 382, 383, 384, 355, 356, 357, 358, 312, 313, 314, 315, 161, 162, 163, 474, 475, 476, 477, 478, 479, 480, 481, 482, 483] (by decide +kernel) (by decide +kernel)
set_option maxRecDepth 20000 in
theorem gL_law_X1_wouldMove : GoodIn wsL_law (wsV RL 133 RX1 yX1_wouldMove wsX1_wouldMove) := goodIn_app (goodIn_of _ (by decide +kernel)) ggL_law_X1_wouldMove
set_option maxRecDepth 20000 in
theorem ggL_law_X0_moved : GoodIn wsL_law wsX0_moved := goodIn_r _ [388, 56, 466, 467, 468, 469, 470, 471, 472, 473] (by decide +kernel) (by decide +kernel)
set_option maxRecDepth 20000 in
theorem gL_law_X0_moved : GoodIn wsL_law (wsV RL 134 RX0 yX0_moved wsX0_moved) := goodIn_app (goodIn_of _ (by decide +kernel)) ggL_law_X0_moved
set_option maxRecDepth 20000 in
theorem ggL_law_X1_moved : GoodIn wsL_law wsX1_moved := goodIn_r _ [392, 130, 168, 474, 475, 476, 477, 478, 479, 480, 481, 482, 483] (by decide +kernel) (by decide +kernel)
set_option maxRecDepth 20000 in
theorem gL_law_X1_moved : GoodIn wsL_law (wsV RL 137 RX1 yX1_moved wsX1_moved) := goodIn_app (goodIn_of _ (by decide +kernel)) ggL_law_X1_moved
set_option maxRecDepth 20000 in
theorem ggL_law_L_spread : GoodIn wsL_law wsL_spread := goodIn_ca (goodIn_r _ [395, 176, 396, 397, 398, 2, 399, 17, 342, 343, 344, 185, 186, 16, 466, 467, 468, 469, 470, 471, 472, 473] (by decide +kernel) (by decide +kernel)) (goodIn_sub (fun _ h => List.mem_append_left _ (List.mem_append_right _ h)) (by decide +kernel))
set_option maxRecDepth 20000 in
theorem gL_law_L_spread : GoodIn wsL_law (va_wsS RL 138 yL_spread wsL_spread) := goodIn_app (goodIn_of _ (by decide +kernel)) ggL_law_L_spread
set_option maxRecDepth 20000 in
theorem ggL_law_X1_spread : GoodIn wsL_law wsX1_spread := goodIn_r _ [403, 130, 28, 352, 353, 5, 354, 474, 475, 476, 477, 478, 479, 480, 481, 482, 483] (by decide +kernel) (by decide +kernel)
set_option maxRecDepth 20000 in
theorem gL_law_X1_spread : GoodIn wsL_law (wsV RL 140 RX1 yX1_spread wsX1_spread) := goodIn_app (goodIn_of _ (by decide +kernel)) ggL_law_X1_spread
set_option maxRecDepth 20000 in
theorem ggL_law_L_seat : GoodIn wsL_law wsL_seat := goodIn_ca (goodIn_r _ [406, 176, 407, 408, 409, 2, 410, 18, 411, 412, 413, 185, 186, 181, 182, 183, 184, 187, 188, 189, 190, 47, 14, 414, 415, 416, 417, 466, 467, 468, 469, 470, 471, 472, 473] (by decide +kernel) (by decide +kernel)) (goodIn_sub (fun _ h => List.mem_append_left _ (List.mem_append_right _ h)) (by decide +kernel))
set_option maxRecDepth 20000 in
theorem gL_law_L_seat : GoodIn wsL_law (va_wsS RL 141 yL_seat wsL_seat) := goodIn_app (goodIn_of _ (by decide +kernel)) ggL_law_L_seat
set_option maxRecDepth 20000 in
theorem ggL_law_X1_seat : GoodIn wsL_law wsX1_seat := goodIn_r _ [421, 130, 29, 422, 423, 5, 424, 195, 196, 197, 198, 135, 27, 474, 475, 476, 477, 478, 479, 480, 481, 482, 483] (by decide +kernel) (by decide +kernel)
set_option maxRecDepth 20000 in
theorem gL_law_X1_seat : GoodIn wsL_law (wsV RL 143 RX1 yX1_seat wsX1_seat) := goodIn_app (goodIn_of _ (by decide +kernel)) ggL_law_X1_seat
set_option maxRecDepth 20000 in
theorem ggL_law_X0_passDay : GoodIn wsL_law wsX0_passDay := goodIn_r _ [428, 18, 19, 187, 188, 189, 2, 190, 47, 14, 110, 111, 112, 113, 69, 70, 71, 72, 15, 466, 467, 468, 469, 470, 471, 472, 473] (by decide +kernel) (by decide +kernel)
set_option maxRecDepth 20000 in
theorem gL_law_X0_passDay : GoodIn wsL_law (wsV RL 144 RX0 yX0_passDay wsX0_passDay) := goodIn_app (goodIn_of _ (by decide +kernel)) ggL_law_X0_passDay
set_option maxRecDepth 20000 in
theorem ggL_law_X1_passDay : GoodIn wsL_law wsX1_passDay := goodIn_r _ [432, 130, 29, 30, 222, 223, 224, 5, 225, 136, 24, 199, 200, 201, 202, 474, 475, 476, 477, 478, 479, 480, 481, 482, 483] (by decide +kernel) (by decide +kernel)
set_option maxRecDepth 20000 in
theorem gL_law_X1_passDay : GoodIn wsL_law (wsV RL 147 RX1 yX1_passDay wsX1_passDay) := goodIn_app (goodIn_of _ (by decide +kernel)) ggL_law_X1_passDay
set_option maxRecDepth 20000 in
theorem ggL_law_L_at : GoodIn wsL_law wsL_at := goodIn_ca (goodIn_r _ [435, 176, 436, 437, 438, 2, 439, 18, 411, 412, 413, 185, 186, 466, 467, 468, 469, 470, 471, 472, 473] (by decide +kernel) (by decide +kernel)) (goodIn_sub (fun _ h => List.mem_append_left _ (List.mem_append_right _ h)) (by decide +kernel))
set_option maxRecDepth 20000 in
theorem gL_law_L_at : GoodIn wsL_law (va_wsS RL 148 yL_at wsL_at) := goodIn_app (goodIn_of _ (by decide +kernel)) ggL_law_L_at
set_option maxRecDepth 20000 in
theorem ggL_law_X1_at : GoodIn wsL_law wsX1_at := goodIn_r _ [443, 130, 29, 422, 423, 5, 424, 474, 475, 476, 477, 478, 479, 480, 481, 482, 483] (by decide +kernel) (by decide +kernel)
set_option maxRecDepth 20000 in
theorem gL_law_X1_at : GoodIn wsL_law (wsV RL 150 RX1 yX1_at wsX1_at) := goodIn_app (goodIn_of _ (by decide +kernel)) ggL_law_X1_at
set_option maxRecDepth 20000 in
theorem ggL_law_L_read : GoodIn wsL_law wsL_read := goodIn_ca (goodIn_r _ [446, 176, 447, 448, 449, 2, 450, 19, 411, 412, 413, 185, 186, 466, 467, 468, 469, 470, 471, 472, 473] (by decide +kernel) (by decide +kernel)) (goodIn_sub (fun _ h => List.mem_append_left _ (List.mem_append_right _ h)) (by decide +kernel))
set_option maxRecDepth 20000 in
theorem gL_law_L_read : GoodIn wsL_law (va_wsS RL 151 yL_read wsL_read) := goodIn_app (goodIn_of _ (by decide +kernel)) ggL_law_L_read
set_option maxRecDepth 20000 in
theorem ggL_law_X1_read : GoodIn wsL_law wsX1_read := goodIn_r _ [454, 130, 30, 422, 423, 5, 424, 474, 475, 476, 477, 478, 479, 480, 481, 482, 483] (by decide +kernel) (by decide +kernel)
set_option maxRecDepth 20000 in
theorem gL_law_X1_read : GoodIn wsL_law (wsV RL 153 RX1 yX1_read wsX1_read) := goodIn_app (goodIn_of _ (by decide +kernel)) ggL_law_X1_read
set_option maxRecDepth 20000 in
theorem ggL_law_L_daysTo : GoodIn wsL_law wsL_daysTo := goodIn_ca (goodIn_r _ [457, 176, 458, 459, 460, 2, 461, 18, 411, 412, 413, 185, 186, 187, 188, 189, 190, 47, 14, 466, 467, 468, 469, 470, 471, 472, 473] (by decide +kernel) (by decide +kernel)) (goodIn_sub (fun _ h => List.mem_append_left _ (List.mem_append_right _ h)) (by decide +kernel))
set_option maxRecDepth 20000 in
theorem gL_law_L_daysTo : GoodIn wsL_law (va_wsS RL 154 yL_daysTo wsL_daysTo) := goodIn_app (goodIn_of _ (by decide +kernel)) ggL_law_L_daysTo
set_option maxRecDepth 20000 in
theorem ggL_law_X1_daysTo : GoodIn wsL_law wsX1_daysTo := goodIn_r _ [465, 130, 29, 422, 423, 5, 424, 199, 200, 201, 202, 24, 474, 475, 476, 477, 478, 479, 480, 481, 482, 483] (by decide +kernel) (by decide +kernel)
set_option maxRecDepth 20000 in
theorem gL_law_X1_daysTo : GoodIn wsL_law (wsV RL 156 RX1 yX1_daysTo wsX1_daysTo) := goodIn_app (goodIn_of _ (by decide +kernel)) ggL_law_X1_daysTo
theorem dL_law_0 : decode cL_law 0 = .ok (.new 8, 3) := by decide +kernel
theorem dL_law_3 : decode cL_law 3 = .ok (.dup, 1) := by decide +kernel
theorem dL_law_4 : decode cL_law 4 = .ok (.invokespecial 69, 3) := by decide +kernel
theorem dL_law_7 : decode cL_law 7 = .ok (.astore_n 1, 1) := by decide +kernel
theorem dL_law_8 : decode cL_law 8 = .ok (.new 70, 3) := by decide +kernel
theorem dL_law_11 : decode cL_law 11 = .ok (.dup, 1) := by decide +kernel
theorem dL_law_12 : decode cL_law 12 = .ok (.invokespecial 72, 3) := by decide +kernel
theorem dL_law_15 : decode cL_law 15 = .ok (.astore_n 2, 1) := by decide +kernel
theorem dL_law_16 : decode cL_law 16 = .ok (.iconst 1, 1) := by decide +kernel
theorem dL_law_17 : decode cL_law 17 = .ok (.newarray .long, 2) := by decide +kernel
theorem dL_law_19 : decode cL_law 19 = .ok (.astore_n 3, 1) := by decide +kernel
theorem dL_law_20 : decode cL_law 20 = .ok (.iconst 0, 1) := by decide +kernel
theorem dL_law_21 : decode cL_law 21 = .ok (.istore 4, 2) := by decide +kernel
theorem dL_law_23 : decode cL_law 23 = .ok (.iload 4, 2) := by decide +kernel
theorem dL_law_25 : decode cL_law 25 = .ok (.aload_n 0, 1) := by decide +kernel
theorem dL_law_26 : decode cL_law 26 = .ok (.arraylength, 1) := by decide +kernel
theorem dL_law_27 : decode cL_law 27 = .ok (.iconst 3, 1) := by decide +kernel
theorem dL_law_28 : decode cL_law 28 = .ok (.isub, 1) := by decide +kernel
theorem dL_law_29 : decode cL_law 29 = .ok (.if_icmp .gt 1211, 3) := by decide +kernel
theorem dL_law_32 : decode cL_law 32 = .ok (.aload_n 0, 1) := by decide +kernel
theorem dL_law_33 : decode cL_law 33 = .ok (.iload 4, 2) := by decide +kernel
theorem dL_law_35 : decode cL_law 35 = .ok (.iaload, 1) := by decide +kernel
theorem dL_law_36 : decode cL_law 36 = .ok (.bipush 31, 2) := by decide +kernel
theorem dL_law_38 : decode cL_law 38 = .ok (.iand, 1) := by decide +kernel
theorem dL_law_39 : decode cL_law 39 = .ok (.tableswitch 1195 0 22 #[105, 149, 205, 261, 329, 342, 355, 411, 467, 492, 548, 604, 629, 685, 753, 809, 865, 878, 934, 1002, 1015, 1071, 1127], 105) := by decide +kernel
theorem dL_law_144 : decode cL_law 144 = .ok (.aload_n 1, 1) := by decide +kernel
theorem dL_law_145 : decode cL_law 145 = .ok (.aload_n 3, 1) := by decide +kernel
theorem dL_law_146 : decode cL_law 146 = .ok (.invokestatic 73, 3) := by decide +kernel
theorem dL_law_149 : decode cL_law 149 = .ok (.istore 5, 2) := by decide +kernel
theorem dL_law_151 : decode cL_law 151 = .ok (.aload_n 2, 1) := by decide +kernel
theorem dL_law_152 : decode cL_law 152 = .ok (.invokevirtual 78, 3) := by decide +kernel
theorem dL_law_155 : decode cL_law 155 = .ok (.istore 6, 2) := by decide +kernel
theorem dL_law_157 : decode cL_law 157 = .ok (.aload_n 2, 1) := by decide +kernel
theorem dL_law_158 : decode cL_law 158 = .ok (.invokevirtual 79, 3) := by decide +kernel
theorem dL_law_161 : decode cL_law 161 = .ok (.iload 5, 2) := by decide +kernel
theorem dL_law_163 : decode cL_law 163 = .ok (.if_icmp .eq 5, 3) := by decide +kernel
theorem dL_law_166 : decode cL_law 166 = .ok (.iconst 0, 1) := by decide +kernel
theorem dL_law_167 : decode cL_law 167 = .ok (.ireturn, 1) := by decide +kernel
theorem dL_law_168 : decode cL_law 168 = .ok (.iload 5, 2) := by decide +kernel
theorem dL_law_170 : decode cL_law 170 = .ok (.ifCond .ne 15, 3) := by decide +kernel
theorem dL_law_173 : decode cL_law 173 = .ok (.aload_n 3, 1) := by decide +kernel
theorem dL_law_174 : decode cL_law 174 = .ok (.iconst 0, 1) := by decide +kernel
theorem dL_law_175 : decode cL_law 175 = .ok (.laload, 1) := by decide +kernel
theorem dL_law_176 : decode cL_law 176 = .ok (.iload 6, 2) := by decide +kernel
theorem dL_law_178 : decode cL_law 178 = .ok (.i2l, 1) := by decide +kernel
theorem dL_law_179 : decode cL_law 179 = .ok (.lcmp, 1) := by decide +kernel
theorem dL_law_180 : decode cL_law 180 = .ok (.ifCond .eq 5, 3) := by decide +kernel
theorem dL_law_183 : decode cL_law 183 = .ok (.iconst 0, 1) := by decide +kernel
theorem dL_law_184 : decode cL_law 184 = .ok (.ireturn, 1) := by decide +kernel
theorem dL_law_185 : decode cL_law 185 = .ok (.goto 1049, 3) := by decide +kernel
theorem dL_law_188 : decode cL_law 188 = .ok (.aload_n 1, 1) := by decide +kernel
theorem dL_law_189 : decode cL_law 189 = .ok (.aload_n 0, 1) := by decide +kernel
theorem dL_law_190 : decode cL_law 190 = .ok (.iload 4, 2) := by decide +kernel
theorem dL_law_192 : decode cL_law 192 = .ok (.iconst 1, 1) := by decide +kernel
theorem dL_law_193 : decode cL_law 193 = .ok (.iadd, 1) := by decide +kernel
theorem dL_law_194 : decode cL_law 194 = .ok (.iaload, 1) := by decide +kernel
theorem dL_law_195 : decode cL_law 195 = .ok (.aload_n 3, 1) := by decide +kernel
theorem dL_law_196 : decode cL_law 196 = .ok (.invokestatic 82, 3) := by decide +kernel
theorem dL_law_199 : decode cL_law 199 = .ok (.istore 5, 2) := by decide +kernel
theorem dL_law_201 : decode cL_law 201 = .ok (.aload_n 2, 1) := by decide +kernel
theorem dL_law_202 : decode cL_law 202 = .ok (.aload_n 0, 1) := by decide +kernel
theorem dL_law_203 : decode cL_law 203 = .ok (.iload 4, 2) := by decide +kernel
theorem dL_law_205 : decode cL_law 205 = .ok (.iconst 1, 1) := by decide +kernel
theorem dL_law_206 : decode cL_law 206 = .ok (.iadd, 1) := by decide +kernel
theorem dL_law_207 : decode cL_law 207 = .ok (.iaload, 1) := by decide +kernel
theorem dL_law_208 : decode cL_law 208 = .ok (.invokevirtual 85, 3) := by decide +kernel
theorem dL_law_211 : decode cL_law 211 = .ok (.istore 6, 2) := by decide +kernel
theorem dL_law_213 : decode cL_law 213 = .ok (.aload_n 2, 1) := by decide +kernel
theorem dL_law_214 : decode cL_law 214 = .ok (.invokevirtual 79, 3) := by decide +kernel
theorem dL_law_217 : decode cL_law 217 = .ok (.iload 5, 2) := by decide +kernel
theorem dL_law_219 : decode cL_law 219 = .ok (.if_icmp .eq 5, 3) := by decide +kernel
theorem dL_law_222 : decode cL_law 222 = .ok (.iconst 0, 1) := by decide +kernel
theorem dL_law_223 : decode cL_law 223 = .ok (.ireturn, 1) := by decide +kernel
theorem dL_law_224 : decode cL_law 224 = .ok (.iload 5, 2) := by decide +kernel
theorem dL_law_226 : decode cL_law 226 = .ok (.ifCond .ne 15, 3) := by decide +kernel
theorem dL_law_229 : decode cL_law 229 = .ok (.aload_n 3, 1) := by decide +kernel
theorem dL_law_230 : decode cL_law 230 = .ok (.iconst 0, 1) := by decide +kernel
theorem dL_law_231 : decode cL_law 231 = .ok (.laload, 1) := by decide +kernel
theorem dL_law_232 : decode cL_law 232 = .ok (.iload 6, 2) := by decide +kernel
theorem dL_law_234 : decode cL_law 234 = .ok (.i2l, 1) := by decide +kernel
theorem dL_law_235 : decode cL_law 235 = .ok (.lcmp, 1) := by decide +kernel
theorem dL_law_236 : decode cL_law 236 = .ok (.ifCond .eq 5, 3) := by decide +kernel
theorem dL_law_239 : decode cL_law 239 = .ok (.iconst 0, 1) := by decide +kernel
theorem dL_law_240 : decode cL_law 240 = .ok (.ireturn, 1) := by decide +kernel
theorem dL_law_241 : decode cL_law 241 = .ok (.goto 993, 3) := by decide +kernel
theorem dL_law_244 : decode cL_law 244 = .ok (.aload_n 1, 1) := by decide +kernel
theorem dL_law_245 : decode cL_law 245 = .ok (.aload_n 0, 1) := by decide +kernel
theorem dL_law_246 : decode cL_law 246 = .ok (.iload 4, 2) := by decide +kernel
theorem dL_law_248 : decode cL_law 248 = .ok (.iconst 1, 1) := by decide +kernel
theorem dL_law_249 : decode cL_law 249 = .ok (.iadd, 1) := by decide +kernel
theorem dL_law_250 : decode cL_law 250 = .ok (.iaload, 1) := by decide +kernel
theorem dL_law_251 : decode cL_law 251 = .ok (.aload_n 3, 1) := by decide +kernel
theorem dL_law_252 : decode cL_law 252 = .ok (.invokestatic 86, 3) := by decide +kernel
theorem dL_law_255 : decode cL_law 255 = .ok (.istore 5, 2) := by decide +kernel
theorem dL_law_257 : decode cL_law 257 = .ok (.aload_n 2, 1) := by decide +kernel
theorem dL_law_258 : decode cL_law 258 = .ok (.aload_n 0, 1) := by decide +kernel
theorem dL_law_259 : decode cL_law 259 = .ok (.iload 4, 2) := by decide +kernel
theorem dL_law_261 : decode cL_law 261 = .ok (.iconst 1, 1) := by decide +kernel
theorem dL_law_262 : decode cL_law 262 = .ok (.iadd, 1) := by decide +kernel
theorem dL_law_263 : decode cL_law 263 = .ok (.iaload, 1) := by decide +kernel
theorem dL_law_264 : decode cL_law 264 = .ok (.invokevirtual 88, 3) := by decide +kernel
theorem dL_law_267 : decode cL_law 267 = .ok (.istore 6, 2) := by decide +kernel
theorem dL_law_269 : decode cL_law 269 = .ok (.aload_n 2, 1) := by decide +kernel
theorem dL_law_270 : decode cL_law 270 = .ok (.invokevirtual 79, 3) := by decide +kernel
theorem dL_law_273 : decode cL_law 273 = .ok (.iload 5, 2) := by decide +kernel
theorem dL_law_275 : decode cL_law 275 = .ok (.if_icmp .eq 5, 3) := by decide +kernel
theorem dL_law_278 : decode cL_law 278 = .ok (.iconst 0, 1) := by decide +kernel
theorem dL_law_279 : decode cL_law 279 = .ok (.ireturn, 1) := by decide +kernel
theorem dL_law_280 : decode cL_law 280 = .ok (.iload 5, 2) := by decide +kernel
theorem dL_law_282 : decode cL_law 282 = .ok (.ifCond .ne 15, 3) := by decide +kernel
theorem dL_law_285 : decode cL_law 285 = .ok (.aload_n 3, 1) := by decide +kernel
theorem dL_law_286 : decode cL_law 286 = .ok (.iconst 0, 1) := by decide +kernel
theorem dL_law_287 : decode cL_law 287 = .ok (.laload, 1) := by decide +kernel
theorem dL_law_288 : decode cL_law 288 = .ok (.iload 6, 2) := by decide +kernel
theorem dL_law_290 : decode cL_law 290 = .ok (.i2l, 1) := by decide +kernel
theorem dL_law_291 : decode cL_law 291 = .ok (.lcmp, 1) := by decide +kernel
theorem dL_law_292 : decode cL_law 292 = .ok (.ifCond .eq 5, 3) := by decide +kernel
theorem dL_law_295 : decode cL_law 295 = .ok (.iconst 0, 1) := by decide +kernel
theorem dL_law_296 : decode cL_law 296 = .ok (.ireturn, 1) := by decide +kernel
theorem dL_law_297 : decode cL_law 297 = .ok (.goto 937, 3) := by decide +kernel
theorem dL_law_300 : decode cL_law 300 = .ok (.aload_n 1, 1) := by decide +kernel
theorem dL_law_301 : decode cL_law 301 = .ok (.aload_n 0, 1) := by decide +kernel
theorem dL_law_302 : decode cL_law 302 = .ok (.iload 4, 2) := by decide +kernel
theorem dL_law_304 : decode cL_law 304 = .ok (.iconst 1, 1) := by decide +kernel
theorem dL_law_305 : decode cL_law 305 = .ok (.iadd, 1) := by decide +kernel
theorem dL_law_306 : decode cL_law 306 = .ok (.iaload, 1) := by decide +kernel
theorem dL_law_307 : decode cL_law 307 = .ok (.aload_n 0, 1) := by decide +kernel
theorem dL_law_308 : decode cL_law 308 = .ok (.iload 4, 2) := by decide +kernel
theorem dL_law_310 : decode cL_law 310 = .ok (.iconst 2, 1) := by decide +kernel
theorem dL_law_311 : decode cL_law 311 = .ok (.iadd, 1) := by decide +kernel
theorem dL_law_312 : decode cL_law 312 = .ok (.iaload, 1) := by decide +kernel
theorem dL_law_313 : decode cL_law 313 = .ok (.aload_n 3, 1) := by decide +kernel
theorem dL_law_314 : decode cL_law 314 = .ok (.invokestatic 89, 3) := by decide +kernel
theorem dL_law_317 : decode cL_law 317 = .ok (.istore 5, 2) := by decide +kernel
theorem dL_law_319 : decode cL_law 319 = .ok (.aload_n 2, 1) := by decide +kernel
theorem dL_law_320 : decode cL_law 320 = .ok (.aload_n 0, 1) := by decide +kernel
theorem dL_law_321 : decode cL_law 321 = .ok (.iload 4, 2) := by decide +kernel
theorem dL_law_323 : decode cL_law 323 = .ok (.iconst 1, 1) := by decide +kernel
theorem dL_law_324 : decode cL_law 324 = .ok (.iadd, 1) := by decide +kernel
theorem dL_law_325 : decode cL_law 325 = .ok (.iaload, 1) := by decide +kernel
theorem dL_law_326 : decode cL_law 326 = .ok (.aload_n 0, 1) := by decide +kernel
theorem dL_law_327 : decode cL_law 327 = .ok (.iload 4, 2) := by decide +kernel
theorem dL_law_329 : decode cL_law 329 = .ok (.iconst 2, 1) := by decide +kernel
theorem dL_law_330 : decode cL_law 330 = .ok (.iadd, 1) := by decide +kernel
theorem dL_law_331 : decode cL_law 331 = .ok (.iaload, 1) := by decide +kernel
theorem dL_law_332 : decode cL_law 332 = .ok (.invokevirtual 92, 3) := by decide +kernel
theorem dL_law_335 : decode cL_law 335 = .ok (.istore 6, 2) := by decide +kernel
theorem dL_law_337 : decode cL_law 337 = .ok (.aload_n 2, 1) := by decide +kernel
theorem dL_law_338 : decode cL_law 338 = .ok (.invokevirtual 79, 3) := by decide +kernel
theorem dL_law_341 : decode cL_law 341 = .ok (.iload 5, 2) := by decide +kernel
theorem dL_law_343 : decode cL_law 343 = .ok (.if_icmp .eq 5, 3) := by decide +kernel
theorem dL_law_346 : decode cL_law 346 = .ok (.iconst 0, 1) := by decide +kernel
theorem dL_law_347 : decode cL_law 347 = .ok (.ireturn, 1) := by decide +kernel
theorem dL_law_348 : decode cL_law 348 = .ok (.iload 5, 2) := by decide +kernel
theorem dL_law_350 : decode cL_law 350 = .ok (.ifCond .ne 15, 3) := by decide +kernel
theorem dL_law_353 : decode cL_law 353 = .ok (.aload_n 3, 1) := by decide +kernel
theorem dL_law_354 : decode cL_law 354 = .ok (.iconst 0, 1) := by decide +kernel
theorem dL_law_355 : decode cL_law 355 = .ok (.laload, 1) := by decide +kernel
theorem dL_law_356 : decode cL_law 356 = .ok (.iload 6, 2) := by decide +kernel
theorem dL_law_358 : decode cL_law 358 = .ok (.i2l, 1) := by decide +kernel
theorem dL_law_359 : decode cL_law 359 = .ok (.lcmp, 1) := by decide +kernel
theorem dL_law_360 : decode cL_law 360 = .ok (.ifCond .eq 5, 3) := by decide +kernel
theorem dL_law_363 : decode cL_law 363 = .ok (.iconst 0, 1) := by decide +kernel
theorem dL_law_364 : decode cL_law 364 = .ok (.ireturn, 1) := by decide +kernel
theorem dL_law_365 : decode cL_law 365 = .ok (.goto 869, 3) := by decide +kernel
theorem dL_law_368 : decode cL_law 368 = .ok (.aload_n 1, 1) := by decide +kernel
theorem dL_law_369 : decode cL_law 369 = .ok (.invokevirtual 93, 3) := by decide +kernel
theorem dL_law_372 : decode cL_law 372 = .ok (.aload_n 2, 1) := by decide +kernel
theorem dL_law_373 : decode cL_law 373 = .ok (.invokevirtual 96, 3) := by decide +kernel
theorem dL_law_376 : decode cL_law 376 = .ok (.if_icmp .eq 858, 3) := by decide +kernel
theorem dL_law_379 : decode cL_law 379 = .ok (.iconst 0, 1) := by decide +kernel
theorem dL_law_380 : decode cL_law 380 = .ok (.ireturn, 1) := by decide +kernel
theorem dL_law_381 : decode cL_law 381 = .ok (.aload_n 1, 1) := by decide +kernel
theorem dL_law_382 : decode cL_law 382 = .ok (.invokevirtual 97, 3) := by decide +kernel
theorem dL_law_385 : decode cL_law 385 = .ok (.aload_n 2, 1) := by decide +kernel
theorem dL_law_386 : decode cL_law 386 = .ok (.invokevirtual 100, 3) := by decide +kernel
theorem dL_law_389 : decode cL_law 389 = .ok (.if_icmp .eq 845, 3) := by decide +kernel
theorem dL_law_392 : decode cL_law 392 = .ok (.iconst 0, 1) := by decide +kernel
theorem dL_law_393 : decode cL_law 393 = .ok (.ireturn, 1) := by decide +kernel
theorem dL_law_394 : decode cL_law 394 = .ok (.aload_n 1, 1) := by decide +kernel
theorem dL_law_395 : decode cL_law 395 = .ok (.aload_n 0, 1) := by decide +kernel
theorem dL_law_396 : decode cL_law 396 = .ok (.iload 4, 2) := by decide +kernel
theorem dL_law_398 : decode cL_law 398 = .ok (.iconst 1, 1) := by decide +kernel
theorem dL_law_399 : decode cL_law 399 = .ok (.iadd, 1) := by decide +kernel
theorem dL_law_400 : decode cL_law 400 = .ok (.iaload, 1) := by decide +kernel
theorem dL_law_401 : decode cL_law 401 = .ok (.aload_n 3, 1) := by decide +kernel
theorem dL_law_402 : decode cL_law 402 = .ok (.invokestatic 101, 3) := by decide +kernel
theorem dL_law_405 : decode cL_law 405 = .ok (.istore 5, 2) := by decide +kernel
theorem dL_law_407 : decode cL_law 407 = .ok (.aload_n 2, 1) := by decide +kernel
theorem dL_law_408 : decode cL_law 408 = .ok (.aload_n 0, 1) := by decide +kernel
theorem dL_law_409 : decode cL_law 409 = .ok (.iload 4, 2) := by decide +kernel
theorem dL_law_411 : decode cL_law 411 = .ok (.iconst 1, 1) := by decide +kernel
theorem dL_law_412 : decode cL_law 412 = .ok (.iadd, 1) := by decide +kernel
theorem dL_law_413 : decode cL_law 413 = .ok (.iaload, 1) := by decide +kernel
theorem dL_law_414 : decode cL_law 414 = .ok (.invokevirtual 103, 3) := by decide +kernel
theorem dL_law_417 : decode cL_law 417 = .ok (.istore 6, 2) := by decide +kernel
theorem dL_law_419 : decode cL_law 419 = .ok (.aload_n 2, 1) := by decide +kernel
theorem dL_law_420 : decode cL_law 420 = .ok (.invokevirtual 79, 3) := by decide +kernel
theorem dL_law_423 : decode cL_law 423 = .ok (.iload 5, 2) := by decide +kernel
theorem dL_law_425 : decode cL_law 425 = .ok (.if_icmp .eq 5, 3) := by decide +kernel
theorem dL_law_428 : decode cL_law 428 = .ok (.iconst 0, 1) := by decide +kernel
theorem dL_law_429 : decode cL_law 429 = .ok (.ireturn, 1) := by decide +kernel
theorem dL_law_430 : decode cL_law 430 = .ok (.iload 5, 2) := by decide +kernel
theorem dL_law_432 : decode cL_law 432 = .ok (.ifCond .ne 15, 3) := by decide +kernel
theorem dL_law_435 : decode cL_law 435 = .ok (.aload_n 3, 1) := by decide +kernel
theorem dL_law_436 : decode cL_law 436 = .ok (.iconst 0, 1) := by decide +kernel
theorem dL_law_437 : decode cL_law 437 = .ok (.laload, 1) := by decide +kernel
theorem dL_law_438 : decode cL_law 438 = .ok (.iload 6, 2) := by decide +kernel
theorem dL_law_440 : decode cL_law 440 = .ok (.i2l, 1) := by decide +kernel
theorem dL_law_441 : decode cL_law 441 = .ok (.lcmp, 1) := by decide +kernel
theorem dL_law_442 : decode cL_law 442 = .ok (.ifCond .eq 5, 3) := by decide +kernel
theorem dL_law_445 : decode cL_law 445 = .ok (.iconst 0, 1) := by decide +kernel
theorem dL_law_446 : decode cL_law 446 = .ok (.ireturn, 1) := by decide +kernel
theorem dL_law_447 : decode cL_law 447 = .ok (.goto 787, 3) := by decide +kernel
theorem dL_law_450 : decode cL_law 450 = .ok (.aload_n 1, 1) := by decide +kernel
theorem dL_law_451 : decode cL_law 451 = .ok (.aload_n 0, 1) := by decide +kernel
theorem dL_law_452 : decode cL_law 452 = .ok (.iload 4, 2) := by decide +kernel
theorem dL_law_454 : decode cL_law 454 = .ok (.iconst 1, 1) := by decide +kernel
theorem dL_law_455 : decode cL_law 455 = .ok (.iadd, 1) := by decide +kernel
theorem dL_law_456 : decode cL_law 456 = .ok (.iaload, 1) := by decide +kernel
theorem dL_law_457 : decode cL_law 457 = .ok (.aload_n 3, 1) := by decide +kernel
theorem dL_law_458 : decode cL_law 458 = .ok (.invokestatic 104, 3) := by decide +kernel
theorem dL_law_461 : decode cL_law 461 = .ok (.istore 5, 2) := by decide +kernel
theorem dL_law_463 : decode cL_law 463 = .ok (.aload_n 2, 1) := by decide +kernel
theorem dL_law_464 : decode cL_law 464 = .ok (.aload_n 0, 1) := by decide +kernel
theorem dL_law_465 : decode cL_law 465 = .ok (.iload 4, 2) := by decide +kernel
theorem dL_law_467 : decode cL_law 467 = .ok (.iconst 1, 1) := by decide +kernel
theorem dL_law_468 : decode cL_law 468 = .ok (.iadd, 1) := by decide +kernel
theorem dL_law_469 : decode cL_law 469 = .ok (.iaload, 1) := by decide +kernel
theorem dL_law_470 : decode cL_law 470 = .ok (.invokevirtual 106, 3) := by decide +kernel
theorem dL_law_473 : decode cL_law 473 = .ok (.istore 6, 2) := by decide +kernel
theorem dL_law_475 : decode cL_law 475 = .ok (.aload_n 2, 1) := by decide +kernel
theorem dL_law_476 : decode cL_law 476 = .ok (.invokevirtual 79, 3) := by decide +kernel
theorem dL_law_479 : decode cL_law 479 = .ok (.iload 5, 2) := by decide +kernel
theorem dL_law_481 : decode cL_law 481 = .ok (.if_icmp .eq 5, 3) := by decide +kernel
theorem dL_law_484 : decode cL_law 484 = .ok (.iconst 0, 1) := by decide +kernel
theorem dL_law_485 : decode cL_law 485 = .ok (.ireturn, 1) := by decide +kernel
theorem dL_law_486 : decode cL_law 486 = .ok (.iload 5, 2) := by decide +kernel
theorem dL_law_488 : decode cL_law 488 = .ok (.ifCond .ne 15, 3) := by decide +kernel
theorem dL_law_491 : decode cL_law 491 = .ok (.aload_n 3, 1) := by decide +kernel
theorem dL_law_492 : decode cL_law 492 = .ok (.iconst 0, 1) := by decide +kernel
theorem dL_law_493 : decode cL_law 493 = .ok (.laload, 1) := by decide +kernel
theorem dL_law_494 : decode cL_law 494 = .ok (.iload 6, 2) := by decide +kernel
theorem dL_law_496 : decode cL_law 496 = .ok (.i2l, 1) := by decide +kernel
theorem dL_law_497 : decode cL_law 497 = .ok (.lcmp, 1) := by decide +kernel
theorem dL_law_498 : decode cL_law 498 = .ok (.ifCond .eq 5, 3) := by decide +kernel
theorem dL_law_501 : decode cL_law 501 = .ok (.iconst 0, 1) := by decide +kernel
theorem dL_law_502 : decode cL_law 502 = .ok (.ireturn, 1) := by decide +kernel
theorem dL_law_503 : decode cL_law 503 = .ok (.goto 731, 3) := by decide +kernel
theorem dL_law_506 : decode cL_law 506 = .ok (.aload_n 1, 1) := by decide +kernel
theorem dL_law_507 : decode cL_law 507 = .ok (.aload_n 0, 1) := by decide +kernel
theorem dL_law_508 : decode cL_law 508 = .ok (.iload 4, 2) := by decide +kernel
theorem dL_law_510 : decode cL_law 510 = .ok (.iconst 1, 1) := by decide +kernel
theorem dL_law_511 : decode cL_law 511 = .ok (.iadd, 1) := by decide +kernel
theorem dL_law_512 : decode cL_law 512 = .ok (.iaload, 1) := by decide +kernel
theorem dL_law_513 : decode cL_law 513 = .ok (.invokevirtual 107, 3) := by decide +kernel
theorem dL_law_516 : decode cL_law 516 = .ok (.aload_n 2, 1) := by decide +kernel
theorem dL_law_517 : decode cL_law 517 = .ok (.aload_n 0, 1) := by decide +kernel
theorem dL_law_518 : decode cL_law 518 = .ok (.iload 4, 2) := by decide +kernel
theorem dL_law_520 : decode cL_law 520 = .ok (.iconst 1, 1) := by decide +kernel
theorem dL_law_521 : decode cL_law 521 = .ok (.iadd, 1) := by decide +kernel
theorem dL_law_522 : decode cL_law 522 = .ok (.iaload, 1) := by decide +kernel
theorem dL_law_523 : decode cL_law 523 = .ok (.invokevirtual 111, 3) := by decide +kernel
theorem dL_law_526 : decode cL_law 526 = .ok (.if_icmp .eq 708, 3) := by decide +kernel
theorem dL_law_529 : decode cL_law 529 = .ok (.iconst 0, 1) := by decide +kernel
theorem dL_law_530 : decode cL_law 530 = .ok (.ireturn, 1) := by decide +kernel
theorem dL_law_531 : decode cL_law 531 = .ok (.aload_n 1, 1) := by decide +kernel
theorem dL_law_532 : decode cL_law 532 = .ok (.aload_n 0, 1) := by decide +kernel
theorem dL_law_533 : decode cL_law 533 = .ok (.iload 4, 2) := by decide +kernel
theorem dL_law_535 : decode cL_law 535 = .ok (.iconst 1, 1) := by decide +kernel
theorem dL_law_536 : decode cL_law 536 = .ok (.iadd, 1) := by decide +kernel
theorem dL_law_537 : decode cL_law 537 = .ok (.iaload, 1) := by decide +kernel
theorem dL_law_538 : decode cL_law 538 = .ok (.aload_n 3, 1) := by decide +kernel
theorem dL_law_539 : decode cL_law 539 = .ok (.invokestatic 112, 3) := by decide +kernel
theorem dL_law_542 : decode cL_law 542 = .ok (.istore 5, 2) := by decide +kernel
theorem dL_law_544 : decode cL_law 544 = .ok (.aload_n 2, 1) := by decide +kernel
theorem dL_law_545 : decode cL_law 545 = .ok (.aload_n 0, 1) := by decide +kernel
theorem dL_law_546 : decode cL_law 546 = .ok (.iload 4, 2) := by decide +kernel
theorem dL_law_548 : decode cL_law 548 = .ok (.iconst 1, 1) := by decide +kernel
theorem dL_law_549 : decode cL_law 549 = .ok (.iadd, 1) := by decide +kernel
theorem dL_law_550 : decode cL_law 550 = .ok (.iaload, 1) := by decide +kernel
theorem dL_law_551 : decode cL_law 551 = .ok (.invokevirtual 114, 3) := by decide +kernel
theorem dL_law_554 : decode cL_law 554 = .ok (.istore 6, 2) := by decide +kernel
theorem dL_law_556 : decode cL_law 556 = .ok (.aload_n 2, 1) := by decide +kernel
theorem dL_law_557 : decode cL_law 557 = .ok (.invokevirtual 79, 3) := by decide +kernel
theorem dL_law_560 : decode cL_law 560 = .ok (.iload 5, 2) := by decide +kernel
theorem dL_law_562 : decode cL_law 562 = .ok (.if_icmp .eq 5, 3) := by decide +kernel
theorem dL_law_565 : decode cL_law 565 = .ok (.iconst 0, 1) := by decide +kernel
theorem dL_law_566 : decode cL_law 566 = .ok (.ireturn, 1) := by decide +kernel
theorem dL_law_567 : decode cL_law 567 = .ok (.iload 5, 2) := by decide +kernel
theorem dL_law_569 : decode cL_law 569 = .ok (.ifCond .ne 15, 3) := by decide +kernel
theorem dL_law_572 : decode cL_law 572 = .ok (.aload_n 3, 1) := by decide +kernel
theorem dL_law_573 : decode cL_law 573 = .ok (.iconst 0, 1) := by decide +kernel
theorem dL_law_574 : decode cL_law 574 = .ok (.laload, 1) := by decide +kernel
theorem dL_law_575 : decode cL_law 575 = .ok (.iload 6, 2) := by decide +kernel
theorem dL_law_577 : decode cL_law 577 = .ok (.i2l, 1) := by decide +kernel
theorem dL_law_578 : decode cL_law 578 = .ok (.lcmp, 1) := by decide +kernel
theorem dL_law_579 : decode cL_law 579 = .ok (.ifCond .eq 5, 3) := by decide +kernel
theorem dL_law_582 : decode cL_law 582 = .ok (.iconst 0, 1) := by decide +kernel
theorem dL_law_583 : decode cL_law 583 = .ok (.ireturn, 1) := by decide +kernel
theorem dL_law_584 : decode cL_law 584 = .ok (.goto 650, 3) := by decide +kernel
theorem dL_law_587 : decode cL_law 587 = .ok (.aload_n 1, 1) := by decide +kernel
theorem dL_law_588 : decode cL_law 588 = .ok (.aload_n 0, 1) := by decide +kernel
theorem dL_law_589 : decode cL_law 589 = .ok (.iload 4, 2) := by decide +kernel
theorem dL_law_591 : decode cL_law 591 = .ok (.iconst 1, 1) := by decide +kernel
theorem dL_law_592 : decode cL_law 592 = .ok (.iadd, 1) := by decide +kernel
theorem dL_law_593 : decode cL_law 593 = .ok (.iaload, 1) := by decide +kernel
theorem dL_law_594 : decode cL_law 594 = .ok (.aload_n 3, 1) := by decide +kernel
theorem dL_law_595 : decode cL_law 595 = .ok (.invokestatic 115, 3) := by decide +kernel
theorem dL_law_598 : decode cL_law 598 = .ok (.istore 5, 2) := by decide +kernel
theorem dL_law_600 : decode cL_law 600 = .ok (.aload_n 2, 1) := by decide +kernel
theorem dL_law_601 : decode cL_law 601 = .ok (.aload_n 0, 1) := by decide +kernel
theorem dL_law_602 : decode cL_law 602 = .ok (.iload 4, 2) := by decide +kernel
theorem dL_law_604 : decode cL_law 604 = .ok (.iconst 1, 1) := by decide +kernel
theorem dL_law_605 : decode cL_law 605 = .ok (.iadd, 1) := by decide +kernel
theorem dL_law_606 : decode cL_law 606 = .ok (.iaload, 1) := by decide +kernel
theorem dL_law_607 : decode cL_law 607 = .ok (.invokevirtual 117, 3) := by decide +kernel
theorem dL_law_610 : decode cL_law 610 = .ok (.istore 6, 2) := by decide +kernel
theorem dL_law_612 : decode cL_law 612 = .ok (.aload_n 2, 1) := by decide +kernel
theorem dL_law_613 : decode cL_law 613 = .ok (.invokevirtual 79, 3) := by decide +kernel
theorem dL_law_616 : decode cL_law 616 = .ok (.iload 5, 2) := by decide +kernel
theorem dL_law_618 : decode cL_law 618 = .ok (.if_icmp .eq 5, 3) := by decide +kernel
theorem dL_law_621 : decode cL_law 621 = .ok (.iconst 0, 1) := by decide +kernel
theorem dL_law_622 : decode cL_law 622 = .ok (.ireturn, 1) := by decide +kernel
theorem dL_law_623 : decode cL_law 623 = .ok (.iload 5, 2) := by decide +kernel
theorem dL_law_625 : decode cL_law 625 = .ok (.ifCond .ne 15, 3) := by decide +kernel
theorem dL_law_628 : decode cL_law 628 = .ok (.aload_n 3, 1) := by decide +kernel
theorem dL_law_629 : decode cL_law 629 = .ok (.iconst 0, 1) := by decide +kernel
theorem dL_law_630 : decode cL_law 630 = .ok (.laload, 1) := by decide +kernel
theorem dL_law_631 : decode cL_law 631 = .ok (.iload 6, 2) := by decide +kernel
theorem dL_law_633 : decode cL_law 633 = .ok (.i2l, 1) := by decide +kernel
theorem dL_law_634 : decode cL_law 634 = .ok (.lcmp, 1) := by decide +kernel
theorem dL_law_635 : decode cL_law 635 = .ok (.ifCond .eq 5, 3) := by decide +kernel
theorem dL_law_638 : decode cL_law 638 = .ok (.iconst 0, 1) := by decide +kernel
theorem dL_law_639 : decode cL_law 639 = .ok (.ireturn, 1) := by decide +kernel
theorem dL_law_640 : decode cL_law 640 = .ok (.goto 594, 3) := by decide +kernel
theorem dL_law_643 : decode cL_law 643 = .ok (.aload_n 1, 1) := by decide +kernel
theorem dL_law_644 : decode cL_law 644 = .ok (.aload_n 0, 1) := by decide +kernel
theorem dL_law_645 : decode cL_law 645 = .ok (.iload 4, 2) := by decide +kernel
theorem dL_law_647 : decode cL_law 647 = .ok (.iconst 1, 1) := by decide +kernel
theorem dL_law_648 : decode cL_law 648 = .ok (.iadd, 1) := by decide +kernel
theorem dL_law_649 : decode cL_law 649 = .ok (.iaload, 1) := by decide +kernel
theorem dL_law_650 : decode cL_law 650 = .ok (.invokevirtual 118, 3) := by decide +kernel
theorem dL_law_653 : decode cL_law 653 = .ok (.aload_n 2, 1) := by decide +kernel
theorem dL_law_654 : decode cL_law 654 = .ok (.aload_n 0, 1) := by decide +kernel
theorem dL_law_655 : decode cL_law 655 = .ok (.iload 4, 2) := by decide +kernel
theorem dL_law_657 : decode cL_law 657 = .ok (.iconst 1, 1) := by decide +kernel
theorem dL_law_658 : decode cL_law 658 = .ok (.iadd, 1) := by decide +kernel
theorem dL_law_659 : decode cL_law 659 = .ok (.iaload, 1) := by decide +kernel
theorem dL_law_660 : decode cL_law 660 = .ok (.invokevirtual 121, 3) := by decide +kernel
theorem dL_law_663 : decode cL_law 663 = .ok (.if_icmp .eq 571, 3) := by decide +kernel
theorem dL_law_666 : decode cL_law 666 = .ok (.iconst 0, 1) := by decide +kernel
theorem dL_law_667 : decode cL_law 667 = .ok (.ireturn, 1) := by decide +kernel
theorem dL_law_668 : decode cL_law 668 = .ok (.aload_n 1, 1) := by decide +kernel
theorem dL_law_669 : decode cL_law 669 = .ok (.aload_n 0, 1) := by decide +kernel
theorem dL_law_670 : decode cL_law 670 = .ok (.iload 4, 2) := by decide +kernel
theorem dL_law_672 : decode cL_law 672 = .ok (.iconst 1, 1) := by decide +kernel
theorem dL_law_673 : decode cL_law 673 = .ok (.iadd, 1) := by decide +kernel
theorem dL_law_674 : decode cL_law 674 = .ok (.iaload, 1) := by decide +kernel
theorem dL_law_675 : decode cL_law 675 = .ok (.aload_n 3, 1) := by decide +kernel
theorem dL_law_676 : decode cL_law 676 = .ok (.invokestatic 122, 3) := by decide +kernel
theorem dL_law_679 : decode cL_law 679 = .ok (.istore 5, 2) := by decide +kernel
theorem dL_law_681 : decode cL_law 681 = .ok (.aload_n 2, 1) := by decide +kernel
theorem dL_law_682 : decode cL_law 682 = .ok (.aload_n 0, 1) := by decide +kernel
theorem dL_law_683 : decode cL_law 683 = .ok (.iload 4, 2) := by decide +kernel
theorem dL_law_685 : decode cL_law 685 = .ok (.iconst 1, 1) := by decide +kernel
theorem dL_law_686 : decode cL_law 686 = .ok (.iadd, 1) := by decide +kernel
theorem dL_law_687 : decode cL_law 687 = .ok (.iaload, 1) := by decide +kernel
theorem dL_law_688 : decode cL_law 688 = .ok (.invokevirtual 124, 3) := by decide +kernel
theorem dL_law_691 : decode cL_law 691 = .ok (.istore 6, 2) := by decide +kernel
theorem dL_law_693 : decode cL_law 693 = .ok (.aload_n 2, 1) := by decide +kernel
theorem dL_law_694 : decode cL_law 694 = .ok (.invokevirtual 79, 3) := by decide +kernel
theorem dL_law_697 : decode cL_law 697 = .ok (.iload 5, 2) := by decide +kernel
theorem dL_law_699 : decode cL_law 699 = .ok (.if_icmp .eq 5, 3) := by decide +kernel
theorem dL_law_702 : decode cL_law 702 = .ok (.iconst 0, 1) := by decide +kernel
theorem dL_law_703 : decode cL_law 703 = .ok (.ireturn, 1) := by decide +kernel
theorem dL_law_704 : decode cL_law 704 = .ok (.iload 5, 2) := by decide +kernel
theorem dL_law_706 : decode cL_law 706 = .ok (.ifCond .ne 15, 3) := by decide +kernel
theorem dL_law_709 : decode cL_law 709 = .ok (.aload_n 3, 1) := by decide +kernel
theorem dL_law_710 : decode cL_law 710 = .ok (.iconst 0, 1) := by decide +kernel
theorem dL_law_711 : decode cL_law 711 = .ok (.laload, 1) := by decide +kernel
theorem dL_law_712 : decode cL_law 712 = .ok (.iload 6, 2) := by decide +kernel
theorem dL_law_714 : decode cL_law 714 = .ok (.i2l, 1) := by decide +kernel
theorem dL_law_715 : decode cL_law 715 = .ok (.lcmp, 1) := by decide +kernel
theorem dL_law_716 : decode cL_law 716 = .ok (.ifCond .eq 5, 3) := by decide +kernel
theorem dL_law_719 : decode cL_law 719 = .ok (.iconst 0, 1) := by decide +kernel
theorem dL_law_720 : decode cL_law 720 = .ok (.ireturn, 1) := by decide +kernel
theorem dL_law_721 : decode cL_law 721 = .ok (.goto 513, 3) := by decide +kernel
theorem dL_law_724 : decode cL_law 724 = .ok (.aload_n 1, 1) := by decide +kernel
theorem dL_law_725 : decode cL_law 725 = .ok (.aload_n 0, 1) := by decide +kernel
theorem dL_law_726 : decode cL_law 726 = .ok (.iload 4, 2) := by decide +kernel
theorem dL_law_728 : decode cL_law 728 = .ok (.iconst 1, 1) := by decide +kernel
theorem dL_law_729 : decode cL_law 729 = .ok (.iadd, 1) := by decide +kernel
theorem dL_law_730 : decode cL_law 730 = .ok (.iaload, 1) := by decide +kernel
theorem dL_law_731 : decode cL_law 731 = .ok (.aload_n 0, 1) := by decide +kernel
theorem dL_law_732 : decode cL_law 732 = .ok (.iload 4, 2) := by decide +kernel
theorem dL_law_734 : decode cL_law 734 = .ok (.iconst 2, 1) := by decide +kernel
theorem dL_law_735 : decode cL_law 735 = .ok (.iadd, 1) := by decide +kernel
theorem dL_law_736 : decode cL_law 736 = .ok (.iaload, 1) := by decide +kernel
theorem dL_law_737 : decode cL_law 737 = .ok (.aload_n 3, 1) := by decide +kernel
theorem dL_law_738 : decode cL_law 738 = .ok (.invokestatic 125, 3) := by decide +kernel
theorem dL_law_741 : decode cL_law 741 = .ok (.istore 5, 2) := by decide +kernel
theorem dL_law_743 : decode cL_law 743 = .ok (.aload_n 2, 1) := by decide +kernel
theorem dL_law_744 : decode cL_law 744 = .ok (.aload_n 0, 1) := by decide +kernel
theorem dL_law_745 : decode cL_law 745 = .ok (.iload 4, 2) := by decide +kernel
theorem dL_law_747 : decode cL_law 747 = .ok (.iconst 1, 1) := by decide +kernel
theorem dL_law_748 : decode cL_law 748 = .ok (.iadd, 1) := by decide +kernel
theorem dL_law_749 : decode cL_law 749 = .ok (.iaload, 1) := by decide +kernel
theorem dL_law_750 : decode cL_law 750 = .ok (.aload_n 0, 1) := by decide +kernel
theorem dL_law_751 : decode cL_law 751 = .ok (.iload 4, 2) := by decide +kernel
theorem dL_law_753 : decode cL_law 753 = .ok (.iconst 2, 1) := by decide +kernel
theorem dL_law_754 : decode cL_law 754 = .ok (.iadd, 1) := by decide +kernel
theorem dL_law_755 : decode cL_law 755 = .ok (.iaload, 1) := by decide +kernel
theorem dL_law_756 : decode cL_law 756 = .ok (.invokevirtual 127, 3) := by decide +kernel
theorem dL_law_759 : decode cL_law 759 = .ok (.istore 6, 2) := by decide +kernel
theorem dL_law_761 : decode cL_law 761 = .ok (.aload_n 2, 1) := by decide +kernel
theorem dL_law_762 : decode cL_law 762 = .ok (.invokevirtual 79, 3) := by decide +kernel
theorem dL_law_765 : decode cL_law 765 = .ok (.iload 5, 2) := by decide +kernel
theorem dL_law_767 : decode cL_law 767 = .ok (.if_icmp .eq 5, 3) := by decide +kernel
theorem dL_law_770 : decode cL_law 770 = .ok (.iconst 0, 1) := by decide +kernel
theorem dL_law_771 : decode cL_law 771 = .ok (.ireturn, 1) := by decide +kernel
theorem dL_law_772 : decode cL_law 772 = .ok (.iload 5, 2) := by decide +kernel
theorem dL_law_774 : decode cL_law 774 = .ok (.ifCond .ne 15, 3) := by decide +kernel
theorem dL_law_777 : decode cL_law 777 = .ok (.aload_n 3, 1) := by decide +kernel
theorem dL_law_778 : decode cL_law 778 = .ok (.iconst 0, 1) := by decide +kernel
theorem dL_law_779 : decode cL_law 779 = .ok (.laload, 1) := by decide +kernel
theorem dL_law_780 : decode cL_law 780 = .ok (.iload 6, 2) := by decide +kernel
theorem dL_law_782 : decode cL_law 782 = .ok (.i2l, 1) := by decide +kernel
theorem dL_law_783 : decode cL_law 783 = .ok (.lcmp, 1) := by decide +kernel
theorem dL_law_784 : decode cL_law 784 = .ok (.ifCond .eq 5, 3) := by decide +kernel
theorem dL_law_787 : decode cL_law 787 = .ok (.iconst 0, 1) := by decide +kernel
theorem dL_law_788 : decode cL_law 788 = .ok (.ireturn, 1) := by decide +kernel
theorem dL_law_789 : decode cL_law 789 = .ok (.goto 445, 3) := by decide +kernel
theorem dL_law_792 : decode cL_law 792 = .ok (.aload_n 1, 1) := by decide +kernel
theorem dL_law_793 : decode cL_law 793 = .ok (.aload_n 0, 1) := by decide +kernel
theorem dL_law_794 : decode cL_law 794 = .ok (.iload 4, 2) := by decide +kernel
theorem dL_law_796 : decode cL_law 796 = .ok (.iconst 1, 1) := by decide +kernel
theorem dL_law_797 : decode cL_law 797 = .ok (.iadd, 1) := by decide +kernel
theorem dL_law_798 : decode cL_law 798 = .ok (.iaload, 1) := by decide +kernel
theorem dL_law_799 : decode cL_law 799 = .ok (.aload_n 3, 1) := by decide +kernel
theorem dL_law_800 : decode cL_law 800 = .ok (.invokestatic 128, 3) := by decide +kernel
theorem dL_law_803 : decode cL_law 803 = .ok (.istore 5, 2) := by decide +kernel
theorem dL_law_805 : decode cL_law 805 = .ok (.aload_n 2, 1) := by decide +kernel
theorem dL_law_806 : decode cL_law 806 = .ok (.aload_n 0, 1) := by decide +kernel
theorem dL_law_807 : decode cL_law 807 = .ok (.iload 4, 2) := by decide +kernel
theorem dL_law_809 : decode cL_law 809 = .ok (.iconst 1, 1) := by decide +kernel
theorem dL_law_810 : decode cL_law 810 = .ok (.iadd, 1) := by decide +kernel
theorem dL_law_811 : decode cL_law 811 = .ok (.iaload, 1) := by decide +kernel
theorem dL_law_812 : decode cL_law 812 = .ok (.invokevirtual 130, 3) := by decide +kernel
theorem dL_law_815 : decode cL_law 815 = .ok (.istore 6, 2) := by decide +kernel
theorem dL_law_817 : decode cL_law 817 = .ok (.aload_n 2, 1) := by decide +kernel
theorem dL_law_818 : decode cL_law 818 = .ok (.invokevirtual 79, 3) := by decide +kernel
theorem dL_law_821 : decode cL_law 821 = .ok (.iload 5, 2) := by decide +kernel
theorem dL_law_823 : decode cL_law 823 = .ok (.if_icmp .eq 5, 3) := by decide +kernel
theorem dL_law_826 : decode cL_law 826 = .ok (.iconst 0, 1) := by decide +kernel
theorem dL_law_827 : decode cL_law 827 = .ok (.ireturn, 1) := by decide +kernel
theorem dL_law_828 : decode cL_law 828 = .ok (.iload 5, 2) := by decide +kernel
theorem dL_law_830 : decode cL_law 830 = .ok (.ifCond .ne 15, 3) := by decide +kernel
theorem dL_law_833 : decode cL_law 833 = .ok (.aload_n 3, 1) := by decide +kernel
theorem dL_law_834 : decode cL_law 834 = .ok (.iconst 0, 1) := by decide +kernel
theorem dL_law_835 : decode cL_law 835 = .ok (.laload, 1) := by decide +kernel
theorem dL_law_836 : decode cL_law 836 = .ok (.iload 6, 2) := by decide +kernel
theorem dL_law_838 : decode cL_law 838 = .ok (.i2l, 1) := by decide +kernel
theorem dL_law_839 : decode cL_law 839 = .ok (.lcmp, 1) := by decide +kernel
theorem dL_law_840 : decode cL_law 840 = .ok (.ifCond .eq 5, 3) := by decide +kernel
theorem dL_law_843 : decode cL_law 843 = .ok (.iconst 0, 1) := by decide +kernel
theorem dL_law_844 : decode cL_law 844 = .ok (.ireturn, 1) := by decide +kernel
theorem dL_law_845 : decode cL_law 845 = .ok (.goto 389, 3) := by decide +kernel
theorem dL_law_848 : decode cL_law 848 = .ok (.aload_n 1, 1) := by decide +kernel
theorem dL_law_849 : decode cL_law 849 = .ok (.aload_n 0, 1) := by decide +kernel
theorem dL_law_850 : decode cL_law 850 = .ok (.iload 4, 2) := by decide +kernel
theorem dL_law_852 : decode cL_law 852 = .ok (.iconst 1, 1) := by decide +kernel
theorem dL_law_853 : decode cL_law 853 = .ok (.iadd, 1) := by decide +kernel
theorem dL_law_854 : decode cL_law 854 = .ok (.iaload, 1) := by decide +kernel
theorem dL_law_855 : decode cL_law 855 = .ok (.aload_n 3, 1) := by decide +kernel
theorem dL_law_856 : decode cL_law 856 = .ok (.invokestatic 131, 3) := by decide +kernel
theorem dL_law_859 : decode cL_law 859 = .ok (.istore 5, 2) := by decide +kernel
theorem dL_law_861 : decode cL_law 861 = .ok (.aload_n 2, 1) := by decide +kernel
theorem dL_law_862 : decode cL_law 862 = .ok (.aload_n 0, 1) := by decide +kernel
theorem dL_law_863 : decode cL_law 863 = .ok (.iload 4, 2) := by decide +kernel
theorem dL_law_865 : decode cL_law 865 = .ok (.iconst 1, 1) := by decide +kernel
theorem dL_law_866 : decode cL_law 866 = .ok (.iadd, 1) := by decide +kernel
theorem dL_law_867 : decode cL_law 867 = .ok (.iaload, 1) := by decide +kernel
theorem dL_law_868 : decode cL_law 868 = .ok (.invokevirtual 133, 3) := by decide +kernel
theorem dL_law_871 : decode cL_law 871 = .ok (.istore 6, 2) := by decide +kernel
theorem dL_law_873 : decode cL_law 873 = .ok (.aload_n 2, 1) := by decide +kernel
theorem dL_law_874 : decode cL_law 874 = .ok (.invokevirtual 79, 3) := by decide +kernel
theorem dL_law_877 : decode cL_law 877 = .ok (.iload 5, 2) := by decide +kernel
theorem dL_law_879 : decode cL_law 879 = .ok (.if_icmp .eq 5, 3) := by decide +kernel
theorem dL_law_882 : decode cL_law 882 = .ok (.iconst 0, 1) := by decide +kernel
theorem dL_law_883 : decode cL_law 883 = .ok (.ireturn, 1) := by decide +kernel
theorem dL_law_884 : decode cL_law 884 = .ok (.iload 5, 2) := by decide +kernel
theorem dL_law_886 : decode cL_law 886 = .ok (.ifCond .ne 15, 3) := by decide +kernel
theorem dL_law_889 : decode cL_law 889 = .ok (.aload_n 3, 1) := by decide +kernel
theorem dL_law_890 : decode cL_law 890 = .ok (.iconst 0, 1) := by decide +kernel
theorem dL_law_891 : decode cL_law 891 = .ok (.laload, 1) := by decide +kernel
theorem dL_law_892 : decode cL_law 892 = .ok (.iload 6, 2) := by decide +kernel
theorem dL_law_894 : decode cL_law 894 = .ok (.i2l, 1) := by decide +kernel
theorem dL_law_895 : decode cL_law 895 = .ok (.lcmp, 1) := by decide +kernel
theorem dL_law_896 : decode cL_law 896 = .ok (.ifCond .eq 5, 3) := by decide +kernel
theorem dL_law_899 : decode cL_law 899 = .ok (.iconst 0, 1) := by decide +kernel
theorem dL_law_900 : decode cL_law 900 = .ok (.ireturn, 1) := by decide +kernel
theorem dL_law_901 : decode cL_law 901 = .ok (.goto 333, 3) := by decide +kernel
theorem dL_law_904 : decode cL_law 904 = .ok (.aload_n 1, 1) := by decide +kernel
theorem dL_law_905 : decode cL_law 905 = .ok (.invokevirtual 134, 3) := by decide +kernel
theorem dL_law_908 : decode cL_law 908 = .ok (.aload_n 2, 1) := by decide +kernel
theorem dL_law_909 : decode cL_law 909 = .ok (.invokevirtual 137, 3) := by decide +kernel
theorem dL_law_912 : decode cL_law 912 = .ok (.if_icmp .eq 322, 3) := by decide +kernel
theorem dL_law_915 : decode cL_law 915 = .ok (.iconst 0, 1) := by decide +kernel
theorem dL_law_916 : decode cL_law 916 = .ok (.ireturn, 1) := by decide +kernel
theorem dL_law_917 : decode cL_law 917 = .ok (.aload_n 1, 1) := by decide +kernel
theorem dL_law_918 : decode cL_law 918 = .ok (.aload_n 0, 1) := by decide +kernel
theorem dL_law_919 : decode cL_law 919 = .ok (.iload 4, 2) := by decide +kernel
theorem dL_law_921 : decode cL_law 921 = .ok (.iconst 1, 1) := by decide +kernel
theorem dL_law_922 : decode cL_law 922 = .ok (.iadd, 1) := by decide +kernel
theorem dL_law_923 : decode cL_law 923 = .ok (.iaload, 1) := by decide +kernel
theorem dL_law_924 : decode cL_law 924 = .ok (.aload_n 3, 1) := by decide +kernel
theorem dL_law_925 : decode cL_law 925 = .ok (.invokestatic 138, 3) := by decide +kernel
theorem dL_law_928 : decode cL_law 928 = .ok (.istore 5, 2) := by decide +kernel
theorem dL_law_930 : decode cL_law 930 = .ok (.aload_n 2, 1) := by decide +kernel
theorem dL_law_931 : decode cL_law 931 = .ok (.aload_n 0, 1) := by decide +kernel
theorem dL_law_932 : decode cL_law 932 = .ok (.iload 4, 2) := by decide +kernel
theorem dL_law_934 : decode cL_law 934 = .ok (.iconst 1, 1) := by decide +kernel
theorem dL_law_935 : decode cL_law 935 = .ok (.iadd, 1) := by decide +kernel
theorem dL_law_936 : decode cL_law 936 = .ok (.iaload, 1) := by decide +kernel
theorem dL_law_937 : decode cL_law 937 = .ok (.invokevirtual 140, 3) := by decide +kernel
theorem dL_law_940 : decode cL_law 940 = .ok (.istore 6, 2) := by decide +kernel
theorem dL_law_942 : decode cL_law 942 = .ok (.aload_n 2, 1) := by decide +kernel
theorem dL_law_943 : decode cL_law 943 = .ok (.invokevirtual 79, 3) := by decide +kernel
theorem dL_law_946 : decode cL_law 946 = .ok (.iload 5, 2) := by decide +kernel
theorem dL_law_948 : decode cL_law 948 = .ok (.if_icmp .eq 5, 3) := by decide +kernel
theorem dL_law_951 : decode cL_law 951 = .ok (.iconst 0, 1) := by decide +kernel
theorem dL_law_952 : decode cL_law 952 = .ok (.ireturn, 1) := by decide +kernel
theorem dL_law_953 : decode cL_law 953 = .ok (.iload 5, 2) := by decide +kernel
theorem dL_law_955 : decode cL_law 955 = .ok (.ifCond .ne 15, 3) := by decide +kernel
theorem dL_law_958 : decode cL_law 958 = .ok (.aload_n 3, 1) := by decide +kernel
theorem dL_law_959 : decode cL_law 959 = .ok (.iconst 0, 1) := by decide +kernel
theorem dL_law_960 : decode cL_law 960 = .ok (.laload, 1) := by decide +kernel
theorem dL_law_961 : decode cL_law 961 = .ok (.iload 6, 2) := by decide +kernel
theorem dL_law_963 : decode cL_law 963 = .ok (.i2l, 1) := by decide +kernel
theorem dL_law_964 : decode cL_law 964 = .ok (.lcmp, 1) := by decide +kernel
theorem dL_law_965 : decode cL_law 965 = .ok (.ifCond .eq 5, 3) := by decide +kernel
theorem dL_law_968 : decode cL_law 968 = .ok (.iconst 0, 1) := by decide +kernel
theorem dL_law_969 : decode cL_law 969 = .ok (.ireturn, 1) := by decide +kernel
theorem dL_law_970 : decode cL_law 970 = .ok (.goto 264, 3) := by decide +kernel
theorem dL_law_973 : decode cL_law 973 = .ok (.aload_n 1, 1) := by decide +kernel
theorem dL_law_974 : decode cL_law 974 = .ok (.aload_n 0, 1) := by decide +kernel
theorem dL_law_975 : decode cL_law 975 = .ok (.iload 4, 2) := by decide +kernel
theorem dL_law_977 : decode cL_law 977 = .ok (.iconst 1, 1) := by decide +kernel
theorem dL_law_978 : decode cL_law 978 = .ok (.iadd, 1) := by decide +kernel
theorem dL_law_979 : decode cL_law 979 = .ok (.iaload, 1) := by decide +kernel
theorem dL_law_980 : decode cL_law 980 = .ok (.aload_n 0, 1) := by decide +kernel
theorem dL_law_981 : decode cL_law 981 = .ok (.iload 4, 2) := by decide +kernel
theorem dL_law_983 : decode cL_law 983 = .ok (.iconst 2, 1) := by decide +kernel
theorem dL_law_984 : decode cL_law 984 = .ok (.iadd, 1) := by decide +kernel
theorem dL_law_985 : decode cL_law 985 = .ok (.iaload, 1) := by decide +kernel
theorem dL_law_986 : decode cL_law 986 = .ok (.aload_n 3, 1) := by decide +kernel
theorem dL_law_987 : decode cL_law 987 = .ok (.invokestatic 141, 3) := by decide +kernel
theorem dL_law_990 : decode cL_law 990 = .ok (.istore 5, 2) := by decide +kernel
theorem dL_law_992 : decode cL_law 992 = .ok (.aload_n 2, 1) := by decide +kernel
theorem dL_law_993 : decode cL_law 993 = .ok (.aload_n 0, 1) := by decide +kernel
theorem dL_law_994 : decode cL_law 994 = .ok (.iload 4, 2) := by decide +kernel
theorem dL_law_996 : decode cL_law 996 = .ok (.iconst 1, 1) := by decide +kernel
theorem dL_law_997 : decode cL_law 997 = .ok (.iadd, 1) := by decide +kernel
theorem dL_law_998 : decode cL_law 998 = .ok (.iaload, 1) := by decide +kernel
theorem dL_law_999 : decode cL_law 999 = .ok (.aload_n 0, 1) := by decide +kernel
theorem dL_law_1000 : decode cL_law 1000 = .ok (.iload 4, 2) := by decide +kernel
theorem dL_law_1002 : decode cL_law 1002 = .ok (.iconst 2, 1) := by decide +kernel
theorem dL_law_1003 : decode cL_law 1003 = .ok (.iadd, 1) := by decide +kernel
theorem dL_law_1004 : decode cL_law 1004 = .ok (.iaload, 1) := by decide +kernel
theorem dL_law_1005 : decode cL_law 1005 = .ok (.invokevirtual 143, 3) := by decide +kernel
theorem dL_law_1008 : decode cL_law 1008 = .ok (.istore 6, 2) := by decide +kernel
theorem dL_law_1010 : decode cL_law 1010 = .ok (.aload_n 2, 1) := by decide +kernel
theorem dL_law_1011 : decode cL_law 1011 = .ok (.invokevirtual 79, 3) := by decide +kernel
theorem dL_law_1014 : decode cL_law 1014 = .ok (.iload 5, 2) := by decide +kernel
theorem dL_law_1016 : decode cL_law 1016 = .ok (.if_icmp .eq 5, 3) := by decide +kernel
theorem dL_law_1019 : decode cL_law 1019 = .ok (.iconst 0, 1) := by decide +kernel
theorem dL_law_1020 : decode cL_law 1020 = .ok (.ireturn, 1) := by decide +kernel
theorem dL_law_1021 : decode cL_law 1021 = .ok (.iload 5, 2) := by decide +kernel
theorem dL_law_1023 : decode cL_law 1023 = .ok (.ifCond .ne 15, 3) := by decide +kernel
theorem dL_law_1026 : decode cL_law 1026 = .ok (.aload_n 3, 1) := by decide +kernel
theorem dL_law_1027 : decode cL_law 1027 = .ok (.iconst 0, 1) := by decide +kernel
theorem dL_law_1028 : decode cL_law 1028 = .ok (.laload, 1) := by decide +kernel
theorem dL_law_1029 : decode cL_law 1029 = .ok (.iload 6, 2) := by decide +kernel
theorem dL_law_1031 : decode cL_law 1031 = .ok (.i2l, 1) := by decide +kernel
theorem dL_law_1032 : decode cL_law 1032 = .ok (.lcmp, 1) := by decide +kernel
theorem dL_law_1033 : decode cL_law 1033 = .ok (.ifCond .eq 5, 3) := by decide +kernel
theorem dL_law_1036 : decode cL_law 1036 = .ok (.iconst 0, 1) := by decide +kernel
theorem dL_law_1037 : decode cL_law 1037 = .ok (.ireturn, 1) := by decide +kernel
theorem dL_law_1038 : decode cL_law 1038 = .ok (.goto 196, 3) := by decide +kernel
theorem dL_law_1041 : decode cL_law 1041 = .ok (.aload_n 1, 1) := by decide +kernel
theorem dL_law_1042 : decode cL_law 1042 = .ok (.invokevirtual 144, 3) := by decide +kernel
theorem dL_law_1045 : decode cL_law 1045 = .ok (.aload_n 2, 1) := by decide +kernel
theorem dL_law_1046 : decode cL_law 1046 = .ok (.invokevirtual 147, 3) := by decide +kernel
theorem dL_law_1049 : decode cL_law 1049 = .ok (.if_icmp .eq 185, 3) := by decide +kernel
theorem dL_law_1052 : decode cL_law 1052 = .ok (.iconst 0, 1) := by decide +kernel
theorem dL_law_1053 : decode cL_law 1053 = .ok (.ireturn, 1) := by decide +kernel
theorem dL_law_1054 : decode cL_law 1054 = .ok (.aload_n 1, 1) := by decide +kernel
theorem dL_law_1055 : decode cL_law 1055 = .ok (.aload_n 0, 1) := by decide +kernel
theorem dL_law_1056 : decode cL_law 1056 = .ok (.iload 4, 2) := by decide +kernel
theorem dL_law_1058 : decode cL_law 1058 = .ok (.iconst 1, 1) := by decide +kernel
theorem dL_law_1059 : decode cL_law 1059 = .ok (.iadd, 1) := by decide +kernel
theorem dL_law_1060 : decode cL_law 1060 = .ok (.iaload, 1) := by decide +kernel
theorem dL_law_1061 : decode cL_law 1061 = .ok (.aload_n 3, 1) := by decide +kernel
theorem dL_law_1062 : decode cL_law 1062 = .ok (.invokestatic 148, 3) := by decide +kernel
theorem dL_law_1065 : decode cL_law 1065 = .ok (.istore 5, 2) := by decide +kernel
theorem dL_law_1067 : decode cL_law 1067 = .ok (.aload_n 2, 1) := by decide +kernel
theorem dL_law_1068 : decode cL_law 1068 = .ok (.aload_n 0, 1) := by decide +kernel
theorem dL_law_1069 : decode cL_law 1069 = .ok (.iload 4, 2) := by decide +kernel
theorem dL_law_1071 : decode cL_law 1071 = .ok (.iconst 1, 1) := by decide +kernel
theorem dL_law_1072 : decode cL_law 1072 = .ok (.iadd, 1) := by decide +kernel
theorem dL_law_1073 : decode cL_law 1073 = .ok (.iaload, 1) := by decide +kernel
theorem dL_law_1074 : decode cL_law 1074 = .ok (.invokevirtual 150, 3) := by decide +kernel
theorem dL_law_1077 : decode cL_law 1077 = .ok (.istore 6, 2) := by decide +kernel
theorem dL_law_1079 : decode cL_law 1079 = .ok (.aload_n 2, 1) := by decide +kernel
theorem dL_law_1080 : decode cL_law 1080 = .ok (.invokevirtual 79, 3) := by decide +kernel
theorem dL_law_1083 : decode cL_law 1083 = .ok (.iload 5, 2) := by decide +kernel
theorem dL_law_1085 : decode cL_law 1085 = .ok (.if_icmp .eq 5, 3) := by decide +kernel
theorem dL_law_1088 : decode cL_law 1088 = .ok (.iconst 0, 1) := by decide +kernel
theorem dL_law_1089 : decode cL_law 1089 = .ok (.ireturn, 1) := by decide +kernel
theorem dL_law_1090 : decode cL_law 1090 = .ok (.iload 5, 2) := by decide +kernel
theorem dL_law_1092 : decode cL_law 1092 = .ok (.ifCond .ne 15, 3) := by decide +kernel
theorem dL_law_1095 : decode cL_law 1095 = .ok (.aload_n 3, 1) := by decide +kernel
theorem dL_law_1096 : decode cL_law 1096 = .ok (.iconst 0, 1) := by decide +kernel
theorem dL_law_1097 : decode cL_law 1097 = .ok (.laload, 1) := by decide +kernel
theorem dL_law_1098 : decode cL_law 1098 = .ok (.iload 6, 2) := by decide +kernel
theorem dL_law_1100 : decode cL_law 1100 = .ok (.i2l, 1) := by decide +kernel
theorem dL_law_1101 : decode cL_law 1101 = .ok (.lcmp, 1) := by decide +kernel
theorem dL_law_1102 : decode cL_law 1102 = .ok (.ifCond .eq 5, 3) := by decide +kernel
theorem dL_law_1105 : decode cL_law 1105 = .ok (.iconst 0, 1) := by decide +kernel
theorem dL_law_1106 : decode cL_law 1106 = .ok (.ireturn, 1) := by decide +kernel
theorem dL_law_1107 : decode cL_law 1107 = .ok (.goto 127, 3) := by decide +kernel
theorem dL_law_1110 : decode cL_law 1110 = .ok (.aload_n 1, 1) := by decide +kernel
theorem dL_law_1111 : decode cL_law 1111 = .ok (.aload_n 0, 1) := by decide +kernel
theorem dL_law_1112 : decode cL_law 1112 = .ok (.iload 4, 2) := by decide +kernel
theorem dL_law_1114 : decode cL_law 1114 = .ok (.iconst 1, 1) := by decide +kernel
theorem dL_law_1115 : decode cL_law 1115 = .ok (.iadd, 1) := by decide +kernel
theorem dL_law_1116 : decode cL_law 1116 = .ok (.iaload, 1) := by decide +kernel
theorem dL_law_1117 : decode cL_law 1117 = .ok (.aload_n 3, 1) := by decide +kernel
theorem dL_law_1118 : decode cL_law 1118 = .ok (.invokestatic 151, 3) := by decide +kernel
theorem dL_law_1121 : decode cL_law 1121 = .ok (.istore 5, 2) := by decide +kernel
theorem dL_law_1123 : decode cL_law 1123 = .ok (.aload_n 2, 1) := by decide +kernel
theorem dL_law_1124 : decode cL_law 1124 = .ok (.aload_n 0, 1) := by decide +kernel
theorem dL_law_1125 : decode cL_law 1125 = .ok (.iload 4, 2) := by decide +kernel
theorem dL_law_1127 : decode cL_law 1127 = .ok (.iconst 1, 1) := by decide +kernel
theorem dL_law_1128 : decode cL_law 1128 = .ok (.iadd, 1) := by decide +kernel
theorem dL_law_1129 : decode cL_law 1129 = .ok (.iaload, 1) := by decide +kernel
theorem dL_law_1130 : decode cL_law 1130 = .ok (.invokevirtual 153, 3) := by decide +kernel
theorem dL_law_1133 : decode cL_law 1133 = .ok (.istore 6, 2) := by decide +kernel
end
section
theorem dL_law_1135 : decode cL_law 1135 = .ok (.aload_n 2, 1) := by decide +kernel
theorem dL_law_1136 : decode cL_law 1136 = .ok (.invokevirtual 79, 3) := by decide +kernel
theorem dL_law_1139 : decode cL_law 1139 = .ok (.iload 5, 2) := by decide +kernel
theorem dL_law_1141 : decode cL_law 1141 = .ok (.if_icmp .eq 5, 3) := by decide +kernel
theorem dL_law_1144 : decode cL_law 1144 = .ok (.iconst 0, 1) := by decide +kernel
theorem dL_law_1145 : decode cL_law 1145 = .ok (.ireturn, 1) := by decide +kernel
theorem dL_law_1146 : decode cL_law 1146 = .ok (.iload 5, 2) := by decide +kernel
theorem dL_law_1148 : decode cL_law 1148 = .ok (.ifCond .ne 15, 3) := by decide +kernel
theorem dL_law_1151 : decode cL_law 1151 = .ok (.aload_n 3, 1) := by decide +kernel
theorem dL_law_1152 : decode cL_law 1152 = .ok (.iconst 0, 1) := by decide +kernel
theorem dL_law_1153 : decode cL_law 1153 = .ok (.laload, 1) := by decide +kernel
theorem dL_law_1154 : decode cL_law 1154 = .ok (.iload 6, 2) := by decide +kernel
theorem dL_law_1156 : decode cL_law 1156 = .ok (.i2l, 1) := by decide +kernel
theorem dL_law_1157 : decode cL_law 1157 = .ok (.lcmp, 1) := by decide +kernel
theorem dL_law_1158 : decode cL_law 1158 = .ok (.ifCond .eq 5, 3) := by decide +kernel
theorem dL_law_1161 : decode cL_law 1161 = .ok (.iconst 0, 1) := by decide +kernel
theorem dL_law_1162 : decode cL_law 1162 = .ok (.ireturn, 1) := by decide +kernel
theorem dL_law_1163 : decode cL_law 1163 = .ok (.goto 71, 3) := by decide +kernel
theorem dL_law_1166 : decode cL_law 1166 = .ok (.aload_n 1, 1) := by decide +kernel
theorem dL_law_1167 : decode cL_law 1167 = .ok (.aload_n 0, 1) := by decide +kernel
theorem dL_law_1168 : decode cL_law 1168 = .ok (.iload 4, 2) := by decide +kernel
theorem dL_law_1170 : decode cL_law 1170 = .ok (.iconst 1, 1) := by decide +kernel
theorem dL_law_1171 : decode cL_law 1171 = .ok (.iadd, 1) := by decide +kernel
theorem dL_law_1172 : decode cL_law 1172 = .ok (.iaload, 1) := by decide +kernel
theorem dL_law_1173 : decode cL_law 1173 = .ok (.aload_n 0, 1) := by decide +kernel
theorem dL_law_1174 : decode cL_law 1174 = .ok (.iload 4, 2) := by decide +kernel
theorem dL_law_1176 : decode cL_law 1176 = .ok (.iconst 2, 1) := by decide +kernel
theorem dL_law_1177 : decode cL_law 1177 = .ok (.iadd, 1) := by decide +kernel
theorem dL_law_1178 : decode cL_law 1178 = .ok (.iaload, 1) := by decide +kernel
theorem dL_law_1179 : decode cL_law 1179 = .ok (.aload_n 3, 1) := by decide +kernel
theorem dL_law_1180 : decode cL_law 1180 = .ok (.invokestatic 154, 3) := by decide +kernel
theorem dL_law_1183 : decode cL_law 1183 = .ok (.istore 5, 2) := by decide +kernel
theorem dL_law_1185 : decode cL_law 1185 = .ok (.aload_n 2, 1) := by decide +kernel
theorem dL_law_1186 : decode cL_law 1186 = .ok (.aload_n 0, 1) := by decide +kernel
theorem dL_law_1187 : decode cL_law 1187 = .ok (.iload 4, 2) := by decide +kernel
theorem dL_law_1189 : decode cL_law 1189 = .ok (.iconst 1, 1) := by decide +kernel
theorem dL_law_1190 : decode cL_law 1190 = .ok (.iadd, 1) := by decide +kernel
theorem dL_law_1191 : decode cL_law 1191 = .ok (.iaload, 1) := by decide +kernel
theorem dL_law_1192 : decode cL_law 1192 = .ok (.aload_n 0, 1) := by decide +kernel
theorem dL_law_1193 : decode cL_law 1193 = .ok (.iload 4, 2) := by decide +kernel
theorem dL_law_1195 : decode cL_law 1195 = .ok (.iconst 2, 1) := by decide +kernel
theorem dL_law_1196 : decode cL_law 1196 = .ok (.iadd, 1) := by decide +kernel
theorem dL_law_1197 : decode cL_law 1197 = .ok (.iaload, 1) := by decide +kernel
theorem dL_law_1198 : decode cL_law 1198 = .ok (.invokevirtual 156, 3) := by decide +kernel
theorem dL_law_1201 : decode cL_law 1201 = .ok (.istore 6, 2) := by decide +kernel
theorem dL_law_1203 : decode cL_law 1203 = .ok (.aload_n 2, 1) := by decide +kernel
theorem dL_law_1204 : decode cL_law 1204 = .ok (.invokevirtual 79, 3) := by decide +kernel
theorem dL_law_1207 : decode cL_law 1207 = .ok (.iload 5, 2) := by decide +kernel
theorem dL_law_1209 : decode cL_law 1209 = .ok (.if_icmp .eq 5, 3) := by decide +kernel
theorem dL_law_1212 : decode cL_law 1212 = .ok (.iconst 0, 1) := by decide +kernel
theorem dL_law_1213 : decode cL_law 1213 = .ok (.ireturn, 1) := by decide +kernel
theorem dL_law_1214 : decode cL_law 1214 = .ok (.iload 5, 2) := by decide +kernel
theorem dL_law_1216 : decode cL_law 1216 = .ok (.ifCond .ne 15, 3) := by decide +kernel
theorem dL_law_1219 : decode cL_law 1219 = .ok (.aload_n 3, 1) := by decide +kernel
theorem dL_law_1220 : decode cL_law 1220 = .ok (.iconst 0, 1) := by decide +kernel
theorem dL_law_1221 : decode cL_law 1221 = .ok (.laload, 1) := by decide +kernel
theorem dL_law_1222 : decode cL_law 1222 = .ok (.iload 6, 2) := by decide +kernel
theorem dL_law_1224 : decode cL_law 1224 = .ok (.i2l, 1) := by decide +kernel
theorem dL_law_1225 : decode cL_law 1225 = .ok (.lcmp, 1) := by decide +kernel
theorem dL_law_1226 : decode cL_law 1226 = .ok (.ifCond .eq 5, 3) := by decide +kernel
theorem dL_law_1229 : decode cL_law 1229 = .ok (.iconst 0, 1) := by decide +kernel
theorem dL_law_1230 : decode cL_law 1230 = .ok (.ireturn, 1) := by decide +kernel
theorem dL_law_1231 : decode cL_law 1231 = .ok (.goto 3, 3) := by decide +kernel
theorem dL_law_1234 : decode cL_law 1234 = .ok (.iinc 4 3, 3) := by decide +kernel
theorem dL_law_1237 : decode cL_law 1237 = .ok (.goto (-1214), 3) := by decide +kernel
theorem dL_law_1240 : decode cL_law 1240 = .ok (.iconst 1, 1) := by decide +kernel
theorem dL_law_1241 : decode cL_law 1241 = .ok (.ireturn, 1) := by decide +kernel
abbrev vwCl : List vw_C := [(RX0, TX0, 8), (RX1, TX1, 10)]
end
section
/-! numbers: an Int32 by the Int that it stands for -/
def iI (n : Int) : Int32 := Int32.ofInt n
theorem iI_add (a b : Int) : iI a + iI b = iI (a + b) := (Int32.ofInt_add a b).symm
theorem iI_sub (a b : Int) : iI a - iI b = iI (a - b) := (Int32.ofInt_sub a b).symm
theorem iI_mul (a b : Int) : iI a * iI b = iI (a * b) := (Int32.ofInt_mul a b).symm
theorem iI_T {a : Int} (h : -2147483648 ≤ a ∧ a ≤ 2147483647) : (iI a).toInt = a := Int32.toInt_ofInt_of_le (by omega) (by omega)
theorem iI_N {a : Int} (h : 0 ≤ a ∧ a ≤ 2147483647) : (iI a).toNatClampNeg = a.toNat := Int32.toNatClampNeg_ofInt_of_le (by omega) (by omega)
theorem iI_of (x : Int32) : ∃ a : Int, (-2147483648 ≤ a ∧ a ≤ 2147483647) ∧ x = iI a :=
  ⟨x.toInt, ⟨by have := Int32.le_toInt x; omega, by have := Int32.toInt_lt x; omega⟩, (Int32.ofInt_toInt x).symm⟩
theorem iI_lt {a b : Int} (ha : -2147483648 ≤ a ∧ a ≤ 2147483647) (hb : -2147483648 ≤ b ∧ b ≤ 2147483647) : iI a < iI b ↔ a < b := by rw [Int32.lt_iff_toInt_lt, iI_T ha, iI_T hb]
theorem iI_le {a b : Int} (ha : -2147483648 ≤ a ∧ a ≤ 2147483647) (hb : -2147483648 ≤ b ∧ b ≤ 2147483647) : iI a ≤ iI b ↔ a ≤ b := by rw [Int32.le_iff_toInt_le, iI_T ha, iI_T hb]
theorem iI_eq {a b : Int} (ha : -2147483648 ≤ a ∧ a ≤ 2147483647) (hb : -2147483648 ≤ b ∧ b ≤ 2147483647) : iI a = iI b ↔ a = b := by rw [← Int32.toInt_inj, iI_T ha, iI_T hb]
theorem iI_0 : iI 0 = 0 := by decide +kernel
theorem iI_nI (n : Nat) : iI (n : Int) = nI n := Int32.ofInt_eq_ofNat
theorem iI_in {a : Int} {n : Nat} (h : 0 ≤ a ∧ a < n) (hn : n ≤ 2147483647) : vp_in (iI a) n := vp_in_iff.mpr (by rw [iI_T (by omega)]; exact h)
theorem iI_div {a b : Int} (ha : 0 ≤ a ∧ a ≤ 2147483647) (hb : 0 < b ∧ b ≤ 2147483647) : iI a / iI b = iI (a / b) := by
  have h1 : Int32.minValue.toInt = -2147483648 := by decide +kernel
  have h2 : Int32.maxValue.toInt = 2147483647 := by decide +kernel
  have h := Int32.ofInt_tdiv (a := a) (b := b) (by omega) (by omega) (by omega) (by omega)
  rw [Int.tdiv_eq_ediv_of_nonneg ha.1] at h
  exact h.symm
theorem iI_s9 : ∀ n, n < 32 → ((nI n &&& 31).toBitVec.smod 32).toNat = n := by decide +kernel
theorem iI_shl {a k : Int} (ha : 0 ≤ a) (hk : 0 ≤ k ∧ k ≤ 30) (h : a * 2 ^ k.toNat ≤ 2147483647) : iI a <<< (iI k &&& 31) = iI (a * 2 ^ k.toNat) := by
  obtain ⟨n, rfl⟩ := Int.eq_ofNat_of_zero_le ha
  obtain ⟨j, rfl⟩ := Int.eq_ofNat_of_zero_le hk.1
  have e : ((n : Int) * 2 ^ (j : Int).toNat) = ((n * 2 ^ j : Nat) : Int) := by simp
  rw [e] at h ⊢
  rw [iI_nI, iI_nI, iI_nI]
  exact pk_shlN (n := n) (nI j &&& 31) j (iI_s9 j (by omega)) (by omega)
theorem iI_shr {a k : Int} (ha : -2147483648 ≤ a ∧ a ≤ 2147483647) (hk : 0 ≤ k ∧ k ≤ 31) : iI a >>> (iI k &&& 31) = iI (a / 2 ^ k.toNat) := by
  obtain ⟨j, rfl⟩ := Int.eq_ofNat_of_zero_le hk.1
  have hd : (0 : Int) < 2 ^ j := Int.pow_pos (by decide)
  have e : (2 : Int) ^ (j : Int).toNat = 2 ^ j := by simp
  rw [e, iI_nI]
  have h1 : -2147483648 ≤ a / 2 ^ j := Int.le_ediv_of_mul_le hd (by generalize (2 : Int) ^ j = d at hd; omega)
  have h2 : a / 2 ^ j < 2147483648 := Int.ediv_lt_of_lt_mul hd (by generalize (2 : Int) ^ j = d at hd; omega)
  refine Int32.toInt_inj.mp ?_
  rw [pk_shr (iI a) (nI j &&& 31) j (iI_s9 j (by omega)), iI_T ha, iI_T ⟨h1, by omega⟩, Int.shiftRight_eq_div_pow]
  simp
/-- an int array holds the numbers F at its first n places -/
def AR (f : Nat → Int32) (n : Int) (F : Int → Int) : Prop := ∀ k : Int, 0 ≤ k → k < n → f k.toNat = iI (F k)
/-- F with v at k -/
def uI (F : Int → Int) (k v : Int) : Int → Int := fun j => if j = k then v else F j
theorem uI_s {F : Int → Int} {k v : Int} : uI F k v k = v := by simp [uI]
theorem uI_n {F : Int → Int} {k v j : Int} (h : j ≠ k) : uI F k v j = F j := by simp [uI, h]
theorem AR_up {f : Nat → Int32} {n : Int} {F : Int → Int} (h : AR f n F) {k v : Int} (hk : 0 ≤ k) : AR (upd f k.toNat (iI v)) n (uI F k v) := by
  intro j h0 h1
  by_cases e : j = k
  · subst e; simp [upd, uI]
  · have : j.toNat ≠ k.toNat := by omega
    simp [upd, uI, e, this, h j h0 h1]
theorem AR_to {f : Nat → Int32} {n m : Int} {F F' : Int → Int} (h : AR f n F) (hm : m ≤ n) (hF : ∀ k, 0 ≤ k → k < m → F k = F' k) : AR f m F' := fun k h0 h1 => by rw [h k h0 (by omega), hF k h0 h1]
theorem AR_ex (f : Nat → Int32) : ∃ F : Int → Int, (∀ k, -2147483648 ≤ F k ∧ F k ≤ 2147483647) ∧ ∀ n, AR f n F := by
  refine ⟨fun k => (f k.toNat).toInt, fun k => ⟨by have := Int32.le_toInt (f k.toNat); dsimp only; omega, by have := Int32.toInt_lt (f k.toNat); dsimp only; omega⟩, fun n k _ _ => (Int32.ofInt_toInt _).symm⟩
/-- what stood at the first n places, and something at all others -/
theorem AR_all {f : Nat → Int32} {n : Int} {F : Int → Int} (h : AR f n F) : ∃ F' : Int → Int, (∀ m, AR f m F') ∧ (∀ k, 0 ≤ k → k < n → F' k = F k) := by
  obtain ⟨F9, hr, h9⟩ := AR_ex f
  refine ⟨fun k => if 0 ≤ k ∧ k < n then F k else F9 k, fun m k h0 h1 => ?_, fun k h0 h1 => by simp [h0, h1]⟩
  by_cases e : k < n
  · simp only [h0, e, and_self, if_true]; exact h k h0 e
  · simp only [e, and_false, if_false]; exact h9 m k h0 h1

section PVR
variable {p : Program} {l : Launch} {e : Env} {R : Room} {s : State} {m : MethodId} {args : Array Value} {below : List Frame} {meth : Method} {c : Code} {H : Heap} {locs : List Loc} {cells slots : Nat} {Q : State → Prop}
variable {cc : ByteArray} {pc : Nat} {ls : Array Slot} {rest : List Value}
theorem pv_iconst (hx : p.tables.exec = Jvm.exec) (hb : c.code = cc) {n : Int} (d : decode cc pc = .ok (.iconst n, 1)) (k : W p l e R s m args below meth c H locs cells slots Q (F0 m (pc + 1) ls (.int (iI n) :: rest))) : W p l e R s m args below meth c H locs cells slots Q (F0 m pc ls rest) := lv_iconst (v := iI n) hx hb d rfl k
theorem pv_bipush (hx : p.tables.exec = Jvm.exec) (hb : c.code = cc) {n : Int} (d : decode cc pc = .ok (.bipush n, 2)) (hv : (Int8.ofInt n).toInt32 = iI n) (k : W p l e R s m args below meth c H locs cells slots Q (F0 m (pc + 2) ls (.int (iI n) :: rest))) : W p l e R s m args below meth c H locs cells slots Q (F0 m pc ls rest) := lv_bipush (v := iI n) hx hb d hv k
theorem pv_sipush (hx : p.tables.exec = Jvm.exec) (hb : c.code = cc) {n : Int} (d : decode cc pc = .ok (.sipush n, 3)) (hv : (Int16.ofInt n).toInt32 = iI n) (k : W p l e R s m args below meth c H locs cells slots Q (F0 m (pc + 3) ls (.int (iI n) :: rest))) : W p l e R s m args below meth c H locs cells slots Q (F0 m pc ls rest) := lv_sipush (v := iI n) hx hb d hv k
theorem pv_iadd (hx : p.tables.exec = Jvm.exec) (hb : c.code = cc) {a b : Int} (d : decode cc pc = .ok (.iadd, 1)) (k : W p l e R s m args below meth c H locs cells slots Q (F0 m (pc + 1) ls (.int (iI (a + b)) :: rest))) : W p l e R s m args below meth c H locs cells slots Q (F0 m pc ls (.int (iI b) :: .int (iI a) :: rest)) := by
  refine lv_iadd hx hb d ?_
  rw [iI_add]
  exact k
theorem pv_isub (hx : p.tables.exec = Jvm.exec) (hb : c.code = cc) {a b : Int} (d : decode cc pc = .ok (.isub, 1)) (k : W p l e R s m args below meth c H locs cells slots Q (F0 m (pc + 1) ls (.int (iI (a - b)) :: rest))) : W p l e R s m args below meth c H locs cells slots Q (F0 m pc ls (.int (iI b) :: .int (iI a) :: rest)) := by
  refine lv_isub hx hb d ?_
  rw [iI_sub]
  exact k
theorem pv_imul (hx : p.tables.exec = Jvm.exec) (hb : c.code = cc) {a b : Int} (d : decode cc pc = .ok (.imul, 1)) (k : W p l e R s m args below meth c H locs cells slots Q (F0 m (pc + 1) ls (.int (iI (a * b)) :: rest))) : W p l e R s m args below meth c H locs cells slots Q (F0 m pc ls (.int (iI b) :: .int (iI a) :: rest)) := by
  refine lv_imul hx hb d ?_
  rw [iI_mul]
  exact k
theorem pv_idiv (hx : p.tables.exec = Jvm.exec) (hb : c.code = cc) {a b : Int} (d : decode cc pc = .ok (.idiv, 1)) (ha : 0 ≤ a ∧ a ≤ 2147483647) (hb9 : 0 < b ∧ b ≤ 2147483647) (k : W p l e R s m args below meth c H locs cells slots Q (F0 m (pc + 1) ls (.int (iI (a / b)) :: rest))) : W p l e R s m args below meth c H locs cells slots Q (F0 m pc ls (.int (iI b) :: .int (iI a) :: rest)) := by
  refine lv_idiv hx hb d (fun h => ?_) ?_
  · have := (iI_eq (a := b) (b := 0) (by omega) (by omega)).mp (h.trans iI_0.symm)
    omega
  · rw [iI_div ha hb9]
    exact k
theorem pv_ishl (hx : p.tables.exec = Jvm.exec) (hb : c.code = cc) {a b : Int} (d : decode cc pc = .ok (.ishl, 1)) (ha : 0 ≤ a) (hk : 0 ≤ b ∧ b ≤ 30) (h : a * 2 ^ b.toNat ≤ 2147483647) (k : W p l e R s m args below meth c H locs cells slots Q (F0 m (pc + 1) ls (.int (iI (a * 2 ^ b.toNat)) :: rest))) : W p l e R s m args below meth c H locs cells slots Q (F0 m pc ls (.int (iI b) :: .int (iI a) :: rest)) := by
  refine lv_ishl hx hb d ?_
  rw [iI_shl ha hk h]
  exact k
theorem pv_ishr (hx : p.tables.exec = Jvm.exec) (hb : c.code = cc) {a b : Int} (d : decode cc pc = .ok (.ishr, 1)) (ha : (-2147483648 ≤ a ∧ a ≤ 2147483647)) (hk : 0 ≤ b ∧ b ≤ 31) (k : W p l e R s m args below meth c H locs cells slots Q (F0 m (pc + 1) ls (.int (iI (a / 2 ^ b.toNat)) :: rest))) : W p l e R s m args below meth c H locs cells slots Q (F0 m pc ls (.int (iI b) :: .int (iI a) :: rest)) := by
  refine lv_ishr hx hb d ?_
  rw [iI_shr ha hk]
  exact k
theorem pv_icmp_eq (hx : p.tables.exec = Jvm.exec) (hb : c.code = cc) {a b : Int} {off : Int} {tgt : Nat} (d : decode cc pc = .ok (.if_icmp .eq off, 3)) (ht : (pc : Int) + off = (tgt : Int)) (hr : (-2147483648 ≤ a ∧ a ≤ 2147483647) ∧ (-2147483648 ≤ b ∧ b ≤ 2147483647)) (kt : a = b → W p l e R s m args below meth c H locs cells slots Q (F0 m tgt ls rest)) (kf : a ≠ b → W p l e R s m args below meth c H locs cells slots Q (F0 m (pc + 3) ls rest)) : W p l e R s m args below meth c H locs cells slots Q (F0 m pc ls (.int (iI b) :: .int (iI a) :: rest)) := by
  refine lv_icmp_eq hx hb d ht (fun h => kt ?_) (fun h => kf ?_)
  all_goals
    first
      | rw [iI_eq hr.1 hr.2] at h
      | rw [iI_lt hr.1 hr.2] at h
      | rw [iI_lt hr.2 hr.1] at h
      | rw [iI_le hr.1 hr.2] at h
      | rw [iI_le hr.2 hr.1] at h
    omega
theorem pv_if_eq (hx : p.tables.exec = Jvm.exec) (hb : c.code = cc) {a : Int} {off : Int} {tgt : Nat} (d : decode cc pc = .ok (.ifCond .eq off, 3)) (ht : (pc : Int) + off = (tgt : Int)) (hr : (-2147483648 ≤ a ∧ a ≤ 2147483647)) (kt : a = 0 → W p l e R s m args below meth c H locs cells slots Q (F0 m tgt ls rest)) (kf : a ≠ 0 → W p l e R s m args below meth c H locs cells slots Q (F0 m (pc + 3) ls rest)) : W p l e R s m args below meth c H locs cells slots Q (F0 m pc ls (.int (iI a) :: rest)) := by
  have h0 : (-2147483648 : Int) ≤ 0 ∧ (0 : Int) ≤ 2147483647 := by omega
  refine lv_if_eq hx hb d ht (fun h => kt ?_) (fun h => kf ?_)
  all_goals
    rw [← iI_0] at h
    first
      | rw [iI_eq hr h0] at h
      | rw [iI_lt hr h0] at h
      | rw [iI_lt h0 hr] at h
      | rw [iI_le hr h0] at h
      | rw [iI_le h0 hr] at h
    omega
theorem pv_icmp_ne (hx : p.tables.exec = Jvm.exec) (hb : c.code = cc) {a b : Int} {off : Int} {tgt : Nat} (d : decode cc pc = .ok (.if_icmp .ne off, 3)) (ht : (pc : Int) + off = (tgt : Int)) (hr : (-2147483648 ≤ a ∧ a ≤ 2147483647) ∧ (-2147483648 ≤ b ∧ b ≤ 2147483647)) (kt : a ≠ b → W p l e R s m args below meth c H locs cells slots Q (F0 m tgt ls rest)) (kf : a = b → W p l e R s m args below meth c H locs cells slots Q (F0 m (pc + 3) ls rest)) : W p l e R s m args below meth c H locs cells slots Q (F0 m pc ls (.int (iI b) :: .int (iI a) :: rest)) := by
  refine lv_icmp_ne hx hb d ht (fun h => kt ?_) (fun h => kf ?_)
  all_goals
    first
      | rw [iI_eq hr.1 hr.2] at h
      | rw [iI_lt hr.1 hr.2] at h
      | rw [iI_lt hr.2 hr.1] at h
      | rw [iI_le hr.1 hr.2] at h
      | rw [iI_le hr.2 hr.1] at h
    omega
theorem pv_if_ne (hx : p.tables.exec = Jvm.exec) (hb : c.code = cc) {a : Int} {off : Int} {tgt : Nat} (d : decode cc pc = .ok (.ifCond .ne off, 3)) (ht : (pc : Int) + off = (tgt : Int)) (hr : (-2147483648 ≤ a ∧ a ≤ 2147483647)) (kt : a ≠ 0 → W p l e R s m args below meth c H locs cells slots Q (F0 m tgt ls rest)) (kf : a = 0 → W p l e R s m args below meth c H locs cells slots Q (F0 m (pc + 3) ls rest)) : W p l e R s m args below meth c H locs cells slots Q (F0 m pc ls (.int (iI a) :: rest)) := by
  have h0 : (-2147483648 : Int) ≤ 0 ∧ (0 : Int) ≤ 2147483647 := by omega
  refine lv_if_ne hx hb d ht (fun h => kt ?_) (fun h => kf ?_)
  all_goals
    rw [← iI_0] at h
    first
      | rw [iI_eq hr h0] at h
      | rw [iI_lt hr h0] at h
      | rw [iI_lt h0 hr] at h
      | rw [iI_le hr h0] at h
      | rw [iI_le h0 hr] at h
    omega
theorem pv_icmp_lt (hx : p.tables.exec = Jvm.exec) (hb : c.code = cc) {a b : Int} {off : Int} {tgt : Nat} (d : decode cc pc = .ok (.if_icmp .lt off, 3)) (ht : (pc : Int) + off = (tgt : Int)) (hr : (-2147483648 ≤ a ∧ a ≤ 2147483647) ∧ (-2147483648 ≤ b ∧ b ≤ 2147483647)) (kt : a < b → W p l e R s m args below meth c H locs cells slots Q (F0 m tgt ls rest)) (kf : b ≤ a → W p l e R s m args below meth c H locs cells slots Q (F0 m (pc + 3) ls rest)) : W p l e R s m args below meth c H locs cells slots Q (F0 m pc ls (.int (iI b) :: .int (iI a) :: rest)) := by
  refine lv_icmp_lt hx hb d ht (fun h => kt ?_) (fun h => kf ?_)
  all_goals
    first
      | rw [iI_eq hr.1 hr.2] at h
      | rw [iI_lt hr.1 hr.2] at h
      | rw [iI_lt hr.2 hr.1] at h
      | rw [iI_le hr.1 hr.2] at h
      | rw [iI_le hr.2 hr.1] at h
    omega
theorem pv_if_lt (hx : p.tables.exec = Jvm.exec) (hb : c.code = cc) {a : Int} {off : Int} {tgt : Nat} (d : decode cc pc = .ok (.ifCond .lt off, 3)) (ht : (pc : Int) + off = (tgt : Int)) (hr : (-2147483648 ≤ a ∧ a ≤ 2147483647)) (kt : a < 0 → W p l e R s m args below meth c H locs cells slots Q (F0 m tgt ls rest)) (kf : 0 ≤ a → W p l e R s m args below meth c H locs cells slots Q (F0 m (pc + 3) ls rest)) : W p l e R s m args below meth c H locs cells slots Q (F0 m pc ls (.int (iI a) :: rest)) := by
  have h0 : (-2147483648 : Int) ≤ 0 ∧ (0 : Int) ≤ 2147483647 := by omega
  refine lv_if_lt hx hb d ht (fun h => kt ?_) (fun h => kf ?_)
  all_goals
    rw [← iI_0] at h
    first
      | rw [iI_eq hr h0] at h
      | rw [iI_lt hr h0] at h
      | rw [iI_lt h0 hr] at h
      | rw [iI_le hr h0] at h
      | rw [iI_le h0 hr] at h
    omega
theorem pv_icmp_ge (hx : p.tables.exec = Jvm.exec) (hb : c.code = cc) {a b : Int} {off : Int} {tgt : Nat} (d : decode cc pc = .ok (.if_icmp .ge off, 3)) (ht : (pc : Int) + off = (tgt : Int)) (hr : (-2147483648 ≤ a ∧ a ≤ 2147483647) ∧ (-2147483648 ≤ b ∧ b ≤ 2147483647)) (kt : b ≤ a → W p l e R s m args below meth c H locs cells slots Q (F0 m tgt ls rest)) (kf : a < b → W p l e R s m args below meth c H locs cells slots Q (F0 m (pc + 3) ls rest)) : W p l e R s m args below meth c H locs cells slots Q (F0 m pc ls (.int (iI b) :: .int (iI a) :: rest)) := by
  refine lv_icmp_ge hx hb d ht (fun h => kt ?_) (fun h => kf ?_)
  all_goals
    first
      | rw [iI_eq hr.1 hr.2] at h
      | rw [iI_lt hr.1 hr.2] at h
      | rw [iI_lt hr.2 hr.1] at h
      | rw [iI_le hr.1 hr.2] at h
      | rw [iI_le hr.2 hr.1] at h
    omega
theorem pv_if_ge (hx : p.tables.exec = Jvm.exec) (hb : c.code = cc) {a : Int} {off : Int} {tgt : Nat} (d : decode cc pc = .ok (.ifCond .ge off, 3)) (ht : (pc : Int) + off = (tgt : Int)) (hr : (-2147483648 ≤ a ∧ a ≤ 2147483647)) (kt : 0 ≤ a → W p l e R s m args below meth c H locs cells slots Q (F0 m tgt ls rest)) (kf : a < 0 → W p l e R s m args below meth c H locs cells slots Q (F0 m (pc + 3) ls rest)) : W p l e R s m args below meth c H locs cells slots Q (F0 m pc ls (.int (iI a) :: rest)) := by
  have h0 : (-2147483648 : Int) ≤ 0 ∧ (0 : Int) ≤ 2147483647 := by omega
  refine lv_if_ge hx hb d ht (fun h => kt ?_) (fun h => kf ?_)
  all_goals
    rw [← iI_0] at h
    first
      | rw [iI_eq hr h0] at h
      | rw [iI_lt hr h0] at h
      | rw [iI_lt h0 hr] at h
      | rw [iI_le hr h0] at h
      | rw [iI_le h0 hr] at h
    omega
theorem pv_icmp_gt (hx : p.tables.exec = Jvm.exec) (hb : c.code = cc) {a b : Int} {off : Int} {tgt : Nat} (d : decode cc pc = .ok (.if_icmp .gt off, 3)) (ht : (pc : Int) + off = (tgt : Int)) (hr : (-2147483648 ≤ a ∧ a ≤ 2147483647) ∧ (-2147483648 ≤ b ∧ b ≤ 2147483647)) (kt : b < a → W p l e R s m args below meth c H locs cells slots Q (F0 m tgt ls rest)) (kf : a ≤ b → W p l e R s m args below meth c H locs cells slots Q (F0 m (pc + 3) ls rest)) : W p l e R s m args below meth c H locs cells slots Q (F0 m pc ls (.int (iI b) :: .int (iI a) :: rest)) := by
  refine lv_icmp_gt hx hb d ht (fun h => kt ?_) (fun h => kf ?_)
  all_goals
    first
      | rw [iI_eq hr.1 hr.2] at h
      | rw [iI_lt hr.1 hr.2] at h
      | rw [iI_lt hr.2 hr.1] at h
      | rw [iI_le hr.1 hr.2] at h
      | rw [iI_le hr.2 hr.1] at h
    omega
theorem pv_if_gt (hx : p.tables.exec = Jvm.exec) (hb : c.code = cc) {a : Int} {off : Int} {tgt : Nat} (d : decode cc pc = .ok (.ifCond .gt off, 3)) (ht : (pc : Int) + off = (tgt : Int)) (hr : (-2147483648 ≤ a ∧ a ≤ 2147483647)) (kt : 0 < a → W p l e R s m args below meth c H locs cells slots Q (F0 m tgt ls rest)) (kf : a ≤ 0 → W p l e R s m args below meth c H locs cells slots Q (F0 m (pc + 3) ls rest)) : W p l e R s m args below meth c H locs cells slots Q (F0 m pc ls (.int (iI a) :: rest)) := by
  have h0 : (-2147483648 : Int) ≤ 0 ∧ (0 : Int) ≤ 2147483647 := by omega
  refine lv_if_gt hx hb d ht (fun h => kt ?_) (fun h => kf ?_)
  all_goals
    rw [← iI_0] at h
    first
      | rw [iI_eq hr h0] at h
      | rw [iI_lt hr h0] at h
      | rw [iI_lt h0 hr] at h
      | rw [iI_le hr h0] at h
      | rw [iI_le h0 hr] at h
    omega
theorem pv_icmp_le (hx : p.tables.exec = Jvm.exec) (hb : c.code = cc) {a b : Int} {off : Int} {tgt : Nat} (d : decode cc pc = .ok (.if_icmp .le off, 3)) (ht : (pc : Int) + off = (tgt : Int)) (hr : (-2147483648 ≤ a ∧ a ≤ 2147483647) ∧ (-2147483648 ≤ b ∧ b ≤ 2147483647)) (kt : a ≤ b → W p l e R s m args below meth c H locs cells slots Q (F0 m tgt ls rest)) (kf : b < a → W p l e R s m args below meth c H locs cells slots Q (F0 m (pc + 3) ls rest)) : W p l e R s m args below meth c H locs cells slots Q (F0 m pc ls (.int (iI b) :: .int (iI a) :: rest)) := by
  refine lv_icmp_le hx hb d ht (fun h => kt ?_) (fun h => kf ?_)
  all_goals
    first
      | rw [iI_eq hr.1 hr.2] at h
      | rw [iI_lt hr.1 hr.2] at h
      | rw [iI_lt hr.2 hr.1] at h
      | rw [iI_le hr.1 hr.2] at h
      | rw [iI_le hr.2 hr.1] at h
    omega
theorem pv_if_le (hx : p.tables.exec = Jvm.exec) (hb : c.code = cc) {a : Int} {off : Int} {tgt : Nat} (d : decode cc pc = .ok (.ifCond .le off, 3)) (ht : (pc : Int) + off = (tgt : Int)) (hr : (-2147483648 ≤ a ∧ a ≤ 2147483647)) (kt : a ≤ 0 → W p l e R s m args below meth c H locs cells slots Q (F0 m tgt ls rest)) (kf : 0 < a → W p l e R s m args below meth c H locs cells slots Q (F0 m (pc + 3) ls rest)) : W p l e R s m args below meth c H locs cells slots Q (F0 m pc ls (.int (iI a) :: rest)) := by
  have h0 : (-2147483648 : Int) ≤ 0 ∧ (0 : Int) ≤ 2147483647 := by omega
  refine lv_if_le hx hb d ht (fun h => kt ?_) (fun h => kf ?_)
  all_goals
    rw [← iI_0] at h
    first
      | rw [iI_eq hr h0] at h
      | rw [iI_lt hr h0] at h
      | rw [iI_lt h0 hr] at h
      | rw [iI_le hr h0] at h
      | rw [iI_le h0 hr] at h
    omega
theorem pv_iinc (hx : p.tables.exec = Jvm.exec) (hb : c.code = cc) {i nL k : Nat} {n a : Int} {lv lv' : List (Nat × Value)} (d : decode cc pc = .ok (.iinc i n, 3)) (h : lv_has ls nL lv) (hk : lv[k]? = some (i, .int (iI a))) (hn : i < nL) (hl : (i, Value.int (iI (a + n))) :: lv.filter (fun q => !(q.1 == i) && !(q.1 + 1 == i && q.2.category == 2)) = lv')
    (kk : ∀ ls' : Array Slot, lv_has ls' nL lv' → W p l e R s m args below meth c H locs cells slots Q (F0 m (pc + 3) ls' rest)) : W p l e R s m args below meth c H locs cells slots Q (F0 m pc ls rest) := lv_iinc (v := iI (a + n)) hx hb d h hk (iI_add a n) hn hl kk
end PVR
section PVW
variable {p : Program} {l : Launch} {e : Env} {R : Room} {s : State} {m : MethodId} {args : Array Value} {below : List Frame} {meth : Method} {c : Code} {H : Heap} {locs : List Loc} {cells slots : Nat} {Q : State → Prop}
variable {cc : ByteArray} {pc : Nat} {ls : Array Slot} {rest : List Value} {D : va_G} {cl : List vw_C} {ws : va_W} {tys : List (ClassId × FieldType)} {a : Nat} {A : Nat → Prop} {H0 : Heap}
theorem pv_iald (hx : p.tables.exec = Jvm.exec) (hb : c.code = cc) (hK : va_K D cl tys s) (hP : va_P D cl ws H) (q0 t0 : Nat) {cA : ClassId} {n : Nat} {f : Nat → Int32} (ha : ws[q0]? = some (a, .inl (cA, n, .inl f))) (ht : tys[t0]? = some (cA, .int)) {i : Int} {v : Int} (hi : 0 ≤ i ∧ i < n) (hn : n ≤ 2147483647) (hv : f i.toNat = iI v) (d : decode cc pc = .ok (.iaload, 1))
    (kk : W p l e R s m args below meth c H locs cells slots Q (F0 m (pc + 1) ls (.int (iI v) :: rest))) : W p l e R s m args below meth c H locs cells slots Q (F0 m pc ls (.int (iI i) :: .ref a :: rest)) := by
  refine va_iald hx hb hK hP q0 t0 ha ht (iI_in hi hn) d ?_
  rw [iI_N ⟨hi.1, by omega⟩, hv]
  exact kk
theorem pv_zald (hx : p.tables.exec = Jvm.exec) (hb : c.code = cc) (hK : va_K D cl tys s) (hP : va_P D cl ws H) (q0 t0 : Nat) {cA : ClassId} {n : Nat} {f : Nat → Int32} (ha : ws[q0]? = some (a, .inl (cA, n, .inl f))) (ht : tys[t0]? = some (cA, .boolean)) {i : Int} {v : Int} (hi : 0 ≤ i ∧ i < n) (hn : n ≤ 2147483647) (hv : f i.toNat = iI v) (d : decode cc pc = .ok (.baload, 1))
    (kk : W p l e R s m args below meth c H locs cells slots Q (F0 m (pc + 1) ls (.int (iI v) :: rest))) : W p l e R s m args below meth c H locs cells slots Q (F0 m pc ls (.int (iI i) :: .ref a :: rest)) := by
  refine va_zald hx hb hK hP q0 t0 ha ht (iI_in hi hn) d ?_
  rw [iI_N ⟨hi.1, by omega⟩, hv]
  exact kk
theorem pv_iast (hx : p.tables.exec = Jvm.exec) (hb : c.code = cc) (hK : va_K D cl tys s) (hP : va_P D cl ws H) (hD : va_D A ws) (hS : va_S A H0 H locs) (q0 t0 : Nat) {cA : ClassId} {n : Nat} {f : Nat → Int32} (ha : ws[q0]? = some (a, .inl (cA, n, .inl f))) (ht : tys[t0]? = some (cA, .int)) {i : Int} {v : Int} (hi : 0 ≤ i ∧ i < n) (hn : n ≤ 2147483647) (d : decode cc pc = .ok (.iastore, 1))
    (kk : ∀ (H1 : Heap) (locs1 : List Loc), va_P D cl (ws.set q0 (a, .inl (cA, n, .inl (upd f i.toNat (iI v))))) H1 → va_D A (ws.set q0 (a, .inl (cA, n, .inl (upd f i.toNat (iI v))))) → va_S A H0 H1 locs1 → W p l e R s m args below meth c H1 locs1 cells slots Q (F0 m (pc + 1) ls rest)) : W p l e R s m args below meth c H locs cells slots Q (F0 m pc ls (.int (iI v) :: .int (iI i) :: .ref a :: rest)) := by
  refine va_iast hx hb hK hP hD hS q0 t0 ha ht (iI_in hi hn) d ?_
  rw [iI_N ⟨hi.1, by omega⟩]
  exact kk
theorem pv_zast (hx : p.tables.exec = Jvm.exec) (hb : c.code = cc) (hK : va_K D cl tys s) (hP : va_P D cl ws H) (hD : va_D A ws) (hS : va_S A H0 H locs) (q0 t0 : Nat) {cA : ClassId} {n : Nat} {f : Nat → Int32} (ha : ws[q0]? = some (a, .inl (cA, n, .inl f))) (ht : tys[t0]? = some (cA, .boolean)) {i : Int} {v : Int} (hi : 0 ≤ i ∧ i < n) (hn : n ≤ 2147483647) (hv : v = 0 ∨ v = 1) (d : decode cc pc = .ok (.bastore, 1))
    (kk : ∀ (H1 : Heap) (locs1 : List Loc), va_P D cl (ws.set q0 (a, .inl (cA, n, .inl (upd f i.toNat (iI v))))) H1 → va_D A (ws.set q0 (a, .inl (cA, n, .inl (upd f i.toNat (iI v))))) → va_S A H0 H1 locs1 → W p l e R s m args below meth c H1 locs1 cells slots Q (F0 m (pc + 1) ls rest)) : W p l e R s m args below meth c H locs cells slots Q (F0 m pc ls (.int (iI v) :: .int (iI i) :: .ref a :: rest)) := by
  have hz : vp_nar .boolean (iI v) = iI v := by rcases hv with rfl | rfl <;> decide +kernel
  refine va_zast hx hb hK hP hD hS q0 t0 ha ht (iI_in hi hn) d ?_
  rw [iI_N ⟨hi.1, by omega⟩]
  first
    | exact kk
    | (rw [hz]; exact kk)
theorem pv_alen (hx : p.tables.exec = Jvm.exec) (hb : c.code = cc) (hK : va_K D cl tys s) (hP : va_P D cl ws H) (q0 t0 : Nat) {cA : ClassId} {x : vp_A} (ha : ws[q0]? = some (a, .inl (cA, x))) {ty : FieldType} (ht : tys[t0]? = some (cA, ty)) {v : Int} (hv : Int32.ofNat x.1 = iI v) (d : decode cc pc = .ok (.arraylength, 1))
    (kk : W p l e R s m args below meth c H locs cells slots Q (F0 m (pc + 1) ls (.int (iI v) :: rest))) : W p l e R s m args below meth c H locs cells slots Q (F0 m pc ls (.ref a :: rest)) := va_alen hx hb hK hP q0 t0 ha ht hv d kk
/-- an int array outside of the world, read as the heap stands -/
theorem pv_xld (hx : p.tables.exec = Jvm.exec) (hb : c.code = cc) {b L : Nat} {xs : Nat → Int32} (hX : va_X b L xs s H) {i : Int} {v : Int} (hi : 0 ≤ i ∧ i < L) (hn : L ≤ 2147483647) (hv : xs i.toNat = iI v) (d : decode cc pc = .ok (.iaload, 1))
    (kk : W p l e R s m args below meth c H locs cells slots Q (F0 m (pc + 1) ls (.int (iI v) :: rest))) : W p l e R s m args below meth c H locs cells slots Q (F0 m pc ls (.int (iI i) :: .ref b :: rest)) := by
  obtain ⟨scr, h1, h2, h3, h4, h5⟩ := hX
  have hin := iI_in hi hn
  have hlt : i.toNat < L := by omega
  exact W.iald (v := .int (iI v)) hx hb h1 h2 h3 (by rw [h4]; exact hin) (by rw [iI_N ⟨hi.1, by omega⟩, h5 _ hlt, hv]) rfl rfl d kk
theorem pv_xlen (hx : p.tables.exec = Jvm.exec) (hb : c.code = cc) {b L : Nat} {xs : Nat → Int32} (hX : va_X b L xs s H) {v : Int} (hv : Int32.ofNat L = iI v) (d : decode cc pc = .ok (.arraylength, 1))
    (kk : W p l e R s m args below meth c H locs cells slots Q (F0 m (pc + 1) ls (.int (iI v) :: rest))) : W p l e R s m args below meth c H locs cells slots Q (F0 m pc ls (.ref b :: rest)) := by
  obtain ⟨scr, h1, h2, h3, h4, h5⟩ := hX
  rw [← hv] at kk
  exact W.alen (n := Int32.ofNat L) hx hb h1 h2 (by rw [h4] <;> rfl) rfl rfl d kk
end PVW
end
section
/-! judgements: a method that only reads (pu), one that changes cells of a set (mu), one that throws (th); what a contract asks is a P : State → Heap → Prop that moves with the tables -/
def mvb (P : State → Heap → Prop) : Prop := ∀ (u U : State) (H : Heap), u.WarmedH U.vm → P u H → P U H
def pu_Q (v : Int) : Array Value → State → Outcome → State → Prop := fun _ st o t => o = .returned (some (.int (iI v))) ∧ t.heap = st.heap
def pu_M (l : Launch) (y : MethodName) (ws : List Cond) (rm : Room) (av : List Value) (P : State → Heap → Prop) (v : Int) : Prop := Met l y ws rm (va_Pc av (fun U => P U U.heap)) (pu_Q v) 0 0 (fun _ => False)
/-- a check that returns without an answer, and changes nothing -/
def pn_Q : Array Value → State → Outcome → State → Prop := fun _ st o t => o = .returned none ∧ t.heap = st.heap
def pn_M (l : Launch) (y : MethodName) (ws : List Cond) (rm : Room) (av : List Value) (P : State → Heap → Prop) : Prop := Met l y ws rm (va_Pc av (fun U => P U U.heap)) pn_Q 0 0 (fun _ => False)
def mu_Q (ov : Option Value) (P2 : Heap → Prop) (A : Nat → Prop) : Array Value → State → Outcome → State → Prop := fun _ st o t => o = .returned ov ∧ P2 t.heap ∧ va_F A st t
def mu_M (l : Launch) (y : MethodName) (ws : List Cond) (rm : Room) (av : List Value) (P : State → Heap → Prop) (ov : Option Value) (P2 : Heap → Prop) (A : Nat → Prop) : Prop := Met l y ws rm (va_Pc av (fun U => P U U.heap)) (mu_Q ov P2 A) 0 0 A
def th_X (E : String) : String → State → State → Prop := fun E2 st t => E2 = E ∧ st.heap.size ≤ t.heap.size ∧ ∀ q : Nat, q < st.heap.size → t.heap[q]? = st.heap[q]?
def th_M (l : Launch) (y : MethodName) (ws : List Cond) (rm : Room) (av : List Value) (P : State → Heap → Prop) (E : String) : Prop := vx_Met l y ws rm (va_Pc av (fun U => P U U.heap)) (fun _ _ _ _ => False) (th_X E) 1 6 (fun _ => False)
theorem blind_of {P : State → Heap → Prop} (hm : mvb P) (av : List Value) : FrameBlind (va_Pc av (fun U => P U U.heap)) := by
  intro a U g mk h
  exact ⟨h.1, hm U (U.calling g mk a) U.heap (State.WarmedH.refl U) h.2⟩
section PU1
variable {p : Program} {l : Launch} {e : Env} {R : Room} {s : State} {m : MethodId} {args : Array Value} {below : List Frame} {meth : Method} {c : Code} {H : Heap} {locs : List Loc} {cells slots : Nat} {Q : State → Prop}
variable {y : MethodName} {bytes cc : ByteArray} {maxL nL n index : Nat} {ret : Option FieldType} {ws : List Cond} {rm : Room} {P : State → Heap → Prop} {Ts : List Cond} {own C : String} {b : Addr} {As rest st0 : List Value} {pc : Nat} {ls : Array Slot}
theorem pu_callV {v : Int} (hm : mvb P) (S : CallFix p m c cc nL s args Ts own) (hM : pu_M l y ws rm (.ref b :: As) P v) (cw : CallW R s args own C index y bytes maxL ret ws rm 0 0 n) (hP : P s H) (hrecv : ∃ cellB : Cell, H[b]? = some cellB ∧ cellB.vm.isStatics = false ∧ s.vm.findClass C = some cellB.cls)
    (hst : st0 = As.reverse ++ .ref b :: rest) (hn : As.length = n) (hsz : ls.size = nL) (hW : (rest.map fun v => v.category).sum ≤ 8) (d : decode cc pc = .ok (.invokevirtual index, 3)) (hf : cells + 0 ≤ R.cells ∧ slots + 0 ≤ R.slots)
    (kk : W p l e R s m args below meth c H locs cells slots Q (F0 m (pc + 3) ls (.int (iI v) :: rest))) : W p l e R s m args below meth c H locs cells slots Q (F0 m pc ls st0) := by
  intro T hT X
  obtain ⟨v9, st₀, t, T', L, h0, X', hL, e1, e2, ⟨hv, hh⟩, st⟩ := (va_runV S hM cw ⟨blind_of hm _, hrecv, fun U hU hw => ⟨rfl, by show P U U.heap; rw [hU]; exact hm s U H hw hP⟩⟩ (g := F0 m pc ls st0) rfl hn hsz hst (lv_room hW) d hf) T hT X
  cases hv
  have hL0 : L = [] := List.eq_nil_iff_forall_not_mem.mpr (fun q hq => hL q hq)
  subst hL0
  rw [List.append_nil] at X'
  obtain ⟨t2, a1, b1⟩ := kk T' (by rw [e1, hh, h0]) X'
  exact ⟨t2, st t2 a1, b1⟩
theorem pn_callV (hm : mvb P) (S : CallFix p m c cc nL s args Ts own) (hM : pn_M l y ws rm (.ref b :: As) P) (cw : CallW R s args own C index y bytes maxL ret ws rm 0 0 n) (hP : P s H) (hrecv : ∃ cellB : Cell, H[b]? = some cellB ∧ cellB.vm.isStatics = false ∧ s.vm.findClass C = some cellB.cls)
    (hst : st0 = As.reverse ++ .ref b :: rest) (hn : As.length = n) (hsz : ls.size = nL) (hW : (rest.map fun v => v.category).sum ≤ 8) (d : decode cc pc = .ok (.invokevirtual index, 3)) (hf : cells + 0 ≤ R.cells ∧ slots + 0 ≤ R.slots)
    (kk : W p l e R s m args below meth c H locs cells slots Q (F0 m (pc + 3) ls rest)) : W p l e R s m args below meth c H locs cells slots Q (F0 m pc ls st0) := by
  intro T hT X
  obtain ⟨v9, st₀, t, T', L, h0, X', hL, e1, e2, ⟨hv, hh⟩, st⟩ := (va_runV S hM cw ⟨blind_of hm _, hrecv, fun U hU hw => ⟨rfl, by show P U U.heap; rw [hU]; exact hm s U H hw hP⟩⟩ (g := F0 m pc ls st0) rfl hn hsz hst (lv_room hW) d hf) T hT X
  cases hv
  have hL0 : L = [] := List.eq_nil_iff_forall_not_mem.mpr (fun q hq => hL q hq)
  subst hL0
  rw [List.append_nil] at X'
  obtain ⟨t2, a1, b1⟩ := kk T' (by rw [e1, hh, h0]) X'
  exact ⟨t2, st t2 a1, b1⟩
theorem mu_callV {ov : Option Value} {P2 : Heap → Prop} {A A0 : Nat → Prop} {H0 : Heap} (hm : mvb P) (S : CallFix p m c cc nL s args Ts own) (hM : mu_M l y ws rm (.ref b :: As) P ov P2 A) (cw : CallW R s args own C index y bytes maxL ret ws rm 0 0 n) (hP : P s H) (hrecv : ∃ cellB : Cell, H[b]? = some cellB ∧ cellB.vm.isStatics = false ∧ s.vm.findClass C = some cellB.cls)
    (hst : st0 = As.reverse ++ .ref b :: rest) (hn : As.length = n) (hsz : ls.size = nL) (hW : (rest.map fun v => v.category).sum ≤ 8) (d : decode cc pc = .ok (.invokevirtual index, 3)) (hf : cells + 0 ≤ R.cells ∧ slots + 0 ≤ R.slots)
    (hS : va_S A0 H0 H locs) (hA : ∀ q, A q → A0 q)
    (kk : ∀ (H1 : Heap) (locs1 : List Loc), P2 H1 → H.size ≤ H1.size → (∀ q : Nat, q < H.size → ¬ A q → H1[q]? = H[q]?) → va_S A0 H0 H1 locs1 → W p l e R s m args below meth c H1 locs1 cells slots Q (F0 m (pc + 3) ls (ov.toList ++ rest))) : W p l e R s m args below meth c H locs cells slots Q (F0 m pc ls st0) := by
  intro T hT X
  obtain ⟨v9, st₀, t, T', L, h0, X', hL, e1, e2, ⟨hv, hp2, hz, hk⟩, st⟩ := (va_runV S hM cw ⟨blind_of hm _, hrecv, fun U hU hw => ⟨rfl, by show P U U.heap; rw [hU]; exact hm s U H hw hP⟩⟩ (g := F0 m pc ls st0) rfl hn hsz hst (lv_room hW) d hf) T hT X
  cases hv
  rw [h0] at hz hk
  obtain ⟨t2, a1, b1⟩ := kk T'.heap (locs ++ L) (by rw [e1]; exact hp2) (by rw [e1]; exact hz) (by rw [e1]; exact hk)
    ⟨Nat.le_trans hS.1 (by rw [e1]; exact hz), fun q h1 h2 => by rw [e1, hk q (Nat.lt_of_lt_of_le h1 hS.1) (fun z => h2 (hA q z))]; exact hS.2.1 q h1 h2, fun q hq => by
      rcases List.mem_append.mp hq with h | h
      · exact hS.2.2 q h
      · exact hA _ (hL q h)⟩ T' rfl X'
  exact ⟨t2, st t2 a1, b1⟩
theorem th_callV {E : String} (hm : mvb P) (S : CallFix p m c cc nL s args Ts own) (hM : th_M l y ws rm (.ref b :: As) P E) (cw : CallW R s args own C index y bytes maxL ret ws rm 1 6 n) (hP : P s H) (hrecv : ∃ cellB : Cell, H[b]? = some cellB ∧ cellB.vm.isStatics = false ∧ s.vm.findClass C = some cellB.cls)
    (hst : st0 = As.reverse ++ .ref b :: rest) (hn : As.length = n) (hsz : ls.size = nL) (hW : (rest.map fun v => v.category).sum ≤ 8) (d : decode cc pc = .ok (.invokevirtual index, 3)) (hf : cells + 1 ≤ R.cells ∧ slots + 6 ≤ R.slots)
    (kx : ∀ (H1 : Heap) (ce : Cell) (q9 : Addr), H.size ≤ H1.size → (∀ q : Nat, q < H.size → H1[q]? = H[q]?) → H1[q9]? = some ce → ce.vm = .none → s.vm.findClass E = some ce.cls → vx_W p l e R s m args below meth c H1 locs (cells + 1) (slots + 6) Q (F0 m pc ls rest) q9) : W p l e R s m args below meth c H locs cells slots Q (F0 m pc ls st0) := by
  intro T hT X
  rcases (vx_runV S hM cw ⟨blind_of hm _, hrecv, fun U hU hw => ⟨rfl, by show P U U.heap; rw [hU]; exact hm s U H hw hP⟩⟩ (g := F0 m pc ls st0) rfl hn hsz hst (lv_room hW) d hf) T hT X with ⟨v9, st₀, t, T', L, h0, X', hL, e1, e2, hv, st⟩ | ⟨q, st₀, t, T', L, E2, ce, h0, X', hL, e1, e2, ⟨rfl, hz, hk⟩, hce, hcv, hcl, st⟩
  · exact hv.elim
  · have hL0 : L = [] := List.eq_nil_iff_forall_not_mem.mpr (fun q hq => hL q hq)
    subst hL0
    rw [List.append_nil] at X'
    rw [h0] at hz hk
    obtain ⟨t2, a1, b1⟩ := kx T'.heap ce q (by rw [e1]; exact hz) (fun q h1 => by rw [e1]; exact hk q h1) (by rw [e1]; exact hce) hcv hcl T' rfl X'
    exact ⟨t2, st.trans a1, b1⟩
theorem pu_callS {v : Int} (hm : mvb P) (S : CallFix p m c cc nL s args Ts own) (hM : pu_M l y ws rm As P v) (cw : CallB R s args own index y bytes maxL ret ws rm 0 0 n ∧ (Cond.static y).before args s = true) (hP : P s H)
    (hst : st0 = As.reverse ++ rest) (hn : As.length = n) (hsz : ls.size = nL) (hW : (rest.map fun v => v.category).sum ≤ 8) (d : decode cc pc = .ok (.invokestatic index, 3)) (hf : cells + 0 ≤ R.cells ∧ slots + 0 ≤ R.slots)
    (kk : W p l e R s m args below meth c H locs cells slots Q (F0 m (pc + 3) ls (.int (iI v) :: rest))) : W p l e R s m args below meth c H locs cells slots Q (F0 m pc ls st0) := by
  intro T hT X
  obtain ⟨v9, st₀, t, T', L, h0, X', hL, e1, e2, ⟨hv, hh⟩, st⟩ := (va_runS S hM cw ⟨blind_of hm _, fun U hU hw => ⟨rfl, by show P U U.heap; rw [hU]; exact hm s U H hw hP⟩⟩ (g := F0 m pc ls st0) rfl hn hsz hst (lv_room hW) d hf) T hT X
  cases hv
  have hL0 : L = [] := List.eq_nil_iff_forall_not_mem.mpr (fun q hq => hL q hq)
  subst hL0
  rw [List.append_nil] at X'
  obtain ⟨t2, a1, b1⟩ := kk T' (by rw [e1, hh, h0]) X'
  exact ⟨t2, st t2 a1, b1⟩
theorem pn_callS (hm : mvb P) (S : CallFix p m c cc nL s args Ts own) (hM : pn_M l y ws rm As P) (cw : CallB R s args own index y bytes maxL ret ws rm 0 0 n ∧ (Cond.static y).before args s = true) (hP : P s H)
    (hst : st0 = As.reverse ++ rest) (hn : As.length = n) (hsz : ls.size = nL) (hW : (rest.map fun v => v.category).sum ≤ 8) (d : decode cc pc = .ok (.invokestatic index, 3)) (hf : cells + 0 ≤ R.cells ∧ slots + 0 ≤ R.slots)
    (kk : W p l e R s m args below meth c H locs cells slots Q (F0 m (pc + 3) ls rest)) : W p l e R s m args below meth c H locs cells slots Q (F0 m pc ls st0) := by
  intro T hT X
  obtain ⟨v9, st₀, t, T', L, h0, X', hL, e1, e2, ⟨hv, hh⟩, st⟩ := (va_runS S hM cw ⟨blind_of hm _, fun U hU hw => ⟨rfl, by show P U U.heap; rw [hU]; exact hm s U H hw hP⟩⟩ (g := F0 m pc ls st0) rfl hn hsz hst (lv_room hW) d hf) T hT X
  cases hv
  have hL0 : L = [] := List.eq_nil_iff_forall_not_mem.mpr (fun q hq => hL q hq)
  subst hL0
  rw [List.append_nil] at X'
  obtain ⟨t2, a1, b1⟩ := kk T' (by rw [e1, hh, h0]) X'
  exact ⟨t2, st t2 a1, b1⟩
theorem mu_callS {ov : Option Value} {P2 : Heap → Prop} {A A0 : Nat → Prop} {H0 : Heap} (hm : mvb P) (S : CallFix p m c cc nL s args Ts own) (hM : mu_M l y ws rm As P ov P2 A) (cw : CallB R s args own index y bytes maxL ret ws rm 0 0 n ∧ (Cond.static y).before args s = true) (hP : P s H)
    (hst : st0 = As.reverse ++ rest) (hn : As.length = n) (hsz : ls.size = nL) (hW : (rest.map fun v => v.category).sum ≤ 8) (d : decode cc pc = .ok (.invokestatic index, 3)) (hf : cells + 0 ≤ R.cells ∧ slots + 0 ≤ R.slots)
    (hS : va_S A0 H0 H locs) (hA : ∀ q, A q → A0 q)
    (kk : ∀ (H1 : Heap) (locs1 : List Loc), P2 H1 → H.size ≤ H1.size → (∀ q : Nat, q < H.size → ¬ A q → H1[q]? = H[q]?) → va_S A0 H0 H1 locs1 → W p l e R s m args below meth c H1 locs1 cells slots Q (F0 m (pc + 3) ls (ov.toList ++ rest))) : W p l e R s m args below meth c H locs cells slots Q (F0 m pc ls st0) := by
  intro T hT X
  obtain ⟨v9, st₀, t, T', L, h0, X', hL, e1, e2, ⟨hv, hp2, hz, hk⟩, st⟩ := (va_runS S hM cw ⟨blind_of hm _, fun U hU hw => ⟨rfl, by show P U U.heap; rw [hU]; exact hm s U H hw hP⟩⟩ (g := F0 m pc ls st0) rfl hn hsz hst (lv_room hW) d hf) T hT X
  cases hv
  rw [h0] at hz hk
  obtain ⟨t2, a1, b1⟩ := kk T'.heap (locs ++ L) (by rw [e1]; exact hp2) (by rw [e1]; exact hz) (by rw [e1]; exact hk)
    ⟨Nat.le_trans hS.1 (by rw [e1]; exact hz), fun q h1 h2 => by rw [e1, hk q (Nat.lt_of_lt_of_le h1 hS.1) (fun z => h2 (hA q z))]; exact hS.2.1 q h1 h2, fun q hq => by
      rcases List.mem_append.mp hq with h | h
      · exact hS.2.2 q h
      · exact hA _ (hL q h)⟩ T' rfl X'
  exact ⟨t2, st t2 a1, b1⟩
theorem th_callS {E : String} (hm : mvb P) (S : CallFix p m c cc nL s args Ts own) (hM : th_M l y ws rm As P E) (cw : CallB R s args own index y bytes maxL ret ws rm 1 6 n ∧ (Cond.static y).before args s = true) (hP : P s H)
    (hst : st0 = As.reverse ++ rest) (hn : As.length = n) (hsz : ls.size = nL) (hW : (rest.map fun v => v.category).sum ≤ 8) (d : decode cc pc = .ok (.invokestatic index, 3)) (hf : cells + 1 ≤ R.cells ∧ slots + 6 ≤ R.slots)
    (kx : ∀ (H1 : Heap) (ce : Cell) (q9 : Addr), H.size ≤ H1.size → (∀ q : Nat, q < H.size → H1[q]? = H[q]?) → H1[q9]? = some ce → ce.vm = .none → s.vm.findClass E = some ce.cls → vx_W p l e R s m args below meth c H1 locs (cells + 1) (slots + 6) Q (F0 m pc ls rest) q9) : W p l e R s m args below meth c H locs cells slots Q (F0 m pc ls st0) := by
  intro T hT X
  rcases (vx_runS S hM cw ⟨blind_of hm _, fun U hU hw => ⟨rfl, by show P U U.heap; rw [hU]; exact hm s U H hw hP⟩⟩ (g := F0 m pc ls st0) rfl hn hsz hst (lv_room hW) d hf) T hT X with ⟨v9, st₀, t, T', L, h0, X', hL, e1, e2, hv, st⟩ | ⟨q, st₀, t, T', L, E2, ce, h0, X', hL, e1, e2, ⟨rfl, hz, hk⟩, hce, hcv, hcl, st⟩
  · exact hv.elim
  · have hL0 : L = [] := List.eq_nil_iff_forall_not_mem.mpr (fun q hq => hL q hq)
    subst hL0
    rw [List.append_nil] at X'
    rw [h0] at hz hk
    obtain ⟨t2, a1, b1⟩ := kx T'.heap ce q (by rw [e1]; exact hz) (fun q h1 => by rw [e1]; exact hk q h1) (by rw [e1]; exact hce) hcv hcl T' rfl X'
    exact ⟨t2, st.trans a1, b1⟩
end PU1
section PU2
variable {l : Launch} {y : MethodName} {ws ws' : List Cond} {rm : Room} {P : State → Heap → Prop} {cc : ByteArray} {maxL : Nat} {ret : Option FieldType} {av : List Value} {own : String}
/-- what a body knows at its entry -/
def bd_At (p : Program) (s : State) (m : MethodId) (args : Array Value) (meth : Method) (c : Code) (cc : ByteArray) (maxL : Nat) (ret : Option FieldType) (ws : List Cond) (own : String) : Prop :=
  p.tables.exec = Jvm.exec ∧ c.code = cc ∧ c.maxLocals = maxL ∧ meth.sig.returnType = ret ∧ (∀ w ∈ ws, w.before args s = true) ∧ s.vm.findClass own = some m.cls ∧ meth.locks = false
theorem pu_of {v : Int} (hy : plainName y.cls = true) (hw : ws = Cond.code y cc maxL ret :: ws') (ho : y.cls = own) (hlen : (lg_sl av).length ≤ maxL)
    (body : ∀ (p : Program) (e : Env) (s : State) (m : MethodId) (below : List Frame) (meth : Method) (c : Code) (ls : Array Slot), bd_At p s m av.toArray meth c cc maxL ret ws own → P s s.heap → lv_has ls maxL (lv_args 0 av) →
      W p l e rm s m av.toArray below meth c s.heap [] 0 0 (MQ below (pu_Q v) av.toArray s 0 0 (fun _ => False)) (F0 m 0 ls [])) : pu_M l y ws rm av P v := by
  refine Met.ofW (cc := cc) (maxL := maxL) (ret := ret) hy hw ?_
  intro p e s m args below meth c s₁ B hml hv
  obtain ⟨rfl, hP⟩ := hv
  have hown : s.vm.findClass y.cls = some m.cls := findClass_of_methodNamed B.named
  rw [ho] at hown
  rw [lg_entry_eq]
  exact body p e s m below meth c _ ⟨B.exec, B.bytes, hml, B.returns, atoms_spec (ws := ws) B.pre, hown, B.notSynchronized⟩ hP (lv_entry av hlen)
theorem pn_of (hy : plainName y.cls = true) (hw : ws = Cond.code y cc maxL ret :: ws') (ho : y.cls = own) (hlen : (lg_sl av).length ≤ maxL)
    (body : ∀ (p : Program) (e : Env) (s : State) (m : MethodId) (below : List Frame) (meth : Method) (c : Code) (ls : Array Slot), bd_At p s m av.toArray meth c cc maxL ret ws own → P s s.heap → lv_has ls maxL (lv_args 0 av) →
      W p l e rm s m av.toArray below meth c s.heap [] 0 0 (MQ below pn_Q av.toArray s 0 0 (fun _ => False)) (F0 m 0 ls [])) : pn_M l y ws rm av P := by
  refine Met.ofW (cc := cc) (maxL := maxL) (ret := ret) hy hw ?_
  intro p e s m args below meth c s₁ B hml hv
  obtain ⟨rfl, hP⟩ := hv
  have hown : s.vm.findClass y.cls = some m.cls := findClass_of_methodNamed B.named
  rw [ho] at hown
  rw [lg_entry_eq]
  exact body p e s m below meth c _ ⟨B.exec, B.bytes, hml, B.returns, atoms_spec (ws := ws) B.pre, hown, B.notSynchronized⟩ hP (lv_entry av hlen)
theorem mu_of {ov : Option Value} {P2 : Heap → Prop} {A : Nat → Prop} (hy : plainName y.cls = true) (hw : ws = Cond.code y cc maxL ret :: ws') (ho : y.cls = own) (hlen : (lg_sl av).length ≤ maxL)
    (body : ∀ (p : Program) (e : Env) (s : State) (m : MethodId) (below : List Frame) (meth : Method) (c : Code) (ls : Array Slot), bd_At p s m av.toArray meth c cc maxL ret ws own → P s s.heap → lv_has ls maxL (lv_args 0 av) → va_S A s.heap s.heap [] →
      W p l e rm s m av.toArray below meth c s.heap [] 0 0 (MQ below (mu_Q ov P2 A) av.toArray s 0 0 A) (F0 m 0 ls [])) : mu_M l y ws rm av P ov P2 A := by
  refine Met.ofW (cc := cc) (maxL := maxL) (ret := ret) hy hw ?_
  intro p e s m args below meth c s₁ B hml hv
  obtain ⟨rfl, hP⟩ := hv
  have hown : s.vm.findClass y.cls = some m.cls := findClass_of_methodNamed B.named
  rw [ho] at hown
  rw [lg_entry_eq]
  exact body p e s m below meth c _ ⟨B.exec, B.bytes, hml, B.returns, atoms_spec (ws := ws) B.pre, hown, B.notSynchronized⟩ hP (lv_entry av hlen) va_S.rf
theorem th_of {E : String} (hy : plainName y.cls = true) (hw : ws = Cond.code y cc maxL ret :: ws') (ho : y.cls = own) (hlen : (lg_sl av).length ≤ maxL)
    (body : ∀ (p : Program) (e : Env) (s : State) (m : MethodId) (below : List Frame) (meth : Method) (c : Code) (ls : Array Slot), bd_At p s m av.toArray meth c cc maxL ret ws own → (∀ x ∈ c.exceptionTable.toList, False) → P s s.heap → lv_has ls maxL (lv_args 0 av) →
      W p l e rm s m av.toArray below meth c s.heap [] 0 0 (vx_MQ below (fun _ _ _ _ => False) (th_X E) av.toArray s 1 6 (fun _ => False)) (F0 m 0 ls [])) : th_M l y ws rm av P E := by
  refine vx_ofW (cc := cc) (maxL := maxL) (ret := ret) hy hw ?_
  intro p e s m args below meth c s₁ B hml hno hv
  obtain ⟨rfl, hP⟩ := hv
  have hown : s.vm.findClass y.cls = some m.cls := findClass_of_methodNamed B.named
  rw [ho] at hown
  rw [lg_entry_eq]
  exact body p e s m below meth c _ ⟨B.exec, B.bytes, hml, B.returns, atoms_spec (ws := ws) B.pre, hown, B.notSynchronized⟩ hno hP (lv_entry av hlen)
end PU2
section PU3
variable {p : Program} {l : Launch} {e : Env} {R : Room} {s : State} {m : MethodId} {args : Array Value} {below : List Frame} {meth : Method} {c : Code} {H : Heap} {locs : List Loc} {cells slots : Nat} {Q : State → Prop}
variable {cc : ByteArray} {pc : Nat} {ls : Array Slot}
theorem pu_iret {v v9 : Int} (hx : p.tables.exec = Jvm.exec) (hb : c.code = cc) (hr : meth.sig.returnType = some .int) (hlocks : meth.locks = false) (d : decode cc pc = .ok (.ireturn, 1)) (h : v9 = v) : W p l e R s m args below meth c s.heap [] 0 0 (MQ below (pu_Q v) args s 0 0 (fun _ => False)) (F0 m pc ls [.int (iI v9)]) := by
  subst h
  exact W.iret hx hb hr (fun t ht _ => ⟨rfl, ht⟩) (fun _ h => by cases h) d hlocks
theorem pu_zret {v v9 : Int} (hx : p.tables.exec = Jvm.exec) (hb : c.code = cc) (hr : meth.sig.returnType = some .boolean) (hlocks : meth.locks = false) (d : decode cc pc = .ok (.ireturn, 1)) (h : v9 = v) (hz : v = 0 ∨ v = 1) : W p l e R s m args below meth c s.heap [] 0 0 (MQ below (pu_Q v) args s 0 0 (fun _ => False)) (F0 m pc ls [.int (iI v9)]) := by
  subst h
  exact W.zret (ty := .boolean) hx hb hr (by rcases hz with rfl | rfl <;> decide +kernel) (fun t ht _ => ⟨rfl, ht⟩) (fun _ h => by cases h) d hlocks
theorem pn_vret (hx : p.tables.exec = Jvm.exec) (hb : c.code = cc) (hr : meth.sig.returnType = none) (hlocks : meth.locks = false) (d : decode cc pc = .ok (.return_, 1)) : W p l e R s m args below meth c s.heap [] 0 0 (MQ below pn_Q args s 0 0 (fun _ => False)) (F0 m pc ls []) :=
  W.vret hx hb hr (fun t ht _ => ⟨rfl, ht⟩) (fun _ h => by cases h) d hlocks
theorem mu_vret {P2 : Heap → Prop} {A : Nat → Prop} (hx : p.tables.exec = Jvm.exec) (hb : c.code = cc) (hr : meth.sig.returnType = none) (hlocks : meth.locks = false) (hS : va_S A s.heap H locs) (d : decode cc pc = .ok (.return_, 1)) (h2 : P2 H) : W p l e R s m args below meth c H locs 0 0 (MQ below (mu_Q none P2 A) args s 0 0 A) (F0 m pc ls []) :=
  W.vret hx hb hr (fun t ht _ => ⟨rfl, by rw [ht]; exact h2, hS.F ht⟩) hS.2.2 d hlocks
theorem mu_iret {v v9 : Int} {P2 : Heap → Prop} {A : Nat → Prop} (hx : p.tables.exec = Jvm.exec) (hb : c.code = cc) (hr : meth.sig.returnType = some .int) (hlocks : meth.locks = false) (hS : va_S A s.heap H locs) (d : decode cc pc = .ok (.ireturn, 1)) (h : v9 = v) (h2 : P2 H) : W p l e R s m args below meth c H locs 0 0 (MQ below (mu_Q (some (.int (iI v))) P2 A) args s 0 0 A) (F0 m pc ls [.int (iI v9)]) := by
  subst h
  exact W.iret hx hb hr (fun t ht _ => ⟨rfl, by rw [ht]; exact h2, hS.F ht⟩) hS.2.2 d hlocks
theorem mu_zret {v v9 : Int} {P2 : Heap → Prop} {A : Nat → Prop} (hx : p.tables.exec = Jvm.exec) (hb : c.code = cc) (hr : meth.sig.returnType = some .boolean) (hlocks : meth.locks = false) (hS : va_S A s.heap H locs) (d : decode cc pc = .ok (.ireturn, 1)) (h : v9 = v) (hz9 : v = 0 ∨ v = 1) (h2 : P2 H) : W p l e R s m args below meth c H locs 0 0 (MQ below (mu_Q (some (.int (iI v))) P2 A) args s 0 0 A) (F0 m pc ls [.int (iI v9)]) := by
  subst h
  exact W.zret (ty := .boolean) hx hb hr (by rcases hz9 with rfl | rfl <;> decide +kernel) (fun t ht _ => ⟨rfl, by rw [ht]; exact h2, hS.F ht⟩) hS.2.2 d hlocks
/-- an exception of a callee goes on to the caller's caller -/
theorem th_out {E : String} {H1 : Heap} {ce : Cell} {q9 : Addr} {rest : List Value} (hno : ∀ x ∈ c.exceptionTable.toList, False) (hlocks : meth.locks = false) (h1 : s.heap.size ≤ H1.size) (h2 : ∀ q : Nat, q < s.heap.size → H1[q]? = s.heap[q]?) (h3 : H1[q9]? = some ce) (h4 : ce.vm = .none) (h5 : s.vm.findClass E = some ce.cls) :
    vx_W p l e R s m args below meth c H1 [] (0 + 1) (0 + 6) (vx_MQ below (fun _ _ _ _ => False) (th_X E) args s 1 6 (fun _ => False)) (F0 m pc ls rest) q9 :=
  vx_out (fun x hx => (hno x hx).elim) hlocks h3 h4 h5 (fun t ht _ => ⟨rfl, by rw [ht]; exact h1, fun q hq => by rw [ht]; exact h2 q hq⟩) (fun _ h => by cases h) (by omega) (by omega)
end PU3
end
section
/-! the worlds: the class's object and arrays, the reference's, and what stands still: tables, statics, texts -/
def LM : Int → Int := fun k => if k = 0 then 1 else if k = 1 then 2 else if k = 2 then 3 else if k = 3 then 5 else if k = 4 then 8 else if k = 5 then 14 else if k = 6 then 24 else if k = 7 then 42 else 73
abbrev W0 (cI : ClassId) (x0 x1 x2 x5 x6 x7 : Nat) (n came MV : Int) (f g sp rf rc : Nat → Int32) : va_W := [(x0, .inr (0, [.ref x1, .ref x2, .int (iI n), .int (iI came), .int (iI MV), .ref x5, .ref x6, .ref x7])), (x1, .inl (cI, 60, .inl f)), (x2, .inl (cI, 60, .inl g)), (x5, .inl (cI, 9, .inl sp)), (x6, .inl (cI, 4, .inl rf)), (x7, .inl (cI, 4, .inl rc))]
abbrev W1 (cI cZ : ClassId) (y0 y1 y2 y3 y6 y7 y8 : Nat) (n came MV th : Int) (f g z sp rf rc : Nat → Int32) : va_W := [(y0, .inr (1, [.ref y1, .int (iI n), .ref y2, .ref y3, .int (iI came), .int (iI MV), .ref y6, .ref y7, .ref y8, .int (iI th)])), (y1, .inl (cI, 60, .inl f)), (y2, .inl (cI, 200, .inl g)), (y3, .inl (cZ, 200, .inl z)), (y6, .inl (cI, 9, .inl sp)), (y7, .inl (cI, 4, .inl rf)), (y8, .inl (cI, 4, .inl rc))]
def mC (x0 x1 x2 x5 x6 x7 : Nat) : Nat → Prop := fun q => q = x0 ∨ q = x1 ∨ q = x2 ∨ q = x5 ∨ q = x6 ∨ q = x7
def mM (y0 y1 y2 y3 y6 y7 y8 : Nat) : Nat → Prop := fun q => q = y0 ∨ q = y1 ∨ q = y2 ∨ q = y3 ∨ q = y6 ∨ q = y7 ∨ q = y8
/-- what the throwing methods need: the texts, the classes, two statics of Throwable -/
def TW (base : Nat) (Z : Nat → Nat) (U : State) (H : Heap) : Prop := vk_R RX0 59 "a folder can't come behind itself" (Z 0) U ∧ vk_R RX0 81 "no such shelf" (Z 1) U ∧ vk_R RX0 104 "the folder is not in the archive" (Z 2) U ∧ vk_R RX0 111 "no more folders can come" (Z 3) U ∧ vk_R RX0 114 "no such level" (Z 4) U ∧ vk_R RX0 116 "no such reader" (Z 5) U ∧ va_Nw (.castable "java/lang/IndexOutOfBoundsException" "java/lang/IndexOutOfBoundsException") U ∧ va_Nw (.castable "java/lang/IllegalStateException" "java/lang/IllegalStateException") U ∧ va_Nw (.castable "java/lang/IllegalArgumentException" "java/lang/IllegalArgumentException") U ∧ va_Nw (.declares (Bundle.initS "java/lang/RuntimeException")) U ∧ va_Nw (.declares (Bundle.initS "java/lang/Exception")) U ∧ va_Nw (.declares (Bundle.initS "java/lang/Throwable")) U ∧ vx_Zq Bundle.tN "UNASSIGNED_STACK" Bundle.steD (fun q => base ≤ q) U H ∧ vx_Zq Bundle.tN "SUPPRESSED_SENTINEL" Bundle.listD (fun q => base ≤ q) U H
def SW (D : va_G) (cI cZ : ClassId) (base st : Nat) (Z : Nat → Nat) (U : State) (H : Heap) : Prop := va_K D vwCl [(cI, .int), (cZ, .boolean)] U ∧ va_Z "ShelfMarks" "LOADED_FROM" "[I" (.ref st) (fun q => base ≤ q) U H ∧ (st < base ∧ ∃ xs, va_X st 9 xs U H ∧ AR xs 9 LM) ∧ TW base Z U H
theorem SW.move {D : va_G} {cI cZ : ClassId} {base st : Nat} {Z : Nat → Nat} {u U : State} {H : Heap} (hW : u.WarmedH U.vm) (h : SW D cI cZ base st Z u H) : SW D cI cZ base st Z U H := by
  obtain ⟨h1, h2, ⟨h3, xs, h4, h5⟩, t0, t1, t2, t3, t4, t5, k0, k1, k2, k3, k4, k5, h6, h7⟩ := h
  exact ⟨va_K.moved hW.alike h1, h2.moved hW.alike, ⟨h3, xs, h4.moved hW.alike, h5⟩, vk_R.warm hW t0, vk_R.warm hW t1, vk_R.warm hW t2, vk_R.warm hW t3, vk_R.warm hW t4, vk_R.warm hW t5, va_Nw.warmC hW k0, va_Nw.warmC hW k1, va_Nw.warmC hW k2, va_Nw.warmD hW k3, va_Nw.warmD hW k4, va_Nw.warmD hW k5, h6.moved hW.alike, h7.moved hW.alike⟩
theorem SW.keep {D : va_G} {cI cZ : ClassId} {base st : Nat} {Z : Nat → Nat} {U : State} {H H1 : Heap} (h : SW D cI cZ base st Z U H) (hk : ∀ q : Nat, q < base → H1[q]? = H[q]?) : SW D cI cZ base st Z U H1 := by
  obtain ⟨h1, h2, ⟨h3, xs, h4, h5⟩, t0, t1, t2, t3, t4, t5, k0, k1, k2, k3, k4, k5, h6, h7⟩ := h
  have hq : ∀ a : Nat, a < H.size → ¬ (fun q => base ≤ q) a → H1[a]? = H[a]? := fun a _ h => hk a (Nat.not_le.mp h)
  exact ⟨h1, h2.kept hq, ⟨h3, xs, h4.kept (hk st h3), h5⟩, t0, t1, t2, t3, t4, t5, k0, k1, k2, k3, k4, k5, h6.kept hq, h7.kept hq⟩
def CW (D : va_G) (cI : ClassId) (base x0 x1 x2 x5 x6 x7 : Nat) (n came MV : Int) (F G SP RF RC : Int → Int) (H : Heap) : Prop := ∃ f g sp rf rc : Nat → Int32, AR f n F ∧ AR g n G ∧ AR sp 9 SP ∧ AR rf 4 RF ∧ AR rc 4 RC ∧ va_P D vwCl (W0 cI x0 x1 x2 x5 x6 x7 n came MV f g sp rf rc) H ∧ va_D (fun q => base ≤ q) (W0 cI x0 x1 x2 x5 x6 x7 n came MV f g sp rf rc)
def CP (D : va_G) (cI cZ : ClassId) (base st : Nat) (Z : Nat → Nat) (x0 x1 x2 x5 x6 x7 : Nat) (n came MV : Int) (F G SP RF RC : Int → Int) : State → Heap → Prop := fun U H => SW D cI cZ base st Z U H ∧ CW D cI base x0 x1 x2 x5 x6 x7 n came MV F G SP RF RC H
def MW (D : va_G) (cI cZ : ClassId) (base y0 y1 y2 y3 y6 y7 y8 : Nat) (n came MV th : Int) (F G : Int → Int) (ZN : Int → Int) (SP RF RC : Int → Int) (H : Heap) : Prop := ∃ f g z sp rf rc : Nat → Int32, AR f n F ∧ AR g 200 G ∧ AR z 200 ZN ∧ AR sp 9 SP ∧ AR rf 4 RF ∧ AR rc 4 RC ∧ va_P D vwCl (W1 cI cZ y0 y1 y2 y3 y6 y7 y8 n came MV th f g z sp rf rc) H ∧ va_D (fun q => base ≤ q) (W1 cI cZ y0 y1 y2 y3 y6 y7 y8 n came MV th f g z sp rf rc)
def MP (D : va_G) (cI cZ : ClassId) (base st : Nat) (Z : Nat → Nat) (y0 y1 y2 y3 y6 y7 y8 : Nat) (n came MV th : Int) (F G ZN SP RF RC : Int → Int) : State → Heap → Prop := fun U H => SW D cI cZ base st Z U H ∧ MW D cI cZ base y0 y1 y2 y3 y6 y7 y8 n came MV th F G ZN SP RF RC H
theorem CP_mv {D : va_G} {cI cZ : ClassId} {base st : Nat} {Z : Nat → Nat} {x0 x1 x2 x5 x6 x7 : Nat} {n came MV : Int} {F G SP RF RC : Int → Int} : mvb (CP D cI cZ base st Z x0 x1 x2 x5 x6 x7 n came MV F G SP RF RC) := fun _ _ _ hW h => ⟨h.1.move hW, h.2⟩
theorem MP_mv {D : va_G} {cI cZ : ClassId} {base st : Nat} {Z : Nat → Nat} {y0 y1 y2 y3 y6 y7 y8 : Nat} {n came MV th : Int} {F G ZN SP RF RC : Int → Int} : mvb (MP D cI cZ base st Z y0 y1 y2 y3 y6 y7 y8 n came MV th F G ZN SP RF RC) := fun _ _ _ hW h => ⟨h.1.move hW, h.2⟩
theorem CP_rc {D : va_G} {cI cZ : ClassId} {base st : Nat} {Z : Nat → Nat} {x0 x1 x2 x5 x6 x7 : Nat} {n came MV : Int} {F G SP RF RC : Int → Int} {s : State} {H : Heap} (h : CP D cI cZ base st Z x0 x1 x2 x5 x6 x7 n came MV F G SP RF RC s H) : ∃ cellB : Cell, H[x0]? = some cellB ∧ cellB.vm.isStatics = false ∧ s.vm.findClass RX0 = some cellB.cls := by
  obtain ⟨⟨hK, -⟩, f, g, sp, rf, rc, -, -, -, -, -, hP, -⟩ := h
  exact va_recv hK hP (ci := 0) (q0 := 0) (q := (RX0, TX0, 8)) rfl rfl
theorem MP_rc {D : va_G} {cI cZ : ClassId} {base st : Nat} {Z : Nat → Nat} {y0 y1 y2 y3 y6 y7 y8 : Nat} {n came MV th : Int} {F G ZN SP RF RC : Int → Int} {s : State} {H : Heap} (h : MP D cI cZ base st Z y0 y1 y2 y3 y6 y7 y8 n came MV th F G ZN SP RF RC s H) : ∃ cellB : Cell, H[y0]? = some cellB ∧ cellB.vm.isStatics = false ∧ s.vm.findClass RX1 = some cellB.cls := by
  obtain ⟨⟨hK, -⟩, f, g, z, sp, rf, rc, -, -, -, -, -, -, hP, -⟩ := h
  exact va_recv hK hP (ci := 1) (q0 := 0) (q := (RX1, TX1, 10)) rfl rfl
/-- the world's cells are of the set, too -/
theorem CW_mD {base x0 x1 x2 x5 x6 x7 : Nat} {cI : ClassId} {n came MV : Int} {f g sp rf rc : Nat → Int32} (h : va_D (fun q => base ≤ q) (W0 cI x0 x1 x2 x5 x6 x7 n came MV f g sp rf rc)) : va_D (mC x0 x1 x2 x5 x6 x7) (W0 cI x0 x1 x2 x5 x6 x7 n came MV f g sp rf rc) := by
  refine ⟨h.1, fun k q hq => ?_⟩
  unfold mC
  match k, hq with
  | 0, hq => cases hq; exact Or.inl rfl
  | 1, hq => cases hq; exact Or.inr (Or.inl rfl)
  | 2, hq => cases hq; exact Or.inr (Or.inr (Or.inl rfl))
  | 3, hq => cases hq; exact Or.inr (Or.inr (Or.inr (Or.inl rfl)))
  | 4, hq => cases hq; exact Or.inr (Or.inr (Or.inr (Or.inr (Or.inl rfl))))
  | 5, hq => cases hq; exact Or.inr (Or.inr (Or.inr (Or.inr (Or.inr rfl))))
  | k + 6, hq => simp [W0] at hq
theorem MW_mD {base y0 y1 y2 y3 y6 y7 y8 : Nat} {cI cZ : ClassId} {n came MV th : Int} {f g z sp rf rc : Nat → Int32} (h : va_D (fun q => base ≤ q) (W1 cI cZ y0 y1 y2 y3 y6 y7 y8 n came MV th f g z sp rf rc)) : va_D (mM y0 y1 y2 y3 y6 y7 y8) (W1 cI cZ y0 y1 y2 y3 y6 y7 y8 n came MV th f g z sp rf rc) := by
  refine ⟨h.1, fun k q hq => ?_⟩
  unfold mM
  match k, hq with
  | 0, hq => cases hq; exact Or.inl rfl
  | 1, hq => cases hq; exact Or.inr (Or.inl rfl)
  | 2, hq => cases hq; exact Or.inr (Or.inr (Or.inl rfl))
  | 3, hq => cases hq; exact Or.inr (Or.inr (Or.inr (Or.inl rfl)))
  | 4, hq => cases hq; exact Or.inr (Or.inr (Or.inr (Or.inr (Or.inl rfl))))
  | 5, hq => cases hq; exact Or.inr (Or.inr (Or.inr (Or.inr (Or.inr (Or.inl rfl)))))
  | 6, hq => cases hq; exact Or.inr (Or.inr (Or.inr (Or.inr (Or.inr (Or.inr rfl)))))
  | k + 7, hq => simp [W1] at hq
/-- the set lies behind base, if the world does -/
theorem mC_b {base x0 x1 x2 x5 x6 x7 : Nat} {cI : ClassId} {n came MV : Int} {f g sp rf rc : Nat → Int32} (h : va_D (fun q => base ≤ q) (W0 cI x0 x1 x2 x5 x6 x7 n came MV f g sp rf rc)) : ∀ q, mC x0 x1 x2 x5 x6 x7 q → base ≤ q := by
  intro q hq
  rcases hq with rfl | rfl | rfl | rfl | rfl | rfl
  · exact h.2 0 _ rfl
  · exact h.2 1 _ rfl
  · exact h.2 2 _ rfl
  · exact h.2 3 _ rfl
  · exact h.2 4 _ rfl
  · exact h.2 5 _ rfl
theorem mM_b {base y0 y1 y2 y3 y6 y7 y8 : Nat} {cI cZ : ClassId} {n came MV th : Int} {f g z sp rf rc : Nat → Int32} (h : va_D (fun q => base ≤ q) (W1 cI cZ y0 y1 y2 y3 y6 y7 y8 n came MV th f g z sp rf rc)) : ∀ q, mM y0 y1 y2 y3 y6 y7 y8 q → base ≤ q := by
  intro q hq
  rcases hq with rfl | rfl | rfl | rfl | rfl | rfl | rfl
  · exact h.2 0 _ rfl
  · exact h.2 1 _ rfl
  · exact h.2 2 _ rfl
  · exact h.2 3 _ rfl
  · exact h.2 4 _ rfl
  · exact h.2 5 _ rfl
  · exact h.2 6 _ rfl
/-- what stands still, behind changes of the set -/
theorem SW.behind {D : va_G} {cI cZ : ClassId} {base st : Nat} {Z : Nat → Nat} {U : State} {H0 H : Heap} {A : Nat → Prop} {locs : List Loc} (h : SW D cI cZ base st Z U H0) (hb : base ≤ H0.size) (hA : ∀ q, A q → base ≤ q) (hS : va_S A H0 H locs) : SW D cI cZ base st Z U H :=
  h.keep (fun q hq => hS.2.1 q (Nat.lt_of_lt_of_le hq hb) (fun z => absurd (hA q z) (Nat.not_le.mpr hq)))
theorem CW_lt {D : va_G} {cI : ClassId} {base x0 x1 x2 x5 x6 x7 : Nat} {n came MV : Int} {F G SP RF RC : Int → Int} {H : Heap} (h : CW D cI base x0 x1 x2 x5 x6 x7 n came MV F G SP RF RC H) : base ≤ H.size := by
  obtain ⟨f, g, sp, rf, rc, -, -, -, -, -, hP, hD⟩ := h
  exact Nat.le_trans (hD.2 0 _ rfl) (Nat.le_of_lt (hP 0 _ rfl).lt)
theorem MW_lt {D : va_G} {cI cZ : ClassId} {base y0 y1 y2 y3 y6 y7 y8 : Nat} {n came MV th : Int} {F G ZN SP RF RC : Int → Int} {H : Heap} (h : MW D cI cZ base y0 y1 y2 y3 y6 y7 y8 n came MV th F G ZN SP RF RC H) : base ≤ H.size := by
  obtain ⟨f, g, z, sp, rf, rc, -, -, -, -, -, -, hP, hD⟩ := h
  exact Nat.le_trans (hD.2 0 _ rfl) (Nat.le_of_lt (hP 0 _ rfl).lt)
theorem CW_kept {D : va_G} {cI : ClassId} {base x0 x1 x2 x5 x6 x7 : Nat} {n came MV : Int} {F G SP RF RC : Int → Int} {H H1 : Heap} (h : CW D cI base x0 x1 x2 x5 x6 x7 n came MV F G SP RF RC H) (hk : ∀ q : Nat, mC x0 x1 x2 x5 x6 x7 q → H1[q]? = H[q]?) : CW D cI base x0 x1 x2 x5 x6 x7 n came MV F G SP RF RC H1 := by
  obtain ⟨f, g, sp, rf, rc, a1, a2, a3, a4, a5, hP, hD⟩ := h
  exact ⟨f, g, sp, rf, rc, a1, a2, a3, a4, a5, hP.kept (fun k q hq => hk q.1 ((CW_mD hD).2 k q hq)), hD⟩
theorem MW_kept {D : va_G} {cI cZ : ClassId} {base y0 y1 y2 y3 y6 y7 y8 : Nat} {n came MV th : Int} {F G ZN SP RF RC : Int → Int} {H H1 : Heap} (h : MW D cI cZ base y0 y1 y2 y3 y6 y7 y8 n came MV th F G ZN SP RF RC H) (hk : ∀ q : Nat, mM y0 y1 y2 y3 y6 y7 y8 q → H1[q]? = H[q]?) : MW D cI cZ base y0 y1 y2 y3 y6 y7 y8 n came MV th F G ZN SP RF RC H1 := by
  obtain ⟨f, g, z, sp, rf, rc, a1, a2, a3, a4, a5, a6, hP, hD⟩ := h
  exact ⟨f, g, z, sp, rf, rc, a1, a2, a3, a4, a5, a6, hP.kept (fun k q hq => hk q.1 ((MW_mD hD).2 k q hq)), hD⟩
end
section
/-! the pure words -/
def ip (n v : Int) : Int := if 0 ≤ v ∧ v < n then 1 else 0
def PL (F : Int → Int) (n x r : Int) : Prop := (r = -1 ∧ ∀ k : Int, 0 ≤ k → k < n → F k ≠ x) ∨ (0 ≤ r ∧ r < n ∧ F r = x ∧ ∀ k : Int, 0 ≤ k → k < r → F k ≠ x)
def fa (F : Int → Int) (n v : Int) : Int := if 0 ≤ v ∧ v < n then F v else -1
def ma (G : Int → Int) (n v : Int) : Int := if v < 0 then -1 else if v < n then G v else 256
def FI (G : Int → Int) (n m r : Int) : Prop := (0 ≤ r ∧ r ≤ n) ∧ (∀ k : Int, 0 ≤ k → k < r → G k < m) ∧ (r < n → m ≤ G r)
theorem LM_rg (k : Int) : 1 ≤ LM k ∧ LM k ≤ 73 := by
  unfold LM
  repeat' split
  all_goals omega
/-- how many of the first places a test holds at -/
def cn (P : Int → Bool) : Nat → Int
  | 0 => 0
  | k + 1 => cn P k + (if P (k : Int) = true then 1 else 0)
theorem cn_s (P : Int → Bool) {i : Int} (h : 0 ≤ i) : cn P (i + 1).toNat = cn P i.toNat + (if P i = true then 1 else 0) := by
  obtain ⟨k, rfl⟩ := Int.eq_ofNat_of_zero_le h
  rw [show ((k : Int) + 1).toNat = k + 1 by omega, show ((k : Int)).toNat = k by omega]
  rfl
theorem cn_rg (P : Int → Bool) (k : Nat) : 0 ≤ cn P k ∧ cn P k ≤ k := by
  induction k with
  | zero => simp [cn]
  | succ k ih => simp only [cn]; split <;> omega
theorem cn_ext {P P' : Int → Bool} {k : Nat} (h : ∀ i : Int, 0 ≤ i → i < k → P i = P' i) : cn P k = cn P' k := by
  induction k with
  | zero => rfl
  | succ k ih => simp only [cn]; rw [ih (fun i h0 h1 => h i h0 (by omega)), h k (by omega) (by omega)]
theorem cn_t (P : Int → Bool) {i : Int} (h : 0 ≤ i) (hP : P i = true) : cn P (i + 1).toNat = cn P i.toNat + 1 := by rw [cn_s P h, if_pos hP]
theorem cn_f (P : Int → Bool) {i : Int} (h : 0 ≤ i) (hP : P i = false) : cn P (i + 1).toNat = cn P i.toNat := by rw [cn_s P h, if_neg (by rw [hP]; decide)]; omega
def mb (G : Int → Int) (n m : Int) : Int := cn (fun k => decide (G k < m)) n.toNat
def SD (G : Int → Int) (n : Int) : Prop := ∀ i j : Int, 0 ≤ i → i < j → j < n → G i < G j
theorem FI_un {G : Int → Int} {n m r q : Int} (h : FI G n m r) (h2 : FI G n m q) : r = q := by
  obtain ⟨a1, a2, a3⟩ := h
  obtain ⟨b1, b2, b3⟩ := h2
  rcases (show r < q ∨ q < r ∨ r = q by omega) with h | h | h
  · have := b2 r (by omega) h; have := a3 (by omega); omega
  · have := a2 q (by omega) h; have := b3 (by omega); omega
  · exact h
theorem mb_FI {G : Int → Int} {n : Int} (m : Int) (hn : 0 ≤ n) (hs : SD G n) : FI G n m (mb G n m) := by
  obtain ⟨k, rfl⟩ := Int.eq_ofNat_of_zero_le hn
  have key : ∀ j : Nat, (j : Int) ≤ k → FI G j m (cn (fun k => decide (G k < m)) j) := by
    intro j
    induction j with
    | zero => intro _; exact ⟨by simp [cn], fun k h0 h1 => by simp [cn] at h1; omega, fun h => by simp [cn] at h⟩
    | succ j ih =>
      intro hj
      obtain ⟨a1, a2, a3⟩ := ih (by omega)
      simp only [cn]
      generalize cn (fun k => decide (G k < m)) j = r at a1 a2 a3 ⊢
      by_cases hG : G j < m
      · have hr : r = j := by
          rcases (show r < j ∨ r = j by omega) with h | h
          · have := hs r j a1.1 h (by omega); have := a3 h; omega
          · exact h
        simp only [hG, decide_true, if_true]
        refine ⟨by omega, fun i h0 h1 => ?_, fun h => by omega⟩
        rcases (show i < r ∨ i = j by omega) with q | q
        · exact a2 i h0 q
        · rw [q]; exact hG
      · simp only [hG, decide_false, Bool.false_eq_true, if_false]
        refine ⟨by omega, fun i h0 h1 => a2 i h0 (by omega), fun h => ?_⟩
        rcases (show r + 0 < j ∨ r + 0 = j by omega) with q | q
        · rw [show r + 0 = r by omega]; exact a3 (by omega)
        · rw [q]; omega
  have := key k (Int.le_refl _)
  unfold mb
  rw [show ((k : Int)).toNat = k by omega]
  exact this
theorem mb_rg {G : Int → Int} {n m : Int} (hn : 0 ≤ n) : 0 ≤ mb G n m ∧ mb G n m ≤ n := by
  have := cn_rg (fun k => decide (G k < m)) n.toNat
  unfold mb
  omega
theorem mb_mono {G : Int → Int} {n m m2 : Int} (hn : 0 ≤ n) (hs : SD G n) (h : m ≤ m2) : mb G n m ≤ mb G n m2 := by
  obtain ⟨a1, a2, a3⟩ := mb_FI m hn hs
  obtain ⟨b1, b2, b3⟩ := mb_FI m2 hn hs
  rcases (show mb G n m ≤ mb G n m2 ∨ mb G n m2 < mb G n m by omega) with q | q
  · exact q
  · have := a2 _ b1.1 q; have := b3 (by omega); omega
/-- how many folders a shelf has -/
def ldn (G : Int → Int) (n lv sh : Int) : Int := mb G n ((sh + 1) * 2 ^ lv.toNat) - mb G n (sh * 2 ^ lv.toNat)
theorem p2_cases {lv : Int} (h : 0 ≤ lv ∧ lv ≤ 8) : ((2 : Int) ^ lv.toNat = 1 ∧ lv = 0) ∨ ((2 : Int) ^ lv.toNat = 2 ∧ lv = 1) ∨ ((2 : Int) ^ lv.toNat = 4 ∧ lv = 2) ∨ ((2 : Int) ^ lv.toNat = 8 ∧ lv = 3) ∨ ((2 : Int) ^ lv.toNat = 16 ∧ lv = 4) ∨ ((2 : Int) ^ lv.toNat = 32 ∧ lv = 5) ∨ ((2 : Int) ^ lv.toNat = 64 ∧ lv = 6) ∨ ((2 : Int) ^ lv.toNat = 128 ∧ lv = 7) ∨ ((2 : Int) ^ lv.toNat = 256 ∧ lv = 8) := by
  rcases (show lv = 0 ∨ lv = 1 ∨ lv = 2 ∨ lv = 3 ∨ lv = 4 ∨ lv = 5 ∨ lv = 6 ∨ lv = 7 ∨ lv = 8 by omega) with rfl | rfl | rfl | rfl | rfl | rfl | rfl | rfl | rfl <;> decide
theorem p2_rg {lv : Int} (h : 0 ≤ lv ∧ lv ≤ 8) : 1 ≤ (2 : Int) ^ lv.toNat ∧ (2 : Int) ^ lv.toNat ≤ 256 := by
  rcases p2_cases h with ⟨e, -⟩ | ⟨e, -⟩ | ⟨e, -⟩ | ⟨e, -⟩ | ⟨e, -⟩ | ⟨e, -⟩ | ⟨e, -⟩ | ⟨e, -⟩ | ⟨e, -⟩ <;> rw [e] <;> omega
theorem sh_b {a lv : Int} (ha : 0 ≤ a ∧ a ≤ 255) (h : 0 ≤ lv ∧ lv ≤ 8) : 0 ≤ a / 2 ^ lv.toNat ∧ a / 2 ^ lv.toNat ≤ 255 ∧ a / 2 ^ lv.toNat * 2 ^ lv.toNat ≤ a ∧ (a / 2 ^ lv.toNat + 1) * 2 ^ lv.toNat ≤ 511 ∧ a < (a / 2 ^ lv.toNat + 1) * 2 ^ lv.toNat ∧ 0 ≤ a / 2 ^ lv.toNat * 2 ^ lv.toNat ∧ (a / 2 ^ lv.toNat + 1) * 2 ^ lv.toNat ≤ 256 := by
  rcases p2_cases h with ⟨e, -⟩ | ⟨e, -⟩ | ⟨e, -⟩ | ⟨e, -⟩ | ⟨e, -⟩ | ⟨e, -⟩ | ⟨e, -⟩ | ⟨e, -⟩ | ⟨e, -⟩ <;> rw [e] <;> omega
theorem ldn_rg {G : Int → Int} {n lv sh : Int} (hn : 0 ≤ n ∧ n ≤ 60) (hs : SD G n) (h : sh * 2 ^ lv.toNat ≤ (sh + 1) * 2 ^ lv.toNat) : 0 ≤ ldn G n lv sh ∧ ldn G n lv sh ≤ 60 := by
  have h1 := mb_mono hn.1 hs h
  have h2 := mb_rg (G := G) (m := (sh + 1) * 2 ^ lv.toNat) hn.1
  have h3 := mb_rg (G := G) (m := sh * 2 ^ lv.toNat) hn.1
  unfold ldn
  omega
def LV (G : Int → Int) (n a r : Int) : Prop := (1 ≤ r ∧ r ≤ 8) ∧ (∀ j : Int, 1 ≤ j → j < r → LM j ≤ ldn G n j (a / 2 ^ j.toNat)) ∧ (r < 8 → ldn G n r (a / 2 ^ r.toNat) < LM r)
/-- the new mark of the i-th of t folders that are spread over w marks from lo -/
def nm (lo w t i : Int) : Int := lo + i * w / t
/-- where the k-th of the old folders of a shelf comes to stand among the new ones -/
def np (p beg k : Int) : Int := if beg + k < p then k else k + 1
/-- how many of the first k old folders of a shelf are moved -/
def mvn (G : Int → Int) (p lo w beg t : Int) (k : Nat) : Int := cn (fun i => decide (G (beg + i) ≠ nm lo w t (np p beg i))) k
theorem ma_rg {G : Int → Int} {n : Int} (hG : ∀ k : Int, 0 ≤ k → k < n → 0 ≤ G k ∧ G k ≤ 255) (v : Int) : -1 ≤ ma G n v ∧ ma G n v ≤ 256 := by
  unfold ma
  split
  · omega
  · split
    · have := hG v (by omega) (by omega); omega
    · omega
theorem mul_b {i w : Int} (hi : 0 ≤ i ∧ i ≤ 100) (hw : 0 ≤ w ∧ w ≤ 256) : 0 ≤ i * w ∧ i * w ≤ 25600 := by
  constructor
  · exact Int.mul_nonneg hi.1 hw.1
  · have h1 := Int.mul_le_mul_of_nonneg_left hw.2 hi.1
    omega
theorem nm_rg {lo w t i : Int} (hl : 0 ≤ lo ∧ lo ≤ 65536) (hw : 0 ≤ w ∧ w ≤ 256) (hi : 0 ≤ i ∧ i ≤ 100) (ht : 1 ≤ t) : lo ≤ nm lo w t i ∧ nm lo w t i ≤ 100000 := by
  have h1 := mul_b hi hw
  have h2 := Int.ediv_nonneg h1.1 (show 0 ≤ t by omega)
  have h3 := Int.ediv_le_self (b := t) h1.1
  unfold nm
  omega
theorem ldn_end {G : Int → Int} {n lv sh : Int} (hn : 0 ≤ n ∧ n ≤ 60) : mb G n (sh * 2 ^ lv.toNat) + ldn G n lv sh ≤ n := by
  have h2 := mb_rg (G := G) (m := (sh + 1) * 2 ^ lv.toNat) hn.1
  unfold ldn
  omega
theorem PL_rg {F : Int → Int} {n x r : Int} (hn : 0 ≤ n) (h : PL F n x r) : -1 ≤ r ∧ r < n ∨ r = -1 ∧ n = 0 := by
  rcases h with ⟨h, -⟩ | ⟨h1, h2, -⟩ <;> omega
theorem ma_in {G : Int → Int} {n v : Int} (h : 0 ≤ v ∧ v < n) : G v = ma G n v := by unfold ma; rw [if_neg (by omega), if_pos h.2]
theorem shl_b {lv sh : Int} (h : 0 ≤ lv ∧ lv ≤ 8) (hs : 0 ≤ sh ∧ sh < 256 / 2 ^ lv.toNat) : 256 / 2 ^ lv.toNat ≤ (256 : Int) ∧ 0 ≤ sh * 2 ^ lv.toNat ∧ sh * 2 ^ lv.toNat ≤ 256 ∧ 0 ≤ (sh + 1) * 2 ^ lv.toNat ∧ (sh + 1) * 2 ^ lv.toNat ≤ 256 := by
  rcases p2_cases h with ⟨e, -⟩ | ⟨e, -⟩ | ⟨e, -⟩ | ⟨e, -⟩ | ⟨e, -⟩ | ⟨e, -⟩ | ⟨e, -⟩ | ⟨e, -⟩ | ⟨e, -⟩ <;> rw [e] at hs ⊢ <;> omega
theorem shq_b {lv : Int} (h : 0 ≤ lv ∧ lv ≤ 8) : 1 ≤ 256 / (2 : Int) ^ lv.toNat ∧ 256 / (2 : Int) ^ lv.toNat ≤ 256 := by
  rcases p2_cases h with ⟨e, -⟩ | ⟨e, -⟩ | ⟨e, -⟩ | ⟨e, -⟩ | ⟨e, -⟩ | ⟨e, -⟩ | ⟨e, -⟩ | ⟨e, -⟩ | ⟨e, -⟩ <;> rw [e] <;> omega
theorem ma_q {a lv : Int} (ha : -1 ≤ a ∧ a ≤ 256) (h : 0 ≤ lv ∧ lv ≤ 8) : -1 ≤ a / 2 ^ lv.toNat ∧ a / 2 ^ lv.toNat ≤ 256 := by
  rcases p2_cases h with ⟨e, -⟩ | ⟨e, -⟩ | ⟨e, -⟩ | ⟨e, -⟩ | ⟨e, -⟩ | ⟨e, -⟩ | ⟨e, -⟩ | ⟨e, -⟩ | ⟨e, -⟩ <;> rw [e] <;> omega
end
section
def TP : State → Heap → Prop := fun _ _ => True
theorem TP_mv : mvb TP := fun _ _ _ _ h => h
def SP (D : va_G) (cI cZ : ClassId) (base st : Nat) (Z : Nat → Nat) : State → Heap → Prop := fun U H => SW D cI cZ base st Z U H
theorem SP_mv {D : va_G} {cI cZ : ClassId} {base st : Nat} {Z : Nat → Nat} : mvb (SP D cI cZ base st Z) := fun _ _ _ hW h => SW.move hW h
set_option maxHeartbeats 4000000 in
set_option maxRecDepth 100000 in
theorem c_isPlace (l : Launch) (D : va_G) (cI cZ : ClassId) (base st : Nat) (Z : Nat → Nat) (x0 x1 x2 x5 x6 x7 : Nat) {n came MV : Int} {F G SP RF RC : Int → Int} (hn : 0 ≤ n ∧ n ≤ 60) (v : Int) (hv : (-2147483648 ≤ v ∧ v ≤ 2147483647)) (r : Int) (hr9 : r = ip n v) : pu_M l yX0_isPlace wsX0_isPlace ({ frames := 0, cells := 0, slots := 0, locals := 0 } : Room) [.ref x0, .int (iI (v))] (CP D cI cZ base st Z x0 x1 x2 x5 x6 x7 n came MV F G SP RF RC) (r) := by
  refine pu_of (cc := cX0_isPlace) (maxL := 2) (ret := (some .boolean)) (own := RX0) (by decide) rfl rfl (Nat.le_of_ble_eq_true rfl) ?_
  intro p e s m below meth c ls B hCP hl
  obtain ⟨hx, hb, hml, hr, hts, hown, hlocks⟩ := B
  obtain ⟨⟨hK, hZL, ⟨hstb, xs, hXL, hAL⟩, hTW⟩, f, g, sp, rf, rc, hAf, hAg, hAsp, hArf, hArc, hP, hDb⟩ := id hCP
  have hl : lv_has ls 2 [(0, .ref x0), (1, .int (iI (v)))] := hl
  have hin : ∀ w ∈ u_ws RX0 TX0 8, w ∈ wsX0_isPlace := by decide +kernel
  have q_folders := hts (.fieldLink RX0 9 "ShelfMarks" "folders" "[I") (by decide +kernel)
  have q_marks := hts (.fieldLink RX0 13 "ShelfMarks" "marks" "[I") (by decide +kernel)
  have q_count := hts (.fieldLink RX0 53 "ShelfMarks" "count" "I") (by decide +kernel)
  have hz9 : r = 0 ∨ r = 1 := by rw [hr9]; unfold ip; split <;> omega
  refine lv_iload_n hx hb dX0_isPlace_0 rfl (lv_at hl 1 rfl) ?_
  refine pv_if_lt (tgt := 34) hx hb dX0_isPlace_1 (by decide) (by omega) (fun c_1 => ?_) (fun c_1 => ?_)
  · -- 1t
    refine pv_iconst hx hb dX0_isPlace_34 ?_
    exact pu_zret hx hb hr hlocks dX0_isPlace_35 (by rw [hr9]; unfold ip; split <;> omega) hz9
  · -- 1f
    refine lv_iload_n hx hb dX0_isPlace_4 rfl (lv_at hl 1 rfl) ?_
    refine lv_aload_n hx hb dX0_isPlace_5 rfl (lv_at hl 0 rfl) ?_
    refine va_get (D := D) (ci := 0) (v := .int (iI (n))) (C := RX0) (T := TX0) (N := 8) hx hb hts hin hown hK hP 0 rfl rfl 2 (by decide) q_count (fun _ h9 => h9) rfl dX0_isPlace_6 ?_
    refine pv_icmp_ge (tgt := 34) hx hb dX0_isPlace_9 (by decide) (by omega) (fun c_9 => ?_) (fun c_9 => ?_)
    · -- 9t
      refine pv_iconst hx hb dX0_isPlace_34 ?_
      exact pu_zret hx hb hr hlocks dX0_isPlace_35 (by rw [hr9]; unfold ip; split <;> omega) hz9
    · -- 9f
      refine lv_iload_n hx hb dX0_isPlace_12 rfl (lv_at hl 1 rfl) ?_
      refine lv_aload_n hx hb dX0_isPlace_13 rfl (lv_at hl 0 rfl) ?_
      refine va_get (D := D) (ci := 0) (v := .ref x1) (C := RX0) (T := TX0) (N := 8) hx hb hts hin hown hK hP 0 rfl rfl 0 (by decide) q_folders (fun _ h9 => h9) rfl dX0_isPlace_14 ?_
      refine pv_alen (v := 60) hx hb hK hP 1 0 rfl rfl (show Int32.ofNat 60 = iI 60 by decide +kernel) dX0_isPlace_17 ?_
      refine pv_icmp_ge (tgt := 34) hx hb dX0_isPlace_18 (by decide) (by omega) (fun c_18 => ?_) (fun c_18 => ?_)
      · -- 18t
        refine pv_iconst hx hb dX0_isPlace_34 ?_
        exact pu_zret hx hb hr hlocks dX0_isPlace_35 (by rw [hr9]; unfold ip; split <;> omega) hz9
      · -- 18f
        refine lv_iload_n hx hb dX0_isPlace_21 rfl (lv_at hl 1 rfl) ?_
        refine lv_aload_n hx hb dX0_isPlace_22 rfl (lv_at hl 0 rfl) ?_
        refine va_get (D := D) (ci := 0) (v := .ref x2) (C := RX0) (T := TX0) (N := 8) hx hb hts hin hown hK hP 0 rfl rfl 1 (by decide) q_marks (fun _ h9 => h9) rfl dX0_isPlace_23 ?_
        refine pv_alen (v := 60) hx hb hK hP 2 0 rfl rfl (show Int32.ofNat 60 = iI 60 by decide +kernel) dX0_isPlace_26 ?_
        refine pv_icmp_ge (tgt := 34) hx hb dX0_isPlace_27 (by decide) (by omega) (fun c_27 => ?_) (fun c_27 => ?_)
        · -- 27t
          refine pv_iconst hx hb dX0_isPlace_34 ?_
          exact pu_zret hx hb hr hlocks dX0_isPlace_35 (by rw [hr9]; unfold ip; split <;> omega) hz9
        · -- 27f
          refine pv_iconst hx hb dX0_isPlace_30 ?_
          refine lv_goto (tgt := 35) hx hb dX0_isPlace_31 (by decide) ?_
          exact pu_zret hx hb hr hlocks dX0_isPlace_35 (by rw [hr9]; unfold ip; split <;> omega) hz9
set_option maxHeartbeats 4000000 in
set_option maxRecDepth 100000 in
theorem c_placeOf (l : Launch) (D : va_G) (cI cZ : ClassId) (base st : Nat) (Z : Nat → Nat) (x0 x1 x2 x5 x6 x7 : Nat) {n came MV : Int} {F G SP RF RC : Int → Int} (hn : 0 ≤ n ∧ n ≤ 60) (hF : ∀ k : Int, 0 ≤ k → k < n → 0 ≤ F k ∧ F k < 200) (x : Int) (hxr : (-2147483648 ≤ x ∧ x ≤ 2147483647)) (r : Int) (hr9 : PL F n x r) : pu_M l yX0_placeOf wsX0_placeOf ({ frames := 0, cells := 0, slots := 0, locals := 0 } : Room) [.ref x0, .int (iI (x))] (CP D cI cZ base st Z x0 x1 x2 x5 x6 x7 n came MV F G SP RF RC) (r) := by
  refine pu_of (cc := cX0_placeOf) (maxL := 3) (ret := (some .int)) (own := RX0) (by decide) rfl rfl (Nat.le_of_ble_eq_true rfl) ?_
  intro p e s m below meth c ls B hCP hl
  obtain ⟨hx, hb, hml, hr, hts, hown, hlocks⟩ := B
  obtain ⟨⟨hK, hZL, ⟨hstb, xs, hXL, hAL⟩, hTW⟩, f, g, sp, rf, rc, hAf, hAg, hAsp, hArf, hArc, hP, hDb⟩ := id hCP
  have hl : lv_has ls 3 [(0, .ref x0), (1, .int (iI (x)))] := hl
  have hin : ∀ w ∈ u_ws RX0 TX0 8, w ∈ wsX0_placeOf := by decide +kernel
  have q_folders := hts (.fieldLink RX0 9 "ShelfMarks" "folders" "[I") (by decide +kernel)
  have q_count := hts (.fieldLink RX0 53 "ShelfMarks" "count" "I") (by decide +kernel)
  refine pv_iconst hx hb dX0_placeOf_0 ?_
  refine lv_istore_n (lv' := [(2, .int (iI (0))), (0, .ref x0), (1, .int (iI (x)))]) hx hb dX0_placeOf_1 rfl hl (by decide) rfl (fun ls hl => ?_)
  have hloop2 : ∀ (fuel : Nat) (i : Int) (ls : Array Slot), (n - i) < fuel → (0 ≤ i ∧ i ≤ n) → (∀ k : Int, 0 ≤ k → k < i → F k ≠ x) → lv_has ls 3 [(0, .ref x0), (1, .int (iI (x))), (2, .int (iI (i)))] → W p l e ({ frames := 0, cells := 0, slots := 0, locals := 0 } : Room) s m ([.ref x0, .int (iI (x))] : List Value).toArray below meth c s.heap [] 0 0 (MQ below (pu_Q (r)) ([.ref x0, .int (iI (x))] : List Value).toArray s 0 0 (fun _ => False)) (F0 m 2 ls []) := by
    intro fuel
    induction fuel with
    | zero => intro i ls hfu hi hno hl; exfalso; omega
    | succ fuel ih =>
      intro i ls hfu hi hno hl
      refine lv_iload_n hx hb dX0_placeOf_2 rfl (lv_at hl 2 rfl) ?_
      refine lv_aload_n hx hb dX0_placeOf_3 rfl (lv_at hl 0 rfl) ?_
      refine va_get (D := D) (ci := 0) (v := .int (iI (n))) (C := RX0) (T := TX0) (N := 8) hx hb hts hin hown hK hP 0 rfl rfl 2 (by decide) q_count (fun _ h9 => h9) rfl dX0_placeOf_4 ?_
      refine pv_icmp_ge (tgt := 37) hx hb dX0_placeOf_7 (by decide) (by omega) (fun c_7 => ?_) (fun c_7 => ?_)
      · -- 7t
        refine pv_iconst hx hb dX0_placeOf_37 ?_
        exact pu_iret hx hb hr hlocks dX0_placeOf_38 (by rcases hr9 with ⟨h, -⟩ | ⟨h1, h2, h3, -⟩; exact h.symm; exact absurd h3 (hno r h1 (by omega)))
      · -- 7f
        refine lv_iload_n hx hb dX0_placeOf_10 rfl (lv_at hl 2 rfl) ?_
        refine lv_aload_n hx hb dX0_placeOf_11 rfl (lv_at hl 0 rfl) ?_
        refine va_get (D := D) (ci := 0) (v := .ref x1) (C := RX0) (T := TX0) (N := 8) hx hb hts hin hown hK hP 0 rfl rfl 0 (by decide) q_folders (fun _ h9 => h9) rfl dX0_placeOf_12 ?_
        refine pv_alen (v := 60) hx hb hK hP 1 0 rfl rfl (show Int32.ofNat 60 = iI 60 by decide +kernel) dX0_placeOf_15 ?_
        refine pv_icmp_ge (tgt := 37) hx hb dX0_placeOf_16 (by decide) (by omega) (fun c_16 => ?_) (fun c_16 => ?_)
        · exfalso; omega
        · -- 16f
          refine lv_aload_n hx hb dX0_placeOf_19 rfl (lv_at hl 0 rfl) ?_
          refine va_get (D := D) (ci := 0) (v := .ref x1) (C := RX0) (T := TX0) (N := 8) hx hb hts hin hown hK hP 0 rfl rfl 0 (by decide) q_folders (fun _ h9 => h9) rfl dX0_placeOf_20 ?_
          refine lv_iload_n hx hb dX0_placeOf_23 rfl (lv_at hl 2 rfl) ?_
          refine pv_iald (i := i) (v := F (i)) hx hb hK hP 1 0 rfl rfl (by omega) (by decide) (hAf _ (by omega) (by omega)) dX0_placeOf_24 ?_
          have hfi := hF i (by omega) (by omega)
          refine lv_iload_n hx hb dX0_placeOf_25 rfl (lv_at hl 1 rfl) ?_
          refine pv_icmp_ne (tgt := 31) hx hb dX0_placeOf_26 (by decide) (by omega) (fun c_26 => ?_) (fun c_26 => ?_)
          · -- 26t
            refine pv_iinc (lv' := [(2, .int (iI (i + 1))), (0, .ref x0), (1, .int (iI (x)))]) hx hb dX0_placeOf_31 hl (k := 2) rfl (by decide) rfl (fun ls hl => ?_)
            refine lv_goto (tgt := 2) hx hb dX0_placeOf_34 (by decide) ?_
            exact ih (i + 1) ls (by omega) (by omega) (fun k h0 h1 => by rcases (show k < i ∨ k = i by omega) with h | h; exact hno k h0 h; rw [h]; exact c_26) (lv_sub hl [1, 2, 0] rfl)
          · -- 26f
            refine lv_iload_n hx hb dX0_placeOf_29 rfl (lv_at hl 2 rfl) ?_
            exact pu_iret hx hb hr hlocks dX0_placeOf_30 (by rcases hr9 with ⟨-, h⟩ | ⟨h1, h2, h3, h4⟩; exact absurd c_26 (h i (by omega) (by omega)); rcases (show i < r ∨ r < i ∨ i = r by omega) with q | q | q; exact absurd c_26 (h4 i (by omega) q); exact absurd h3 (hno r h1 q); exact q)
  exact hloop2 ((n : Int).toNat + 1) (0) ls (by omega) (by omega) (fun k h0 h1 => absurd h1 (by omega)) (lv_sub hl [1, 2, 0] rfl)
set_option maxHeartbeats 4000000 in
set_option maxRecDepth 100000 in
theorem c_folderAt (l : Launch) (D : va_G) (cI cZ : ClassId) (base st : Nat) (Z : Nat → Nat) (x0 x1 x2 x5 x6 x7 : Nat) {n came MV : Int} {F G SP RF RC : Int → Int} (hn : 0 ≤ n ∧ n ≤ 60) (v : Int) (hv : (-2147483648 ≤ v ∧ v ≤ 2147483647)) (r : Int) (hr9 : r = fa F n v) : pu_M l yX0_folderAt wsX0_folderAt ({ frames := 1, cells := 0, slots := 0, locals := 21 } : Room) [.ref x0, .int (iI (v))] (CP D cI cZ base st Z x0 x1 x2 x5 x6 x7 n came MV F G SP RF RC) (r) := by
  refine pu_of (cc := cX0_folderAt) (maxL := 2) (ret := (some .int)) (own := RX0) (by decide) rfl rfl (Nat.le_of_ble_eq_true rfl) ?_
  intro p e s m below meth c ls B hCP hl
  obtain ⟨hx, hb, hml, hr, hts, hown, hlocks⟩ := B
  obtain ⟨⟨hK, hZL, ⟨hstb, xs, hXL, hAL⟩, hTW⟩, f, g, sp, rf, rc, hAf, hAg, hAsp, hArf, hArc, hP, hDb⟩ := id hCP
  have hl : lv_has ls 2 [(0, .ref x0), (1, .int (iI (v)))] := hl
  have hin : ∀ w ∈ u_ws RX0 TX0 8, w ∈ wsX0_folderAt := by decide +kernel
  have q_folders := hts (.fieldLink RX0 9 "ShelfMarks" "folders" "[I") (by decide +kernel)
  refine lv_aload_n hx hb dX0_folderAt_0 rfl (lv_at hl 0 rfl) ?_
  refine lv_iload_n hx hb dX0_folderAt_1 rfl (lv_at hl 1 rfl) ?_
  by_cases hv9 : 0 ≤ v ∧ v < n
  · -- A
    refine pu_callV (As := [.int (iI (v))]) (rest := []) CP_mv ⟨hx, hb, hml, hown, hts⟩ (c_isPlace l D cI cZ base st Z x0 x1 x2 x5 x6 x7 hn v hv 1 (by unfold ip; rw [if_pos hv9])) (cwV 1 hts gX0_folderAt_X0_isPlace rfl rfl rfl (by decide +kernel) ⟨(Nat.le_of_ble_eq_true rfl), (Nat.le_of_ble_eq_true rfl)⟩) hCP (CP_rc hCP) rfl rfl hl.1 (Nat.le_of_ble_eq_true rfl) dX0_folderAt_2 ⟨Nat.zero_le _, Nat.zero_le _⟩ ?_
    refine pv_if_eq (tgt := 17) hx hb dX0_folderAt_5 (by decide) (by omega) (fun c_5 => ?_) (fun c_5 => ?_)
    · exact absurd c_5 (by omega)
    · -- 5f
      refine lv_aload_n hx hb dX0_folderAt_8 rfl (lv_at hl 0 rfl) ?_
      refine va_get (D := D) (ci := 0) (v := .ref x1) (C := RX0) (T := TX0) (N := 8) hx hb hts hin hown hK hP 0 rfl rfl 0 (by decide) q_folders (fun _ h9 => h9) rfl dX0_folderAt_9 ?_
      refine lv_iload_n hx hb dX0_folderAt_12 rfl (lv_at hl 1 rfl) ?_
      refine pv_iald (i := v) (v := F (v)) hx hb hK hP 1 0 rfl rfl (by omega) (by decide) (hAf _ (by omega) (by omega)) dX0_folderAt_13 ?_
      refine lv_goto (tgt := 18) hx hb dX0_folderAt_14 (by decide) ?_
      exact pu_iret hx hb hr hlocks dX0_folderAt_18 (by rw [hr9]; unfold fa; rw [if_pos hv9])
  · -- B
    refine pu_callV (As := [.int (iI (v))]) (rest := []) CP_mv ⟨hx, hb, hml, hown, hts⟩ (c_isPlace l D cI cZ base st Z x0 x1 x2 x5 x6 x7 hn v hv 0 (by unfold ip; rw [if_neg hv9])) (cwV 1 hts gX0_folderAt_X0_isPlace rfl rfl rfl (by decide +kernel) ⟨(Nat.le_of_ble_eq_true rfl), (Nat.le_of_ble_eq_true rfl)⟩) hCP (CP_rc hCP) rfl rfl hl.1 (Nat.le_of_ble_eq_true rfl) dX0_folderAt_2 ⟨Nat.zero_le _, Nat.zero_le _⟩ ?_
    refine pv_if_eq (tgt := 17) hx hb dX0_folderAt_5 (by decide) (by omega) (fun c_5 => ?_) (fun c_5 => ?_)
    · -- 5t
      refine pv_iconst hx hb dX0_folderAt_17 ?_
      exact pu_iret hx hb hr hlocks dX0_folderAt_18 (by rw [hr9]; unfold fa; rw [if_neg hv9])
    · exact absurd c_5 (by omega)
set_option maxHeartbeats 4000000 in
set_option maxRecDepth 100000 in
theorem c_markAt (l : Launch) (D : va_G) (cI cZ : ClassId) (base st : Nat) (Z : Nat → Nat) (x0 x1 x2 x5 x6 x7 : Nat) {n came MV : Int} {F G SP RF RC : Int → Int} (hn : 0 ≤ n ∧ n ≤ 60) (v : Int) (hv : (-2147483648 ≤ v ∧ v ≤ 2147483647)) (r : Int) (hr9 : r = ma G n v) : pu_M l yX0_markAt wsX0_markAt ({ frames := 1, cells := 0, slots := 0, locals := 21 } : Room) [.ref x0, .int (iI (v))] (CP D cI cZ base st Z x0 x1 x2 x5 x6 x7 n came MV F G SP RF RC) (r) := by
  refine pu_of (cc := cX0_markAt) (maxL := 2) (ret := (some .int)) (own := RX0) (by decide) rfl rfl (Nat.le_of_ble_eq_true rfl) ?_
  intro p e s m below meth c ls B hCP hl
  obtain ⟨hx, hb, hml, hr, hts, hown, hlocks⟩ := B
  obtain ⟨⟨hK, hZL, ⟨hstb, xs, hXL, hAL⟩, hTW⟩, f, g, sp, rf, rc, hAf, hAg, hAsp, hArf, hArc, hP, hDb⟩ := id hCP
  have hl : lv_has ls 2 [(0, .ref x0), (1, .int (iI (v)))] := hl
  have hin : ∀ w ∈ u_ws RX0 TX0 8, w ∈ wsX0_markAt := by decide +kernel
  have q_marks := hts (.fieldLink RX0 13 "ShelfMarks" "marks" "[I") (by decide +kernel)
  refine lv_iload_n hx hb dX0_markAt_0 rfl (lv_at hl 1 rfl) ?_
  refine pv_if_ge (tgt := 6) hx hb dX0_markAt_1 (by decide) (by omega) (fun c_1 => ?_) (fun c_1 => ?_)
  · -- 1t
    refine lv_aload_n hx hb dX0_markAt_6 rfl (lv_at hl 0 rfl) ?_
    refine lv_iload_n hx hb dX0_markAt_7 rfl (lv_at hl 1 rfl) ?_
    by_cases hv9 : 0 ≤ v ∧ v < n
    · -- A
      refine pu_callV (As := [.int (iI (v))]) (rest := []) CP_mv ⟨hx, hb, hml, hown, hts⟩ (c_isPlace l D cI cZ base st Z x0 x1 x2 x5 x6 x7 hn v hv 1 (by unfold ip; rw [if_pos hv9])) (cwV 1 hts gX0_markAt_X0_isPlace rfl rfl rfl (by decide +kernel) ⟨(Nat.le_of_ble_eq_true rfl), (Nat.le_of_ble_eq_true rfl)⟩) hCP (CP_rc hCP) rfl rfl hl.1 (Nat.le_of_ble_eq_true rfl) dX0_markAt_8 ⟨Nat.zero_le _, Nat.zero_le _⟩ ?_
      refine pv_if_eq (tgt := 23) hx hb dX0_markAt_11 (by decide) (by omega) (fun c_11 => ?_) (fun c_11 => ?_)
      · exact absurd c_11 (by omega)
      · -- 11f
        refine lv_aload_n hx hb dX0_markAt_14 rfl (lv_at hl 0 rfl) ?_
        refine va_get (D := D) (ci := 0) (v := .ref x2) (C := RX0) (T := TX0) (N := 8) hx hb hts hin hown hK hP 0 rfl rfl 1 (by decide) q_marks (fun _ h9 => h9) rfl dX0_markAt_15 ?_
        refine lv_iload_n hx hb dX0_markAt_18 rfl (lv_at hl 1 rfl) ?_
        refine pv_iald (i := v) (v := G (v)) hx hb hK hP 2 0 rfl rfl (by omega) (by decide) (hAg _ (by omega) (by omega)) dX0_markAt_19 ?_
        refine lv_goto (tgt := 26) hx hb dX0_markAt_20 (by decide) ?_
        exact pu_iret hx hb hr hlocks dX0_markAt_26 (by rw [hr9]; unfold ma; rw [if_neg (by omega), if_pos hv9.2])
    · -- B
      refine pu_callV (As := [.int (iI (v))]) (rest := []) CP_mv ⟨hx, hb, hml, hown, hts⟩ (c_isPlace l D cI cZ base st Z x0 x1 x2 x5 x6 x7 hn v hv 0 (by unfold ip; rw [if_neg hv9])) (cwV 1 hts gX0_markAt_X0_isPlace rfl rfl rfl (by decide +kernel) ⟨(Nat.le_of_ble_eq_true rfl), (Nat.le_of_ble_eq_true rfl)⟩) hCP (CP_rc hCP) rfl rfl hl.1 (Nat.le_of_ble_eq_true rfl) dX0_markAt_8 ⟨Nat.zero_le _, Nat.zero_le _⟩ ?_
      refine pv_if_eq (tgt := 23) hx hb dX0_markAt_11 (by decide) (by omega) (fun c_11 => ?_) (fun c_11 => ?_)
      · -- 11t
        refine pv_sipush hx hb dX0_markAt_23 (by decide +kernel) ?_
        exact pu_iret hx hb hr hlocks dX0_markAt_26 (by rw [hr9]; unfold ma; rw [if_neg (by omega), if_neg (by omega)])
      · exact absurd c_11 (by omega)
  · -- 1f
    refine pv_iconst hx hb dX0_markAt_4 ?_
    exact pu_iret hx hb hr hlocks dX0_markAt_5 (by rw [hr9]; unfold ma; rw [if_pos c_1])
set_option maxHeartbeats 4000000 in
set_option maxRecDepth 100000 in
theorem c_marksBelow (l : Launch) (D : va_G) (cI cZ : ClassId) (base st : Nat) (Z : Nat → Nat) (x0 x1 x2 x5 x6 x7 : Nat) {n came MV : Int} {F G SP RF RC : Int → Int} (hn : 0 ≤ n ∧ n ≤ 60) (hG : ∀ k : Int, 0 ≤ k → k < n → 0 ≤ G k ∧ G k ≤ 255) (x : Int) (hxr : (-2147483648 ≤ x ∧ x ≤ 2147483647)) (r : Int) (hr9 : FI G n x r) : pu_M l yX0_marksBelow wsX0_marksBelow ({ frames := 0, cells := 0, slots := 0, locals := 0 } : Room) [.ref x0, .int (iI (x))] (CP D cI cZ base st Z x0 x1 x2 x5 x6 x7 n came MV F G SP RF RC) (r) := by
  refine pu_of (cc := cX0_marksBelow) (maxL := 3) (ret := (some .int)) (own := RX0) (by decide) rfl rfl (Nat.le_of_ble_eq_true rfl) ?_
  intro p e s m below meth c ls B hCP hl
  obtain ⟨hx, hb, hml, hr, hts, hown, hlocks⟩ := B
  obtain ⟨⟨hK, hZL, ⟨hstb, xs, hXL, hAL⟩, hTW⟩, f, g, sp, rf, rc, hAf, hAg, hAsp, hArf, hArc, hP, hDb⟩ := id hCP
  have hl : lv_has ls 3 [(0, .ref x0), (1, .int (iI (x)))] := hl
  have hin : ∀ w ∈ u_ws RX0 TX0 8, w ∈ wsX0_marksBelow := by decide +kernel
  have q_marks := hts (.fieldLink RX0 13 "ShelfMarks" "marks" "[I") (by decide +kernel)
  have q_count := hts (.fieldLink RX0 53 "ShelfMarks" "count" "I") (by decide +kernel)
  refine pv_iconst hx hb dX0_marksBelow_0 ?_
  refine lv_istore_n (lv' := [(2, .int (iI (0))), (0, .ref x0), (1, .int (iI (x)))]) hx hb dX0_marksBelow_1 rfl hl (by decide) rfl (fun ls hl => ?_)
  have hloop2 : ∀ (fuel : Nat) (i : Int) (ls : Array Slot), (n - i) < fuel → (0 ≤ i ∧ i ≤ n) → (∀ k : Int, 0 ≤ k → k < i → G k < x) → lv_has ls 3 [(0, .ref x0), (1, .int (iI (x))), (2, .int (iI (i)))] → W p l e ({ frames := 0, cells := 0, slots := 0, locals := 0 } : Room) s m ([.ref x0, .int (iI (x))] : List Value).toArray below meth c s.heap [] 0 0 (MQ below (pu_Q (r)) ([.ref x0, .int (iI (x))] : List Value).toArray s 0 0 (fun _ => False)) (F0 m 2 ls []) := by
    intro fuel
    induction fuel with
    | zero => intro i ls hfu hi hno hl; exfalso; omega
    | succ fuel ih =>
      intro i ls hfu hi hno hl
      refine lv_iload_n hx hb dX0_marksBelow_2 rfl (lv_at hl 2 rfl) ?_
      refine lv_aload_n hx hb dX0_marksBelow_3 rfl (lv_at hl 0 rfl) ?_
      refine va_get (D := D) (ci := 0) (v := .int (iI (n))) (C := RX0) (T := TX0) (N := 8) hx hb hts hin hown hK hP 0 rfl rfl 2 (by decide) q_count (fun _ h9 => h9) rfl dX0_marksBelow_4 ?_
      refine pv_icmp_ge (tgt := 35) hx hb dX0_marksBelow_7 (by decide) (by omega) (fun c_7 => ?_) (fun c_7 => ?_)
      · -- 7t
        refine lv_iload_n hx hb dX0_marksBelow_35 rfl (lv_at hl 2 rfl) ?_
        exact pu_iret hx hb hr hlocks dX0_marksBelow_36 (by exact FI_un (⟨by omega, hno, fun h => by omega⟩ : FI G n x i) hr9)
      · -- 7f
        refine lv_iload_n hx hb dX0_marksBelow_10 rfl (lv_at hl 2 rfl) ?_
        refine lv_aload_n hx hb dX0_marksBelow_11 rfl (lv_at hl 0 rfl) ?_
        refine va_get (D := D) (ci := 0) (v := .ref x2) (C := RX0) (T := TX0) (N := 8) hx hb hts hin hown hK hP 0 rfl rfl 1 (by decide) q_marks (fun _ h9 => h9) rfl dX0_marksBelow_12 ?_
        refine pv_alen (v := 60) hx hb hK hP 2 0 rfl rfl (show Int32.ofNat 60 = iI 60 by decide +kernel) dX0_marksBelow_15 ?_
        refine pv_icmp_ge (tgt := 35) hx hb dX0_marksBelow_16 (by decide) (by omega) (fun c_16 => ?_) (fun c_16 => ?_)
        · exfalso; omega
        · -- 16f
          refine lv_aload_n hx hb dX0_marksBelow_19 rfl (lv_at hl 0 rfl) ?_
          refine va_get (D := D) (ci := 0) (v := .ref x2) (C := RX0) (T := TX0) (N := 8) hx hb hts hin hown hK hP 0 rfl rfl 1 (by decide) q_marks (fun _ h9 => h9) rfl dX0_marksBelow_20 ?_
          refine lv_iload_n hx hb dX0_marksBelow_23 rfl (lv_at hl 2 rfl) ?_
          refine pv_iald (i := i) (v := G (i)) hx hb hK hP 2 0 rfl rfl (by omega) (by decide) (hAg _ (by omega) (by omega)) dX0_marksBelow_24 ?_
          have hgi := hG i (by omega) (by omega)
          refine lv_iload_n hx hb dX0_marksBelow_25 rfl (lv_at hl 1 rfl) ?_
          refine pv_icmp_ge (tgt := 35) hx hb dX0_marksBelow_26 (by decide) (by omega) (fun c_26 => ?_) (fun c_26 => ?_)
          · -- 26t
            refine lv_iload_n hx hb dX0_marksBelow_35 rfl (lv_at hl 2 rfl) ?_
            exact pu_iret hx hb hr hlocks dX0_marksBelow_36 (by exact FI_un (⟨by omega, hno, fun h => c_26⟩ : FI G n x i) hr9)
          · -- 26f
            refine pv_iinc (lv' := [(2, .int (iI (i + 1))), (0, .ref x0), (1, .int (iI (x)))]) hx hb dX0_marksBelow_29 hl (k := 2) rfl (by decide) rfl (fun ls hl => ?_)
            refine lv_goto (tgt := 2) hx hb dX0_marksBelow_32 (by decide) ?_
            exact ih (i + 1) ls (by omega) (by omega) (fun k h0 h1 => by rcases (show k < i ∨ k = i by omega) with h | h; exact hno k h0 h; rw [h]; exact c_26) (lv_sub hl [1, 2, 0] rfl)
  exact hloop2 ((n : Int).toNat + 1) (0) ls (by omega) (by omega) (fun k h0 h1 => absurd h1 (by omega)) (lv_sub hl [1, 2, 0] rfl)
set_option maxHeartbeats 4000000 in
set_option maxRecDepth 100000 in
theorem c_firstMark (l : Launch) (lv sh : Int) (hlv : 0 ≤ lv ∧ lv ≤ 30) (hsh : 0 ≤ sh) (hb9 : sh * 2 ^ lv.toNat ≤ 2147483647) (r : Int) (hr9 : r = sh * 2 ^ lv.toNat) : pu_M l yX0_firstMark wsX0_firstMark ({ frames := 0, cells := 0, slots := 0, locals := 0 } : Room) [.int (iI (lv)), .int (iI (sh))] TP (r) := by
  refine pu_of (cc := cX0_firstMark) (maxL := 2) (ret := (some .int)) (own := RX0) (by decide) rfl rfl (Nat.le_of_ble_eq_true rfl) ?_
  intro p e s m below meth c ls B hCP hl
  obtain ⟨hx, hb, hml, hr, hts, hown, hlocks⟩ := B
  have hl : lv_has ls 2 [(0, .int (iI (lv))), (1, .int (iI (sh)))] := hl
  refine lv_iload_n hx hb dX0_firstMark_0 rfl (lv_at hl 1 rfl) ?_
  refine lv_iload_n hx hb dX0_firstMark_1 rfl (lv_at hl 0 rfl) ?_
  refine pv_ishl hx hb dX0_firstMark_2 hsh hlv hb9 ?_
  exact pu_iret hx hb hr hlocks dX0_firstMark_3 (by exact hr9.symm)
set_option maxHeartbeats 4000000 in
set_option maxRecDepth 100000 in
theorem c_shelfSize (l : Launch) (lv : Int) (hlv : 0 ≤ lv ∧ lv ≤ 8) (r : Int) (hr9 : r = 2 ^ lv.toNat) : pu_M l yX0_shelfSize wsX0_shelfSize ({ frames := 0, cells := 0, slots := 0, locals := 0 } : Room) [.int (iI (lv))] TP (r) := by
  refine pu_of (cc := cX0_shelfSize) (maxL := 1) (ret := (some .int)) (own := RX0) (by decide) rfl rfl (Nat.le_of_ble_eq_true rfl) ?_
  intro p e s m below meth c ls B hCP hl
  obtain ⟨hx, hb, hml, hr, hts, hown, hlocks⟩ := B
  have hl : lv_has ls 1 [(0, .int (iI (lv)))] := hl
  refine pv_iconst hx hb dX0_shelfSize_0 ?_
  refine lv_iload_n hx hb dX0_shelfSize_1 rfl (lv_at hl 0 rfl) ?_
  have hp2 := p2_rg hlv
  refine pv_ishl hx hb dX0_shelfSize_2 (by omega) (by omega) (by omega) ?_
  exact pu_iret hx hb hr hlocks dX0_shelfSize_3 (by rw [hr9]; omega)
set_option maxHeartbeats 4000000 in
set_option maxRecDepth 100000 in
theorem c_shelvesOf (l : Launch) (lv : Int) (hlv : 0 ≤ lv ∧ lv ≤ 8) (r : Int) (hr9 : r = 256 / 2 ^ lv.toNat) : pu_M l yX0_shelvesOf wsX0_shelvesOf ({ frames := 0, cells := 0, slots := 0, locals := 0 } : Room) [.int (iI (lv))] TP (r) := by
  refine pu_of (cc := cX0_shelvesOf) (maxL := 1) (ret := (some .int)) (own := RX0) (by decide) rfl rfl (Nat.le_of_ble_eq_true rfl) ?_
  intro p e s m below meth c ls B hCP hl
  obtain ⟨hx, hb, hml, hr, hts, hown, hlocks⟩ := B
  have hl : lv_has ls 1 [(0, .int (iI (lv)))] := hl
  refine pv_sipush hx hb dX0_shelvesOf_0 (by decide +kernel) ?_
  refine lv_iload_n hx hb dX0_shelvesOf_3 rfl (lv_at hl 0 rfl) ?_
  refine pv_ishr hx hb dX0_shelvesOf_4 (by omega) (by omega) ?_
  exact pu_iret hx hb hr hlocks dX0_shelvesOf_5 (by rw [hr9])
set_option maxHeartbeats 4000000 in
set_option maxRecDepth 100000 in
theorem c_foldersOn (l : Launch) (D : va_G) (cI cZ : ClassId) (base st : Nat) (Z : Nat → Nat) (x0 x1 x2 x5 x6 x7 : Nat) {n came MV : Int} {F G SP RF RC : Int → Int} (hn : 0 ≤ n ∧ n ≤ 60) (hG : ∀ k : Int, 0 ≤ k → k < n → 0 ≤ G k ∧ G k ≤ 255) (hs : SD G n) (lv sh : Int) (hlv : 0 ≤ lv ∧ lv ≤ 8) (hsh : 0 ≤ sh) (hb9 : sh * 2 ^ lv.toNat ≤ 65536 ∧ (sh + 1) * 2 ^ lv.toNat ≤ 65536 ∧ 0 ≤ sh * 2 ^ lv.toNat ∧ 0 ≤ (sh + 1) * 2 ^ lv.toNat) (r : Int) (hr9 : r = ldn G n lv sh) : pu_M l yX0_foldersOn wsX0_foldersOn ({ frames := 1, cells := 0, slots := 0, locals := 22 } : Room) [.ref x0, .int (iI (lv)), .int (iI (sh))] (CP D cI cZ base st Z x0 x1 x2 x5 x6 x7 n came MV F G SP RF RC) (r) := by
  refine pu_of (cc := cX0_foldersOn) (maxL := 3) (ret := (some .int)) (own := RX0) (by decide) rfl rfl (Nat.le_of_ble_eq_true rfl) ?_
  intro p e s m below meth c ls B hCP hl
  obtain ⟨hx, hb, hml, hr, hts, hown, hlocks⟩ := B
  obtain ⟨⟨hK, hZL, ⟨hstb, xs, hXL, hAL⟩, hTW⟩, f, g, sp, rf, rc, hAf, hAg, hAsp, hArf, hArc, hP, hDb⟩ := id hCP
  have hl : lv_has ls 3 [(0, .ref x0), (1, .int (iI (lv))), (2, .int (iI (sh)))] := hl
  refine lv_aload_n hx hb dX0_foldersOn_0 rfl (lv_at hl 0 rfl) ?_
  refine lv_iload_n hx hb dX0_foldersOn_1 rfl (lv_at hl 1 rfl) ?_
  refine lv_iload_n hx hb dX0_foldersOn_2 rfl (lv_at hl 2 rfl) ?_
  refine pv_iconst hx hb dX0_foldersOn_3 ?_
  refine pv_iadd hx hb dX0_foldersOn_4 ?_
  refine pu_callS (As := [.int (iI (lv)), .int (iI ((sh) + (1)))]) (rest := [.ref x0]) TP_mv ⟨hx, hb, hml, hown, hts⟩ (c_firstMark l lv (sh + 1) (by omega) (by omega) (by omega) _ rfl) (va_cwS 2 hts gX0_foldersOn_X0_firstMark rfl rfl rfl (by decide +kernel) ⟨(Nat.le_of_ble_eq_true rfl), (Nat.le_of_ble_eq_true rfl)⟩) trivial rfl rfl hl.1 (Nat.le_of_ble_eq_true rfl) dX0_foldersOn_5 ⟨Nat.zero_le _, Nat.zero_le _⟩ ?_
  refine pu_callV (As := [.int (iI ((sh + 1) * 2 ^ lv.toNat))]) (rest := []) CP_mv ⟨hx, hb, hml, hown, hts⟩ (c_marksBelow l D cI cZ base st Z x0 x1 x2 x5 x6 x7 hn hG _ (by omega) _ (mb_FI _ hn.1 hs)) (cwV 1 hts gX0_foldersOn_X0_marksBelow rfl rfl rfl (by decide +kernel) ⟨(Nat.le_of_ble_eq_true rfl), (Nat.le_of_ble_eq_true rfl)⟩) hCP (CP_rc hCP) rfl rfl hl.1 (Nat.le_of_ble_eq_true rfl) dX0_foldersOn_8 ⟨Nat.zero_le _, Nat.zero_le _⟩ ?_
  refine lv_aload_n hx hb dX0_foldersOn_11 rfl (lv_at hl 0 rfl) ?_
  refine lv_iload_n hx hb dX0_foldersOn_12 rfl (lv_at hl 1 rfl) ?_
  refine lv_iload_n hx hb dX0_foldersOn_13 rfl (lv_at hl 2 rfl) ?_
  refine pu_callS (As := [.int (iI (lv)), .int (iI (sh))]) (rest := [.ref x0, .int (iI (mb G n ((sh + 1) * 2 ^ lv.toNat)))]) TP_mv ⟨hx, hb, hml, hown, hts⟩ (c_firstMark l lv sh (by omega) hsh (by omega) _ rfl) (va_cwS 2 hts gX0_foldersOn_X0_firstMark rfl rfl rfl (by decide +kernel) ⟨(Nat.le_of_ble_eq_true rfl), (Nat.le_of_ble_eq_true rfl)⟩) trivial rfl rfl hl.1 (Nat.le_of_ble_eq_true rfl) dX0_foldersOn_14 ⟨Nat.zero_le _, Nat.zero_le _⟩ ?_
  refine pu_callV (As := [.int (iI (sh * 2 ^ lv.toNat))]) (rest := [.int (iI (mb G n ((sh + 1) * 2 ^ lv.toNat)))]) CP_mv ⟨hx, hb, hml, hown, hts⟩ (c_marksBelow l D cI cZ base st Z x0 x1 x2 x5 x6 x7 hn hG _ (by omega) _ (mb_FI _ hn.1 hs)) (cwV 1 hts gX0_foldersOn_X0_marksBelow rfl rfl rfl (by decide +kernel) ⟨(Nat.le_of_ble_eq_true rfl), (Nat.le_of_ble_eq_true rfl)⟩) hCP (CP_rc hCP) rfl rfl hl.1 (Nat.le_of_ble_eq_true rfl) dX0_foldersOn_17 ⟨Nat.zero_le _, Nat.zero_le _⟩ ?_
  refine pv_isub hx hb dX0_foldersOn_20 ?_
  exact pu_iret hx hb hr hlocks dX0_foldersOn_21 (by rw [hr9]; rfl)
set_option maxHeartbeats 4000000 in
set_option maxRecDepth 100000 in
theorem c_isLoaded (l : Launch) (D : va_G) (cI cZ : ClassId) (base st : Nat) (Z : Nat → Nat) (x0 x1 x2 x5 x6 x7 : Nat) {n came MV : Int} {F G SP RF RC : Int → Int} (hn : 0 ≤ n ∧ n ≤ 60) (hG : ∀ k : Int, 0 ≤ k → k < n → 0 ≤ G k ∧ G k ≤ 255) (hs : SD G n) (lv sh : Int) (hlv : 0 ≤ lv ∧ lv ≤ 8) (hsh : 0 ≤ sh) (hb9 : sh * 2 ^ lv.toNat ≤ 65536 ∧ (sh + 1) * 2 ^ lv.toNat ≤ 65536 ∧ 0 ≤ sh * 2 ^ lv.toNat ∧ 0 ≤ (sh + 1) * 2 ^ lv.toNat) (r : Int) (hr9 : r = if LM lv ≤ ldn G n lv sh then 1 else 0) : pu_M l yX0_isLoaded wsX0_isLoaded ({ frames := 2, cells := 0, slots := 0, locals := 44 } : Room) [.ref x0, .int (iI (lv)), .int (iI (sh))] (CP D cI cZ base st Z x0 x1 x2 x5 x6 x7 n came MV F G SP RF RC) (r) := by
  refine pu_of (cc := cX0_isLoaded) (maxL := 3) (ret := (some .boolean)) (own := RX0) (by decide) rfl rfl (Nat.le_of_ble_eq_true rfl) ?_
  intro p e s m below meth c ls B hCP hl
  obtain ⟨hx, hb, hml, hr, hts, hown, hlocks⟩ := B
  obtain ⟨⟨hK, hZL, ⟨hstb, xs, hXL, hAL⟩, hTW⟩, f, g, sp, rf, rc, hAf, hAg, hAsp, hArf, hArc, hP, hDb⟩ := id hCP
  have hl : lv_has ls 3 [(0, .ref x0), (1, .int (iI (lv))), (2, .int (iI (sh)))] := hl
  have q_LF := hts (.fieldLink RX0 16 "ShelfMarks" "LOADED_FROM" "[I") (by decide +kernel)
  have hz9 : r = 0 ∨ r = 1 := by rw [hr9]; split <;> omega
  refine lv_iload_n hx hb dX0_isLoaded_0 rfl (lv_at hl 1 rfl) ?_
  refine pv_if_lt (tgt := 30) hx hb dX0_isLoaded_1 (by decide) (by omega) (fun c_1 => ?_) (fun c_1 => ?_)
  · exfalso; omega
  · -- 1f
    refine lv_iload_n hx hb dX0_isLoaded_4 rfl (lv_at hl 1 rfl) ?_
    refine va_gets (A := fun q => base ≤ q) hx hb hZL va_S.rf hown q_LF (fun _ h => h) dX0_isLoaded_5 ?_
    refine pv_xlen (v := 9) hx hb hXL (by decide +kernel) dX0_isLoaded_8 ?_
    refine pv_icmp_ge (tgt := 30) hx hb dX0_isLoaded_9 (by decide) (by omega) (fun c_9 => ?_) (fun c_9 => ?_)
    · exfalso; omega
    · -- 9f
      refine lv_aload_n hx hb dX0_isLoaded_12 rfl (lv_at hl 0 rfl) ?_
      refine lv_iload_n hx hb dX0_isLoaded_13 rfl (lv_at hl 1 rfl) ?_
      refine lv_iload_n hx hb dX0_isLoaded_14 rfl (lv_at hl 2 rfl) ?_
      have hp2 := p2_rg hlv
      have hld := ldn_rg (lv := lv) (sh := sh) hn hs (by have := Int.mul_le_mul_of_nonneg_right (show sh ≤ sh + 1 by omega) (show (0 : Int) ≤ 2 ^ lv.toNat by omega); exact this)
      refine pu_callV (As := [.int (iI (lv)), .int (iI (sh))]) (rest := []) CP_mv ⟨hx, hb, hml, hown, hts⟩ (c_foldersOn l D cI cZ base st Z x0 x1 x2 x5 x6 x7 hn hG hs lv sh hlv hsh hb9 _ rfl) (cwV 2 hts gX0_isLoaded_X0_foldersOn rfl rfl rfl (by decide +kernel) ⟨(Nat.le_of_ble_eq_true rfl), (Nat.le_of_ble_eq_true rfl)⟩) hCP (CP_rc hCP) rfl rfl hl.1 (Nat.le_of_ble_eq_true rfl) dX0_isLoaded_15 ⟨Nat.zero_le _, Nat.zero_le _⟩ ?_
      refine va_gets (A := fun q => base ≤ q) hx hb hZL va_S.rf hown q_LF (fun _ h => h) dX0_isLoaded_18 ?_
      refine lv_iload_n hx hb dX0_isLoaded_21 rfl (lv_at hl 1 rfl) ?_
      refine pv_xld (i := lv) (v := LM (lv)) hx hb hXL (by omega) (by decide) (hAL _ (by omega) (by omega)) dX0_isLoaded_22 ?_
      have hlm := LM_rg lv
      refine pv_icmp_lt (tgt := 30) hx hb dX0_isLoaded_23 (by decide) (by omega) (fun c_23 => ?_) (fun c_23 => ?_)
      · -- 23t
        refine pv_iconst hx hb dX0_isLoaded_30 ?_
        exact pu_zret hx hb hr hlocks dX0_isLoaded_31 (by rw [hr9, if_neg (by omega)]) hz9
      · -- 23f
        refine pv_iconst hx hb dX0_isLoaded_26 ?_
        refine lv_goto (tgt := 31) hx hb dX0_isLoaded_27 (by decide) ?_
        exact pu_zret hx hb hr hlocks dX0_isLoaded_31 (by rw [hr9, if_pos (by omega)]) hz9
set_option maxHeartbeats 4000000 in
set_option maxRecDepth 100000 in
theorem c_shelfToSpread (l : Launch) (D : va_G) (cI cZ : ClassId) (base st : Nat) (Z : Nat → Nat) (x0 x1 x2 x5 x6 x7 : Nat) {n came MV : Int} {F G SP RF RC : Int → Int} (hn : 0 ≤ n ∧ n ≤ 60) (hG : ∀ k : Int, 0 ≤ k → k < n → 0 ≤ G k ∧ G k ≤ 255) (q : Int) (hq : 0 ≤ q ∧ q ≤ n) (lv : Int) (hlv : 0 ≤ lv ∧ lv ≤ 8) (a0 : Int) (ha0 : a0 = if ma G n (q - 1) < 0 then 0 else ma G n (q - 1)) (hqn : q ≤ n) (r : Int) (hr9 : r = a0 / 2 ^ lv.toNat) : pu_M l yX0_shelfToSpread wsX0_shelfToSpread ({ frames := 2, cells := 0, slots := 0, locals := 42 } : Room) [.ref x0, .int (iI (q)), .int (iI (lv))] (CP D cI cZ base st Z x0 x1 x2 x5 x6 x7 n came MV F G SP RF RC) (r) := by
  refine pu_of (cc := cX0_shelfToSpread) (maxL := 3) (ret := (some .int)) (own := RX0) (by decide) rfl rfl (Nat.le_of_ble_eq_true rfl) ?_
  intro p e s m below meth c ls B hCP hl
  obtain ⟨hx, hb, hml, hr, hts, hown, hlocks⟩ := B
  obtain ⟨⟨hK, hZL, ⟨hstb, xs, hXL, hAL⟩, hTW⟩, f, g, sp, rf, rc, hAf, hAg, hAsp, hArf, hArc, hP, hDb⟩ := id hCP
  have hl : lv_has ls 3 [(0, .ref x0), (1, .int (iI (q))), (2, .int (iI (lv)))] := hl
  refine lv_aload_n hx hb dX0_shelfToSpread_0 rfl (lv_at hl 0 rfl) ?_
  refine lv_iload_n hx hb dX0_shelfToSpread_1 rfl (lv_at hl 1 rfl) ?_
  refine pv_iconst hx hb dX0_shelfToSpread_2 ?_
  refine pv_isub hx hb dX0_shelfToSpread_3 ?_
  have hma : -1 ≤ ma G n (q - 1) ∧ ma G n (q - 1) ≤ 256 := ma_rg hG (q - 1)
  refine pu_callV (As := [.int (iI ((q) - (1)))]) (rest := []) CP_mv ⟨hx, hb, hml, hown, hts⟩ (c_markAt l D cI cZ base st Z x0 x1 x2 x5 x6 x7 hn (q - 1) (by omega) _ rfl) (cwV 1 hts gX0_shelfToSpread_X0_markAt rfl rfl rfl (by decide +kernel) ⟨(Nat.le_of_ble_eq_true rfl), (Nat.le_of_ble_eq_true rfl)⟩) hCP (CP_rc hCP) rfl rfl hl.1 (Nat.le_of_ble_eq_true rfl) dX0_shelfToSpread_4 ⟨Nat.zero_le _, Nat.zero_le _⟩ ?_
  refine pv_iconst hx hb dX0_shelfToSpread_7 ?_
  refine va_mmax hx hb (hml.trans hl.1.symm) hown (hts (.methodLink RX0 151 Lib.Math.max.name) (by decide +kernel)) (hts (.static Lib.Math.max.name) (by decide +kernel)) (hts (.initialized "java/lang/Math") (by decide +kernel)) (hts (.code Lib.Math.max.name Lib.Math.max.code 2 (some .int)) (by decide +kernel)) (Nat.le_of_ble_eq_true rfl) (Nat.le_of_ble_eq_true rfl) (Nat.zero_le _) (Nat.zero_le _) dX0_shelfToSpread_8 ?_
  rw [show (if iI (ma G n (q - 1)) < iI (0) then iI (0) else iI (ma G n (q - 1))) = iI (a0) from by rw [ha0]; split <;> rename_i h; (rw [if_pos ((iI_lt (by omega) (by omega)).mp h)]); (rw [if_neg (fun z => h ((iI_lt (by omega) (by omega)).mpr z))])]
  refine lv_iload_n hx hb dX0_shelfToSpread_11 rfl (lv_at hl 2 rfl) ?_
  refine pv_ishr hx hb dX0_shelfToSpread_12 (by rw [ha0]; split <;> omega) (by omega) ?_
  exact pu_iret hx hb hr hlocks dX0_shelfToSpread_13 (by rw [hr9])
set_option maxHeartbeats 4000000 in
set_option maxRecDepth 100000 in
theorem c_levelToSpread (l : Launch) (D : va_G) (cI cZ : ClassId) (base st : Nat) (Z : Nat → Nat) (x0 x1 x2 x5 x6 x7 : Nat) {n came MV : Int} {F G SP RF RC : Int → Int} (hn : 0 ≤ n ∧ n ≤ 60) (hG : ∀ k : Int, 0 ≤ k → k < n → 0 ≤ G k ∧ G k ≤ 255) (hs : SD G n) (q : Int) (hq : 0 ≤ q ∧ q ≤ n) (a0 : Int) (ha0 : a0 = if ma G n (q - 1) < 0 then 0 else ma G n (q - 1)) (har : 0 ≤ a0 ∧ a0 ≤ 255) (r : Int) (hr9 : LV G n a0 r) : pu_M l yX0_levelToSpread wsX0_levelToSpread ({ frames := 3, cells := 0, slots := 0, locals := 66 } : Room) [.ref x0, .int (iI (q))] (CP D cI cZ base st Z x0 x1 x2 x5 x6 x7 n came MV F G SP RF RC) (r) := by
  refine pu_of (cc := cX0_levelToSpread) (maxL := 4) (ret := (some .int)) (own := RX0) (by decide) rfl rfl (Nat.le_of_ble_eq_true rfl) ?_
  intro p e s m below meth c ls B hCP hl
  obtain ⟨hx, hb, hml, hr, hts, hown, hlocks⟩ := B
  obtain ⟨⟨hK, hZL, ⟨hstb, xs, hXL, hAL⟩, hTW⟩, f, g, sp, rf, rc, hAf, hAg, hAsp, hArf, hArc, hP, hDb⟩ := id hCP
  have hl : lv_has ls 4 [(0, .ref x0), (1, .int (iI (q)))] := hl
  have q_LF := hts (.fieldLink RX0 16 "ShelfMarks" "LOADED_FROM" "[I") (by decide +kernel)
  refine va_gets (A := fun q => base ≤ q) hx hb hZL va_S.rf hown q_LF (fun _ h => h) dX0_levelToSpread_0 ?_
  refine pv_xlen (v := 9) hx hb hXL (by decide +kernel) dX0_levelToSpread_3 ?_
  refine pv_iconst hx hb dX0_levelToSpread_4 ?_
  refine pv_isub hx hb dX0_levelToSpread_5 ?_
  rw [show iI ((9) - (1)) = iI (8) from congrArg iI ((by decide))]
  refine lv_istore_n (lv' := [(2, .int (iI (8))), (0, .ref x0), (1, .int (iI (q)))]) hx hb dX0_levelToSpread_6 rfl hl (by decide) rfl (fun ls hl => ?_)
  refine pv_iconst hx hb dX0_levelToSpread_7 ?_
  refine lv_istore_n (lv' := [(3, .int (iI (1))), (2, .int (iI (8))), (0, .ref x0), (1, .int (iI (q)))]) hx hb dX0_levelToSpread_8 rfl hl (by decide) rfl (fun ls hl => ?_)
  have hloop9 : ∀ (fuel : Nat) (j : Int) (ls : Array Slot), (8 - j) < fuel → (1 ≤ j ∧ j ≤ 8) → (∀ i : Int, 1 ≤ i → i < j → LM i ≤ ldn G n i (a0 / 2 ^ i.toNat)) → lv_has ls 4 [(0, .ref x0), (1, .int (iI (q))), (2, .int (iI (8))), (3, .int (iI (j)))] → W p l e ({ frames := 3, cells := 0, slots := 0, locals := 66 } : Room) s m ([.ref x0, .int (iI (q))] : List Value).toArray below meth c s.heap [] 0 0 (MQ below (pu_Q (r)) ([.ref x0, .int (iI (q))] : List Value).toArray s 0 0 (fun _ => False)) (F0 m 9 ls []) := by
    intro fuel
    induction fuel with
    | zero => intro j ls hfu hj hld hl; exfalso; omega
    | succ fuel ih =>
      intro j ls hfu hj hld hl
      refine lv_iload_n hx hb dX0_levelToSpread_9 rfl (lv_at hl 3 rfl) ?_
      refine lv_iload_n hx hb dX0_levelToSpread_10 rfl (lv_at hl 2 rfl) ?_
      refine pv_icmp_ge (tgt := 34) hx hb dX0_levelToSpread_11 (by decide) (by omega) (fun c_11 => ?_) (fun c_11 => ?_)
      · -- 11t
        refine lv_iload_n hx hb dX0_levelToSpread_34 rfl (lv_at hl 3 rfl) ?_
        exact pu_iret hx hb hr hlocks dX0_levelToSpread_35 (by obtain ⟨h1, h2, h3⟩ := hr9; rcases (show r < 8 ∨ r = 8 by omega) with h | h; have := hld r h1.1 (by omega); have := h3 h; omega; omega)
      · -- 11f
        refine lv_aload_n hx hb dX0_levelToSpread_14 rfl (lv_at hl 0 rfl) ?_
        refine lv_iload_n hx hb dX0_levelToSpread_15 rfl (lv_at hl 3 rfl) ?_
        refine lv_aload_n hx hb dX0_levelToSpread_16 rfl (lv_at hl 0 rfl) ?_
        refine lv_iload_n hx hb dX0_levelToSpread_17 rfl (lv_at hl 1 rfl) ?_
        refine lv_iload_n hx hb dX0_levelToSpread_18 rfl (lv_at hl 3 rfl) ?_
        have hsb := sh_b (lv := j) har (by omega)
        refine pu_callV (As := [.int (iI (q)), .int (iI (j))]) (rest := [.int (iI (j)), .ref x0]) CP_mv ⟨hx, hb, hml, hown, hts⟩ (c_shelfToSpread l D cI cZ base st Z x0 x1 x2 x5 x6 x7 hn hG q hq j (by omega) a0 ha0 hq.2 _ rfl) (cwV 2 hts gX0_levelToSpread_X0_shelfToSpread rfl rfl rfl (by decide +kernel) ⟨(Nat.le_of_ble_eq_true rfl), (Nat.le_of_ble_eq_true rfl)⟩) hCP (CP_rc hCP) rfl rfl hl.1 (Nat.le_of_ble_eq_true rfl) dX0_levelToSpread_19 ⟨Nat.zero_le _, Nat.zero_le _⟩ ?_
        by_cases hv9 : LM j ≤ ldn G n j (a0 / 2 ^ j.toNat)
        · -- A
          refine pu_callV (As := [.int (iI (j)), .int (iI (a0 / 2 ^ j.toNat))]) (rest := []) CP_mv ⟨hx, hb, hml, hown, hts⟩ (c_isLoaded l D cI cZ base st Z x0 x1 x2 x5 x6 x7 hn hG hs j _ (by omega) hsb.1 ⟨by omega, by omega, by omega, by omega⟩ 1 (by rw [if_pos hv9])) (cwV 2 hts gX0_levelToSpread_X0_isLoaded rfl rfl rfl (by decide +kernel) ⟨(Nat.le_of_ble_eq_true rfl), (Nat.le_of_ble_eq_true rfl)⟩) hCP (CP_rc hCP) rfl rfl hl.1 (Nat.le_of_ble_eq_true rfl) dX0_levelToSpread_22 ⟨Nat.zero_le _, Nat.zero_le _⟩ ?_
          refine pv_if_eq (tgt := 34) hx hb dX0_levelToSpread_25 (by decide) (by omega) (fun c_25 => ?_) (fun c_25 => ?_)
          · exact absurd c_25 (by omega)
          · -- 25f
            refine pv_iinc (lv' := [(3, .int (iI (j + 1))), (0, .ref x0), (1, .int (iI (q))), (2, .int (iI (8)))]) hx hb dX0_levelToSpread_28 hl (k := 3) rfl (by decide) rfl (fun ls hl => ?_)
            refine lv_goto (tgt := 9) hx hb dX0_levelToSpread_31 (by decide) ?_
            exact ih (j + 1) ls (by omega) (by omega) (fun k h0 h1 => by rcases (show k < j ∨ k = j by omega) with h | h; exact hld k h0 h; rw [h]; exact hv9) (lv_sub hl [1, 2, 3, 0] rfl)
        · -- B
          refine pu_callV (As := [.int (iI (j)), .int (iI (a0 / 2 ^ j.toNat))]) (rest := []) CP_mv ⟨hx, hb, hml, hown, hts⟩ (c_isLoaded l D cI cZ base st Z x0 x1 x2 x5 x6 x7 hn hG hs j _ (by omega) hsb.1 ⟨by omega, by omega, by omega, by omega⟩ 0 (by rw [if_neg hv9])) (cwV 2 hts gX0_levelToSpread_X0_isLoaded rfl rfl rfl (by decide +kernel) ⟨(Nat.le_of_ble_eq_true rfl), (Nat.le_of_ble_eq_true rfl)⟩) hCP (CP_rc hCP) rfl rfl hl.1 (Nat.le_of_ble_eq_true rfl) dX0_levelToSpread_22 ⟨Nat.zero_le _, Nat.zero_le _⟩ ?_
          refine pv_if_eq (tgt := 34) hx hb dX0_levelToSpread_25 (by decide) (by omega) (fun c_25 => ?_) (fun c_25 => ?_)
          · -- 25t
            refine lv_iload_n hx hb dX0_levelToSpread_34 rfl (lv_at hl 3 rfl) ?_
            exact pu_iret hx hb hr hlocks dX0_levelToSpread_35 (by obtain ⟨h1, h2, h3⟩ := hr9; rcases (show r < j ∨ j < r ∨ j = r by omega) with h | h | h; have := hld r h1.1 h; have := h3 (by omega); omega; have := h2 j (by omega) h; omega; exact h)
          · exact absurd c_25 (by omega)
  exact hloop9 ((8 : Int).toNat + 1) (1) ls (by omega) (by omega) (fun k h0 h1 => absurd h1 (by omega)) (lv_sub hl [2, 3, 1, 0] rfl)
set_option maxHeartbeats 4000000 in
set_option maxRecDepth 100000 in
theorem c_spreadMark (l : Launch) (lv sh i t : Int) (hlv : 0 ≤ lv ∧ lv ≤ 8) (hsh : 0 ≤ sh) (hb9 : sh * 2 ^ lv.toNat ≤ 65536) (hi : 0 ≤ i ∧ i ≤ 100) (ht : 1 ≤ t ∧ t ≤ 100) (r : Int) (hr9 : r = nm (sh * 2 ^ lv.toNat) (2 ^ lv.toNat) t i) : pu_M l yX0_spreadMark wsX0_spreadMark ({ frames := 1, cells := 0, slots := 0, locals := 21 } : Room) [.int (iI (lv)), .int (iI (sh)), .int (iI (i)), .int (iI (t))] TP (r) := by
  refine pu_of (cc := cX0_spreadMark) (maxL := 5) (ret := (some .int)) (own := RX0) (by decide) rfl rfl (Nat.le_of_ble_eq_true rfl) ?_
  intro p e s m below meth c ls B hCP hl
  obtain ⟨hx, hb, hml, hr, hts, hown, hlocks⟩ := B
  have hl : lv_has ls 5 [(0, .int (iI (lv))), (1, .int (iI (sh))), (2, .int (iI (i))), (3, .int (iI (t)))] := hl
  refine lv_iload_n hx hb dX0_spreadMark_0 rfl (lv_at hl 3 rfl) ?_
  refine pv_if_le (tgt := 15) hx hb dX0_spreadMark_1 (by decide) (by omega) (fun c_1 => ?_) (fun c_1 => ?_)
  · exfalso; omega
  · -- 1f
    refine lv_iload_n hx hb dX0_spreadMark_4 rfl (lv_at hl 2 rfl) ?_
    refine lv_iload_n hx hb dX0_spreadMark_5 rfl (lv_at hl 0 rfl) ?_
    refine pu_callS (As := [.int (iI (lv))]) (rest := [.int (iI (i))]) TP_mv ⟨hx, hb, hml, hown, hts⟩ (c_shelfSize l lv hlv _ rfl) (va_cwS 1 hts gX0_spreadMark_X0_shelfSize rfl rfl rfl (by decide +kernel) ⟨(Nat.le_of_ble_eq_true rfl), (Nat.le_of_ble_eq_true rfl)⟩) trivial rfl rfl hl.1 (Nat.le_of_ble_eq_true rfl) dX0_spreadMark_6 ⟨Nat.zero_le _, Nat.zero_le _⟩ ?_
    refine pv_imul hx hb dX0_spreadMark_9 ?_
    refine lv_iload_n hx hb dX0_spreadMark_10 rfl (lv_at hl 3 rfl) ?_
    have hp2 := p2_rg hlv
    have hmul := mul_b hi (show 0 ≤ (2 : Int) ^ lv.toNat ∧ (2 : Int) ^ lv.toNat ≤ 256 by omega)
    refine pv_idiv hx hb dX0_spreadMark_11 (by omega) (by omega) ?_
    refine lv_goto (tgt := 16) hx hb dX0_spreadMark_12 (by decide) ?_
    refine lv_istore (lv' := [(4, .int (iI (((i) * (2 ^ lv.toNat)) / (t)))), (0, .int (iI (lv))), (1, .int (iI (sh))), (2, .int (iI (i))), (3, .int (iI (t)))]) hx hb dX0_spreadMark_16 hl (by decide) rfl (fun ls hl => ?_)
    refine lv_iload_n hx hb dX0_spreadMark_18 rfl (lv_at hl 1 rfl) ?_
    refine lv_iload_n hx hb dX0_spreadMark_19 rfl (lv_at hl 2 rfl) ?_
    refine pu_callS (As := [.int (iI (lv)), .int (iI (sh))]) (rest := []) TP_mv ⟨hx, hb, hml, hown, hts⟩ (c_firstMark l lv sh (by omega) hsh (by omega) _ rfl) (va_cwS 2 hts gX0_spreadMark_X0_firstMark rfl rfl rfl (by decide +kernel) ⟨(Nat.le_of_ble_eq_true rfl), (Nat.le_of_ble_eq_true rfl)⟩) trivial rfl rfl hl.1 (Nat.le_of_ble_eq_true rfl) dX0_spreadMark_20 ⟨Nat.zero_le _, Nat.zero_le _⟩ ?_
    refine lv_iload hx hb dX0_spreadMark_23 (lv_at hl 0 rfl) ?_
    refine pv_iadd hx hb dX0_spreadMark_25 ?_
    exact pu_iret hx hb hr hlocks dX0_spreadMark_26 (by rw [hr9]; rfl)
set_option maxHeartbeats 4000000 in
set_option maxRecDepth 100000 in
theorem c_hasFreeMark (l : Launch) (D : va_G) (cI cZ : ClassId) (base st : Nat) (Z : Nat → Nat) (x0 x1 x2 x5 x6 x7 : Nat) {n came MV : Int} {F G SP RF RC : Int → Int} (hn : 0 ≤ n ∧ n ≤ 60) (hG : ∀ k : Int, 0 ≤ k → k < n → 0 ≤ G k ∧ G k ≤ 255) (q : Int) (hq : 0 ≤ q ∧ q ≤ n) (r : Int) (hr9 : r = if 2 ≤ ma G n q - ma G n (q - 1) then 1 else 0) : pu_M l yX0_hasFreeMark wsX0_hasFreeMark ({ frames := 2, cells := 0, slots := 0, locals := 42 } : Room) [.ref x0, .int (iI (q))] (CP D cI cZ base st Z x0 x1 x2 x5 x6 x7 n came MV F G SP RF RC) (r) := by
  refine pu_of (cc := cX0_hasFreeMark) (maxL := 2) (ret := (some .boolean)) (own := RX0) (by decide) rfl rfl (Nat.le_of_ble_eq_true rfl) ?_
  intro p e s m below meth c ls B hCP hl
  obtain ⟨hx, hb, hml, hr, hts, hown, hlocks⟩ := B
  obtain ⟨⟨hK, hZL, ⟨hstb, xs, hXL, hAL⟩, hTW⟩, f, g, sp, rf, rc, hAf, hAg, hAsp, hArf, hArc, hP, hDb⟩ := id hCP
  have hl : lv_has ls 2 [(0, .ref x0), (1, .int (iI (q)))] := hl
  have hz9 : r = 0 ∨ r = 1 := by rw [hr9]; split <;> omega
  refine lv_aload_n hx hb dX0_hasFreeMark_0 rfl (lv_at hl 0 rfl) ?_
  refine lv_iload_n hx hb dX0_hasFreeMark_1 rfl (lv_at hl 1 rfl) ?_
  have hm1 := ma_rg hG q
  have hm2 := ma_rg hG (q - 1)
  refine pu_callV (As := [.int (iI (q))]) (rest := []) CP_mv ⟨hx, hb, hml, hown, hts⟩ (c_markAt l D cI cZ base st Z x0 x1 x2 x5 x6 x7 hn q (by omega) _ rfl) (cwV 1 hts gX0_hasFreeMark_X0_markAt rfl rfl rfl (by decide +kernel) ⟨(Nat.le_of_ble_eq_true rfl), (Nat.le_of_ble_eq_true rfl)⟩) hCP (CP_rc hCP) rfl rfl hl.1 (Nat.le_of_ble_eq_true rfl) dX0_hasFreeMark_2 ⟨Nat.zero_le _, Nat.zero_le _⟩ ?_
  refine lv_aload_n hx hb dX0_hasFreeMark_5 rfl (lv_at hl 0 rfl) ?_
  refine lv_iload_n hx hb dX0_hasFreeMark_6 rfl (lv_at hl 1 rfl) ?_
  refine pv_iconst hx hb dX0_hasFreeMark_7 ?_
  refine pv_isub hx hb dX0_hasFreeMark_8 ?_
  refine pu_callV (As := [.int (iI ((q) - (1)))]) (rest := [.int (iI (ma G n q))]) CP_mv ⟨hx, hb, hml, hown, hts⟩ (c_markAt l D cI cZ base st Z x0 x1 x2 x5 x6 x7 hn (q - 1) (by omega) _ rfl) (cwV 1 hts gX0_hasFreeMark_X0_markAt rfl rfl rfl (by decide +kernel) ⟨(Nat.le_of_ble_eq_true rfl), (Nat.le_of_ble_eq_true rfl)⟩) hCP (CP_rc hCP) rfl rfl hl.1 (Nat.le_of_ble_eq_true rfl) dX0_hasFreeMark_9 ⟨Nat.zero_le _, Nat.zero_le _⟩ ?_
  refine pv_isub hx hb dX0_hasFreeMark_12 ?_
  refine pv_iconst hx hb dX0_hasFreeMark_13 ?_
  refine pv_icmp_lt (tgt := 21) hx hb dX0_hasFreeMark_14 (by decide) (by omega) (fun c_14 => ?_) (fun c_14 => ?_)
  · -- 14t
    refine pv_iconst hx hb dX0_hasFreeMark_21 ?_
    exact pu_zret hx hb hr hlocks dX0_hasFreeMark_22 (by rw [hr9, if_neg (by omega)]) hz9
  · -- 14f
    refine pv_iconst hx hb dX0_hasFreeMark_17 ?_
    refine lv_goto (tgt := 22) hx hb dX0_hasFreeMark_18 (by decide) ?_
    exact pu_zret hx hb hr hlocks dX0_hasFreeMark_22 (by rw [hr9, if_pos (by omega)]) hz9
set_option maxHeartbeats 4000000 in
set_option maxRecDepth 100000 in
theorem c_moves_free (l : Launch) (D : va_G) (cI cZ : ClassId) (base st : Nat) (Z : Nat → Nat) (x0 x1 x2 x5 x6 x7 : Nat) {n came MV : Int} {F G SP RF RC : Int → Int} (hn : 0 ≤ n ∧ n ≤ 60) (hG : ∀ k : Int, 0 ≤ k → k < n → 0 ≤ G k ∧ G k ≤ 255) (q : Int) (hq : 0 ≤ q ∧ q ≤ n) (hfree : 2 ≤ ma G n q - ma G n (q - 1)) : pu_M l yX0_movesByPuttingIn wsX0_movesByPuttingIn ({ frames := 3, cells := 0, slots := 0, locals := 63 } : Room) [.ref x0, .int (iI (q))] (CP D cI cZ base st Z x0 x1 x2 x5 x6 x7 n came MV F G SP RF RC) (0) := by
  refine pu_of (cc := cX0_movesByPuttingIn) (maxL := 9) (ret := (some .int)) (own := RX0) (by decide) rfl rfl (Nat.le_of_ble_eq_true rfl) ?_
  intro p e s m below meth c ls B hCP hl
  obtain ⟨hx, hb, hml, hr, hts, hown, hlocks⟩ := B
  obtain ⟨⟨hK, hZL, ⟨hstb, xs, hXL, hAL⟩, hTW⟩, f, g, sp, rf, rc, hAf, hAg, hAsp, hArf, hArc, hP, hDb⟩ := id hCP
  have hl : lv_has ls 9 [(0, .ref x0), (1, .int (iI (q)))] := hl
  refine lv_aload_n hx hb dX0_movesByPuttingIn_0 rfl (lv_at hl 0 rfl) ?_
  refine lv_iload_n hx hb dX0_movesByPuttingIn_1 rfl (lv_at hl 1 rfl) ?_
  refine pu_callV (As := [.int (iI (q))]) (rest := []) CP_mv ⟨hx, hb, hml, hown, hts⟩ (c_hasFreeMark l D cI cZ base st Z x0 x1 x2 x5 x6 x7 hn hG q hq 1 (by rw [if_pos hfree])) (cwV 1 hts gX0_movesByPuttingIn_X0_hasFreeMark rfl rfl rfl (by decide +kernel) ⟨(Nat.le_of_ble_eq_true rfl), (Nat.le_of_ble_eq_true rfl)⟩) hCP (CP_rc hCP) rfl rfl hl.1 (Nat.le_of_ble_eq_true rfl) dX0_movesByPuttingIn_2 ⟨Nat.zero_le _, Nat.zero_le _⟩ ?_
  refine pv_if_eq (tgt := 10) hx hb dX0_movesByPuttingIn_5 (by decide) (by omega) (fun c_5 => ?_) (fun c_5 => ?_)
  · exact absurd c_5 (by omega)
  · -- 5f
    refine pv_iconst hx hb dX0_movesByPuttingIn_8 ?_
    exact pu_iret hx hb hr hlocks dX0_movesByPuttingIn_9 (by rfl)
set_option maxHeartbeats 4000000 in
set_option maxRecDepth 100000 in
theorem c_moves_full (l : Launch) (D : va_G) (cI cZ : ClassId) (base st : Nat) (Z : Nat → Nat) (x0 x1 x2 x5 x6 x7 : Nat) {n came MV : Int} {F G SP RF RC : Int → Int} (hn : 0 ≤ n ∧ n ≤ 60) (hG : ∀ k : Int, 0 ≤ k → k < n → 0 ≤ G k ∧ G k ≤ 255) (hs : SD G n) (q : Int) (hq : 0 ≤ q ∧ q ≤ n) (hfull : ma G n q - ma G n (q - 1) < 2) (a0 : Int) (ha0 : a0 = if ma G n (q - 1) < 0 then 0 else ma G n (q - 1)) (har : 0 ≤ a0 ∧ a0 ≤ 255) (lv : Int) (hlv : LV G n a0 lv) (r : Int) (hr9 : r = mvn G q (a0 / 2 ^ lv.toNat * 2 ^ lv.toNat) (2 ^ lv.toNat) (mb G n (a0 / 2 ^ lv.toNat * 2 ^ lv.toNat)) (ldn G n lv (a0 / 2 ^ lv.toNat) + 1) (ldn G n lv (a0 / 2 ^ lv.toNat)).toNat) : pu_M l yX0_movesByPuttingIn wsX0_movesByPuttingIn ({ frames := 4, cells := 0, slots := 0, locals := 89 } : Room) [.ref x0, .int (iI (q))] (CP D cI cZ base st Z x0 x1 x2 x5 x6 x7 n came MV F G SP RF RC) (r) := by
  refine pu_of (cc := cX0_movesByPuttingIn) (maxL := 9) (ret := (some .int)) (own := RX0) (by decide) rfl rfl (Nat.le_of_ble_eq_true rfl) ?_
  intro p e s m below meth c ls B hCP hl
  obtain ⟨hx, hb, hml, hr, hts, hown, hlocks⟩ := B
  obtain ⟨⟨hK, hZL, ⟨hstb, xs, hXL, hAL⟩, hTW⟩, f, g, sp, rf, rc, hAf, hAg, hAsp, hArf, hArc, hP, hDb⟩ := id hCP
  have hl : lv_has ls 9 [(0, .ref x0), (1, .int (iI (q)))] := hl
  refine lv_aload_n hx hb dX0_movesByPuttingIn_0 rfl (lv_at hl 0 rfl) ?_
  refine lv_iload_n hx hb dX0_movesByPuttingIn_1 rfl (lv_at hl 1 rfl) ?_
  refine pu_callV (As := [.int (iI (q))]) (rest := []) CP_mv ⟨hx, hb, hml, hown, hts⟩ (c_hasFreeMark l D cI cZ base st Z x0 x1 x2 x5 x6 x7 hn hG q hq 0 (by rw [if_neg (by omega)])) (cwV 1 hts gX0_movesByPuttingIn_X0_hasFreeMark rfl rfl rfl (by decide +kernel) ⟨(Nat.le_of_ble_eq_true rfl), (Nat.le_of_ble_eq_true rfl)⟩) hCP (CP_rc hCP) rfl rfl hl.1 (Nat.le_of_ble_eq_true rfl) dX0_movesByPuttingIn_2 ⟨Nat.zero_le _, Nat.zero_le _⟩ ?_
  refine pv_if_eq (tgt := 10) hx hb dX0_movesByPuttingIn_5 (by decide) (by omega) (fun c_5 => ?_) (fun c_5 => ?_)
  · -- 5t
    refine lv_aload_n hx hb dX0_movesByPuttingIn_10 rfl (lv_at hl 0 rfl) ?_
    refine lv_iload_n hx hb dX0_movesByPuttingIn_11 rfl (lv_at hl 1 rfl) ?_
    have hlv1 := hlv.1
    have hsb := sh_b (lv := lv) har (by omega)
    have hp2 := p2_rg (lv := lv) (by omega)
    refine pu_callV (As := [.int (iI (q))]) (rest := []) CP_mv ⟨hx, hb, hml, hown, hts⟩ (c_levelToSpread l D cI cZ base st Z x0 x1 x2 x5 x6 x7 hn hG hs q hq a0 ha0 har lv hlv) (cwV 1 hts gX0_movesByPuttingIn_X0_levelToSpread rfl rfl rfl (by decide +kernel) ⟨(Nat.le_of_ble_eq_true rfl), (Nat.le_of_ble_eq_true rfl)⟩) hCP (CP_rc hCP) rfl rfl hl.1 (Nat.le_of_ble_eq_true rfl) dX0_movesByPuttingIn_12 ⟨Nat.zero_le _, Nat.zero_le _⟩ ?_
    refine lv_istore_n (lv' := [(2, .int (iI (lv))), (0, .ref x0), (1, .int (iI (q)))]) hx hb dX0_movesByPuttingIn_15 rfl hl (by decide) rfl (fun ls hl => ?_)
    refine lv_aload_n hx hb dX0_movesByPuttingIn_16 rfl (lv_at hl 1 rfl) ?_
    refine lv_iload_n hx hb dX0_movesByPuttingIn_17 rfl (lv_at hl 2 rfl) ?_
    refine lv_iload_n hx hb dX0_movesByPuttingIn_18 rfl (lv_at hl 0 rfl) ?_
    refine pu_callV (As := [.int (iI (q)), .int (iI (lv))]) (rest := []) CP_mv ⟨hx, hb, hml, hown, hts⟩ (c_shelfToSpread l D cI cZ base st Z x0 x1 x2 x5 x6 x7 hn hG q hq lv (by omega) a0 ha0 hq.2 _ rfl) (cwV 2 hts gX0_movesByPuttingIn_X0_shelfToSpread rfl rfl rfl (by decide +kernel) ⟨(Nat.le_of_ble_eq_true rfl), (Nat.le_of_ble_eq_true rfl)⟩) hCP (CP_rc hCP) rfl rfl hl.1 (Nat.le_of_ble_eq_true rfl) dX0_movesByPuttingIn_19 ⟨Nat.zero_le _, Nat.zero_le _⟩ ?_
    obtain ⟨sh, hsh9⟩ : ∃ z, z = a0 / 2 ^ lv.toNat := ⟨_, rfl⟩
    rw [← hsh9] at hsb hr9
    rw [show iI (a0 / 2 ^ lv.toNat) = iI (sh) from congrArg iI (hsh9.symm)]
    refine lv_istore_n (lv' := [(3, .int (iI (sh))), (2, .int (iI (lv))), (0, .ref x0), (1, .int (iI (q)))]) hx hb dX0_movesByPuttingIn_22 rfl hl (by decide) rfl (fun ls hl => ?_)
    refine lv_aload_n hx hb dX0_movesByPuttingIn_23 rfl (lv_at hl 2 rfl) ?_
    refine lv_iload_n hx hb dX0_movesByPuttingIn_24 rfl (lv_at hl 1 rfl) ?_
    refine lv_iload_n hx hb dX0_movesByPuttingIn_25 rfl (lv_at hl 0 rfl) ?_
    refine pu_callS (As := [.int (iI (lv)), .int (iI (sh))]) (rest := [.ref x0]) TP_mv ⟨hx, hb, hml, hown, hts⟩ (c_firstMark l lv sh (by omega) (by omega) (by omega) _ rfl) (va_cwS 2 hts gX0_movesByPuttingIn_X0_firstMark rfl rfl rfl (by decide +kernel) ⟨(Nat.le_of_ble_eq_true rfl), (Nat.le_of_ble_eq_true rfl)⟩) trivial rfl rfl hl.1 (Nat.le_of_ble_eq_true rfl) dX0_movesByPuttingIn_26 ⟨Nat.zero_le _, Nat.zero_le _⟩ ?_
    refine pu_callV (As := [.int (iI (sh * 2 ^ lv.toNat))]) (rest := []) CP_mv ⟨hx, hb, hml, hown, hts⟩ (c_marksBelow l D cI cZ base st Z x0 x1 x2 x5 x6 x7 hn hG _ (by omega) _ (mb_FI _ hn.1 hs)) (cwV 1 hts gX0_movesByPuttingIn_X0_marksBelow rfl rfl rfl (by decide +kernel) ⟨(Nat.le_of_ble_eq_true rfl), (Nat.le_of_ble_eq_true rfl)⟩) hCP (CP_rc hCP) rfl rfl hl.1 (Nat.le_of_ble_eq_true rfl) dX0_movesByPuttingIn_29 ⟨Nat.zero_le _, Nat.zero_le _⟩ ?_
    obtain ⟨bg, hbg⟩ : ∃ z, z = mb G n (sh * 2 ^ lv.toNat) := ⟨_, rfl⟩
    rw [← hbg] at hr9
    have hbgr := mb_rg (G := G) (m := sh * 2 ^ lv.toNat) hn.1
    rw [← hbg] at hbgr
    have hend := ldn_end (G := G) (lv := lv) (sh := sh) hn
    rw [← hbg] at hend
    rw [show iI (mb G n (sh * 2 ^ lv.toNat)) = iI (bg) from congrArg iI (hbg.symm)]
    refine lv_istore (lv' := [(4, .int (iI (bg))), (3, .int (iI (sh))), (2, .int (iI (lv))), (0, .ref x0), (1, .int (iI (q)))]) hx hb dX0_movesByPuttingIn_32 hl (by decide) rfl (fun ls hl => ?_)
    refine lv_aload_n hx hb dX0_movesByPuttingIn_34 rfl (lv_at hl 3 rfl) ?_
    refine lv_iload_n hx hb dX0_movesByPuttingIn_35 rfl (lv_at hl 2 rfl) ?_
    refine lv_iload_n hx hb dX0_movesByPuttingIn_36 rfl (lv_at hl 1 rfl) ?_
    refine pu_callV (As := [.int (iI (lv)), .int (iI (sh))]) (rest := []) CP_mv ⟨hx, hb, hml, hown, hts⟩ (c_foldersOn l D cI cZ base st Z x0 x1 x2 x5 x6 x7 hn hG hs lv sh (by omega) (by omega) ⟨by omega, by omega, by omega, by omega⟩ _ rfl) (cwV 2 hts gX0_movesByPuttingIn_X0_foldersOn rfl rfl rfl (by decide +kernel) ⟨(Nat.le_of_ble_eq_true rfl), (Nat.le_of_ble_eq_true rfl)⟩) hCP (CP_rc hCP) rfl rfl hl.1 (Nat.le_of_ble_eq_true rfl) dX0_movesByPuttingIn_37 ⟨Nat.zero_le _, Nat.zero_le _⟩ ?_
    have hldr := ldn_rg (lv := lv) (sh := sh) hn hs (by omega)
    obtain ⟨ct, hct⟩ : ∃ z, z = ldn G n lv sh := ⟨_, rfl⟩
    rw [← hct] at hr9 hldr hend
    rw [show iI (ldn G n lv sh) = iI (ct) from congrArg iI (hct.symm)]
    refine lv_istore (lv' := [(5, .int (iI (ct))), (4, .int (iI (bg))), (3, .int (iI (sh))), (2, .int (iI (lv))), (0, .ref x0), (1, .int (iI (q)))]) hx hb dX0_movesByPuttingIn_40 hl (by decide) rfl (fun ls hl => ?_)
    refine pv_iconst hx hb dX0_movesByPuttingIn_42 ?_
    refine lv_istore (lv' := [(6, .int (iI (0))), (5, .int (iI (ct))), (4, .int (iI (bg))), (3, .int (iI (sh))), (2, .int (iI (lv))), (0, .ref x0), (1, .int (iI (q)))]) hx hb dX0_movesByPuttingIn_43 hl (by decide) rfl (fun ls hl => ?_)
    refine lv_iload hx hb dX0_movesByPuttingIn_45 (lv_at hl 2 rfl) ?_
    refine lv_istore (lv' := [(7, .int (iI (bg))), (6, .int (iI (0))), (5, .int (iI (ct))), (4, .int (iI (bg))), (3, .int (iI (sh))), (2, .int (iI (lv))), (0, .ref x0), (1, .int (iI (q)))]) hx hb dX0_movesByPuttingIn_47 hl (by decide) rfl (fun ls hl => ?_)
    have hloop49 : ∀ (fuel : Nat) (fd : Int) (k : Int) (ls : Array Slot), (bg + ct - k) < fuel → (bg ≤ k ∧ k ≤ bg + ct) → (fd = mvn G q (sh * 2 ^ lv.toNat) (2 ^ lv.toNat) bg (ct + 1) (k - bg).toNat) → lv_has ls 9 [(0, .ref x0), (1, .int (iI (q))), (2, .int (iI (lv))), (3, .int (iI (sh))), (4, .int (iI (bg))), (5, .int (iI (ct))), (6, .int (iI (fd))), (7, .int (iI (k)))] → W p l e ({ frames := 4, cells := 0, slots := 0, locals := 89 } : Room) s m ([.ref x0, .int (iI (q))] : List Value).toArray below meth c s.heap [] 0 0 (MQ below (pu_Q (r)) ([.ref x0, .int (iI (q))] : List Value).toArray s 0 0 (fun _ => False)) (F0 m 49 ls []) := by
      intro fuel
      induction fuel with
      | zero => intro fd k ls hfu hk hfd hl; exfalso; omega
      | succ fuel ih =>
        intro fd k ls hfu hk hfd hl
        refine lv_iload hx hb dX0_movesByPuttingIn_49 (lv_at hl 7 rfl) ?_
        refine lv_iload hx hb dX0_movesByPuttingIn_51 (lv_at hl 4 rfl) ?_
        refine lv_iload hx hb dX0_movesByPuttingIn_53 (lv_at hl 5 rfl) ?_
        refine pv_iadd hx hb dX0_movesByPuttingIn_55 ?_
        refine pv_icmp_ge (tgt := 108) hx hb dX0_movesByPuttingIn_56 (by decide) (by omega) (fun c_56 => ?_) (fun c_56 => ?_)
        · -- 56t
          refine lv_iload hx hb dX0_movesByPuttingIn_108 (lv_at hl 6 rfl) ?_
          exact pu_iret hx hb hr hlocks dX0_movesByPuttingIn_110 (by rw [hr9, hfd, show (k - bg).toNat = ct.toNat by omega])
        · -- 56f
          refine lv_iload hx hb dX0_movesByPuttingIn_59 (lv_at hl 7 rfl) ?_
          refine lv_iload_n hx hb dX0_movesByPuttingIn_61 rfl (lv_at hl 1 rfl) ?_
          refine pv_icmp_ge (tgt := 70) hx hb dX0_movesByPuttingIn_62 (by decide) (by omega) (fun c_62 => ?_) (fun c_62 => ?_)
          · -- 62t
            refine lv_iload hx hb dX0_movesByPuttingIn_70 (lv_at hl 7 rfl) ?_
            refine pv_iconst hx hb dX0_movesByPuttingIn_72 ?_
            refine pv_iadd hx hb dX0_movesByPuttingIn_73 ?_
            refine lv_iload hx hb dX0_movesByPuttingIn_74 (lv_at hl 4 rfl) ?_
            refine pv_isub hx hb dX0_movesByPuttingIn_76 ?_
            rw [show iI (((k) + (1)) - (bg)) = iI (k + 1 - bg) from congrArg iI (rfl)]
            refine lv_istore (lv' := [(8, .int (iI (k + 1 - bg))), (0, .ref x0), (1, .int (iI (q))), (2, .int (iI (lv))), (3, .int (iI (sh))), (4, .int (iI (bg))), (5, .int (iI (ct))), (6, .int (iI (fd))), (7, .int (iI (k)))]) hx hb dX0_movesByPuttingIn_77 hl (by decide) rfl (fun ls hl => ?_)
            have hnp : np q bg (k - bg) = k + 1 - bg := by unfold np; rw [if_neg (by omega)]; omega
            refine lv_aload_n hx hb dX0_movesByPuttingIn_79 rfl (lv_at hl 1 rfl) ?_
            refine lv_iload hx hb dX0_movesByPuttingIn_80 (lv_at hl 8 rfl) ?_
            have hgk := hG k (by omega) (by omega)
            refine pu_callV (As := [.int (iI (k))]) (rest := []) CP_mv ⟨hx, hb, hml, hown, hts⟩ (c_markAt l D cI cZ base st Z x0 x1 x2 x5 x6 x7 hn k (by omega) _ (by unfold ma; rw [if_neg (by omega), if_pos (by omega)])) (cwV 1 hts gX0_movesByPuttingIn_X0_markAt rfl rfl rfl (by decide +kernel) ⟨(Nat.le_of_ble_eq_true rfl), (Nat.le_of_ble_eq_true rfl)⟩) hCP (CP_rc hCP) rfl rfl hl.1 (Nat.le_of_ble_eq_true rfl) dX0_movesByPuttingIn_82 ⟨Nat.zero_le _, Nat.zero_le _⟩ ?_
            refine lv_iload_n hx hb dX0_movesByPuttingIn_85 rfl (lv_at hl 3 rfl) ?_
            refine lv_iload_n hx hb dX0_movesByPuttingIn_86 rfl (lv_at hl 4 rfl) ?_
            refine lv_iload hx hb dX0_movesByPuttingIn_87 (lv_at hl 0 rfl) ?_
            refine lv_iload hx hb dX0_movesByPuttingIn_89 (lv_at hl 6 rfl) ?_
            refine pv_iconst hx hb dX0_movesByPuttingIn_91 ?_
            refine pv_iadd hx hb dX0_movesByPuttingIn_92 ?_
            refine pu_callS (As := [.int (iI (lv)), .int (iI (sh)), .int (iI (k + 1 - bg)), .int (iI ((ct) + (1)))]) (rest := [.int (iI (G k))]) TP_mv ⟨hx, hb, hml, hown, hts⟩ (c_spreadMark l lv sh (k + 1 - bg) (ct + 1) (by omega) (by omega) (by omega) (by omega) (by omega) _ rfl) (va_cwS 4 hts gX0_movesByPuttingIn_X0_spreadMark rfl rfl rfl (by decide +kernel) ⟨(Nat.le_of_ble_eq_true rfl), (Nat.le_of_ble_eq_true rfl)⟩) trivial rfl rfl hl.1 (Nat.le_of_ble_eq_true rfl) dX0_movesByPuttingIn_93 ⟨Nat.zero_le _, Nat.zero_le _⟩ ?_
            have hnmr := nm_rg (lo := sh * 2 ^ lv.toNat) (w := 2 ^ lv.toNat) (t := ct + 1) (i := k + 1 - bg) (by omega) (by omega) (by omega) (by omega)
            refine pv_icmp_eq (tgt := 102) hx hb dX0_movesByPuttingIn_96 (by decide) (by omega) (fun c_96 => ?_) (fun c_96 => ?_)
            · -- 96t
              refine pv_iinc (lv' := [(7, .int (iI (k + 1))), (8, .int (iI (k + 1 - bg))), (0, .ref x0), (1, .int (iI (q))), (2, .int (iI (lv))), (3, .int (iI (sh))), (4, .int (iI (bg))), (5, .int (iI (ct))), (6, .int (iI (fd)))]) hx hb dX0_movesByPuttingIn_102 hl (k := 8) rfl (by decide) rfl (fun ls hl => ?_)
              refine lv_goto (tgt := 49) hx hb dX0_movesByPuttingIn_105 (by decide) ?_
              exact ih (fd) (k + 1) ls (by omega) (by omega) (by rw [show k + 1 - bg = (k - bg) + 1 by omega, hfd]; exact (cn_f _ (by omega) (decide_eq_false (by rw [show bg + (k - bg) = k by omega, hnp]; exact fun z => z c_96))).symm) (lv_sub hl [2, 3, 4, 5, 6, 7, 8, 0] rfl)
            · -- 96f
              refine pv_iinc (lv' := [(6, .int (iI (fd + 1))), (8, .int (iI (k + 1 - bg))), (0, .ref x0), (1, .int (iI (q))), (2, .int (iI (lv))), (3, .int (iI (sh))), (4, .int (iI (bg))), (5, .int (iI (ct))), (7, .int (iI (k)))]) hx hb dX0_movesByPuttingIn_99 hl (k := 7) rfl (by decide) rfl (fun ls hl => ?_)
              refine pv_iinc (lv' := [(7, .int (iI (k + 1))), (6, .int (iI (fd + 1))), (8, .int (iI (k + 1 - bg))), (0, .ref x0), (1, .int (iI (q))), (2, .int (iI (lv))), (3, .int (iI (sh))), (4, .int (iI (bg))), (5, .int (iI (ct)))]) hx hb dX0_movesByPuttingIn_102 hl (k := 8) rfl (by decide) rfl (fun ls hl => ?_)
              refine lv_goto (tgt := 49) hx hb dX0_movesByPuttingIn_105 (by decide) ?_
              exact ih (fd + 1) (k + 1) ls (by omega) (by omega) (by rw [show k + 1 - bg = (k - bg) + 1 by omega, hfd]; exact (cn_t _ (by omega) (decide_eq_true (by rw [show bg + (k - bg) = k by omega, hnp]; exact c_96))).symm) (lv_sub hl [3, 4, 5, 6, 7, 8, 1, 0] rfl)
          · -- 62f
            refine lv_iload hx hb dX0_movesByPuttingIn_65 (lv_at hl 7 rfl) ?_
            refine lv_goto (tgt := 74) hx hb dX0_movesByPuttingIn_67 (by decide) ?_
            refine lv_iload hx hb dX0_movesByPuttingIn_74 (lv_at hl 4 rfl) ?_
            refine pv_isub hx hb dX0_movesByPuttingIn_76 ?_
            rw [show iI ((k) - (bg)) = iI (k - bg) from congrArg iI (rfl)]
            refine lv_istore (lv' := [(8, .int (iI (k - bg))), (0, .ref x0), (1, .int (iI (q))), (2, .int (iI (lv))), (3, .int (iI (sh))), (4, .int (iI (bg))), (5, .int (iI (ct))), (6, .int (iI (fd))), (7, .int (iI (k)))]) hx hb dX0_movesByPuttingIn_77 hl (by decide) rfl (fun ls hl => ?_)
            have hnp : np q bg (k - bg) = k - bg := by unfold np; rw [if_pos (by omega)]
            refine lv_aload_n hx hb dX0_movesByPuttingIn_79 rfl (lv_at hl 1 rfl) ?_
            refine lv_iload hx hb dX0_movesByPuttingIn_80 (lv_at hl 8 rfl) ?_
            have hgk := hG k (by omega) (by omega)
            refine pu_callV (As := [.int (iI (k))]) (rest := []) CP_mv ⟨hx, hb, hml, hown, hts⟩ (c_markAt l D cI cZ base st Z x0 x1 x2 x5 x6 x7 hn k (by omega) _ (by unfold ma; rw [if_neg (by omega), if_pos (by omega)])) (cwV 1 hts gX0_movesByPuttingIn_X0_markAt rfl rfl rfl (by decide +kernel) ⟨(Nat.le_of_ble_eq_true rfl), (Nat.le_of_ble_eq_true rfl)⟩) hCP (CP_rc hCP) rfl rfl hl.1 (Nat.le_of_ble_eq_true rfl) dX0_movesByPuttingIn_82 ⟨Nat.zero_le _, Nat.zero_le _⟩ ?_
            refine lv_iload_n hx hb dX0_movesByPuttingIn_85 rfl (lv_at hl 3 rfl) ?_
            refine lv_iload_n hx hb dX0_movesByPuttingIn_86 rfl (lv_at hl 4 rfl) ?_
            refine lv_iload hx hb dX0_movesByPuttingIn_87 (lv_at hl 0 rfl) ?_
            refine lv_iload hx hb dX0_movesByPuttingIn_89 (lv_at hl 6 rfl) ?_
            refine pv_iconst hx hb dX0_movesByPuttingIn_91 ?_
            refine pv_iadd hx hb dX0_movesByPuttingIn_92 ?_
            refine pu_callS (As := [.int (iI (lv)), .int (iI (sh)), .int (iI (k - bg)), .int (iI ((ct) + (1)))]) (rest := [.int (iI (G k))]) TP_mv ⟨hx, hb, hml, hown, hts⟩ (c_spreadMark l lv sh (k - bg) (ct + 1) (by omega) (by omega) (by omega) (by omega) (by omega) _ rfl) (va_cwS 4 hts gX0_movesByPuttingIn_X0_spreadMark rfl rfl rfl (by decide +kernel) ⟨(Nat.le_of_ble_eq_true rfl), (Nat.le_of_ble_eq_true rfl)⟩) trivial rfl rfl hl.1 (Nat.le_of_ble_eq_true rfl) dX0_movesByPuttingIn_93 ⟨Nat.zero_le _, Nat.zero_le _⟩ ?_
            have hnmr := nm_rg (lo := sh * 2 ^ lv.toNat) (w := 2 ^ lv.toNat) (t := ct + 1) (i := k - bg) (by omega) (by omega) (by omega) (by omega)
            refine pv_icmp_eq (tgt := 102) hx hb dX0_movesByPuttingIn_96 (by decide) (by omega) (fun c_96 => ?_) (fun c_96 => ?_)
            · -- 96t
              refine pv_iinc (lv' := [(7, .int (iI (k + 1))), (8, .int (iI (k - bg))), (0, .ref x0), (1, .int (iI (q))), (2, .int (iI (lv))), (3, .int (iI (sh))), (4, .int (iI (bg))), (5, .int (iI (ct))), (6, .int (iI (fd)))]) hx hb dX0_movesByPuttingIn_102 hl (k := 8) rfl (by decide) rfl (fun ls hl => ?_)
              refine lv_goto (tgt := 49) hx hb dX0_movesByPuttingIn_105 (by decide) ?_
              exact ih (fd) (k + 1) ls (by omega) (by omega) (by rw [show k + 1 - bg = (k - bg) + 1 by omega, hfd]; exact (cn_f _ (by omega) (decide_eq_false (by rw [show bg + (k - bg) = k by omega, hnp]; exact fun z => z c_96))).symm) (lv_sub hl [2, 3, 4, 5, 6, 7, 8, 0] rfl)
            · -- 96f
              refine pv_iinc (lv' := [(6, .int (iI (fd + 1))), (8, .int (iI (k - bg))), (0, .ref x0), (1, .int (iI (q))), (2, .int (iI (lv))), (3, .int (iI (sh))), (4, .int (iI (bg))), (5, .int (iI (ct))), (7, .int (iI (k)))]) hx hb dX0_movesByPuttingIn_99 hl (k := 7) rfl (by decide) rfl (fun ls hl => ?_)
              refine pv_iinc (lv' := [(7, .int (iI (k + 1))), (6, .int (iI (fd + 1))), (8, .int (iI (k - bg))), (0, .ref x0), (1, .int (iI (q))), (2, .int (iI (lv))), (3, .int (iI (sh))), (4, .int (iI (bg))), (5, .int (iI (ct)))]) hx hb dX0_movesByPuttingIn_102 hl (k := 8) rfl (by decide) rfl (fun ls hl => ?_)
              refine lv_goto (tgt := 49) hx hb dX0_movesByPuttingIn_105 (by decide) ?_
              exact ih (fd + 1) (k + 1) ls (by omega) (by omega) (by rw [show k + 1 - bg = (k - bg) + 1 by omega, hfd]; exact (cn_t _ (by omega) (decide_eq_true (by rw [show bg + (k - bg) = k by omega, hnp]; exact c_96))).symm) (lv_sub hl [3, 4, 5, 6, 7, 8, 1, 0] rfl)
    exact hloop49 ((ct : Int).toNat + 1) (0) (bg) ls (by omega) (by omega) (by rw [show (bg - bg).toNat = 0 by omega]; rfl) (lv_sub hl [6, 7, 5, 4, 3, 2, 1, 0] rfl)
  · exact absurd c_5 (by omega)
set_option maxHeartbeats 4000000 in
set_option maxRecDepth 100000 in
theorem c_requireLevel (l : Launch) (D : va_G) (cI cZ : ClassId) (base st : Nat) (Z : Nat → Nat) (lv : Int) (hlv : 0 ≤ lv ∧ lv ≤ 8) : pn_M l yX0_requireLevel wsX0_requireLevel ({ frames := 0, cells := 0, slots := 0, locals := 0 } : Room) [.int (iI (lv))] (SP D cI cZ base st Z) := by
  refine pn_of (cc := cX0_requireLevel) (maxL := 1) (ret := none) (own := RX0) (by decide) rfl rfl (Nat.le_of_ble_eq_true rfl) ?_
  intro p e s m below meth c ls B hCP hl
  obtain ⟨hx, hb, hml, hr, hts, hown, hlocks⟩ := B
  obtain ⟨hK, hZL, ⟨hstb, xs, hXL, hAL⟩, hTW⟩ := id hCP
  have hl : lv_has ls 1 [(0, .int (iI (lv)))] := hl
  have q_LF := hts (.fieldLink RX0 16 "ShelfMarks" "LOADED_FROM" "[I") (by decide +kernel)
  refine lv_iload_n hx hb dX0_requireLevel_0 rfl (lv_at hl 0 rfl) ?_
  refine pv_if_lt (tgt := 12) hx hb dX0_requireLevel_1 (by decide) (by omega) (fun c_1 => ?_) (fun c_1 => ?_)
  · exfalso; omega
  · -- 1f
    refine lv_iload_n hx hb dX0_requireLevel_4 rfl (lv_at hl 0 rfl) ?_
    refine va_gets (A := fun q => base ≤ q) hx hb hZL va_S.rf hown q_LF (fun _ h => h) dX0_requireLevel_5 ?_
    refine pv_xlen (v := 9) hx hb hXL (by decide +kernel) dX0_requireLevel_8 ?_
    refine pv_icmp_lt (tgt := 22) hx hb dX0_requireLevel_9 (by decide) (by omega) (fun c_9 => ?_) (fun c_9 => ?_)
    · -- 9t
      exact pn_vret hx hb hr hlocks dX0_requireLevel_22
    · exfalso; omega
set_option maxHeartbeats 4000000 in
set_option maxRecDepth 100000 in
theorem t_requireLevel (l : Launch) (D : va_G) (cI cZ : ClassId) (base st : Nat) (Z : Nat → Nat) (hfl : l.stackTraces = false) (lv : Int) (hlr : (-2147483648 ≤ lv ∧ lv ≤ 2147483647)) (hlv : ¬ (0 ≤ lv ∧ lv ≤ 8)) : th_M l yX0_requireLevel wsX0_requireLevel ({ frames := 6, cells := 1, slots := 6, locals := 92 } : Room) [.int (iI (lv))] (SP D cI cZ base st Z) "java/lang/IndexOutOfBoundsException" := by
  refine th_of (cc := cX0_requireLevel) (maxL := 1) (ret := none) (own := RX0) (by decide) rfl rfl (Nat.le_of_ble_eq_true rfl) ?_
  intro p e s m below meth c ls B hno hCP hl
  obtain ⟨hx, hb, hml, hr, hts, hown, hlocks⟩ := B
  obtain ⟨hK, hZL, ⟨hstb, xs, hXL, hAL⟩, hTW⟩ := id hCP
  have hl : lv_has ls 1 [(0, .int (iI (lv)))] := hl
  have q_LF := hts (.fieldLink RX0 16 "ShelfMarks" "LOADED_FROM" "[I") (by decide +kernel)
  refine lv_iload_n hx hb dX0_requireLevel_0 rfl (lv_at hl 0 rfl) ?_
  refine pv_if_lt (tgt := 12) hx hb dX0_requireLevel_1 (by decide) (by omega) (fun c_1 => ?_) (fun c_1 => ?_)
  · -- 1t
    have hst : l.stackTraces = false := hfl
    obtain ⟨tw0, tw1, tw2, tw3, tw4, tw5, kw0, kw1, kw2, kd0, kd1, kd2, hU9, hN9⟩ := hTW
    have hgd : ∀ w ∈ (vx_atS RX0 83 "java/lang/IndexOutOfBoundsException" ["java/lang/RuntimeException", "java/lang/Exception"]).filter goodWord, w ∈ wsX0_requireLevel := by decide +kernel
    have hat : ∀ w ∈ vx_atS RX0 83 "java/lang/IndexOutOfBoundsException" ["java/lang/RuntimeException", "java/lang/Exception"], w.before _ s = true := vx_hat (L := vx_atS RX0 83 "java/lang/IndexOutOfBoundsException" ["java/lang/RuntimeException", "java/lang/Exception"]) (B := [.castable "java/lang/IndexOutOfBoundsException" "java/lang/IndexOutOfBoundsException", .declares (Bundle.initS "java/lang/RuntimeException"), .declares (Bundle.initS "java/lang/Exception"), .declares (Bundle.initS "java/lang/Throwable")]) (fun w hw => hts w (hgd w hw)) (by decide +kernel) (vx_c (va_Nw.use rfl kw0) (vx_c (va_Nw.use rfl kd0) (vx_c (va_Nw.use rfl kd1) (vx_c (va_Nw.use rfl kd2) vx_n))))
    exact vx_throwS (rest := []) (names := ["java/lang/RuntimeException", "java/lang/Exception"]) (cls := "java/lang/IndexOutOfBoundsException") (A := fun q => base ≤ q) hx hb hst hown (by decide +kernel) (by decide +kernel) (hts (.classLink RX0 79 "java/lang/IndexOutOfBoundsException") (by decide +kernel)) (hts (.initialized "java/lang/IndexOutOfBoundsException") (by decide +kernel)) tw4 hat (by decide +kernel) hU9 hN9 va_S.rf (hl.1.trans hml.symm) dX0_requireLevel_12 dX0_requireLevel_15 dX0_requireLevel_16 dX0_requireLevel_18 dX0_requireLevel_21 (fun x hx => (hno x hx).elim) (Nat.le_of_ble_eq_true rfl) (Nat.le_of_ble_eq_true rfl) (Nat.le_of_ble_eq_true rfl) (Nat.le_of_ble_eq_true rfl) hlocks (fun t _ h1 h2 => ⟨rfl, h1, h2⟩) (fun _ h => by cases h) (by omega) (by omega)
  · -- 1f
    refine lv_iload_n hx hb dX0_requireLevel_4 rfl (lv_at hl 0 rfl) ?_
    refine va_gets (A := fun q => base ≤ q) hx hb hZL va_S.rf hown q_LF (fun _ h => h) dX0_requireLevel_5 ?_
    refine pv_xlen (v := 9) hx hb hXL (by decide +kernel) dX0_requireLevel_8 ?_
    refine pv_icmp_lt (tgt := 22) hx hb dX0_requireLevel_9 (by decide) (by omega) (fun c_9 => ?_) (fun c_9 => ?_)
    · exfalso; omega
    · -- 9f
      have hst : l.stackTraces = false := hfl
      obtain ⟨tw0, tw1, tw2, tw3, tw4, tw5, kw0, kw1, kw2, kd0, kd1, kd2, hU9, hN9⟩ := hTW
      have hgd : ∀ w ∈ (vx_atS RX0 83 "java/lang/IndexOutOfBoundsException" ["java/lang/RuntimeException", "java/lang/Exception"]).filter goodWord, w ∈ wsX0_requireLevel := by decide +kernel
      have hat : ∀ w ∈ vx_atS RX0 83 "java/lang/IndexOutOfBoundsException" ["java/lang/RuntimeException", "java/lang/Exception"], w.before _ s = true := vx_hat (L := vx_atS RX0 83 "java/lang/IndexOutOfBoundsException" ["java/lang/RuntimeException", "java/lang/Exception"]) (B := [.castable "java/lang/IndexOutOfBoundsException" "java/lang/IndexOutOfBoundsException", .declares (Bundle.initS "java/lang/RuntimeException"), .declares (Bundle.initS "java/lang/Exception"), .declares (Bundle.initS "java/lang/Throwable")]) (fun w hw => hts w (hgd w hw)) (by decide +kernel) (vx_c (va_Nw.use rfl kw0) (vx_c (va_Nw.use rfl kd0) (vx_c (va_Nw.use rfl kd1) (vx_c (va_Nw.use rfl kd2) vx_n))))
      exact vx_throwS (rest := []) (names := ["java/lang/RuntimeException", "java/lang/Exception"]) (cls := "java/lang/IndexOutOfBoundsException") (A := fun q => base ≤ q) hx hb hst hown (by decide +kernel) (by decide +kernel) (hts (.classLink RX0 79 "java/lang/IndexOutOfBoundsException") (by decide +kernel)) (hts (.initialized "java/lang/IndexOutOfBoundsException") (by decide +kernel)) tw4 hat (by decide +kernel) hU9 hN9 va_S.rf (hl.1.trans hml.symm) dX0_requireLevel_12 dX0_requireLevel_15 dX0_requireLevel_16 dX0_requireLevel_18 dX0_requireLevel_21 (fun x hx => (hno x hx).elim) (Nat.le_of_ble_eq_true rfl) (Nat.le_of_ble_eq_true rfl) (Nat.le_of_ble_eq_true rfl) (Nat.le_of_ble_eq_true rfl) hlocks (fun t _ h1 h2 => ⟨rfl, h1, h2⟩) (fun _ h => by cases h) (by omega) (by omega)
set_option maxHeartbeats 4000000 in
set_option maxRecDepth 100000 in
theorem c_requireReader (l : Launch) (D : va_G) (cI cZ : ClassId) (base st : Nat) (Z : Nat → Nat) (lv : Int) (hlv : 0 ≤ lv ∧ lv < 4) : pn_M l yX0_requireReader wsX0_requireReader ({ frames := 0, cells := 0, slots := 0, locals := 0 } : Room) [.int (iI (lv))] (SP D cI cZ base st Z) := by
  refine pn_of (cc := cX0_requireReader) (maxL := 1) (ret := none) (own := RX0) (by decide) rfl rfl (Nat.le_of_ble_eq_true rfl) ?_
  intro p e s m below meth c ls B hCP hl
  obtain ⟨hx, hb, hml, hr, hts, hown, hlocks⟩ := B
  obtain ⟨hK, hZL, ⟨hstb, xs, hXL, hAL⟩, hTW⟩ := id hCP
  have hl : lv_has ls 1 [(0, .int (iI (lv)))] := hl
  refine lv_iload_n hx hb dX0_requireReader_0 rfl (lv_at hl 0 rfl) ?_
  refine pv_if_lt (tgt := 9) hx hb dX0_requireReader_1 (by decide) (by omega) (fun c_1 => ?_) (fun c_1 => ?_)
  · exfalso; omega
  · -- 1f
    refine lv_iload_n hx hb dX0_requireReader_4 rfl (lv_at hl 0 rfl) ?_
    refine pv_iconst hx hb dX0_requireReader_5 ?_
    refine pv_icmp_lt (tgt := 19) hx hb dX0_requireReader_6 (by decide) (by omega) (fun c_6 => ?_) (fun c_6 => ?_)
    · -- 6t
      exact pn_vret hx hb hr hlocks dX0_requireReader_19
    · exfalso; omega
set_option maxHeartbeats 4000000 in
set_option maxRecDepth 100000 in
theorem t_requireReader (l : Launch) (D : va_G) (cI cZ : ClassId) (base st : Nat) (Z : Nat → Nat) (hfl : l.stackTraces = false) (lv : Int) (hlr : (-2147483648 ≤ lv ∧ lv ≤ 2147483647)) (hlv : ¬ (0 ≤ lv ∧ lv < 4)) : th_M l yX0_requireReader wsX0_requireReader ({ frames := 6, cells := 1, slots := 6, locals := 92 } : Room) [.int (iI (lv))] (SP D cI cZ base st Z) "java/lang/IndexOutOfBoundsException" := by
  refine th_of (cc := cX0_requireReader) (maxL := 1) (ret := none) (own := RX0) (by decide) rfl rfl (Nat.le_of_ble_eq_true rfl) ?_
  intro p e s m below meth c ls B hno hCP hl
  obtain ⟨hx, hb, hml, hr, hts, hown, hlocks⟩ := B
  obtain ⟨hK, hZL, ⟨hstb, xs, hXL, hAL⟩, hTW⟩ := id hCP
  have hl : lv_has ls 1 [(0, .int (iI (lv)))] := hl
  refine lv_iload_n hx hb dX0_requireReader_0 rfl (lv_at hl 0 rfl) ?_
  refine pv_if_lt (tgt := 9) hx hb dX0_requireReader_1 (by decide) (by omega) (fun c_1 => ?_) (fun c_1 => ?_)
  · -- 1t
    have hst : l.stackTraces = false := hfl
    obtain ⟨tw0, tw1, tw2, tw3, tw4, tw5, kw0, kw1, kw2, kd0, kd1, kd2, hU9, hN9⟩ := hTW
    have hgd : ∀ w ∈ (vx_atS RX0 83 "java/lang/IndexOutOfBoundsException" ["java/lang/RuntimeException", "java/lang/Exception"]).filter goodWord, w ∈ wsX0_requireReader := by decide +kernel
    have hat : ∀ w ∈ vx_atS RX0 83 "java/lang/IndexOutOfBoundsException" ["java/lang/RuntimeException", "java/lang/Exception"], w.before _ s = true := vx_hat (L := vx_atS RX0 83 "java/lang/IndexOutOfBoundsException" ["java/lang/RuntimeException", "java/lang/Exception"]) (B := [.castable "java/lang/IndexOutOfBoundsException" "java/lang/IndexOutOfBoundsException", .declares (Bundle.initS "java/lang/RuntimeException"), .declares (Bundle.initS "java/lang/Exception"), .declares (Bundle.initS "java/lang/Throwable")]) (fun w hw => hts w (hgd w hw)) (by decide +kernel) (vx_c (va_Nw.use rfl kw0) (vx_c (va_Nw.use rfl kd0) (vx_c (va_Nw.use rfl kd1) (vx_c (va_Nw.use rfl kd2) vx_n))))
    exact vx_throwS (rest := []) (names := ["java/lang/RuntimeException", "java/lang/Exception"]) (cls := "java/lang/IndexOutOfBoundsException") (A := fun q => base ≤ q) hx hb hst hown (by decide +kernel) (by decide +kernel) (hts (.classLink RX0 79 "java/lang/IndexOutOfBoundsException") (by decide +kernel)) (hts (.initialized "java/lang/IndexOutOfBoundsException") (by decide +kernel)) tw5 hat (by decide +kernel) hU9 hN9 va_S.rf (hl.1.trans hml.symm) dX0_requireReader_9 dX0_requireReader_12 dX0_requireReader_13 dX0_requireReader_15 dX0_requireReader_18 (fun x hx => (hno x hx).elim) (Nat.le_of_ble_eq_true rfl) (Nat.le_of_ble_eq_true rfl) (Nat.le_of_ble_eq_true rfl) (Nat.le_of_ble_eq_true rfl) hlocks (fun t _ h1 h2 => ⟨rfl, h1, h2⟩) (fun _ h => by cases h) (by omega) (by omega)
  · -- 1f
    refine lv_iload_n hx hb dX0_requireReader_4 rfl (lv_at hl 0 rfl) ?_
    refine pv_iconst hx hb dX0_requireReader_5 ?_
    refine pv_icmp_lt (tgt := 19) hx hb dX0_requireReader_6 (by decide) (by omega) (fun c_6 => ?_) (fun c_6 => ?_)
    · exfalso; omega
    · -- 6f
      have hst : l.stackTraces = false := hfl
      obtain ⟨tw0, tw1, tw2, tw3, tw4, tw5, kw0, kw1, kw2, kd0, kd1, kd2, hU9, hN9⟩ := hTW
      have hgd : ∀ w ∈ (vx_atS RX0 83 "java/lang/IndexOutOfBoundsException" ["java/lang/RuntimeException", "java/lang/Exception"]).filter goodWord, w ∈ wsX0_requireReader := by decide +kernel
      have hat : ∀ w ∈ vx_atS RX0 83 "java/lang/IndexOutOfBoundsException" ["java/lang/RuntimeException", "java/lang/Exception"], w.before _ s = true := vx_hat (L := vx_atS RX0 83 "java/lang/IndexOutOfBoundsException" ["java/lang/RuntimeException", "java/lang/Exception"]) (B := [.castable "java/lang/IndexOutOfBoundsException" "java/lang/IndexOutOfBoundsException", .declares (Bundle.initS "java/lang/RuntimeException"), .declares (Bundle.initS "java/lang/Exception"), .declares (Bundle.initS "java/lang/Throwable")]) (fun w hw => hts w (hgd w hw)) (by decide +kernel) (vx_c (va_Nw.use rfl kw0) (vx_c (va_Nw.use rfl kd0) (vx_c (va_Nw.use rfl kd1) (vx_c (va_Nw.use rfl kd2) vx_n))))
      exact vx_throwS (rest := []) (names := ["java/lang/RuntimeException", "java/lang/Exception"]) (cls := "java/lang/IndexOutOfBoundsException") (A := fun q => base ≤ q) hx hb hst hown (by decide +kernel) (by decide +kernel) (hts (.classLink RX0 79 "java/lang/IndexOutOfBoundsException") (by decide +kernel)) (hts (.initialized "java/lang/IndexOutOfBoundsException") (by decide +kernel)) tw5 hat (by decide +kernel) hU9 hN9 va_S.rf (hl.1.trans hml.symm) dX0_requireReader_9 dX0_requireReader_12 dX0_requireReader_13 dX0_requireReader_15 dX0_requireReader_18 (fun x hx => (hno x hx).elim) (Nat.le_of_ble_eq_true rfl) (Nat.le_of_ble_eq_true rfl) (Nat.le_of_ble_eq_true rfl) (Nat.le_of_ble_eq_true rfl) hlocks (fun t _ h1 h2 => ⟨rfl, h1, h2⟩) (fun _ h => by cases h) (by omega) (by omega)
set_option maxHeartbeats 4000000 in
set_option maxRecDepth 100000 in
theorem c_requireThatOneMayCome (l : Launch) (D : va_G) (cI cZ : ClassId) (base st : Nat) (Z : Nat → Nat) (x0 x1 x2 x5 x6 x7 : Nat) {n came MV : Int} {F G SP RF RC : Int → Int} (hn : 0 ≤ n ∧ n ≤ 60) (hcm : 0 ≤ came ∧ came ≤ 200) (hfr : came < 200 ∧ n < 60) : pn_M l yX0_requireThatOneMayCome wsX0_requireThatOneMayCome ({ frames := 0, cells := 0, slots := 0, locals := 0 } : Room) [.ref x0] (CP D cI cZ base st Z x0 x1 x2 x5 x6 x7 n came MV F G SP RF RC) := by
  refine pn_of (cc := cX0_requireThatOneMayCome) (maxL := 1) (ret := none) (own := RX0) (by decide) rfl rfl (Nat.le_of_ble_eq_true rfl) ?_
  intro p e s m below meth c ls B hCP hl
  obtain ⟨hx, hb, hml, hr, hts, hown, hlocks⟩ := B
  obtain ⟨⟨hK, hZL, ⟨hstb, xs, hXL, hAL⟩, hTW⟩, f, g, sp, rf, rc, hAf, hAg, hAsp, hArf, hArc, hP, hDb⟩ := id hCP
  have hl : lv_has ls 1 [(0, .ref x0)] := hl
  have hin : ∀ w ∈ u_ws RX0 TX0 8, w ∈ wsX0_requireThatOneMayCome := by decide +kernel
  have q_count := hts (.fieldLink RX0 53 "ShelfMarks" "count" "I") (by decide +kernel)
  have q_came := hts (.fieldLink RX0 106 "ShelfMarks" "came" "I") (by decide +kernel)
  refine lv_aload_n hx hb dX0_requireThatOneMayCome_0 rfl (lv_at hl 0 rfl) ?_
  refine va_get (D := D) (ci := 0) (v := .int (iI (came))) (C := RX0) (T := TX0) (N := 8) hx hb hts hin hown hK hP 0 rfl rfl 3 (by decide) q_came (fun _ h9 => h9) rfl dX0_requireThatOneMayCome_1 ?_
  refine pv_sipush hx hb dX0_requireThatOneMayCome_4 (by decide +kernel) ?_
  refine pv_icmp_ge (tgt := 19) hx hb dX0_requireThatOneMayCome_7 (by decide) (by omega) (fun c_7 => ?_) (fun c_7 => ?_)
  · exfalso; omega
  · -- 7f
    refine lv_aload_n hx hb dX0_requireThatOneMayCome_10 rfl (lv_at hl 0 rfl) ?_
    refine va_get (D := D) (ci := 0) (v := .int (iI (n))) (C := RX0) (T := TX0) (N := 8) hx hb hts hin hown hK hP 0 rfl rfl 2 (by decide) q_count (fun _ h9 => h9) rfl dX0_requireThatOneMayCome_11 ?_
    refine pv_bipush hx hb dX0_requireThatOneMayCome_14 (by decide +kernel) ?_
    refine pv_icmp_lt (tgt := 29) hx hb dX0_requireThatOneMayCome_16 (by decide) (by omega) (fun c_16 => ?_) (fun c_16 => ?_)
    · -- 16t
      exact pn_vret hx hb hr hlocks dX0_requireThatOneMayCome_29
    · exfalso; omega
set_option maxHeartbeats 4000000 in
set_option maxRecDepth 100000 in
theorem t_requireThatOneMayCome (l : Launch) (D : va_G) (cI cZ : ClassId) (base st : Nat) (Z : Nat → Nat) (x0 x1 x2 x5 x6 x7 : Nat) {n came MV : Int} {F G SP RF RC : Int → Int} (hfl : l.stackTraces = false) (hn : 0 ≤ n ∧ n ≤ 60) (hcm : 0 ≤ came ∧ came ≤ 200) (hfr : ¬ (came < 200 ∧ n < 60)) : th_M l yX0_requireThatOneMayCome wsX0_requireThatOneMayCome ({ frames := 6, cells := 1, slots := 6, locals := 92 } : Room) [.ref x0] (CP D cI cZ base st Z x0 x1 x2 x5 x6 x7 n came MV F G SP RF RC) "java/lang/IllegalStateException" := by
  refine th_of (cc := cX0_requireThatOneMayCome) (maxL := 1) (ret := none) (own := RX0) (by decide) rfl rfl (Nat.le_of_ble_eq_true rfl) ?_
  intro p e s m below meth c ls B hno hCP hl
  obtain ⟨hx, hb, hml, hr, hts, hown, hlocks⟩ := B
  obtain ⟨⟨hK, hZL, ⟨hstb, xs, hXL, hAL⟩, hTW⟩, f, g, sp, rf, rc, hAf, hAg, hAsp, hArf, hArc, hP, hDb⟩ := id hCP
  have hl : lv_has ls 1 [(0, .ref x0)] := hl
  have hin : ∀ w ∈ u_ws RX0 TX0 8, w ∈ wsX0_requireThatOneMayCome := by decide +kernel
  have q_count := hts (.fieldLink RX0 53 "ShelfMarks" "count" "I") (by decide +kernel)
  have q_came := hts (.fieldLink RX0 106 "ShelfMarks" "came" "I") (by decide +kernel)
  refine lv_aload_n hx hb dX0_requireThatOneMayCome_0 rfl (lv_at hl 0 rfl) ?_
  refine va_get (D := D) (ci := 0) (v := .int (iI (came))) (C := RX0) (T := TX0) (N := 8) hx hb hts hin hown hK hP 0 rfl rfl 3 (by decide) q_came (fun _ h9 => h9) rfl dX0_requireThatOneMayCome_1 ?_
  refine pv_sipush hx hb dX0_requireThatOneMayCome_4 (by decide +kernel) ?_
  refine pv_icmp_ge (tgt := 19) hx hb dX0_requireThatOneMayCome_7 (by decide) (by omega) (fun c_7 => ?_) (fun c_7 => ?_)
  · -- 7t
    have hst : l.stackTraces = false := hfl
    obtain ⟨tw0, tw1, tw2, tw3, tw4, tw5, kw0, kw1, kw2, kd0, kd1, kd2, hU9, hN9⟩ := hTW
    have hgd : ∀ w ∈ (vx_atS RX0 113 "java/lang/IllegalStateException" ["java/lang/RuntimeException", "java/lang/Exception"]).filter goodWord, w ∈ wsX0_requireThatOneMayCome := by decide +kernel
    have hat : ∀ w ∈ vx_atS RX0 113 "java/lang/IllegalStateException" ["java/lang/RuntimeException", "java/lang/Exception"], w.before _ s = true := vx_hat (L := vx_atS RX0 113 "java/lang/IllegalStateException" ["java/lang/RuntimeException", "java/lang/Exception"]) (B := [.castable "java/lang/IllegalStateException" "java/lang/IllegalStateException", .declares (Bundle.initS "java/lang/RuntimeException"), .declares (Bundle.initS "java/lang/Exception"), .declares (Bundle.initS "java/lang/Throwable")]) (fun w hw => hts w (hgd w hw)) (by decide +kernel) (vx_c (va_Nw.use rfl kw1) (vx_c (va_Nw.use rfl kd0) (vx_c (va_Nw.use rfl kd1) (vx_c (va_Nw.use rfl kd2) vx_n))))
    exact vx_throwS (rest := []) (names := ["java/lang/RuntimeException", "java/lang/Exception"]) (cls := "java/lang/IllegalStateException") (A := fun q => base ≤ q) hx hb hst hown (by decide +kernel) (by decide +kernel) (hts (.classLink RX0 109 "java/lang/IllegalStateException") (by decide +kernel)) (hts (.initialized "java/lang/IllegalStateException") (by decide +kernel)) tw3 hat (by decide +kernel) hU9 hN9 va_S.rf (hl.1.trans hml.symm) dX0_requireThatOneMayCome_19 dX0_requireThatOneMayCome_22 dX0_requireThatOneMayCome_23 dX0_requireThatOneMayCome_25 dX0_requireThatOneMayCome_28 (fun x hx => (hno x hx).elim) (Nat.le_of_ble_eq_true rfl) (Nat.le_of_ble_eq_true rfl) (Nat.le_of_ble_eq_true rfl) (Nat.le_of_ble_eq_true rfl) hlocks (fun t _ h1 h2 => ⟨rfl, h1, h2⟩) (fun _ h => by cases h) (by omega) (by omega)
  · -- 7f
    refine lv_aload_n hx hb dX0_requireThatOneMayCome_10 rfl (lv_at hl 0 rfl) ?_
    refine va_get (D := D) (ci := 0) (v := .int (iI (n))) (C := RX0) (T := TX0) (N := 8) hx hb hts hin hown hK hP 0 rfl rfl 2 (by decide) q_count (fun _ h9 => h9) rfl dX0_requireThatOneMayCome_11 ?_
    refine pv_bipush hx hb dX0_requireThatOneMayCome_14 (by decide +kernel) ?_
    refine pv_icmp_lt (tgt := 29) hx hb dX0_requireThatOneMayCome_16 (by decide) (by omega) (fun c_16 => ?_) (fun c_16 => ?_)
    · exfalso; omega
    · -- 16f
      have hst : l.stackTraces = false := hfl
      obtain ⟨tw0, tw1, tw2, tw3, tw4, tw5, kw0, kw1, kw2, kd0, kd1, kd2, hU9, hN9⟩ := hTW
      have hgd : ∀ w ∈ (vx_atS RX0 113 "java/lang/IllegalStateException" ["java/lang/RuntimeException", "java/lang/Exception"]).filter goodWord, w ∈ wsX0_requireThatOneMayCome := by decide +kernel
      have hat : ∀ w ∈ vx_atS RX0 113 "java/lang/IllegalStateException" ["java/lang/RuntimeException", "java/lang/Exception"], w.before _ s = true := vx_hat (L := vx_atS RX0 113 "java/lang/IllegalStateException" ["java/lang/RuntimeException", "java/lang/Exception"]) (B := [.castable "java/lang/IllegalStateException" "java/lang/IllegalStateException", .declares (Bundle.initS "java/lang/RuntimeException"), .declares (Bundle.initS "java/lang/Exception"), .declares (Bundle.initS "java/lang/Throwable")]) (fun w hw => hts w (hgd w hw)) (by decide +kernel) (vx_c (va_Nw.use rfl kw1) (vx_c (va_Nw.use rfl kd0) (vx_c (va_Nw.use rfl kd1) (vx_c (va_Nw.use rfl kd2) vx_n))))
      exact vx_throwS (rest := []) (names := ["java/lang/RuntimeException", "java/lang/Exception"]) (cls := "java/lang/IllegalStateException") (A := fun q => base ≤ q) hx hb hst hown (by decide +kernel) (by decide +kernel) (hts (.classLink RX0 109 "java/lang/IllegalStateException") (by decide +kernel)) (hts (.initialized "java/lang/IllegalStateException") (by decide +kernel)) tw3 hat (by decide +kernel) hU9 hN9 va_S.rf (hl.1.trans hml.symm) dX0_requireThatOneMayCome_19 dX0_requireThatOneMayCome_22 dX0_requireThatOneMayCome_23 dX0_requireThatOneMayCome_25 dX0_requireThatOneMayCome_28 (fun x hx => (hno x hx).elim) (Nat.le_of_ble_eq_true rfl) (Nat.le_of_ble_eq_true rfl) (Nat.le_of_ble_eq_true rfl) (Nat.le_of_ble_eq_true rfl) hlocks (fun t _ h1 h2 => ⟨rfl, h1, h2⟩) (fun _ h => by cases h) (by omega) (by omega)
set_option maxHeartbeats 4000000 in
set_option maxRecDepth 100000 in
theorem c_requirePlace (l : Launch) (D : va_G) (cI cZ : ClassId) (base st : Nat) (Z : Nat → Nat) (x0 x1 x2 x5 x6 x7 : Nat) {n came MV : Int} {F G SP RF RC : Int → Int} (hn : 0 ≤ n ∧ n ≤ 60) (hF : ∀ k : Int, 0 ≤ k → k < n → 0 ≤ F k ∧ F k < 200) (x : Int) (hxr : (-2147483648 ≤ x ∧ x ≤ 2147483647)) (rp : Int) (hrp : PL F n x rp) (h0 : 0 ≤ rp) : pu_M l yX0_requirePlace wsX0_requirePlace ({ frames := 1, cells := 0, slots := 0, locals := 22 } : Room) [.ref x0, .int (iI (x))] (CP D cI cZ base st Z x0 x1 x2 x5 x6 x7 n came MV F G SP RF RC) (rp) := by
  refine pu_of (cc := cX0_requirePlace) (maxL := 3) (ret := (some .int)) (own := RX0) (by decide) rfl rfl (Nat.le_of_ble_eq_true rfl) ?_
  intro p e s m below meth c ls B hCP hl
  obtain ⟨hx, hb, hml, hr, hts, hown, hlocks⟩ := B
  obtain ⟨⟨hK, hZL, ⟨hstb, xs, hXL, hAL⟩, hTW⟩, f, g, sp, rf, rc, hAf, hAg, hAsp, hArf, hArc, hP, hDb⟩ := id hCP
  have hl : lv_has ls 3 [(0, .ref x0), (1, .int (iI (x)))] := hl
  refine lv_aload_n hx hb dX0_requirePlace_0 rfl (lv_at hl 0 rfl) ?_
  refine lv_iload_n hx hb dX0_requirePlace_1 rfl (lv_at hl 1 rfl) ?_
  refine pu_callV (As := [.int (iI (x))]) (rest := []) CP_mv ⟨hx, hb, hml, hown, hts⟩ (c_placeOf l D cI cZ base st Z x0 x1 x2 x5 x6 x7 hn hF x hxr rp hrp) (cwV 1 hts gX0_requirePlace_X0_placeOf rfl rfl rfl (by decide +kernel) ⟨(Nat.le_of_ble_eq_true rfl), (Nat.le_of_ble_eq_true rfl)⟩) hCP (CP_rc hCP) rfl rfl hl.1 (Nat.le_of_ble_eq_true rfl) dX0_requirePlace_2 ⟨Nat.zero_le _, Nat.zero_le _⟩ ?_
  have hpr := PL_rg hn.1 hrp
  refine lv_istore_n (lv' := [(2, .int (iI (rp))), (0, .ref x0), (1, .int (iI (x)))]) hx hb dX0_requirePlace_5 rfl hl (by decide) rfl (fun ls hl => ?_)
  refine lv_iload_n hx hb dX0_requirePlace_6 rfl (lv_at hl 0 rfl) ?_
  refine pv_iconst hx hb dX0_requirePlace_7 ?_
  refine pv_icmp_ne (tgt := 21) hx hb dX0_requirePlace_8 (by decide) (by omega) (fun c_8 => ?_) (fun c_8 => ?_)
  · -- 8t
    refine lv_iload_n hx hb dX0_requirePlace_21 rfl (lv_at hl 0 rfl) ?_
    exact pu_iret hx hb hr hlocks dX0_requirePlace_22 (by rfl)
  · exfalso; omega
set_option maxHeartbeats 4000000 in
set_option maxRecDepth 100000 in
theorem t_requirePlace (l : Launch) (D : va_G) (cI cZ : ClassId) (base st : Nat) (Z : Nat → Nat) (x0 x1 x2 x5 x6 x7 : Nat) {n came MV : Int} {F G SP RF RC : Int → Int} (hfl : l.stackTraces = false) (hn : 0 ≤ n ∧ n ≤ 60) (hF : ∀ k : Int, 0 ≤ k → k < n → 0 ≤ F k ∧ F k < 200) (x : Int) (hxr : (-2147483648 ≤ x ∧ x ≤ 2147483647)) (hrp : PL F n x (-1)) : th_M l yX0_requirePlace wsX0_requirePlace ({ frames := 6, cells := 1, slots := 6, locals := 92 } : Room) [.ref x0, .int (iI (x))] (CP D cI cZ base st Z x0 x1 x2 x5 x6 x7 n came MV F G SP RF RC) "java/lang/IndexOutOfBoundsException" := by
  refine th_of (cc := cX0_requirePlace) (maxL := 3) (ret := (some .int)) (own := RX0) (by decide) rfl rfl (Nat.le_of_ble_eq_true rfl) ?_
  intro p e s m below meth c ls B hno hCP hl
  obtain ⟨hx, hb, hml, hr, hts, hown, hlocks⟩ := B
  obtain ⟨⟨hK, hZL, ⟨hstb, xs, hXL, hAL⟩, hTW⟩, f, g, sp, rf, rc, hAf, hAg, hAsp, hArf, hArc, hP, hDb⟩ := id hCP
  have hl : lv_has ls 3 [(0, .ref x0), (1, .int (iI (x)))] := hl
  refine lv_aload_n hx hb dX0_requirePlace_0 rfl (lv_at hl 0 rfl) ?_
  refine lv_iload_n hx hb dX0_requirePlace_1 rfl (lv_at hl 1 rfl) ?_
  refine pu_callV (As := [.int (iI (x))]) (rest := []) CP_mv ⟨hx, hb, hml, hown, hts⟩ (c_placeOf l D cI cZ base st Z x0 x1 x2 x5 x6 x7 hn hF x hxr (-1) hrp) (cwV 1 hts gX0_requirePlace_X0_placeOf rfl rfl rfl (by decide +kernel) ⟨(Nat.le_of_ble_eq_true rfl), (Nat.le_of_ble_eq_true rfl)⟩) hCP (CP_rc hCP) rfl rfl hl.1 (Nat.le_of_ble_eq_true rfl) dX0_requirePlace_2 ⟨Nat.zero_le _, Nat.zero_le _⟩ ?_
  refine lv_istore_n (lv' := [(2, .int (iI (-1))), (0, .ref x0), (1, .int (iI (x)))]) hx hb dX0_requirePlace_5 rfl hl (by decide) rfl (fun ls hl => ?_)
  refine lv_iload_n hx hb dX0_requirePlace_6 rfl (lv_at hl 0 rfl) ?_
  refine pv_iconst hx hb dX0_requirePlace_7 ?_
  refine pv_icmp_ne (tgt := 21) hx hb dX0_requirePlace_8 (by decide) (by omega) (fun c_8 => ?_) (fun c_8 => ?_)
  · exact absurd rfl c_8
  · -- 8f
    have hst : l.stackTraces = false := hfl
    obtain ⟨tw0, tw1, tw2, tw3, tw4, tw5, kw0, kw1, kw2, kd0, kd1, kd2, hU9, hN9⟩ := hTW
    have hgd : ∀ w ∈ (vx_atS RX0 83 "java/lang/IndexOutOfBoundsException" ["java/lang/RuntimeException", "java/lang/Exception"]).filter goodWord, w ∈ wsX0_requirePlace := by decide +kernel
    have hat : ∀ w ∈ vx_atS RX0 83 "java/lang/IndexOutOfBoundsException" ["java/lang/RuntimeException", "java/lang/Exception"], w.before _ s = true := vx_hat (L := vx_atS RX0 83 "java/lang/IndexOutOfBoundsException" ["java/lang/RuntimeException", "java/lang/Exception"]) (B := [.castable "java/lang/IndexOutOfBoundsException" "java/lang/IndexOutOfBoundsException", .declares (Bundle.initS "java/lang/RuntimeException"), .declares (Bundle.initS "java/lang/Exception"), .declares (Bundle.initS "java/lang/Throwable")]) (fun w hw => hts w (hgd w hw)) (by decide +kernel) (vx_c (va_Nw.use rfl kw0) (vx_c (va_Nw.use rfl kd0) (vx_c (va_Nw.use rfl kd1) (vx_c (va_Nw.use rfl kd2) vx_n))))
    exact vx_throwS (rest := []) (names := ["java/lang/RuntimeException", "java/lang/Exception"]) (cls := "java/lang/IndexOutOfBoundsException") (A := fun q => base ≤ q) hx hb hst hown (by decide +kernel) (by decide +kernel) (hts (.classLink RX0 79 "java/lang/IndexOutOfBoundsException") (by decide +kernel)) (hts (.initialized "java/lang/IndexOutOfBoundsException") (by decide +kernel)) tw2 hat (by decide +kernel) hU9 hN9 va_S.rf (hl.1.trans hml.symm) dX0_requirePlace_11 dX0_requirePlace_14 dX0_requirePlace_15 dX0_requirePlace_17 dX0_requirePlace_20 (fun x hx => (hno x hx).elim) (Nat.le_of_ble_eq_true rfl) (Nat.le_of_ble_eq_true rfl) (Nat.le_of_ble_eq_true rfl) (Nat.le_of_ble_eq_true rfl) hlocks (fun t _ h1 h2 => ⟨rfl, h1, h2⟩) (fun _ h => by cases h) (by omega) (by omega)
set_option maxHeartbeats 4000000 in
set_option maxRecDepth 100000 in
theorem c_size (l : Launch) (D : va_G) (cI cZ : ClassId) (base st : Nat) (Z : Nat → Nat) (x0 x1 x2 x5 x6 x7 : Nat) {n came MV : Int} {F G SP RF RC : Int → Int} (hn : 0 ≤ n ∧ n ≤ 60) : pu_M l yX0_size wsX0_size ({ frames := 0, cells := 0, slots := 0, locals := 0 } : Room) [.ref x0] (CP D cI cZ base st Z x0 x1 x2 x5 x6 x7 n came MV F G SP RF RC) (n) := by
  refine pu_of (cc := cX0_size) (maxL := 1) (ret := (some .int)) (own := RX0) (by decide) rfl rfl (Nat.le_of_ble_eq_true rfl) ?_
  intro p e s m below meth c ls B hCP hl
  obtain ⟨hx, hb, hml, hr, hts, hown, hlocks⟩ := B
  obtain ⟨⟨hK, hZL, ⟨hstb, xs, hXL, hAL⟩, hTW⟩, f, g, sp, rf, rc, hAf, hAg, hAsp, hArf, hArc, hP, hDb⟩ := id hCP
  have hl : lv_has ls 1 [(0, .ref x0)] := hl
  have hin : ∀ w ∈ u_ws RX0 TX0 8, w ∈ wsX0_size := by decide +kernel
  have q_count := hts (.fieldLink RX0 53 "ShelfMarks" "count" "I") (by decide +kernel)
  refine lv_aload_n hx hb dX0_size_0 rfl (lv_at hl 0 rfl) ?_
  refine va_get (D := D) (ci := 0) (v := .int (iI (n))) (C := RX0) (T := TX0) (N := 8) hx hb hts hin hown hK hP 0 rfl rfl 2 (by decide) q_count (fun _ h9 => h9) rfl dX0_size_1 ?_
  exact pu_iret hx hb hr hlocks dX0_size_4 (by rfl)
set_option maxHeartbeats 4000000 in
set_option maxRecDepth 100000 in
theorem c_moved (l : Launch) (D : va_G) (cI cZ : ClassId) (base st : Nat) (Z : Nat → Nat) (x0 x1 x2 x5 x6 x7 : Nat) {n came MV : Int} {F G SP RF RC : Int → Int}  : pu_M l yX0_moved wsX0_moved ({ frames := 0, cells := 0, slots := 0, locals := 0 } : Room) [.ref x0] (CP D cI cZ base st Z x0 x1 x2 x5 x6 x7 n came MV F G SP RF RC) (MV) := by
  refine pu_of (cc := cX0_moved) (maxL := 1) (ret := (some .int)) (own := RX0) (by decide) rfl rfl (Nat.le_of_ble_eq_true rfl) ?_
  intro p e s m below meth c ls B hCP hl
  obtain ⟨hx, hb, hml, hr, hts, hown, hlocks⟩ := B
  obtain ⟨⟨hK, hZL, ⟨hstb, xs, hXL, hAL⟩, hTW⟩, f, g, sp, rf, rc, hAf, hAg, hAsp, hArf, hArc, hP, hDb⟩ := id hCP
  have hl : lv_has ls 1 [(0, .ref x0)] := hl
  have hin : ∀ w ∈ u_ws RX0 TX0 8, w ∈ wsX0_moved := by decide +kernel
  have q_moves := hts (.fieldLink RX0 95 "ShelfMarks" "moves" "I") (by decide +kernel)
  refine lv_aload_n hx hb dX0_moved_0 rfl (lv_at hl 0 rfl) ?_
  refine va_get (D := D) (ci := 0) (v := .int (iI (MV))) (C := RX0) (T := TX0) (N := 8) hx hb hts hin hown hK hP 0 rfl rfl 4 (by decide) q_moves (fun _ h9 => h9) rfl dX0_moved_1 ?_
  exact pu_iret hx hb hr hlocks dX0_moved_4 (by rfl)
set_option maxHeartbeats 4000000 in
set_option maxRecDepth 100000 in
theorem c_first (l : Launch) (D : va_G) (cI cZ : ClassId) (base st : Nat) (Z : Nat → Nat) (x0 x1 x2 x5 x6 x7 : Nat) {n came MV : Int} {F G SP RF RC : Int → Int} (hn : 0 ≤ n ∧ n ≤ 60) (r : Int) (hr9 : r = fa F n 0) : pu_M l yX0_first wsX0_first ({ frames := 2, cells := 0, slots := 0, locals := 42 } : Room) [.ref x0] (CP D cI cZ base st Z x0 x1 x2 x5 x6 x7 n came MV F G SP RF RC) (r) := by
  refine pu_of (cc := cX0_first) (maxL := 1) (ret := (some .int)) (own := RX0) (by decide) rfl rfl (Nat.le_of_ble_eq_true rfl) ?_
  intro p e s m below meth c ls B hCP hl
  obtain ⟨hx, hb, hml, hr, hts, hown, hlocks⟩ := B
  obtain ⟨⟨hK, hZL, ⟨hstb, xs, hXL, hAL⟩, hTW⟩, f, g, sp, rf, rc, hAf, hAg, hAsp, hArf, hArc, hP, hDb⟩ := id hCP
  have hl : lv_has ls 1 [(0, .ref x0)] := hl
  refine lv_aload_n hx hb dX0_first_0 rfl (lv_at hl 0 rfl) ?_
  refine pv_iconst hx hb dX0_first_1 ?_
  refine pu_callV (As := [.int (iI (0))]) (rest := []) CP_mv ⟨hx, hb, hml, hown, hts⟩ (c_folderAt l D cI cZ base st Z x0 x1 x2 x5 x6 x7 hn 0 (by omega) r hr9) (cwV 1 hts gX0_first_X0_folderAt rfl rfl rfl (by decide +kernel) ⟨(Nat.le_of_ble_eq_true rfl), (Nat.le_of_ble_eq_true rfl)⟩) hCP (CP_rc hCP) rfl rfl hl.1 (Nat.le_of_ble_eq_true rfl) dX0_first_2 ⟨Nat.zero_le _, Nat.zero_le _⟩ ?_
  exact pu_iret hx hb hr hlocks dX0_first_5 (by rfl)
set_option maxHeartbeats 4000000 in
set_option maxRecDepth 100000 in
theorem c_next (l : Launch) (D : va_G) (cI cZ : ClassId) (base st : Nat) (Z : Nat → Nat) (x0 x1 x2 x5 x6 x7 : Nat) {n came MV : Int} {F G SP RF RC : Int → Int} (hn : 0 ≤ n ∧ n ≤ 60) (hF : ∀ k : Int, 0 ≤ k → k < n → 0 ≤ F k ∧ F k < 200) (x : Int) (hxr : (-2147483648 ≤ x ∧ x ≤ 2147483647)) (rp : Int) (hrp : PL F n x rp) (h0 : 0 ≤ rp) (r : Int) (hr9 : r = fa F n (rp + 1)) : pu_M l yX0_next wsX0_next ({ frames := 2, cells := 0, slots := 0, locals := 44 } : Room) [.ref x0, .int (iI (x))] (CP D cI cZ base st Z x0 x1 x2 x5 x6 x7 n came MV F G SP RF RC) (r) := by
  refine pu_of (cc := cX0_next) (maxL := 2) (ret := (some .int)) (own := RX0) (by decide) rfl rfl (Nat.le_of_ble_eq_true rfl) ?_
  intro p e s m below meth c ls B hCP hl
  obtain ⟨hx, hb, hml, hr, hts, hown, hlocks⟩ := B
  obtain ⟨⟨hK, hZL, ⟨hstb, xs, hXL, hAL⟩, hTW⟩, f, g, sp, rf, rc, hAf, hAg, hAsp, hArf, hArc, hP, hDb⟩ := id hCP
  have hl : lv_has ls 2 [(0, .ref x0), (1, .int (iI (x)))] := hl
  refine lv_aload_n hx hb dX0_next_0 rfl (lv_at hl 0 rfl) ?_
  refine lv_aload_n hx hb dX0_next_1 rfl (lv_at hl 0 rfl) ?_
  refine lv_iload_n hx hb dX0_next_2 rfl (lv_at hl 1 rfl) ?_
  refine pu_callV (As := [.int (iI (x))]) (rest := [.ref x0]) CP_mv ⟨hx, hb, hml, hown, hts⟩ (c_requirePlace l D cI cZ base st Z x0 x1 x2 x5 x6 x7 hn hF x hxr rp hrp h0) (cwV 1 hts gX0_next_X0_requirePlace rfl rfl rfl (by decide +kernel) ⟨(Nat.le_of_ble_eq_true rfl), (Nat.le_of_ble_eq_true rfl)⟩) hCP (CP_rc hCP) rfl rfl hl.1 (Nat.le_of_ble_eq_true rfl) dX0_next_3 ⟨Nat.zero_le _, Nat.zero_le _⟩ ?_
  have hpr := PL_rg hn.1 hrp
  refine pv_iconst hx hb dX0_next_6 ?_
  refine pv_iadd hx hb dX0_next_7 ?_
  refine pu_callV (As := [.int (iI ((rp) + (1)))]) (rest := []) CP_mv ⟨hx, hb, hml, hown, hts⟩ (c_folderAt l D cI cZ base st Z x0 x1 x2 x5 x6 x7 hn (rp + 1) (by omega) r hr9) (cwV 1 hts gX0_next_X0_folderAt rfl rfl rfl (by decide +kernel) ⟨(Nat.le_of_ble_eq_true rfl), (Nat.le_of_ble_eq_true rfl)⟩) hCP (CP_rc hCP) rfl rfl hl.1 (Nat.le_of_ble_eq_true rfl) dX0_next_8 ⟨Nat.zero_le _, Nat.zero_le _⟩ ?_
  exact pu_iret hx hb hr hlocks dX0_next_11 (by rfl)
set_option maxHeartbeats 4000000 in
set_option maxRecDepth 100000 in
theorem t_next (l : Launch) (D : va_G) (cI cZ : ClassId) (base st : Nat) (Z : Nat → Nat) (x0 x1 x2 x5 x6 x7 : Nat) {n came MV : Int} {F G SP RF RC : Int → Int} (hfl : l.stackTraces = false) (hn : 0 ≤ n ∧ n ≤ 60) (hF : ∀ k : Int, 0 ≤ k → k < n → 0 ≤ F k ∧ F k < 200) (x : Int) (hxr : (-2147483648 ≤ x ∧ x ≤ 2147483647)) (hrp : PL F n x (-1)) : th_M l yX0_next wsX0_next ({ frames := 7, cells := 1, slots := 6, locals := 114 } : Room) [.ref x0, .int (iI (x))] (CP D cI cZ base st Z x0 x1 x2 x5 x6 x7 n came MV F G SP RF RC) "java/lang/IndexOutOfBoundsException" := by
  refine th_of (cc := cX0_next) (maxL := 2) (ret := (some .int)) (own := RX0) (by decide) rfl rfl (Nat.le_of_ble_eq_true rfl) ?_
  intro p e s m below meth c ls B hno hCP hl
  obtain ⟨hx, hb, hml, hr, hts, hown, hlocks⟩ := B
  obtain ⟨⟨hK, hZL, ⟨hstb, xs, hXL, hAL⟩, hTW⟩, f, g, sp, rf, rc, hAf, hAg, hAsp, hArf, hArc, hP, hDb⟩ := id hCP
  have hl : lv_has ls 2 [(0, .ref x0), (1, .int (iI (x)))] := hl
  refine lv_aload_n hx hb dX0_next_0 rfl (lv_at hl 0 rfl) ?_
  refine lv_aload_n hx hb dX0_next_1 rfl (lv_at hl 0 rfl) ?_
  refine lv_iload_n hx hb dX0_next_2 rfl (lv_at hl 1 rfl) ?_
  refine th_callV (As := [.int (iI (x))]) (rest := [.ref x0]) CP_mv ⟨hx, hb, hml, hown, hts⟩ (t_requirePlace l D cI cZ base st Z x0 x1 x2 x5 x6 x7 hfl hn hF x hxr hrp) (cwV 1 hts gX0_next_X0_requirePlace rfl rfl rfl (by decide +kernel) ⟨(Nat.le_of_ble_eq_true rfl), (Nat.le_of_ble_eq_true rfl)⟩) hCP (CP_rc hCP) rfl rfl hl.1 (Nat.le_of_ble_eq_true rfl) dX0_next_3 ⟨(Nat.le_of_ble_eq_true rfl), (Nat.le_of_ble_eq_true rfl)⟩ (fun H1 ce q9 h1 h2 h3 h4 h5 => ?_)
  exact th_out hno hlocks h1 h2 h3 h4 h5
set_option maxHeartbeats 4000000 in
set_option maxRecDepth 100000 in
theorem c_previous (l : Launch) (D : va_G) (cI cZ : ClassId) (base st : Nat) (Z : Nat → Nat) (x0 x1 x2 x5 x6 x7 : Nat) {n came MV : Int} {F G SP RF RC : Int → Int} (hn : 0 ≤ n ∧ n ≤ 60) (hF : ∀ k : Int, 0 ≤ k → k < n → 0 ≤ F k ∧ F k < 200) (x : Int) (hxr : (-2147483648 ≤ x ∧ x ≤ 2147483647)) (rp : Int) (hrp : PL F n x rp) (h0 : 0 ≤ rp) (r : Int) (hr9 : r = fa F n (rp - 1)) : pu_M l yX0_previous wsX0_previous ({ frames := 2, cells := 0, slots := 0, locals := 44 } : Room) [.ref x0, .int (iI (x))] (CP D cI cZ base st Z x0 x1 x2 x5 x6 x7 n came MV F G SP RF RC) (r) := by
  refine pu_of (cc := cX0_previous) (maxL := 2) (ret := (some .int)) (own := RX0) (by decide) rfl rfl (Nat.le_of_ble_eq_true rfl) ?_
  intro p e s m below meth c ls B hCP hl
  obtain ⟨hx, hb, hml, hr, hts, hown, hlocks⟩ := B
  obtain ⟨⟨hK, hZL, ⟨hstb, xs, hXL, hAL⟩, hTW⟩, f, g, sp, rf, rc, hAf, hAg, hAsp, hArf, hArc, hP, hDb⟩ := id hCP
  have hl : lv_has ls 2 [(0, .ref x0), (1, .int (iI (x)))] := hl
  refine lv_aload_n hx hb dX0_previous_0 rfl (lv_at hl 0 rfl) ?_
  refine lv_aload_n hx hb dX0_previous_1 rfl (lv_at hl 0 rfl) ?_
  refine lv_iload_n hx hb dX0_previous_2 rfl (lv_at hl 1 rfl) ?_
  refine pu_callV (As := [.int (iI (x))]) (rest := [.ref x0]) CP_mv ⟨hx, hb, hml, hown, hts⟩ (c_requirePlace l D cI cZ base st Z x0 x1 x2 x5 x6 x7 hn hF x hxr rp hrp h0) (cwV 1 hts gX0_previous_X0_requirePlace rfl rfl rfl (by decide +kernel) ⟨(Nat.le_of_ble_eq_true rfl), (Nat.le_of_ble_eq_true rfl)⟩) hCP (CP_rc hCP) rfl rfl hl.1 (Nat.le_of_ble_eq_true rfl) dX0_previous_3 ⟨Nat.zero_le _, Nat.zero_le _⟩ ?_
  have hpr := PL_rg hn.1 hrp
  refine pv_iconst hx hb dX0_previous_6 ?_
  refine pv_isub hx hb dX0_previous_7 ?_
  refine pu_callV (As := [.int (iI ((rp) - (1)))]) (rest := []) CP_mv ⟨hx, hb, hml, hown, hts⟩ (c_folderAt l D cI cZ base st Z x0 x1 x2 x5 x6 x7 hn (rp - 1) (by omega) r hr9) (cwV 1 hts gX0_previous_X0_folderAt rfl rfl rfl (by decide +kernel) ⟨(Nat.le_of_ble_eq_true rfl), (Nat.le_of_ble_eq_true rfl)⟩) hCP (CP_rc hCP) rfl rfl hl.1 (Nat.le_of_ble_eq_true rfl) dX0_previous_8 ⟨Nat.zero_le _, Nat.zero_le _⟩ ?_
  exact pu_iret hx hb hr hlocks dX0_previous_11 (by rfl)
set_option maxHeartbeats 4000000 in
set_option maxRecDepth 100000 in
theorem t_previous (l : Launch) (D : va_G) (cI cZ : ClassId) (base st : Nat) (Z : Nat → Nat) (x0 x1 x2 x5 x6 x7 : Nat) {n came MV : Int} {F G SP RF RC : Int → Int} (hfl : l.stackTraces = false) (hn : 0 ≤ n ∧ n ≤ 60) (hF : ∀ k : Int, 0 ≤ k → k < n → 0 ≤ F k ∧ F k < 200) (x : Int) (hxr : (-2147483648 ≤ x ∧ x ≤ 2147483647)) (hrp : PL F n x (-1)) : th_M l yX0_previous wsX0_previous ({ frames := 7, cells := 1, slots := 6, locals := 114 } : Room) [.ref x0, .int (iI (x))] (CP D cI cZ base st Z x0 x1 x2 x5 x6 x7 n came MV F G SP RF RC) "java/lang/IndexOutOfBoundsException" := by
  refine th_of (cc := cX0_previous) (maxL := 2) (ret := (some .int)) (own := RX0) (by decide) rfl rfl (Nat.le_of_ble_eq_true rfl) ?_
  intro p e s m below meth c ls B hno hCP hl
  obtain ⟨hx, hb, hml, hr, hts, hown, hlocks⟩ := B
  obtain ⟨⟨hK, hZL, ⟨hstb, xs, hXL, hAL⟩, hTW⟩, f, g, sp, rf, rc, hAf, hAg, hAsp, hArf, hArc, hP, hDb⟩ := id hCP
  have hl : lv_has ls 2 [(0, .ref x0), (1, .int (iI (x)))] := hl
  refine lv_aload_n hx hb dX0_previous_0 rfl (lv_at hl 0 rfl) ?_
  refine lv_aload_n hx hb dX0_previous_1 rfl (lv_at hl 0 rfl) ?_
  refine lv_iload_n hx hb dX0_previous_2 rfl (lv_at hl 1 rfl) ?_
  refine th_callV (As := [.int (iI (x))]) (rest := [.ref x0]) CP_mv ⟨hx, hb, hml, hown, hts⟩ (t_requirePlace l D cI cZ base st Z x0 x1 x2 x5 x6 x7 hfl hn hF x hxr hrp) (cwV 1 hts gX0_previous_X0_requirePlace rfl rfl rfl (by decide +kernel) ⟨(Nat.le_of_ble_eq_true rfl), (Nat.le_of_ble_eq_true rfl)⟩) hCP (CP_rc hCP) rfl rfl hl.1 (Nat.le_of_ble_eq_true rfl) dX0_previous_3 ⟨(Nat.le_of_ble_eq_true rfl), (Nat.le_of_ble_eq_true rfl)⟩ (fun H1 ce q9 h1 h2 h3 h4 h5 => ?_)
  exact th_out hno hlocks h1 h2 h3 h4 h5
set_option maxHeartbeats 4000000 in
set_option maxRecDepth 100000 in
theorem c_has (l : Launch) (D : va_G) (cI cZ : ClassId) (base st : Nat) (Z : Nat → Nat) (x0 x1 x2 x5 x6 x7 : Nat) {n came MV : Int} {F G SP RF RC : Int → Int} (hn : 0 ≤ n ∧ n ≤ 60) (hF : ∀ k : Int, 0 ≤ k → k < n → 0 ≤ F k ∧ F k < 200) (x : Int) (hxr : (-2147483648 ≤ x ∧ x ≤ 2147483647)) (rp : Int) (hrp : PL F n x rp) (r : Int) (hr9 : r = if rp = -1 then 0 else 1) : pu_M l yX0_has wsX0_has ({ frames := 1, cells := 0, slots := 0, locals := 22 } : Room) [.ref x0, .int (iI (x))] (CP D cI cZ base st Z x0 x1 x2 x5 x6 x7 n came MV F G SP RF RC) (r) := by
  refine pu_of (cc := cX0_has) (maxL := 2) (ret := (some .boolean)) (own := RX0) (by decide) rfl rfl (Nat.le_of_ble_eq_true rfl) ?_
  intro p e s m below meth c ls B hCP hl
  obtain ⟨hx, hb, hml, hr, hts, hown, hlocks⟩ := B
  obtain ⟨⟨hK, hZL, ⟨hstb, xs, hXL, hAL⟩, hTW⟩, f, g, sp, rf, rc, hAf, hAg, hAsp, hArf, hArc, hP, hDb⟩ := id hCP
  have hl : lv_has ls 2 [(0, .ref x0), (1, .int (iI (x)))] := hl
  have hz9 : r = 0 ∨ r = 1 := by rw [hr9]; split <;> omega
  refine lv_aload_n hx hb dX0_has_0 rfl (lv_at hl 0 rfl) ?_
  refine lv_iload_n hx hb dX0_has_1 rfl (lv_at hl 1 rfl) ?_
  refine pu_callV (As := [.int (iI (x))]) (rest := []) CP_mv ⟨hx, hb, hml, hown, hts⟩ (c_placeOf l D cI cZ base st Z x0 x1 x2 x5 x6 x7 hn hF x hxr rp hrp) (cwV 1 hts gX0_has_X0_placeOf rfl rfl rfl (by decide +kernel) ⟨(Nat.le_of_ble_eq_true rfl), (Nat.le_of_ble_eq_true rfl)⟩) hCP (CP_rc hCP) rfl rfl hl.1 (Nat.le_of_ble_eq_true rfl) dX0_has_2 ⟨Nat.zero_le _, Nat.zero_le _⟩ ?_
  have hpr := PL_rg hn.1 hrp
  refine pv_iconst hx hb dX0_has_5 ?_
  refine pv_icmp_eq (tgt := 13) hx hb dX0_has_6 (by decide) (by omega) (fun c_6 => ?_) (fun c_6 => ?_)
  · -- 6t
    refine pv_iconst hx hb dX0_has_13 ?_
    exact pu_zret hx hb hr hlocks dX0_has_14 (by rw [hr9, if_pos c_6]) hz9
  · -- 6f
    refine pv_iconst hx hb dX0_has_9 ?_
    refine lv_goto (tgt := 14) hx hb dX0_has_10 (by decide) ?_
    exact pu_zret hx hb hr hlocks dX0_has_14 (by rw [hr9, if_neg c_6]) hz9
set_option maxHeartbeats 4000000 in
set_option maxRecDepth 100000 in
theorem c_mark (l : Launch) (D : va_G) (cI cZ : ClassId) (base st : Nat) (Z : Nat → Nat) (x0 x1 x2 x5 x6 x7 : Nat) {n came MV : Int} {F G SP RF RC : Int → Int} (hn : 0 ≤ n ∧ n ≤ 60) (hF : ∀ k : Int, 0 ≤ k → k < n → 0 ≤ F k ∧ F k < 200) (x : Int) (hxr : (-2147483648 ≤ x ∧ x ≤ 2147483647)) (rp : Int) (hrp : PL F n x rp) (h0 : 0 ≤ rp) : pu_M l yX0_mark wsX0_mark ({ frames := 2, cells := 0, slots := 0, locals := 44 } : Room) [.ref x0, .int (iI (x))] (CP D cI cZ base st Z x0 x1 x2 x5 x6 x7 n came MV F G SP RF RC) (G rp) := by
  refine pu_of (cc := cX0_mark) (maxL := 2) (ret := (some .int)) (own := RX0) (by decide) rfl rfl (Nat.le_of_ble_eq_true rfl) ?_
  intro p e s m below meth c ls B hCP hl
  obtain ⟨hx, hb, hml, hr, hts, hown, hlocks⟩ := B
  obtain ⟨⟨hK, hZL, ⟨hstb, xs, hXL, hAL⟩, hTW⟩, f, g, sp, rf, rc, hAf, hAg, hAsp, hArf, hArc, hP, hDb⟩ := id hCP
  have hl : lv_has ls 2 [(0, .ref x0), (1, .int (iI (x)))] := hl
  refine lv_aload_n hx hb dX0_mark_0 rfl (lv_at hl 0 rfl) ?_
  refine lv_aload_n hx hb dX0_mark_1 rfl (lv_at hl 0 rfl) ?_
  refine lv_iload_n hx hb dX0_mark_2 rfl (lv_at hl 1 rfl) ?_
  refine pu_callV (As := [.int (iI (x))]) (rest := [.ref x0]) CP_mv ⟨hx, hb, hml, hown, hts⟩ (c_requirePlace l D cI cZ base st Z x0 x1 x2 x5 x6 x7 hn hF x hxr rp hrp h0) (cwV 1 hts gX0_mark_X0_requirePlace rfl rfl rfl (by decide +kernel) ⟨(Nat.le_of_ble_eq_true rfl), (Nat.le_of_ble_eq_true rfl)⟩) hCP (CP_rc hCP) rfl rfl hl.1 (Nat.le_of_ble_eq_true rfl) dX0_mark_3 ⟨Nat.zero_le _, Nat.zero_le _⟩ ?_
  have hpr := PL_rg hn.1 hrp
  refine pu_callV (As := [.int (iI (rp))]) (rest := []) CP_mv ⟨hx, hb, hml, hown, hts⟩ (c_markAt l D cI cZ base st Z x0 x1 x2 x5 x6 x7 hn rp (by omega) _ (ma_in (by omega))) (cwV 1 hts gX0_mark_X0_markAt rfl rfl rfl (by decide +kernel) ⟨(Nat.le_of_ble_eq_true rfl), (Nat.le_of_ble_eq_true rfl)⟩) hCP (CP_rc hCP) rfl rfl hl.1 (Nat.le_of_ble_eq_true rfl) dX0_mark_6 ⟨Nat.zero_le _, Nat.zero_le _⟩ ?_
  exact pu_iret hx hb hr hlocks dX0_mark_9 (by rfl)
set_option maxHeartbeats 4000000 in
set_option maxRecDepth 100000 in
theorem t_mark (l : Launch) (D : va_G) (cI cZ : ClassId) (base st : Nat) (Z : Nat → Nat) (x0 x1 x2 x5 x6 x7 : Nat) {n came MV : Int} {F G SP RF RC : Int → Int} (hfl : l.stackTraces = false) (hn : 0 ≤ n ∧ n ≤ 60) (hF : ∀ k : Int, 0 ≤ k → k < n → 0 ≤ F k ∧ F k < 200) (x : Int) (hxr : (-2147483648 ≤ x ∧ x ≤ 2147483647)) (hrp : PL F n x (-1)) : th_M l yX0_mark wsX0_mark ({ frames := 7, cells := 1, slots := 6, locals := 114 } : Room) [.ref x0, .int (iI (x))] (CP D cI cZ base st Z x0 x1 x2 x5 x6 x7 n came MV F G SP RF RC) "java/lang/IndexOutOfBoundsException" := by
  refine th_of (cc := cX0_mark) (maxL := 2) (ret := (some .int)) (own := RX0) (by decide) rfl rfl (Nat.le_of_ble_eq_true rfl) ?_
  intro p e s m below meth c ls B hno hCP hl
  obtain ⟨hx, hb, hml, hr, hts, hown, hlocks⟩ := B
  obtain ⟨⟨hK, hZL, ⟨hstb, xs, hXL, hAL⟩, hTW⟩, f, g, sp, rf, rc, hAf, hAg, hAsp, hArf, hArc, hP, hDb⟩ := id hCP
  have hl : lv_has ls 2 [(0, .ref x0), (1, .int (iI (x)))] := hl
  refine lv_aload_n hx hb dX0_mark_0 rfl (lv_at hl 0 rfl) ?_
  refine lv_aload_n hx hb dX0_mark_1 rfl (lv_at hl 0 rfl) ?_
  refine lv_iload_n hx hb dX0_mark_2 rfl (lv_at hl 1 rfl) ?_
  refine th_callV (As := [.int (iI (x))]) (rest := [.ref x0]) CP_mv ⟨hx, hb, hml, hown, hts⟩ (t_requirePlace l D cI cZ base st Z x0 x1 x2 x5 x6 x7 hfl hn hF x hxr hrp) (cwV 1 hts gX0_mark_X0_requirePlace rfl rfl rfl (by decide +kernel) ⟨(Nat.le_of_ble_eq_true rfl), (Nat.le_of_ble_eq_true rfl)⟩) hCP (CP_rc hCP) rfl rfl hl.1 (Nat.le_of_ble_eq_true rfl) dX0_mark_3 ⟨(Nat.le_of_ble_eq_true rfl), (Nat.le_of_ble_eq_true rfl)⟩ (fun H1 ce q9 h1 h2 h3 h4 h5 => ?_)
  exact th_out hno hlocks h1 h2 h3 h4 h5
set_option maxHeartbeats 4000000 in
set_option maxRecDepth 100000 in
theorem c_ahead (l : Launch) (D : va_G) (cI cZ : ClassId) (base st : Nat) (Z : Nat → Nat) (x0 x1 x2 x5 x6 x7 : Nat) {n came MV : Int} {F G SP RF RC : Int → Int} (hn : 0 ≤ n ∧ n ≤ 60) (hF : ∀ k : Int, 0 ≤ k → k < n → 0 ≤ F k ∧ F k < 200) (x : Int) (hxr : (-2147483648 ≤ x ∧ x ≤ 2147483647)) (rp : Int) (hrp : PL F n x rp) (h0 : 0 ≤ rp) (hG : ∀ k : Int, 0 ≤ k → k < n → 0 ≤ G k ∧ G k ≤ 255) (hs : SD G n) : pu_M l yX0_ahead wsX0_ahead ({ frames := 2, cells := 0, slots := 0, locals := 44 } : Room) [.ref x0, .int (iI (x))] (CP D cI cZ base st Z x0 x1 x2 x5 x6 x7 n came MV F G SP RF RC) (mb G n (G rp)) := by
  refine pu_of (cc := cX0_ahead) (maxL := 2) (ret := (some .int)) (own := RX0) (by decide) rfl rfl (Nat.le_of_ble_eq_true rfl) ?_
  intro p e s m below meth c ls B hCP hl
  obtain ⟨hx, hb, hml, hr, hts, hown, hlocks⟩ := B
  obtain ⟨⟨hK, hZL, ⟨hstb, xs, hXL, hAL⟩, hTW⟩, f, g, sp, rf, rc, hAf, hAg, hAsp, hArf, hArc, hP, hDb⟩ := id hCP
  have hl : lv_has ls 2 [(0, .ref x0), (1, .int (iI (x)))] := hl
  refine lv_aload_n hx hb dX0_ahead_0 rfl (lv_at hl 0 rfl) ?_
  refine lv_aload_n hx hb dX0_ahead_1 rfl (lv_at hl 0 rfl) ?_
  refine lv_aload_n hx hb dX0_ahead_2 rfl (lv_at hl 0 rfl) ?_
  refine lv_iload_n hx hb dX0_ahead_3 rfl (lv_at hl 1 rfl) ?_
  refine pu_callV (As := [.int (iI (x))]) (rest := [.ref x0, .ref x0]) CP_mv ⟨hx, hb, hml, hown, hts⟩ (c_requirePlace l D cI cZ base st Z x0 x1 x2 x5 x6 x7 hn hF x hxr rp hrp h0) (cwV 1 hts gX0_ahead_X0_requirePlace rfl rfl rfl (by decide +kernel) ⟨(Nat.le_of_ble_eq_true rfl), (Nat.le_of_ble_eq_true rfl)⟩) hCP (CP_rc hCP) rfl rfl hl.1 (Nat.le_of_ble_eq_true rfl) dX0_ahead_4 ⟨Nat.zero_le _, Nat.zero_le _⟩ ?_
  have hpr := PL_rg hn.1 hrp
  have hgp := hG rp h0 (by omega)
  refine pu_callV (As := [.int (iI (rp))]) (rest := [.ref x0]) CP_mv ⟨hx, hb, hml, hown, hts⟩ (c_markAt l D cI cZ base st Z x0 x1 x2 x5 x6 x7 hn rp (by omega) _ (ma_in (by omega))) (cwV 1 hts gX0_ahead_X0_markAt rfl rfl rfl (by decide +kernel) ⟨(Nat.le_of_ble_eq_true rfl), (Nat.le_of_ble_eq_true rfl)⟩) hCP (CP_rc hCP) rfl rfl hl.1 (Nat.le_of_ble_eq_true rfl) dX0_ahead_7 ⟨Nat.zero_le _, Nat.zero_le _⟩ ?_
  refine pu_callV (As := [.int (iI (G rp))]) (rest := []) CP_mv ⟨hx, hb, hml, hown, hts⟩ (c_marksBelow l D cI cZ base st Z x0 x1 x2 x5 x6 x7 hn hG _ (by omega) _ (mb_FI _ hn.1 hs)) (cwV 1 hts gX0_ahead_X0_marksBelow rfl rfl rfl (by decide +kernel) ⟨(Nat.le_of_ble_eq_true rfl), (Nat.le_of_ble_eq_true rfl)⟩) hCP (CP_rc hCP) rfl rfl hl.1 (Nat.le_of_ble_eq_true rfl) dX0_ahead_10 ⟨Nat.zero_le _, Nat.zero_le _⟩ ?_
  exact pu_iret hx hb hr hlocks dX0_ahead_13 (by rfl)
set_option maxHeartbeats 4000000 in
set_option maxRecDepth 100000 in
theorem t_ahead (l : Launch) (D : va_G) (cI cZ : ClassId) (base st : Nat) (Z : Nat → Nat) (x0 x1 x2 x5 x6 x7 : Nat) {n came MV : Int} {F G SP RF RC : Int → Int} (hfl : l.stackTraces = false) (hn : 0 ≤ n ∧ n ≤ 60) (hF : ∀ k : Int, 0 ≤ k → k < n → 0 ≤ F k ∧ F k < 200) (x : Int) (hxr : (-2147483648 ≤ x ∧ x ≤ 2147483647)) (hrp : PL F n x (-1)) : th_M l yX0_ahead wsX0_ahead ({ frames := 7, cells := 1, slots := 6, locals := 114 } : Room) [.ref x0, .int (iI (x))] (CP D cI cZ base st Z x0 x1 x2 x5 x6 x7 n came MV F G SP RF RC) "java/lang/IndexOutOfBoundsException" := by
  refine th_of (cc := cX0_ahead) (maxL := 2) (ret := (some .int)) (own := RX0) (by decide) rfl rfl (Nat.le_of_ble_eq_true rfl) ?_
  intro p e s m below meth c ls B hno hCP hl
  obtain ⟨hx, hb, hml, hr, hts, hown, hlocks⟩ := B
  obtain ⟨⟨hK, hZL, ⟨hstb, xs, hXL, hAL⟩, hTW⟩, f, g, sp, rf, rc, hAf, hAg, hAsp, hArf, hArc, hP, hDb⟩ := id hCP
  have hl : lv_has ls 2 [(0, .ref x0), (1, .int (iI (x)))] := hl
  refine lv_aload_n hx hb dX0_ahead_0 rfl (lv_at hl 0 rfl) ?_
  refine lv_aload_n hx hb dX0_ahead_1 rfl (lv_at hl 0 rfl) ?_
  refine lv_aload_n hx hb dX0_ahead_2 rfl (lv_at hl 0 rfl) ?_
  refine lv_iload_n hx hb dX0_ahead_3 rfl (lv_at hl 1 rfl) ?_
  refine th_callV (As := [.int (iI (x))]) (rest := [.ref x0, .ref x0]) CP_mv ⟨hx, hb, hml, hown, hts⟩ (t_requirePlace l D cI cZ base st Z x0 x1 x2 x5 x6 x7 hfl hn hF x hxr hrp) (cwV 1 hts gX0_ahead_X0_requirePlace rfl rfl rfl (by decide +kernel) ⟨(Nat.le_of_ble_eq_true rfl), (Nat.le_of_ble_eq_true rfl)⟩) hCP (CP_rc hCP) rfl rfl hl.1 (Nat.le_of_ble_eq_true rfl) dX0_ahead_4 ⟨(Nat.le_of_ble_eq_true rfl), (Nat.le_of_ble_eq_true rfl)⟩ (fun H1 ce q9 h1 h2 h3 h4 h5 => ?_)
  exact th_out hno hlocks h1 h2 h3 h4 h5
set_option maxHeartbeats 4000000 in
set_option maxRecDepth 100000 in
theorem c_from (l : Launch) (D : va_G) (cI cZ : ClassId) (base st : Nat) (Z : Nat → Nat) (x0 x1 x2 x5 x6 x7 : Nat) {n came MV : Int} {F G SP RF RC : Int → Int} (hn : 0 ≤ n ∧ n ≤ 60) (hG : ∀ k : Int, 0 ≤ k → k < n → 0 ≤ G k ∧ G k ≤ 255) (hs : SD G n) (x : Int) (hxr : (-2147483648 ≤ x ∧ x ≤ 2147483647)) : pu_M l yX0_from wsX0_from ({ frames := 2, cells := 0, slots := 0, locals := 42 } : Room) [.ref x0, .int (iI (x))] (CP D cI cZ base st Z x0 x1 x2 x5 x6 x7 n came MV F G SP RF RC) (fa F n (mb G n x)) := by
  refine pu_of (cc := cX0_from) (maxL := 2) (ret := (some .int)) (own := RX0) (by decide) rfl rfl (Nat.le_of_ble_eq_true rfl) ?_
  intro p e s m below meth c ls B hCP hl
  obtain ⟨hx, hb, hml, hr, hts, hown, hlocks⟩ := B
  obtain ⟨⟨hK, hZL, ⟨hstb, xs, hXL, hAL⟩, hTW⟩, f, g, sp, rf, rc, hAf, hAg, hAsp, hArf, hArc, hP, hDb⟩ := id hCP
  have hl : lv_has ls 2 [(0, .ref x0), (1, .int (iI (x)))] := hl
  refine lv_aload_n hx hb dX0_from_0 rfl (lv_at hl 0 rfl) ?_
  refine lv_aload_n hx hb dX0_from_1 rfl (lv_at hl 0 rfl) ?_
  refine lv_iload_n hx hb dX0_from_2 rfl (lv_at hl 1 rfl) ?_
  refine pu_callV (As := [.int (iI (x))]) (rest := [.ref x0]) CP_mv ⟨hx, hb, hml, hown, hts⟩ (c_marksBelow l D cI cZ base st Z x0 x1 x2 x5 x6 x7 hn hG x hxr _ (mb_FI _ hn.1 hs)) (cwV 1 hts gX0_from_X0_marksBelow rfl rfl rfl (by decide +kernel) ⟨(Nat.le_of_ble_eq_true rfl), (Nat.le_of_ble_eq_true rfl)⟩) hCP (CP_rc hCP) rfl rfl hl.1 (Nat.le_of_ble_eq_true rfl) dX0_from_3 ⟨Nat.zero_le _, Nat.zero_le _⟩ ?_
  have hmr := mb_rg (G := G) (m := x) hn.1
  refine pu_callV (As := [.int (iI (mb G n x))]) (rest := []) CP_mv ⟨hx, hb, hml, hown, hts⟩ (c_folderAt l D cI cZ base st Z x0 x1 x2 x5 x6 x7 hn _ (by omega) _ rfl) (cwV 1 hts gX0_from_X0_folderAt rfl rfl rfl (by decide +kernel) ⟨(Nat.le_of_ble_eq_true rfl), (Nat.le_of_ble_eq_true rfl)⟩) hCP (CP_rc hCP) rfl rfl hl.1 (Nat.le_of_ble_eq_true rfl) dX0_from_6 ⟨Nat.zero_le _, Nat.zero_le _⟩ ?_
  exact pu_iret hx hb hr hlocks dX0_from_9 (by rfl)
set_option maxHeartbeats 4000000 in
set_option maxRecDepth 100000 in
theorem c_gapBehind (l : Launch) (D : va_G) (cI cZ : ClassId) (base st : Nat) (Z : Nat → Nat) (x0 x1 x2 x5 x6 x7 : Nat) {n came MV : Int} {F G SP RF RC : Int → Int} (hn : 0 ≤ n ∧ n ≤ 60) (hF : ∀ k : Int, 0 ≤ k → k < n → 0 ≤ F k ∧ F k < 200) (x : Int) (hxr : (-2147483648 ≤ x ∧ x ≤ 2147483647)) (rp : Int) (hrp : PL F n x rp) (h0 : 0 ≤ rp) (hG : ∀ k : Int, 0 ≤ k → k < n → 0 ≤ G k ∧ G k ≤ 255) : pu_M l yX0_gapBehind wsX0_gapBehind ({ frames := 2, cells := 0, slots := 0, locals := 44 } : Room) [.ref x0, .int (iI (x))] (CP D cI cZ base st Z x0 x1 x2 x5 x6 x7 n came MV F G SP RF RC) (ma G n (rp + 1) - G rp - 1) := by
  refine pu_of (cc := cX0_gapBehind) (maxL := 3) (ret := (some .int)) (own := RX0) (by decide) rfl rfl (Nat.le_of_ble_eq_true rfl) ?_
  intro p e s m below meth c ls B hCP hl
  obtain ⟨hx, hb, hml, hr, hts, hown, hlocks⟩ := B
  obtain ⟨⟨hK, hZL, ⟨hstb, xs, hXL, hAL⟩, hTW⟩, f, g, sp, rf, rc, hAf, hAg, hAsp, hArf, hArc, hP, hDb⟩ := id hCP
  have hl : lv_has ls 3 [(0, .ref x0), (1, .int (iI (x)))] := hl
  refine lv_aload_n hx hb dX0_gapBehind_0 rfl (lv_at hl 0 rfl) ?_
  refine lv_iload_n hx hb dX0_gapBehind_1 rfl (lv_at hl 1 rfl) ?_
  refine pu_callV (As := [.int (iI (x))]) (rest := []) CP_mv ⟨hx, hb, hml, hown, hts⟩ (c_requirePlace l D cI cZ base st Z x0 x1 x2 x5 x6 x7 hn hF x hxr rp hrp h0) (cwV 1 hts gX0_gapBehind_X0_requirePlace rfl rfl rfl (by decide +kernel) ⟨(Nat.le_of_ble_eq_true rfl), (Nat.le_of_ble_eq_true rfl)⟩) hCP (CP_rc hCP) rfl rfl hl.1 (Nat.le_of_ble_eq_true rfl) dX0_gapBehind_2 ⟨Nat.zero_le _, Nat.zero_le _⟩ ?_
  have hpr := PL_rg hn.1 hrp
  refine lv_istore_n (lv' := [(2, .int (iI (rp))), (0, .ref x0), (1, .int (iI (x)))]) hx hb dX0_gapBehind_5 rfl hl (by decide) rfl (fun ls hl => ?_)
  have hpr := PL_rg hn.1 hrp
  refine lv_aload_n hx hb dX0_gapBehind_6 rfl (lv_at hl 1 rfl) ?_
  refine lv_iload_n hx hb dX0_gapBehind_7 rfl (lv_at hl 0 rfl) ?_
  refine pv_iconst hx hb dX0_gapBehind_8 ?_
  refine pv_iadd hx hb dX0_gapBehind_9 ?_
  have hpr := PL_rg hn.1 hrp
  refine pu_callV (As := [.int (iI ((rp) + (1)))]) (rest := []) CP_mv ⟨hx, hb, hml, hown, hts⟩ (c_markAt l D cI cZ base st Z x0 x1 x2 x5 x6 x7 hn (rp + 1) (by omega) _ rfl) (cwV 1 hts gX0_gapBehind_X0_markAt rfl rfl rfl (by decide +kernel) ⟨(Nat.le_of_ble_eq_true rfl), (Nat.le_of_ble_eq_true rfl)⟩) hCP (CP_rc hCP) rfl rfl hl.1 (Nat.le_of_ble_eq_true rfl) dX0_gapBehind_10 ⟨Nat.zero_le _, Nat.zero_le _⟩ ?_
  refine lv_aload_n hx hb dX0_gapBehind_13 rfl (lv_at hl 1 rfl) ?_
  refine lv_iload_n hx hb dX0_gapBehind_14 rfl (lv_at hl 0 rfl) ?_
  refine pu_callV (As := [.int (iI (rp))]) (rest := [.int (iI (ma G n (rp + 1)))]) CP_mv ⟨hx, hb, hml, hown, hts⟩ (c_markAt l D cI cZ base st Z x0 x1 x2 x5 x6 x7 hn rp (by omega) _ (ma_in (by omega))) (cwV 1 hts gX0_gapBehind_X0_markAt rfl rfl rfl (by decide +kernel) ⟨(Nat.le_of_ble_eq_true rfl), (Nat.le_of_ble_eq_true rfl)⟩) hCP (CP_rc hCP) rfl rfl hl.1 (Nat.le_of_ble_eq_true rfl) dX0_gapBehind_15 ⟨Nat.zero_le _, Nat.zero_le _⟩ ?_
  refine pv_isub hx hb dX0_gapBehind_18 ?_
  refine pv_iconst hx hb dX0_gapBehind_19 ?_
  refine pv_isub hx hb dX0_gapBehind_20 ?_
  exact pu_iret hx hb hr hlocks dX0_gapBehind_21 (by rfl)
set_option maxHeartbeats 4000000 in
set_option maxRecDepth 100000 in
theorem t_gapBehind (l : Launch) (D : va_G) (cI cZ : ClassId) (base st : Nat) (Z : Nat → Nat) (x0 x1 x2 x5 x6 x7 : Nat) {n came MV : Int} {F G SP RF RC : Int → Int} (hfl : l.stackTraces = false) (hn : 0 ≤ n ∧ n ≤ 60) (hF : ∀ k : Int, 0 ≤ k → k < n → 0 ≤ F k ∧ F k < 200) (x : Int) (hxr : (-2147483648 ≤ x ∧ x ≤ 2147483647)) (hrp : PL F n x (-1)) : th_M l yX0_gapBehind wsX0_gapBehind ({ frames := 7, cells := 1, slots := 6, locals := 114 } : Room) [.ref x0, .int (iI (x))] (CP D cI cZ base st Z x0 x1 x2 x5 x6 x7 n came MV F G SP RF RC) "java/lang/IndexOutOfBoundsException" := by
  refine th_of (cc := cX0_gapBehind) (maxL := 3) (ret := (some .int)) (own := RX0) (by decide) rfl rfl (Nat.le_of_ble_eq_true rfl) ?_
  intro p e s m below meth c ls B hno hCP hl
  obtain ⟨hx, hb, hml, hr, hts, hown, hlocks⟩ := B
  obtain ⟨⟨hK, hZL, ⟨hstb, xs, hXL, hAL⟩, hTW⟩, f, g, sp, rf, rc, hAf, hAg, hAsp, hArf, hArc, hP, hDb⟩ := id hCP
  have hl : lv_has ls 3 [(0, .ref x0), (1, .int (iI (x)))] := hl
  refine lv_aload_n hx hb dX0_gapBehind_0 rfl (lv_at hl 0 rfl) ?_
  refine lv_iload_n hx hb dX0_gapBehind_1 rfl (lv_at hl 1 rfl) ?_
  refine th_callV (As := [.int (iI (x))]) (rest := []) CP_mv ⟨hx, hb, hml, hown, hts⟩ (t_requirePlace l D cI cZ base st Z x0 x1 x2 x5 x6 x7 hfl hn hF x hxr hrp) (cwV 1 hts gX0_gapBehind_X0_requirePlace rfl rfl rfl (by decide +kernel) ⟨(Nat.le_of_ble_eq_true rfl), (Nat.le_of_ble_eq_true rfl)⟩) hCP (CP_rc hCP) rfl rfl hl.1 (Nat.le_of_ble_eq_true rfl) dX0_gapBehind_2 ⟨(Nat.le_of_ble_eq_true rfl), (Nat.le_of_ble_eq_true rfl)⟩ (fun H1 ce q9 h1 h2 h3 h4 h5 => ?_)
  exact th_out hno hlocks h1 h2 h3 h4 h5
set_option maxHeartbeats 4000000 in
set_option maxRecDepth 100000 in
theorem c_load (l : Launch) (D : va_G) (cI cZ : ClassId) (base st : Nat) (Z : Nat → Nat) (x0 x1 x2 x5 x6 x7 : Nat) {n came MV : Int} {F G SP RF RC : Int → Int} (hn : 0 ≤ n ∧ n ≤ 60) (hG : ∀ k : Int, 0 ≤ k → k < n → 0 ≤ G k ∧ G k ≤ 255) (hs : SD G n) (lv : Int) (hlv : 0 ≤ lv ∧ lv ≤ 8) (sh : Int) (hsr : (-2147483648 ≤ sh ∧ sh ≤ 2147483647)) (hsh : 0 ≤ sh ∧ sh < 256 / 2 ^ lv.toNat) : pu_M l yX0_load wsX0_load ({ frames := 2, cells := 0, slots := 0, locals := 44 } : Room) [.ref x0, .int (iI (lv)), .int (iI (sh))] (CP D cI cZ base st Z x0 x1 x2 x5 x6 x7 n came MV F G SP RF RC) (ldn G n lv sh) := by
  refine pu_of (cc := cX0_load) (maxL := 3) (ret := (some .int)) (own := RX0) (by decide) rfl rfl (Nat.le_of_ble_eq_true rfl) ?_
  intro p e s m below meth c ls B hCP hl
  obtain ⟨hx, hb, hml, hr, hts, hown, hlocks⟩ := B
  obtain ⟨⟨hK, hZL, ⟨hstb, xs, hXL, hAL⟩, hTW⟩, f, g, sp, rf, rc, hAf, hAg, hAsp, hArf, hArc, hP, hDb⟩ := id hCP
  have hl : lv_has ls 3 [(0, .ref x0), (1, .int (iI (lv))), (2, .int (iI (sh)))] := hl
  refine lv_iload_n hx hb dX0_load_0 rfl (lv_at hl 1 rfl) ?_
  refine pn_callS (As := [.int (iI (lv))]) (rest := []) SP_mv ⟨hx, hb, hml, hown, hts⟩ (c_requireLevel l D cI cZ base st Z lv hlv) (va_cwS 1 hts gX0_load_X0_requireLevel rfl rfl rfl (by decide +kernel) ⟨(Nat.le_of_ble_eq_true rfl), (Nat.le_of_ble_eq_true rfl)⟩) hCP.1 rfl rfl hl.1 (Nat.le_of_ble_eq_true rfl) dX0_load_1 ⟨Nat.zero_le _, Nat.zero_le _⟩ ?_
  refine lv_iload_n hx hb dX0_load_4 rfl (lv_at hl 2 rfl) ?_
  refine pv_if_lt (tgt := 16) hx hb dX0_load_5 (by decide) (by omega) (fun c_5 => ?_) (fun c_5 => ?_)
  · exfalso; omega
  · -- 5f
    refine lv_iload_n hx hb dX0_load_8 rfl (lv_at hl 2 rfl) ?_
    refine lv_iload_n hx hb dX0_load_9 rfl (lv_at hl 1 rfl) ?_
    have hsb := shl_b hlv hsh
    refine pu_callS (As := [.int (iI (lv))]) (rest := [.int (iI (sh))]) TP_mv ⟨hx, hb, hml, hown, hts⟩ (c_shelvesOf l lv hlv _ rfl) (va_cwS 1 hts gX0_load_X0_shelvesOf rfl rfl rfl (by decide +kernel) ⟨(Nat.le_of_ble_eq_true rfl), (Nat.le_of_ble_eq_true rfl)⟩) trivial rfl rfl hl.1 (Nat.le_of_ble_eq_true rfl) dX0_load_10 ⟨Nat.zero_le _, Nat.zero_le _⟩ ?_
    refine pv_icmp_lt (tgt := 26) hx hb dX0_load_13 (by decide) (by omega) (fun c_13 => ?_) (fun c_13 => ?_)
    · -- 13t
      refine lv_aload_n hx hb dX0_load_26 rfl (lv_at hl 0 rfl) ?_
      refine lv_iload_n hx hb dX0_load_27 rfl (lv_at hl 1 rfl) ?_
      refine lv_iload_n hx hb dX0_load_28 rfl (lv_at hl 2 rfl) ?_
      refine pu_callV (As := [.int (iI (lv)), .int (iI (sh))]) (rest := []) CP_mv ⟨hx, hb, hml, hown, hts⟩ (c_foldersOn l D cI cZ base st Z x0 x1 x2 x5 x6 x7 hn hG hs lv sh hlv hsh.1 ⟨by omega, by omega, by omega, by omega⟩ _ rfl) (cwV 2 hts gX0_load_X0_foldersOn rfl rfl rfl (by decide +kernel) ⟨(Nat.le_of_ble_eq_true rfl), (Nat.le_of_ble_eq_true rfl)⟩) hCP (CP_rc hCP) rfl rfl hl.1 (Nat.le_of_ble_eq_true rfl) dX0_load_29 ⟨Nat.zero_le _, Nat.zero_le _⟩ ?_
      exact pu_iret hx hb hr hlocks dX0_load_32 (by rfl)
    · exfalso; omega
set_option maxHeartbeats 4000000 in
set_option maxRecDepth 100000 in
theorem t_load (l : Launch) (D : va_G) (cI cZ : ClassId) (base st : Nat) (Z : Nat → Nat) (x0 x1 x2 x5 x6 x7 : Nat) {n came MV : Int} {F G SP RF RC : Int → Int} (hfl : l.stackTraces = false) (lv : Int) (hlr : (-2147483648 ≤ lv ∧ lv ≤ 2147483647)) (hlv : ¬ (0 ≤ lv ∧ lv ≤ 8)) (sh : Int) : th_M l yX0_load wsX0_load ({ frames := 7, cells := 1, slots := 6, locals := 112 } : Room) [.ref x0, .int (iI (lv)), .int (iI (sh))] (CP D cI cZ base st Z x0 x1 x2 x5 x6 x7 n came MV F G SP RF RC) "java/lang/IndexOutOfBoundsException" := by
  refine th_of (cc := cX0_load) (maxL := 3) (ret := (some .int)) (own := RX0) (by decide) rfl rfl (Nat.le_of_ble_eq_true rfl) ?_
  intro p e s m below meth c ls B hno hCP hl
  obtain ⟨hx, hb, hml, hr, hts, hown, hlocks⟩ := B
  obtain ⟨⟨hK, hZL, ⟨hstb, xs, hXL, hAL⟩, hTW⟩, f, g, sp, rf, rc, hAf, hAg, hAsp, hArf, hArc, hP, hDb⟩ := id hCP
  have hl : lv_has ls 3 [(0, .ref x0), (1, .int (iI (lv))), (2, .int (iI (sh)))] := hl
  refine lv_iload_n hx hb dX0_load_0 rfl (lv_at hl 1 rfl) ?_
  refine th_callS (As := [.int (iI (lv))]) (rest := []) SP_mv ⟨hx, hb, hml, hown, hts⟩ (t_requireLevel l D cI cZ base st Z hfl lv hlr hlv) (va_cwS 1 hts gX0_load_X0_requireLevel rfl rfl rfl (by decide +kernel) ⟨(Nat.le_of_ble_eq_true rfl), (Nat.le_of_ble_eq_true rfl)⟩) hCP.1 rfl rfl hl.1 (Nat.le_of_ble_eq_true rfl) dX0_load_1 ⟨(Nat.le_of_ble_eq_true rfl), (Nat.le_of_ble_eq_true rfl)⟩ (fun H1 ce q9 h1 h2 h3 h4 h5 => ?_)
  exact th_out hno hlocks h1 h2 h3 h4 h5
set_option maxHeartbeats 4000000 in
set_option maxRecDepth 100000 in
theorem t_load2 (l : Launch) (D : va_G) (cI cZ : ClassId) (base st : Nat) (Z : Nat → Nat) (x0 x1 x2 x5 x6 x7 : Nat) {n came MV : Int} {F G SP RF RC : Int → Int} (hfl : l.stackTraces = false) (lv : Int) (hlv : 0 ≤ lv ∧ lv ≤ 8) (sh : Int) (hsr : (-2147483648 ≤ sh ∧ sh ≤ 2147483647)) (hsh : ¬ (0 ≤ sh ∧ sh < 256 / 2 ^ lv.toNat)) : th_M l yX0_load wsX0_load ({ frames := 6, cells := 1, slots := 6, locals := 92 } : Room) [.ref x0, .int (iI (lv)), .int (iI (sh))] (CP D cI cZ base st Z x0 x1 x2 x5 x6 x7 n came MV F G SP RF RC) "java/lang/IndexOutOfBoundsException" := by
  refine th_of (cc := cX0_load) (maxL := 3) (ret := (some .int)) (own := RX0) (by decide) rfl rfl (Nat.le_of_ble_eq_true rfl) ?_
  intro p e s m below meth c ls B hno hCP hl
  obtain ⟨hx, hb, hml, hr, hts, hown, hlocks⟩ := B
  obtain ⟨⟨hK, hZL, ⟨hstb, xs, hXL, hAL⟩, hTW⟩, f, g, sp, rf, rc, hAf, hAg, hAsp, hArf, hArc, hP, hDb⟩ := id hCP
  have hl : lv_has ls 3 [(0, .ref x0), (1, .int (iI (lv))), (2, .int (iI (sh)))] := hl
  refine lv_iload_n hx hb dX0_load_0 rfl (lv_at hl 1 rfl) ?_
  refine pn_callS (As := [.int (iI (lv))]) (rest := []) SP_mv ⟨hx, hb, hml, hown, hts⟩ (c_requireLevel l D cI cZ base st Z lv hlv) (va_cwS 1 hts gX0_load_X0_requireLevel rfl rfl rfl (by decide +kernel) ⟨(Nat.le_of_ble_eq_true rfl), (Nat.le_of_ble_eq_true rfl)⟩) hCP.1 rfl rfl hl.1 (Nat.le_of_ble_eq_true rfl) dX0_load_1 ⟨Nat.zero_le _, Nat.zero_le _⟩ ?_
  refine lv_iload_n hx hb dX0_load_4 rfl (lv_at hl 2 rfl) ?_
  refine pv_if_lt (tgt := 16) hx hb dX0_load_5 (by decide) (by omega) (fun c_5 => ?_) (fun c_5 => ?_)
  · -- 5t
    have hst : l.stackTraces = false := hfl
    obtain ⟨tw0, tw1, tw2, tw3, tw4, tw5, kw0, kw1, kw2, kd0, kd1, kd2, hU9, hN9⟩ := hTW
    have hgd : ∀ w ∈ (vx_atS RX0 83 "java/lang/IndexOutOfBoundsException" ["java/lang/RuntimeException", "java/lang/Exception"]).filter goodWord, w ∈ wsX0_load := by decide +kernel
    have hat : ∀ w ∈ vx_atS RX0 83 "java/lang/IndexOutOfBoundsException" ["java/lang/RuntimeException", "java/lang/Exception"], w.before _ s = true := vx_hat (L := vx_atS RX0 83 "java/lang/IndexOutOfBoundsException" ["java/lang/RuntimeException", "java/lang/Exception"]) (B := [.castable "java/lang/IndexOutOfBoundsException" "java/lang/IndexOutOfBoundsException", .declares (Bundle.initS "java/lang/RuntimeException"), .declares (Bundle.initS "java/lang/Exception"), .declares (Bundle.initS "java/lang/Throwable")]) (fun w hw => hts w (hgd w hw)) (by decide +kernel) (vx_c (va_Nw.use rfl kw0) (vx_c (va_Nw.use rfl kd0) (vx_c (va_Nw.use rfl kd1) (vx_c (va_Nw.use rfl kd2) vx_n))))
    exact vx_throwS (rest := []) (names := ["java/lang/RuntimeException", "java/lang/Exception"]) (cls := "java/lang/IndexOutOfBoundsException") (A := fun q => base ≤ q) hx hb hst hown (by decide +kernel) (by decide +kernel) (hts (.classLink RX0 79 "java/lang/IndexOutOfBoundsException") (by decide +kernel)) (hts (.initialized "java/lang/IndexOutOfBoundsException") (by decide +kernel)) tw1 hat (by decide +kernel) hU9 hN9 va_S.rf (hl.1.trans hml.symm) dX0_load_16 dX0_load_19 dX0_load_20 dX0_load_22 dX0_load_25 (fun x hx => (hno x hx).elim) (Nat.le_of_ble_eq_true rfl) (Nat.le_of_ble_eq_true rfl) (Nat.le_of_ble_eq_true rfl) (Nat.le_of_ble_eq_true rfl) hlocks (fun t _ h1 h2 => ⟨rfl, h1, h2⟩) (fun _ h => by cases h) (by omega) (by omega)
  · -- 5f
    refine lv_iload_n hx hb dX0_load_8 rfl (lv_at hl 2 rfl) ?_
    refine lv_iload_n hx hb dX0_load_9 rfl (lv_at hl 1 rfl) ?_
    have hsb := shq_b hlv
    refine pu_callS (As := [.int (iI (lv))]) (rest := [.int (iI (sh))]) TP_mv ⟨hx, hb, hml, hown, hts⟩ (c_shelvesOf l lv hlv _ rfl) (va_cwS 1 hts gX0_load_X0_shelvesOf rfl rfl rfl (by decide +kernel) ⟨(Nat.le_of_ble_eq_true rfl), (Nat.le_of_ble_eq_true rfl)⟩) trivial rfl rfl hl.1 (Nat.le_of_ble_eq_true rfl) dX0_load_10 ⟨Nat.zero_le _, Nat.zero_le _⟩ ?_
    refine pv_icmp_lt (tgt := 26) hx hb dX0_load_13 (by decide) (by omega) (fun c_13 => ?_) (fun c_13 => ?_)
    · exfalso; omega
    · -- 13f
      have hst : l.stackTraces = false := hfl
      obtain ⟨tw0, tw1, tw2, tw3, tw4, tw5, kw0, kw1, kw2, kd0, kd1, kd2, hU9, hN9⟩ := hTW
      have hgd : ∀ w ∈ (vx_atS RX0 83 "java/lang/IndexOutOfBoundsException" ["java/lang/RuntimeException", "java/lang/Exception"]).filter goodWord, w ∈ wsX0_load := by decide +kernel
      have hat : ∀ w ∈ vx_atS RX0 83 "java/lang/IndexOutOfBoundsException" ["java/lang/RuntimeException", "java/lang/Exception"], w.before _ s = true := vx_hat (L := vx_atS RX0 83 "java/lang/IndexOutOfBoundsException" ["java/lang/RuntimeException", "java/lang/Exception"]) (B := [.castable "java/lang/IndexOutOfBoundsException" "java/lang/IndexOutOfBoundsException", .declares (Bundle.initS "java/lang/RuntimeException"), .declares (Bundle.initS "java/lang/Exception"), .declares (Bundle.initS "java/lang/Throwable")]) (fun w hw => hts w (hgd w hw)) (by decide +kernel) (vx_c (va_Nw.use rfl kw0) (vx_c (va_Nw.use rfl kd0) (vx_c (va_Nw.use rfl kd1) (vx_c (va_Nw.use rfl kd2) vx_n))))
      exact vx_throwS (rest := []) (names := ["java/lang/RuntimeException", "java/lang/Exception"]) (cls := "java/lang/IndexOutOfBoundsException") (A := fun q => base ≤ q) hx hb hst hown (by decide +kernel) (by decide +kernel) (hts (.classLink RX0 79 "java/lang/IndexOutOfBoundsException") (by decide +kernel)) (hts (.initialized "java/lang/IndexOutOfBoundsException") (by decide +kernel)) tw1 hat (by decide +kernel) hU9 hN9 va_S.rf (hl.1.trans hml.symm) dX0_load_16 dX0_load_19 dX0_load_20 dX0_load_22 dX0_load_25 (fun x hx => (hno x hx).elim) (Nat.le_of_ble_eq_true rfl) (Nat.le_of_ble_eq_true rfl) (Nat.le_of_ble_eq_true rfl) (Nat.le_of_ble_eq_true rfl) hlocks (fun t _ h1 h2 => ⟨rfl, h1, h2⟩) (fun _ h => by cases h) (by omega) (by omega)
set_option maxHeartbeats 4000000 in
set_option maxRecDepth 100000 in
theorem c_loaded (l : Launch) (D : va_G) (cI cZ : ClassId) (base st : Nat) (Z : Nat → Nat) (x0 x1 x2 x5 x6 x7 : Nat) {n came MV : Int} {F G SP RF RC : Int → Int} (hn : 0 ≤ n ∧ n ≤ 60) (hG : ∀ k : Int, 0 ≤ k → k < n → 0 ≤ G k ∧ G k ≤ 255) (hs : SD G n) (lv : Int) (hlv : 0 ≤ lv ∧ lv ≤ 8) : pu_M l yX0_loaded wsX0_loaded ({ frames := 3, cells := 0, slots := 0, locals := 66 } : Room) [.ref x0, .int (iI (lv))] (CP D cI cZ base st Z x0 x1 x2 x5 x6 x7 n came MV F G SP RF RC) (cn (fun k => decide (G k / 2 ^ lv.toNat ≠ ma G n (k - 1) / 2 ^ lv.toNat ∧ LM lv ≤ ldn G n lv (G k / 2 ^ lv.toNat))) n.toNat) := by
  refine pu_of (cc := cX0_loaded) (maxL := 6) (ret := (some .int)) (own := RX0) (by decide) rfl rfl (Nat.le_of_ble_eq_true rfl) ?_
  intro p e s m below meth c ls B hCP hl
  obtain ⟨hx, hb, hml, hr, hts, hown, hlocks⟩ := B
  obtain ⟨⟨hK, hZL, ⟨hstb, xs, hXL, hAL⟩, hTW⟩, f, g, sp, rf, rc, hAf, hAg, hAsp, hArf, hArc, hP, hDb⟩ := id hCP
  have hl : lv_has ls 6 [(0, .ref x0), (1, .int (iI (lv)))] := hl
  have hin : ∀ w ∈ u_ws RX0 TX0 8, w ∈ wsX0_loaded := by decide +kernel
  have q_count := hts (.fieldLink RX0 53 "ShelfMarks" "count" "I") (by decide +kernel)
  refine lv_iload_n hx hb dX0_loaded_0 rfl (lv_at hl 1 rfl) ?_
  refine pn_callS (As := [.int (iI (lv))]) (rest := []) SP_mv ⟨hx, hb, hml, hown, hts⟩ (c_requireLevel l D cI cZ base st Z lv hlv) (va_cwS 1 hts gX0_loaded_X0_requireLevel rfl rfl rfl (by decide +kernel) ⟨(Nat.le_of_ble_eq_true rfl), (Nat.le_of_ble_eq_true rfl)⟩) hCP.1 rfl rfl hl.1 (Nat.le_of_ble_eq_true rfl) dX0_loaded_1 ⟨Nat.zero_le _, Nat.zero_le _⟩ ?_
  refine pv_iconst hx hb dX0_loaded_4 ?_
  refine lv_istore_n (lv' := [(2, .int (iI (0))), (0, .ref x0), (1, .int (iI (lv)))]) hx hb dX0_loaded_5 rfl hl (by decide) rfl (fun ls hl => ?_)
  refine pv_iconst hx hb dX0_loaded_6 ?_
  refine lv_istore_n (lv' := [(3, .int (iI (0))), (2, .int (iI (0))), (0, .ref x0), (1, .int (iI (lv)))]) hx hb dX0_loaded_7 rfl hl (by decide) rfl (fun ls hl => ?_)
  have hloop8 : ∀ (fuel : Nat) (fd : Int) (k : Int) (ls : Array Slot), (n - k) < fuel → (0 ≤ k ∧ k ≤ n) → (fd = cn (fun k => decide (G k / 2 ^ lv.toNat ≠ ma G n (k - 1) / 2 ^ lv.toNat ∧ LM lv ≤ ldn G n lv (G k / 2 ^ lv.toNat))) k.toNat) → lv_has ls 6 [(0, .ref x0), (1, .int (iI (lv))), (2, .int (iI (fd))), (3, .int (iI (k)))] → W p l e ({ frames := 3, cells := 0, slots := 0, locals := 66 } : Room) s m ([.ref x0, .int (iI (lv))] : List Value).toArray below meth c s.heap [] 0 0 (MQ below (pu_Q (cn (fun k => decide (G k / 2 ^ lv.toNat ≠ ma G n (k - 1) / 2 ^ lv.toNat ∧ LM lv ≤ ldn G n lv (G k / 2 ^ lv.toNat))) n.toNat)) ([.ref x0, .int (iI (lv))] : List Value).toArray s 0 0 (fun _ => False)) (F0 m 8 ls []) := by
    intro fuel
    induction fuel with
    | zero => intro fd k ls hfu hk hfd hl; exfalso; omega
    | succ fuel ih =>
      intro fd k ls hfu hk hfd hl
      refine lv_iload_n hx hb dX0_loaded_8 rfl (lv_at hl 3 rfl) ?_
      refine lv_aload_n hx hb dX0_loaded_9 rfl (lv_at hl 0 rfl) ?_
      refine va_get (D := D) (ci := 0) (v := .int (iI (n))) (C := RX0) (T := TX0) (N := 8) hx hb hts hin hown hK hP 0 rfl rfl 2 (by decide) q_count (fun _ h9 => h9) rfl dX0_loaded_10 ?_
      refine pv_icmp_ge (tgt := 70) hx hb dX0_loaded_13 (by decide) (by omega) (fun c_13 => ?_) (fun c_13 => ?_)
      · -- 13t
        refine lv_iload_n hx hb dX0_loaded_70 rfl (lv_at hl 2 rfl) ?_
        exact pu_iret hx hb hr hlocks dX0_loaded_71 (by rw [hfd, show k.toNat = n.toNat by omega])
      · -- 13f
        refine lv_aload_n hx hb dX0_loaded_16 rfl (lv_at hl 0 rfl) ?_
        refine lv_iload_n hx hb dX0_loaded_17 rfl (lv_at hl 3 rfl) ?_
        have hgk := hG k (by omega) (by omega)
        have hsb := sh_b (lv := lv) hgk hlv
        refine pu_callV (As := [.int (iI (k))]) (rest := []) CP_mv ⟨hx, hb, hml, hown, hts⟩ (c_markAt l D cI cZ base st Z x0 x1 x2 x5 x6 x7 hn k (by omega) _ (ma_in (by omega))) (cwV 1 hts gX0_loaded_X0_markAt rfl rfl rfl (by decide +kernel) ⟨(Nat.le_of_ble_eq_true rfl), (Nat.le_of_ble_eq_true rfl)⟩) hCP (CP_rc hCP) rfl rfl hl.1 (Nat.le_of_ble_eq_true rfl) dX0_loaded_18 ⟨Nat.zero_le _, Nat.zero_le _⟩ ?_
        refine lv_iload_n hx hb dX0_loaded_21 rfl (lv_at hl 1 rfl) ?_
        refine pv_ishr hx hb dX0_loaded_22 (by omega) (by omega) ?_
        refine lv_istore (lv' := [(4, .int (iI ((G k) / 2 ^ (lv : Int).toNat))), (0, .ref x0), (1, .int (iI (lv))), (2, .int (iI (fd))), (3, .int (iI (k)))]) hx hb dX0_loaded_23 hl (by decide) rfl (fun ls hl => ?_)
        refine lv_iload hx hb dX0_loaded_25 (lv_at hl 0 rfl) ?_
        refine lv_aload_n hx hb dX0_loaded_27 rfl (lv_at hl 1 rfl) ?_
        refine lv_iload_n hx hb dX0_loaded_28 rfl (lv_at hl 4 rfl) ?_
        refine pv_iconst hx hb dX0_loaded_29 ?_
        refine pv_isub hx hb dX0_loaded_30 ?_
        have hmk := ma_rg hG (k - 1)
        have hqk := ma_q hmk hlv
        refine pu_callV (As := [.int (iI ((k) - (1)))]) (rest := [.int (iI ((G k) / 2 ^ (lv : Int).toNat))]) CP_mv ⟨hx, hb, hml, hown, hts⟩ (c_markAt l D cI cZ base st Z x0 x1 x2 x5 x6 x7 hn (k - 1) (by omega) _ rfl) (cwV 1 hts gX0_loaded_X0_markAt rfl rfl rfl (by decide +kernel) ⟨(Nat.le_of_ble_eq_true rfl), (Nat.le_of_ble_eq_true rfl)⟩) hCP (CP_rc hCP) rfl rfl hl.1 (Nat.le_of_ble_eq_true rfl) dX0_loaded_31 ⟨Nat.zero_le _, Nat.zero_le _⟩ ?_
        refine lv_iload_n hx hb dX0_loaded_34 rfl (lv_at hl 2 rfl) ?_
        refine pv_ishr hx hb dX0_loaded_35 (by omega) (by omega) ?_
        refine pv_icmp_eq (tgt := 43) hx hb dX0_loaded_36 (by decide) (by omega) (fun c_36 => ?_) (fun c_36 => ?_)
        · -- 36t
          refine pv_iconst hx hb dX0_loaded_43 ?_
          refine lv_istore (lv' := [(5, .int (iI (0))), (4, .int (iI ((G k) / 2 ^ (lv : Int).toNat))), (0, .ref x0), (1, .int (iI (lv))), (2, .int (iI (fd))), (3, .int (iI (k)))]) hx hb dX0_loaded_44 hl (by decide) rfl (fun ls hl => ?_)
          refine lv_iload hx hb dX0_loaded_46 (lv_at hl 0 rfl) ?_
          refine pv_if_eq (tgt := 64) hx hb dX0_loaded_48 (by decide) (by omega) (fun c_48 => ?_) (fun c_48 => ?_)
          · -- 48t
            refine pv_iinc (lv' := [(3, .int (iI (k + 1))), (5, .int (iI (0))), (4, .int (iI ((G k) / 2 ^ (lv : Int).toNat))), (0, .ref x0), (1, .int (iI (lv))), (2, .int (iI (fd)))]) hx hb dX0_loaded_64 hl (k := 5) rfl (by decide) rfl (fun ls hl => ?_)
            refine lv_goto (tgt := 8) hx hb dX0_loaded_67 (by decide) ?_
            exact ih (fd) (k + 1) ls (by omega) (by omega) (by rw [hfd]; exact (cn_f _ (by omega) (decide_eq_false (fun z => z.1 c_36))).symm) (lv_sub hl [3, 4, 5, 0] rfl)
          · exact absurd c_48 (by omega)
        · -- 36f
          refine pv_iconst hx hb dX0_loaded_39 ?_
          refine lv_goto (tgt := 44) hx hb dX0_loaded_40 (by decide) ?_
          refine lv_istore (lv' := [(5, .int (iI (1))), (4, .int (iI ((G k) / 2 ^ (lv : Int).toNat))), (0, .ref x0), (1, .int (iI (lv))), (2, .int (iI (fd))), (3, .int (iI (k)))]) hx hb dX0_loaded_44 hl (by decide) rfl (fun ls hl => ?_)
          refine lv_iload hx hb dX0_loaded_46 (lv_at hl 0 rfl) ?_
          refine pv_if_eq (tgt := 64) hx hb dX0_loaded_48 (by decide) (by omega) (fun c_48 => ?_) (fun c_48 => ?_)
          · exact absurd c_48 (by omega)
          · -- 48f
            refine lv_aload_n hx hb dX0_loaded_51 rfl (lv_at hl 2 rfl) ?_
            refine lv_iload_n hx hb dX0_loaded_52 rfl (lv_at hl 3 rfl) ?_
            refine lv_iload hx hb dX0_loaded_53 (lv_at hl 1 rfl) ?_
            by_cases hv9 : LM lv ≤ ldn G n lv (G k / 2 ^ lv.toNat)
            · -- A
              refine pu_callV (As := [.int (iI (lv)), .int (iI ((G k) / 2 ^ (lv : Int).toNat))]) (rest := []) CP_mv ⟨hx, hb, hml, hown, hts⟩ (c_isLoaded l D cI cZ base st Z x0 x1 x2 x5 x6 x7 hn hG hs lv _ hlv hsb.1 ⟨by omega, by omega, by omega, by omega⟩ 1 (by rw [if_pos hv9])) (cwV 2 hts gX0_loaded_X0_isLoaded rfl rfl rfl (by decide +kernel) ⟨(Nat.le_of_ble_eq_true rfl), (Nat.le_of_ble_eq_true rfl)⟩) hCP (CP_rc hCP) rfl rfl hl.1 (Nat.le_of_ble_eq_true rfl) dX0_loaded_55 ⟨Nat.zero_le _, Nat.zero_le _⟩ ?_
              refine pv_if_eq (tgt := 64) hx hb dX0_loaded_58 (by decide) (by omega) (fun c_58 => ?_) (fun c_58 => ?_)
              · exact absurd c_58 (by omega)
              · -- 58f
                refine pv_iinc (lv' := [(2, .int (iI (fd + 1))), (5, .int (iI (1))), (4, .int (iI ((G k) / 2 ^ (lv : Int).toNat))), (0, .ref x0), (1, .int (iI (lv))), (3, .int (iI (k)))]) hx hb dX0_loaded_61 hl (k := 4) rfl (by decide) rfl (fun ls hl => ?_)
                refine pv_iinc (lv' := [(3, .int (iI (k + 1))), (2, .int (iI (fd + 1))), (5, .int (iI (1))), (4, .int (iI ((G k) / 2 ^ (lv : Int).toNat))), (0, .ref x0), (1, .int (iI (lv)))]) hx hb dX0_loaded_64 hl (k := 5) rfl (by decide) rfl (fun ls hl => ?_)
                refine lv_goto (tgt := 8) hx hb dX0_loaded_67 (by decide) ?_
                exact ih (fd + 1) (k + 1) ls (by omega) (by omega) (by rw [hfd]; exact (cn_t _ (by omega) (decide_eq_true ⟨c_36, hv9⟩)).symm) (lv_sub hl [4, 5, 1, 0] rfl)
            · -- B
              refine pu_callV (As := [.int (iI (lv)), .int (iI ((G k) / 2 ^ (lv : Int).toNat))]) (rest := []) CP_mv ⟨hx, hb, hml, hown, hts⟩ (c_isLoaded l D cI cZ base st Z x0 x1 x2 x5 x6 x7 hn hG hs lv _ hlv hsb.1 ⟨by omega, by omega, by omega, by omega⟩ 0 (by rw [if_neg hv9])) (cwV 2 hts gX0_loaded_X0_isLoaded rfl rfl rfl (by decide +kernel) ⟨(Nat.le_of_ble_eq_true rfl), (Nat.le_of_ble_eq_true rfl)⟩) hCP (CP_rc hCP) rfl rfl hl.1 (Nat.le_of_ble_eq_true rfl) dX0_loaded_55 ⟨Nat.zero_le _, Nat.zero_le _⟩ ?_
              refine pv_if_eq (tgt := 64) hx hb dX0_loaded_58 (by decide) (by omega) (fun c_58 => ?_) (fun c_58 => ?_)
              · -- 58t
                refine pv_iinc (lv' := [(3, .int (iI (k + 1))), (5, .int (iI (1))), (4, .int (iI ((G k) / 2 ^ (lv : Int).toNat))), (0, .ref x0), (1, .int (iI (lv))), (2, .int (iI (fd)))]) hx hb dX0_loaded_64 hl (k := 5) rfl (by decide) rfl (fun ls hl => ?_)
                refine lv_goto (tgt := 8) hx hb dX0_loaded_67 (by decide) ?_
                exact ih (fd) (k + 1) ls (by omega) (by omega) (by rw [hfd]; exact (cn_f _ (by omega) (decide_eq_false (fun z => hv9 z.2))).symm) (lv_sub hl [3, 4, 5, 0] rfl)
              · exact absurd c_58 (by omega)
  exact hloop8 ((n : Int).toNat + 1) (0) (0) ls (by omega) (by omega) (rfl) (lv_sub hl [2, 3, 1, 0] rfl)
set_option maxHeartbeats 4000000 in
set_option maxRecDepth 100000 in
theorem t_loaded (l : Launch) (D : va_G) (cI cZ : ClassId) (base st : Nat) (Z : Nat → Nat) (x0 x1 x2 x5 x6 x7 : Nat) {n came MV : Int} {F G SP RF RC : Int → Int} (hfl : l.stackTraces = false) (lv : Int) (hlr : (-2147483648 ≤ lv ∧ lv ≤ 2147483647)) (hlv : ¬ (0 ≤ lv ∧ lv ≤ 8)) : th_M l yX0_loaded wsX0_loaded ({ frames := 7, cells := 1, slots := 6, locals := 112 } : Room) [.ref x0, .int (iI (lv))] (CP D cI cZ base st Z x0 x1 x2 x5 x6 x7 n came MV F G SP RF RC) "java/lang/IndexOutOfBoundsException" := by
  refine th_of (cc := cX0_loaded) (maxL := 6) (ret := (some .int)) (own := RX0) (by decide) rfl rfl (Nat.le_of_ble_eq_true rfl) ?_
  intro p e s m below meth c ls B hno hCP hl
  obtain ⟨hx, hb, hml, hr, hts, hown, hlocks⟩ := B
  obtain ⟨⟨hK, hZL, ⟨hstb, xs, hXL, hAL⟩, hTW⟩, f, g, sp, rf, rc, hAf, hAg, hAsp, hArf, hArc, hP, hDb⟩ := id hCP
  have hl : lv_has ls 6 [(0, .ref x0), (1, .int (iI (lv)))] := hl
  refine lv_iload_n hx hb dX0_loaded_0 rfl (lv_at hl 1 rfl) ?_
  refine th_callS (As := [.int (iI (lv))]) (rest := []) SP_mv ⟨hx, hb, hml, hown, hts⟩ (t_requireLevel l D cI cZ base st Z hfl lv hlr hlv) (va_cwS 1 hts gX0_loaded_X0_requireLevel rfl rfl rfl (by decide +kernel) ⟨(Nat.le_of_ble_eq_true rfl), (Nat.le_of_ble_eq_true rfl)⟩) hCP.1 rfl rfl hl.1 (Nat.le_of_ble_eq_true rfl) dX0_loaded_1 ⟨(Nat.le_of_ble_eq_true rfl), (Nat.le_of_ble_eq_true rfl)⟩ (fun H1 ce q9 h1 h2 h3 h4 h5 => ?_)
  exact th_out hno hlocks h1 h2 h3 h4 h5
set_option maxHeartbeats 4000000 in
set_option maxRecDepth 100000 in
theorem c_would_free (l : Launch) (D : va_G) (cI cZ : ClassId) (base st : Nat) (Z : Nat → Nat) (x0 x1 x2 x5 x6 x7 : Nat) {n came MV : Int} {F G SP RF RC : Int → Int} (hn : 0 ≤ n ∧ n ≤ 60) (hF : ∀ k : Int, 0 ≤ k → k < n → 0 ≤ F k ∧ F k < 200) (x : Int) (hxr : (-2147483648 ≤ x ∧ x ≤ 2147483647)) (rp : Int) (hrp : PL F n x rp) (h0 : 0 ≤ rp) (hG : ∀ k : Int, 0 ≤ k → k < n → 0 ≤ G k ∧ G k ≤ 255) (hfree : 2 ≤ ma G n (rp + 1) - ma G n (rp + 1 - 1)) : pu_M l yX0_wouldMove wsX0_wouldMove ({ frames := 4, cells := 0, slots := 0, locals := 91 } : Room) [.ref x0, .int (iI (x))] (CP D cI cZ base st Z x0 x1 x2 x5 x6 x7 n came MV F G SP RF RC) (0) := by
  refine pu_of (cc := cX0_wouldMove) (maxL := 2) (ret := (some .int)) (own := RX0) (by decide) rfl rfl (Nat.le_of_ble_eq_true rfl) ?_
  intro p e s m below meth c ls B hCP hl
  obtain ⟨hx, hb, hml, hr, hts, hown, hlocks⟩ := B
  obtain ⟨⟨hK, hZL, ⟨hstb, xs, hXL, hAL⟩, hTW⟩, f, g, sp, rf, rc, hAf, hAg, hAsp, hArf, hArc, hP, hDb⟩ := id hCP
  have hl : lv_has ls 2 [(0, .ref x0), (1, .int (iI (x)))] := hl
  refine lv_aload_n hx hb dX0_wouldMove_0 rfl (lv_at hl 0 rfl) ?_
  refine lv_aload_n hx hb dX0_wouldMove_1 rfl (lv_at hl 0 rfl) ?_
  refine lv_iload_n hx hb dX0_wouldMove_2 rfl (lv_at hl 1 rfl) ?_
  refine pu_callV (As := [.int (iI (x))]) (rest := [.ref x0]) CP_mv ⟨hx, hb, hml, hown, hts⟩ (c_requirePlace l D cI cZ base st Z x0 x1 x2 x5 x6 x7 hn hF x hxr rp hrp h0) (cwV 1 hts gX0_wouldMove_X0_requirePlace rfl rfl rfl (by decide +kernel) ⟨(Nat.le_of_ble_eq_true rfl), (Nat.le_of_ble_eq_true rfl)⟩) hCP (CP_rc hCP) rfl rfl hl.1 (Nat.le_of_ble_eq_true rfl) dX0_wouldMove_3 ⟨Nat.zero_le _, Nat.zero_le _⟩ ?_
  have hpr := PL_rg hn.1 hrp
  refine pv_iconst hx hb dX0_wouldMove_6 ?_
  refine pv_iadd hx hb dX0_wouldMove_7 ?_
  refine pu_callV (As := [.int (iI ((rp) + (1)))]) (rest := []) CP_mv ⟨hx, hb, hml, hown, hts⟩ (c_moves_free l D cI cZ base st Z x0 x1 x2 x5 x6 x7 hn hG (rp + 1) (by omega) hfree) (cwV 1 hts gX0_wouldMove_X0_movesByPuttingIn rfl rfl rfl (by decide +kernel) ⟨(Nat.le_of_ble_eq_true rfl), (Nat.le_of_ble_eq_true rfl)⟩) hCP (CP_rc hCP) rfl rfl hl.1 (Nat.le_of_ble_eq_true rfl) dX0_wouldMove_8 ⟨Nat.zero_le _, Nat.zero_le _⟩ ?_
  exact pu_iret hx hb hr hlocks dX0_wouldMove_11 (by rfl)
set_option maxHeartbeats 4000000 in
set_option maxRecDepth 100000 in
theorem c_would_full (l : Launch) (D : va_G) (cI cZ : ClassId) (base st : Nat) (Z : Nat → Nat) (x0 x1 x2 x5 x6 x7 : Nat) {n came MV : Int} {F G SP RF RC : Int → Int} (hn : 0 ≤ n ∧ n ≤ 60) (hF : ∀ k : Int, 0 ≤ k → k < n → 0 ≤ F k ∧ F k < 200) (x : Int) (hxr : (-2147483648 ≤ x ∧ x ≤ 2147483647)) (rp : Int) (hrp : PL F n x rp) (h0 : 0 ≤ rp) (hG : ∀ k : Int, 0 ≤ k → k < n → 0 ≤ G k ∧ G k ≤ 255) (hs : SD G n) (hfull : ma G n (rp + 1) - ma G n (rp + 1 - 1) < 2) (a0 : Int) (ha0 : a0 = if ma G n (rp + 1 - 1) < 0 then 0 else ma G n (rp + 1 - 1)) (har : 0 ≤ a0 ∧ a0 ≤ 255) (lv : Int) (hlv : LV G n a0 lv) (r : Int) (hr9 : r = mvn G (rp + 1) (a0 / 2 ^ lv.toNat * 2 ^ lv.toNat) (2 ^ lv.toNat) (mb G n (a0 / 2 ^ lv.toNat * 2 ^ lv.toNat)) (ldn G n lv (a0 / 2 ^ lv.toNat) + 1) (ldn G n lv (a0 / 2 ^ lv.toNat)).toNat) : pu_M l yX0_wouldMove wsX0_wouldMove ({ frames := 5, cells := 0, slots := 0, locals := 117 } : Room) [.ref x0, .int (iI (x))] (CP D cI cZ base st Z x0 x1 x2 x5 x6 x7 n came MV F G SP RF RC) (r) := by
  refine pu_of (cc := cX0_wouldMove) (maxL := 2) (ret := (some .int)) (own := RX0) (by decide) rfl rfl (Nat.le_of_ble_eq_true rfl) ?_
  intro p e s m below meth c ls B hCP hl
  obtain ⟨hx, hb, hml, hr, hts, hown, hlocks⟩ := B
  obtain ⟨⟨hK, hZL, ⟨hstb, xs, hXL, hAL⟩, hTW⟩, f, g, sp, rf, rc, hAf, hAg, hAsp, hArf, hArc, hP, hDb⟩ := id hCP
  have hl : lv_has ls 2 [(0, .ref x0), (1, .int (iI (x)))] := hl
  refine lv_aload_n hx hb dX0_wouldMove_0 rfl (lv_at hl 0 rfl) ?_
  refine lv_aload_n hx hb dX0_wouldMove_1 rfl (lv_at hl 0 rfl) ?_
  refine lv_iload_n hx hb dX0_wouldMove_2 rfl (lv_at hl 1 rfl) ?_
  refine pu_callV (As := [.int (iI (x))]) (rest := [.ref x0]) CP_mv ⟨hx, hb, hml, hown, hts⟩ (c_requirePlace l D cI cZ base st Z x0 x1 x2 x5 x6 x7 hn hF x hxr rp hrp h0) (cwV 1 hts gX0_wouldMove_X0_requirePlace rfl rfl rfl (by decide +kernel) ⟨(Nat.le_of_ble_eq_true rfl), (Nat.le_of_ble_eq_true rfl)⟩) hCP (CP_rc hCP) rfl rfl hl.1 (Nat.le_of_ble_eq_true rfl) dX0_wouldMove_3 ⟨Nat.zero_le _, Nat.zero_le _⟩ ?_
  have hpr := PL_rg hn.1 hrp
  refine pv_iconst hx hb dX0_wouldMove_6 ?_
  refine pv_iadd hx hb dX0_wouldMove_7 ?_
  refine pu_callV (As := [.int (iI ((rp) + (1)))]) (rest := []) CP_mv ⟨hx, hb, hml, hown, hts⟩ (c_moves_full l D cI cZ base st Z x0 x1 x2 x5 x6 x7 hn hG hs (rp + 1) (by omega) hfull a0 ha0 har lv hlv r hr9) (cwV 1 hts gX0_wouldMove_X0_movesByPuttingIn rfl rfl rfl (by decide +kernel) ⟨(Nat.le_of_ble_eq_true rfl), (Nat.le_of_ble_eq_true rfl)⟩) hCP (CP_rc hCP) rfl rfl hl.1 (Nat.le_of_ble_eq_true rfl) dX0_wouldMove_8 ⟨Nat.zero_le _, Nat.zero_le _⟩ ?_
  exact pu_iret hx hb hr hlocks dX0_wouldMove_11 (by rfl)
set_option maxHeartbeats 4000000 in
set_option maxRecDepth 100000 in
theorem t_wouldMove (l : Launch) (D : va_G) (cI cZ : ClassId) (base st : Nat) (Z : Nat → Nat) (x0 x1 x2 x5 x6 x7 : Nat) {n came MV : Int} {F G SP RF RC : Int → Int} (hfl : l.stackTraces = false) (hn : 0 ≤ n ∧ n ≤ 60) (hF : ∀ k : Int, 0 ≤ k → k < n → 0 ≤ F k ∧ F k < 200) (x : Int) (hxr : (-2147483648 ≤ x ∧ x ≤ 2147483647)) (hrp : PL F n x (-1)) : th_M l yX0_wouldMove wsX0_wouldMove ({ frames := 7, cells := 1, slots := 6, locals := 114 } : Room) [.ref x0, .int (iI (x))] (CP D cI cZ base st Z x0 x1 x2 x5 x6 x7 n came MV F G SP RF RC) "java/lang/IndexOutOfBoundsException" := by
  refine th_of (cc := cX0_wouldMove) (maxL := 2) (ret := (some .int)) (own := RX0) (by decide) rfl rfl (Nat.le_of_ble_eq_true rfl) ?_
  intro p e s m below meth c ls B hno hCP hl
  obtain ⟨hx, hb, hml, hr, hts, hown, hlocks⟩ := B
  obtain ⟨⟨hK, hZL, ⟨hstb, xs, hXL, hAL⟩, hTW⟩, f, g, sp, rf, rc, hAf, hAg, hAsp, hArf, hArc, hP, hDb⟩ := id hCP
  have hl : lv_has ls 2 [(0, .ref x0), (1, .int (iI (x)))] := hl
  refine lv_aload_n hx hb dX0_wouldMove_0 rfl (lv_at hl 0 rfl) ?_
  refine lv_aload_n hx hb dX0_wouldMove_1 rfl (lv_at hl 0 rfl) ?_
  refine lv_iload_n hx hb dX0_wouldMove_2 rfl (lv_at hl 1 rfl) ?_
  refine th_callV (As := [.int (iI (x))]) (rest := [.ref x0]) CP_mv ⟨hx, hb, hml, hown, hts⟩ (t_requirePlace l D cI cZ base st Z x0 x1 x2 x5 x6 x7 hfl hn hF x hxr hrp) (cwV 1 hts gX0_wouldMove_X0_requirePlace rfl rfl rfl (by decide +kernel) ⟨(Nat.le_of_ble_eq_true rfl), (Nat.le_of_ble_eq_true rfl)⟩) hCP (CP_rc hCP) rfl rfl hl.1 (Nat.le_of_ble_eq_true rfl) dX0_wouldMove_3 ⟨(Nat.le_of_ble_eq_true rfl), (Nat.le_of_ble_eq_true rfl)⟩ (fun H1 ce q9 h1 h2 h3 h4 h5 => ?_)
  exact th_out hno hlocks h1 h2 h3 h4 h5
set_option maxHeartbeats 4000000 in
set_option maxRecDepth 100000 in
theorem c_spread (l : Launch) (D : va_G) (cI cZ : ClassId) (base st : Nat) (Z : Nat → Nat) (x0 x1 x2 x5 x6 x7 : Nat) {n came MV : Int} {F G SP RF RC : Int → Int} (lv : Int) (hlv : 0 ≤ lv ∧ lv ≤ 8) : pu_M l yX0_spread wsX0_spread ({ frames := 1, cells := 0, slots := 0, locals := 20 } : Room) [.ref x0, .int (iI (lv))] (CP D cI cZ base st Z x0 x1 x2 x5 x6 x7 n came MV F G SP RF RC) (SP lv) := by
  refine pu_of (cc := cX0_spread) (maxL := 2) (ret := (some .int)) (own := RX0) (by decide) rfl rfl (Nat.le_of_ble_eq_true rfl) ?_
  intro p e s m below meth c ls B hCP hl
  obtain ⟨hx, hb, hml, hr, hts, hown, hlocks⟩ := B
  obtain ⟨⟨hK, hZL, ⟨hstb, xs, hXL, hAL⟩, hTW⟩, f, g, sp, rf, rc, hAf, hAg, hAsp, hArf, hArc, hP, hDb⟩ := id hCP
  have hl : lv_has ls 2 [(0, .ref x0), (1, .int (iI (lv)))] := hl
  have hin : ∀ w ∈ u_ws RX0 TX0 8, w ∈ wsX0_spread := by decide +kernel
  have q_spreads := hts (.fieldLink RX0 19 "ShelfMarks" "spreads" "[I") (by decide +kernel)
  refine lv_iload_n hx hb dX0_spread_0 rfl (lv_at hl 1 rfl) ?_
  refine pn_callS (As := [.int (iI (lv))]) (rest := []) SP_mv ⟨hx, hb, hml, hown, hts⟩ (c_requireLevel l D cI cZ base st Z lv hlv) (va_cwS 1 hts gX0_spread_X0_requireLevel rfl rfl rfl (by decide +kernel) ⟨(Nat.le_of_ble_eq_true rfl), (Nat.le_of_ble_eq_true rfl)⟩) hCP.1 rfl rfl hl.1 (Nat.le_of_ble_eq_true rfl) dX0_spread_1 ⟨Nat.zero_le _, Nat.zero_le _⟩ ?_
  refine lv_aload_n hx hb dX0_spread_4 rfl (lv_at hl 0 rfl) ?_
  refine va_get (D := D) (ci := 0) (v := .ref x5) (C := RX0) (T := TX0) (N := 8) hx hb hts hin hown hK hP 0 rfl rfl 5 (by decide) q_spreads (fun _ h9 => h9) rfl dX0_spread_5 ?_
  refine lv_iload_n hx hb dX0_spread_8 rfl (lv_at hl 1 rfl) ?_
  refine pv_iald (i := lv) (v := SP (lv)) hx hb hK hP 3 0 rfl rfl (by omega) (by decide) (hAsp _ (by omega) (by omega)) dX0_spread_9 ?_
  exact pu_iret hx hb hr hlocks dX0_spread_10 (by rfl)
set_option maxHeartbeats 4000000 in
set_option maxRecDepth 100000 in
theorem t_spread (l : Launch) (D : va_G) (cI cZ : ClassId) (base st : Nat) (Z : Nat → Nat) (x0 x1 x2 x5 x6 x7 : Nat) {n came MV : Int} {F G SP RF RC : Int → Int} (hfl : l.stackTraces = false) (lv : Int) (hlr : (-2147483648 ≤ lv ∧ lv ≤ 2147483647)) (hlv : ¬ (0 ≤ lv ∧ lv ≤ 8)) : th_M l yX0_spread wsX0_spread ({ frames := 7, cells := 1, slots := 6, locals := 112 } : Room) [.ref x0, .int (iI (lv))] (CP D cI cZ base st Z x0 x1 x2 x5 x6 x7 n came MV F G SP RF RC) "java/lang/IndexOutOfBoundsException" := by
  refine th_of (cc := cX0_spread) (maxL := 2) (ret := (some .int)) (own := RX0) (by decide) rfl rfl (Nat.le_of_ble_eq_true rfl) ?_
  intro p e s m below meth c ls B hno hCP hl
  obtain ⟨hx, hb, hml, hr, hts, hown, hlocks⟩ := B
  obtain ⟨⟨hK, hZL, ⟨hstb, xs, hXL, hAL⟩, hTW⟩, f, g, sp, rf, rc, hAf, hAg, hAsp, hArf, hArc, hP, hDb⟩ := id hCP
  have hl : lv_has ls 2 [(0, .ref x0), (1, .int (iI (lv)))] := hl
  refine lv_iload_n hx hb dX0_spread_0 rfl (lv_at hl 1 rfl) ?_
  refine th_callS (As := [.int (iI (lv))]) (rest := []) SP_mv ⟨hx, hb, hml, hown, hts⟩ (t_requireLevel l D cI cZ base st Z hfl lv hlr hlv) (va_cwS 1 hts gX0_spread_X0_requireLevel rfl rfl rfl (by decide +kernel) ⟨(Nat.le_of_ble_eq_true rfl), (Nat.le_of_ble_eq_true rfl)⟩) hCP.1 rfl rfl hl.1 (Nat.le_of_ble_eq_true rfl) dX0_spread_1 ⟨(Nat.le_of_ble_eq_true rfl), (Nat.le_of_ble_eq_true rfl)⟩ (fun H1 ce q9 h1 h2 h3 h4 h5 => ?_)
  exact th_out hno hlocks h1 h2 h3 h4 h5
set_option maxHeartbeats 4000000 in
set_option maxRecDepth 100000 in
theorem c_at (l : Launch) (D : va_G) (cI cZ : ClassId) (base st : Nat) (Z : Nat → Nat) (x0 x1 x2 x5 x6 x7 : Nat) {n came MV : Int} {F G SP RF RC : Int → Int} (lv : Int) (hlv : 0 ≤ lv ∧ lv < 4) : pu_M l yX0_at wsX0_at ({ frames := 1, cells := 0, slots := 0, locals := 20 } : Room) [.ref x0, .int (iI (lv))] (CP D cI cZ base st Z x0 x1 x2 x5 x6 x7 n came MV F G SP RF RC) (RF lv) := by
  refine pu_of (cc := cX0_at) (maxL := 2) (ret := (some .int)) (own := RX0) (by decide) rfl rfl (Nat.le_of_ble_eq_true rfl) ?_
  intro p e s m below meth c ls B hCP hl
  obtain ⟨hx, hb, hml, hr, hts, hown, hlocks⟩ := B
  obtain ⟨⟨hK, hZL, ⟨hstb, xs, hXL, hAL⟩, hTW⟩, f, g, sp, rf, rc, hAf, hAg, hAsp, hArf, hArc, hP, hDb⟩ := id hCP
  have hl : lv_has ls 2 [(0, .ref x0), (1, .int (iI (lv)))] := hl
  have hin : ∀ w ∈ u_ws RX0 TX0 8, w ∈ wsX0_at := by decide +kernel
  have q_readerFolders := hts (.fieldLink RX0 22 "ShelfMarks" "readerFolders" "[I") (by decide +kernel)
  refine lv_iload_n hx hb dX0_at_0 rfl (lv_at hl 1 rfl) ?_
  refine pn_callS (As := [.int (iI (lv))]) (rest := []) SP_mv ⟨hx, hb, hml, hown, hts⟩ (c_requireReader l D cI cZ base st Z lv hlv) (va_cwS 1 hts gX0_at_X0_requireReader rfl rfl rfl (by decide +kernel) ⟨(Nat.le_of_ble_eq_true rfl), (Nat.le_of_ble_eq_true rfl)⟩) hCP.1 rfl rfl hl.1 (Nat.le_of_ble_eq_true rfl) dX0_at_1 ⟨Nat.zero_le _, Nat.zero_le _⟩ ?_
  refine lv_aload_n hx hb dX0_at_4 rfl (lv_at hl 0 rfl) ?_
  refine va_get (D := D) (ci := 0) (v := .ref x6) (C := RX0) (T := TX0) (N := 8) hx hb hts hin hown hK hP 0 rfl rfl 6 (by decide) q_readerFolders (fun _ h9 => h9) rfl dX0_at_5 ?_
  refine lv_iload_n hx hb dX0_at_8 rfl (lv_at hl 1 rfl) ?_
  refine pv_iald (i := lv) (v := RF (lv)) hx hb hK hP 4 0 rfl rfl (by omega) (by decide) (hArf _ (by omega) (by omega)) dX0_at_9 ?_
  exact pu_iret hx hb hr hlocks dX0_at_10 (by rfl)
set_option maxHeartbeats 4000000 in
set_option maxRecDepth 100000 in
theorem t_at (l : Launch) (D : va_G) (cI cZ : ClassId) (base st : Nat) (Z : Nat → Nat) (x0 x1 x2 x5 x6 x7 : Nat) {n came MV : Int} {F G SP RF RC : Int → Int} (hfl : l.stackTraces = false) (lv : Int) (hlr : (-2147483648 ≤ lv ∧ lv ≤ 2147483647)) (hlv : ¬ (0 ≤ lv ∧ lv < 4)) : th_M l yX0_at wsX0_at ({ frames := 7, cells := 1, slots := 6, locals := 112 } : Room) [.ref x0, .int (iI (lv))] (CP D cI cZ base st Z x0 x1 x2 x5 x6 x7 n came MV F G SP RF RC) "java/lang/IndexOutOfBoundsException" := by
  refine th_of (cc := cX0_at) (maxL := 2) (ret := (some .int)) (own := RX0) (by decide) rfl rfl (Nat.le_of_ble_eq_true rfl) ?_
  intro p e s m below meth c ls B hno hCP hl
  obtain ⟨hx, hb, hml, hr, hts, hown, hlocks⟩ := B
  obtain ⟨⟨hK, hZL, ⟨hstb, xs, hXL, hAL⟩, hTW⟩, f, g, sp, rf, rc, hAf, hAg, hAsp, hArf, hArc, hP, hDb⟩ := id hCP
  have hl : lv_has ls 2 [(0, .ref x0), (1, .int (iI (lv)))] := hl
  refine lv_iload_n hx hb dX0_at_0 rfl (lv_at hl 1 rfl) ?_
  refine th_callS (As := [.int (iI (lv))]) (rest := []) SP_mv ⟨hx, hb, hml, hown, hts⟩ (t_requireReader l D cI cZ base st Z hfl lv hlr hlv) (va_cwS 1 hts gX0_at_X0_requireReader rfl rfl rfl (by decide +kernel) ⟨(Nat.le_of_ble_eq_true rfl), (Nat.le_of_ble_eq_true rfl)⟩) hCP.1 rfl rfl hl.1 (Nat.le_of_ble_eq_true rfl) dX0_at_1 ⟨(Nat.le_of_ble_eq_true rfl), (Nat.le_of_ble_eq_true rfl)⟩ (fun H1 ce q9 h1 h2 h3 h4 h5 => ?_)
  exact th_out hno hlocks h1 h2 h3 h4 h5
set_option maxHeartbeats 4000000 in
set_option maxRecDepth 100000 in
theorem c_read (l : Launch) (D : va_G) (cI cZ : ClassId) (base st : Nat) (Z : Nat → Nat) (x0 x1 x2 x5 x6 x7 : Nat) {n came MV : Int} {F G SP RF RC : Int → Int} (lv : Int) (hlv : 0 ≤ lv ∧ lv < 4) : pu_M l yX0_read wsX0_read ({ frames := 1, cells := 0, slots := 0, locals := 20 } : Room) [.ref x0, .int (iI (lv))] (CP D cI cZ base st Z x0 x1 x2 x5 x6 x7 n came MV F G SP RF RC) (RC lv) := by
  refine pu_of (cc := cX0_read) (maxL := 2) (ret := (some .int)) (own := RX0) (by decide) rfl rfl (Nat.le_of_ble_eq_true rfl) ?_
  intro p e s m below meth c ls B hCP hl
  obtain ⟨hx, hb, hml, hr, hts, hown, hlocks⟩ := B
  obtain ⟨⟨hK, hZL, ⟨hstb, xs, hXL, hAL⟩, hTW⟩, f, g, sp, rf, rc, hAf, hAg, hAsp, hArf, hArc, hP, hDb⟩ := id hCP
  have hl : lv_has ls 2 [(0, .ref x0), (1, .int (iI (lv)))] := hl
  have hin : ∀ w ∈ u_ws RX0 TX0 8, w ∈ wsX0_read := by decide +kernel
  have q_readerCounts := hts (.fieldLink RX0 25 "ShelfMarks" "readerCounts" "[I") (by decide +kernel)
  refine lv_iload_n hx hb dX0_read_0 rfl (lv_at hl 1 rfl) ?_
  refine pn_callS (As := [.int (iI (lv))]) (rest := []) SP_mv ⟨hx, hb, hml, hown, hts⟩ (c_requireReader l D cI cZ base st Z lv hlv) (va_cwS 1 hts gX0_read_X0_requireReader rfl rfl rfl (by decide +kernel) ⟨(Nat.le_of_ble_eq_true rfl), (Nat.le_of_ble_eq_true rfl)⟩) hCP.1 rfl rfl hl.1 (Nat.le_of_ble_eq_true rfl) dX0_read_1 ⟨Nat.zero_le _, Nat.zero_le _⟩ ?_
  refine lv_aload_n hx hb dX0_read_4 rfl (lv_at hl 0 rfl) ?_
  refine va_get (D := D) (ci := 0) (v := .ref x7) (C := RX0) (T := TX0) (N := 8) hx hb hts hin hown hK hP 0 rfl rfl 7 (by decide) q_readerCounts (fun _ h9 => h9) rfl dX0_read_5 ?_
  refine lv_iload_n hx hb dX0_read_8 rfl (lv_at hl 1 rfl) ?_
  refine pv_iald (i := lv) (v := RC (lv)) hx hb hK hP 5 0 rfl rfl (by omega) (by decide) (hArc _ (by omega) (by omega)) dX0_read_9 ?_
  exact pu_iret hx hb hr hlocks dX0_read_10 (by rfl)
set_option maxHeartbeats 4000000 in
set_option maxRecDepth 100000 in
theorem t_read (l : Launch) (D : va_G) (cI cZ : ClassId) (base st : Nat) (Z : Nat → Nat) (x0 x1 x2 x5 x6 x7 : Nat) {n came MV : Int} {F G SP RF RC : Int → Int} (hfl : l.stackTraces = false) (lv : Int) (hlr : (-2147483648 ≤ lv ∧ lv ≤ 2147483647)) (hlv : ¬ (0 ≤ lv ∧ lv < 4)) : th_M l yX0_read wsX0_read ({ frames := 7, cells := 1, slots := 6, locals := 112 } : Room) [.ref x0, .int (iI (lv))] (CP D cI cZ base st Z x0 x1 x2 x5 x6 x7 n came MV F G SP RF RC) "java/lang/IndexOutOfBoundsException" := by
  refine th_of (cc := cX0_read) (maxL := 2) (ret := (some .int)) (own := RX0) (by decide) rfl rfl (Nat.le_of_ble_eq_true rfl) ?_
  intro p e s m below meth c ls B hno hCP hl
  obtain ⟨hx, hb, hml, hr, hts, hown, hlocks⟩ := B
  obtain ⟨⟨hK, hZL, ⟨hstb, xs, hXL, hAL⟩, hTW⟩, f, g, sp, rf, rc, hAf, hAg, hAsp, hArf, hArc, hP, hDb⟩ := id hCP
  have hl : lv_has ls 2 [(0, .ref x0), (1, .int (iI (lv)))] := hl
  refine lv_iload_n hx hb dX0_read_0 rfl (lv_at hl 1 rfl) ?_
  refine th_callS (As := [.int (iI (lv))]) (rest := []) SP_mv ⟨hx, hb, hml, hown, hts⟩ (t_requireReader l D cI cZ base st Z hfl lv hlr hlv) (va_cwS 1 hts gX0_read_X0_requireReader rfl rfl rfl (by decide +kernel) ⟨(Nat.le_of_ble_eq_true rfl), (Nat.le_of_ble_eq_true rfl)⟩) hCP.1 rfl rfl hl.1 (Nat.le_of_ble_eq_true rfl) dX0_read_1 ⟨(Nat.le_of_ble_eq_true rfl), (Nat.le_of_ble_eq_true rfl)⟩ (fun H1 ce q9 h1 h2 h3 h4 h5 => ?_)
  exact th_out hno hlocks h1 h2 h3 h4 h5
set_option maxHeartbeats 4000000 in
set_option maxRecDepth 100000 in
theorem c_daysTo (l : Launch) (D : va_G) (cI cZ : ClassId) (base st : Nat) (Z : Nat → Nat) (x0 x1 x2 x5 x6 x7 : Nat) {n came MV : Int} {F G SP RF RC : Int → Int} (hn : 0 ≤ n ∧ n ≤ 60) (hF : ∀ k : Int, 0 ≤ k → k < n → 0 ≤ F k ∧ F k < 200) (hRF : ∀ k : Int, 0 ≤ k → k < 4 → -1 ≤ RF k ∧ RF k < 200) (u v : Int) (hu : 0 ≤ u ∧ u < 4) (hv : 0 ≤ v ∧ v < 4) (ru : Int) (hru : PL F n (RF u) ru) (rv : Int) (hrv : PL F n (RF v) rv) (r : Int) (hr9 : r = if ru = -1 ∨ rv < ru then -1 else rv - ru) : pu_M l yX0_daysTo wsX0_daysTo ({ frames := 1, cells := 0, slots := 0, locals := 22 } : Room) [.ref x0, .int (iI (u)), .int (iI (v))] (CP D cI cZ base st Z x0 x1 x2 x5 x6 x7 n came MV F G SP RF RC) (r) := by
  refine pu_of (cc := cX0_daysTo) (maxL := 5) (ret := (some .int)) (own := RX0) (by decide) rfl rfl (Nat.le_of_ble_eq_true rfl) ?_
  intro p e s m below meth c ls B hCP hl
  obtain ⟨hx, hb, hml, hr, hts, hown, hlocks⟩ := B
  obtain ⟨⟨hK, hZL, ⟨hstb, xs, hXL, hAL⟩, hTW⟩, f, g, sp, rf, rc, hAf, hAg, hAsp, hArf, hArc, hP, hDb⟩ := id hCP
  have hl : lv_has ls 5 [(0, .ref x0), (1, .int (iI (u))), (2, .int (iI (v)))] := hl
  have hin : ∀ w ∈ u_ws RX0 TX0 8, w ∈ wsX0_daysTo := by decide +kernel
  have q_readerFolders := hts (.fieldLink RX0 22 "ShelfMarks" "readerFolders" "[I") (by decide +kernel)
  refine lv_iload_n hx hb dX0_daysTo_0 rfl (lv_at hl 1 rfl) ?_
  refine pn_callS (As := [.int (iI (u))]) (rest := []) SP_mv ⟨hx, hb, hml, hown, hts⟩ (c_requireReader l D cI cZ base st Z u hu) (va_cwS 1 hts gX0_daysTo_X0_requireReader rfl rfl rfl (by decide +kernel) ⟨(Nat.le_of_ble_eq_true rfl), (Nat.le_of_ble_eq_true rfl)⟩) hCP.1 rfl rfl hl.1 (Nat.le_of_ble_eq_true rfl) dX0_daysTo_1 ⟨Nat.zero_le _, Nat.zero_le _⟩ ?_
  refine lv_iload_n hx hb dX0_daysTo_4 rfl (lv_at hl 2 rfl) ?_
  refine pn_callS (As := [.int (iI (v))]) (rest := []) SP_mv ⟨hx, hb, hml, hown, hts⟩ (c_requireReader l D cI cZ base st Z v hv) (va_cwS 1 hts gX0_daysTo_X0_requireReader rfl rfl rfl (by decide +kernel) ⟨(Nat.le_of_ble_eq_true rfl), (Nat.le_of_ble_eq_true rfl)⟩) hCP.1 rfl rfl hl.1 (Nat.le_of_ble_eq_true rfl) dX0_daysTo_5 ⟨Nat.zero_le _, Nat.zero_le _⟩ ?_
  have hfu := hRF u (by omega) (by omega)
  have hfv := hRF v (by omega) (by omega)
  refine lv_aload_n hx hb dX0_daysTo_8 rfl (lv_at hl 0 rfl) ?_
  refine lv_aload_n hx hb dX0_daysTo_9 rfl (lv_at hl 0 rfl) ?_
  refine va_get (D := D) (ci := 0) (v := .ref x6) (C := RX0) (T := TX0) (N := 8) hx hb hts hin hown hK hP 0 rfl rfl 6 (by decide) q_readerFolders (fun _ h9 => h9) rfl dX0_daysTo_10 ?_
  refine lv_iload_n hx hb dX0_daysTo_13 rfl (lv_at hl 1 rfl) ?_
  refine pv_iald (i := u) (v := RF (u)) hx hb hK hP 4 0 rfl rfl (by omega) (by decide) (hArf _ (by omega) (by omega)) dX0_daysTo_14 ?_
  refine pu_callV (As := [.int (iI (RF (u)))]) (rest := []) CP_mv ⟨hx, hb, hml, hown, hts⟩ (c_placeOf l D cI cZ base st Z x0 x1 x2 x5 x6 x7 hn hF (RF u) (by omega) ru hru) (cwV 1 hts gX0_daysTo_X0_placeOf rfl rfl rfl (by decide +kernel) ⟨(Nat.le_of_ble_eq_true rfl), (Nat.le_of_ble_eq_true rfl)⟩) hCP (CP_rc hCP) rfl rfl hl.1 (Nat.le_of_ble_eq_true rfl) dX0_daysTo_15 ⟨Nat.zero_le _, Nat.zero_le _⟩ ?_
  have hpu := PL_rg hn.1 hru
  refine lv_istore_n (lv' := [(3, .int (iI (ru))), (0, .ref x0), (1, .int (iI (u))), (2, .int (iI (v)))]) hx hb dX0_daysTo_18 rfl hl (by decide) rfl (fun ls hl => ?_)
  refine lv_aload_n hx hb dX0_daysTo_19 rfl (lv_at hl 1 rfl) ?_
  refine lv_aload_n hx hb dX0_daysTo_20 rfl (lv_at hl 1 rfl) ?_
  refine va_get (D := D) (ci := 0) (v := .ref x6) (C := RX0) (T := TX0) (N := 8) hx hb hts hin hown hK hP 0 rfl rfl 6 (by decide) q_readerFolders (fun _ h9 => h9) rfl dX0_daysTo_21 ?_
  refine lv_iload_n hx hb dX0_daysTo_24 rfl (lv_at hl 3 rfl) ?_
  refine pv_iald (i := v) (v := RF (v)) hx hb hK hP 4 0 rfl rfl (by omega) (by decide) (hArf _ (by omega) (by omega)) dX0_daysTo_25 ?_
  refine pu_callV (As := [.int (iI (RF (v)))]) (rest := []) CP_mv ⟨hx, hb, hml, hown, hts⟩ (c_placeOf l D cI cZ base st Z x0 x1 x2 x5 x6 x7 hn hF (RF v) (by omega) rv hrv) (cwV 1 hts gX0_daysTo_X0_placeOf rfl rfl rfl (by decide +kernel) ⟨(Nat.le_of_ble_eq_true rfl), (Nat.le_of_ble_eq_true rfl)⟩) hCP (CP_rc hCP) rfl rfl hl.1 (Nat.le_of_ble_eq_true rfl) dX0_daysTo_26 ⟨Nat.zero_le _, Nat.zero_le _⟩ ?_
  have hpv := PL_rg hn.1 hrv
  refine lv_istore (lv' := [(4, .int (iI (rv))), (3, .int (iI (ru))), (0, .ref x0), (1, .int (iI (u))), (2, .int (iI (v)))]) hx hb dX0_daysTo_29 hl (by decide) rfl (fun ls hl => ?_)
  refine lv_iload_n hx hb dX0_daysTo_31 rfl (lv_at hl 1 rfl) ?_
  refine pv_iconst hx hb dX0_daysTo_32 ?_
  refine pv_icmp_eq (tgt := 42) hx hb dX0_daysTo_33 (by decide) (by omega) (fun c_33 => ?_) (fun c_33 => ?_)
  · -- 33t
    refine pv_iconst hx hb dX0_daysTo_42 ?_
    refine lv_goto (tgt := 50) hx hb dX0_daysTo_43 (by decide) ?_
    exact pu_iret hx hb hr hlocks dX0_daysTo_50 (by rw [hr9, if_pos (by omega)])
  · -- 33f
    refine lv_iload hx hb dX0_daysTo_36 (lv_at hl 0 rfl) ?_
    refine lv_iload_n hx hb dX0_daysTo_38 rfl (lv_at hl 1 rfl) ?_
    refine pv_icmp_ge (tgt := 46) hx hb dX0_daysTo_39 (by decide) (by omega) (fun c_39 => ?_) (fun c_39 => ?_)
    · -- 39t
      refine lv_iload hx hb dX0_daysTo_46 (lv_at hl 0 rfl) ?_
      refine lv_iload_n hx hb dX0_daysTo_48 rfl (lv_at hl 1 rfl) ?_
      refine pv_isub hx hb dX0_daysTo_49 ?_
      exact pu_iret hx hb hr hlocks dX0_daysTo_50 (by rw [hr9, if_neg (by omega)])
    · -- 39f
      refine pv_iconst hx hb dX0_daysTo_42 ?_
      refine lv_goto (tgt := 50) hx hb dX0_daysTo_43 (by decide) ?_
      exact pu_iret hx hb hr hlocks dX0_daysTo_50 (by rw [hr9, if_pos (by omega)])
set_option maxHeartbeats 4000000 in
set_option maxRecDepth 100000 in
theorem t_daysTo (l : Launch) (D : va_G) (cI cZ : ClassId) (base st : Nat) (Z : Nat → Nat) (x0 x1 x2 x5 x6 x7 : Nat) {n came MV : Int} {F G SP RF RC : Int → Int} (hfl : l.stackTraces = false) (u v : Int) (hur : (-2147483648 ≤ u ∧ u ≤ 2147483647)) (hu : ¬ (0 ≤ u ∧ u < 4)) : th_M l yX0_daysTo wsX0_daysTo ({ frames := 7, cells := 1, slots := 6, locals := 112 } : Room) [.ref x0, .int (iI (u)), .int (iI (v))] (CP D cI cZ base st Z x0 x1 x2 x5 x6 x7 n came MV F G SP RF RC) "java/lang/IndexOutOfBoundsException" := by
  refine th_of (cc := cX0_daysTo) (maxL := 5) (ret := (some .int)) (own := RX0) (by decide) rfl rfl (Nat.le_of_ble_eq_true rfl) ?_
  intro p e s m below meth c ls B hno hCP hl
  obtain ⟨hx, hb, hml, hr, hts, hown, hlocks⟩ := B
  obtain ⟨⟨hK, hZL, ⟨hstb, xs, hXL, hAL⟩, hTW⟩, f, g, sp, rf, rc, hAf, hAg, hAsp, hArf, hArc, hP, hDb⟩ := id hCP
  have hl : lv_has ls 5 [(0, .ref x0), (1, .int (iI (u))), (2, .int (iI (v)))] := hl
  refine lv_iload_n hx hb dX0_daysTo_0 rfl (lv_at hl 1 rfl) ?_
  refine th_callS (As := [.int (iI (u))]) (rest := []) SP_mv ⟨hx, hb, hml, hown, hts⟩ (t_requireReader l D cI cZ base st Z hfl u hur hu) (va_cwS 1 hts gX0_daysTo_X0_requireReader rfl rfl rfl (by decide +kernel) ⟨(Nat.le_of_ble_eq_true rfl), (Nat.le_of_ble_eq_true rfl)⟩) hCP.1 rfl rfl hl.1 (Nat.le_of_ble_eq_true rfl) dX0_daysTo_1 ⟨(Nat.le_of_ble_eq_true rfl), (Nat.le_of_ble_eq_true rfl)⟩ (fun H1 ce q9 h1 h2 h3 h4 h5 => ?_)
  exact th_out hno hlocks h1 h2 h3 h4 h5
set_option maxHeartbeats 4000000 in
set_option maxRecDepth 100000 in
theorem t_daysTo2 (l : Launch) (D : va_G) (cI cZ : ClassId) (base st : Nat) (Z : Nat → Nat) (x0 x1 x2 x5 x6 x7 : Nat) {n came MV : Int} {F G SP RF RC : Int → Int} (hfl : l.stackTraces = false) (u v : Int) (hu : 0 ≤ u ∧ u < 4) (hvr : (-2147483648 ≤ v ∧ v ≤ 2147483647)) (hv : ¬ (0 ≤ v ∧ v < 4)) : th_M l yX0_daysTo wsX0_daysTo ({ frames := 7, cells := 1, slots := 6, locals := 112 } : Room) [.ref x0, .int (iI (u)), .int (iI (v))] (CP D cI cZ base st Z x0 x1 x2 x5 x6 x7 n came MV F G SP RF RC) "java/lang/IndexOutOfBoundsException" := by
  refine th_of (cc := cX0_daysTo) (maxL := 5) (ret := (some .int)) (own := RX0) (by decide) rfl rfl (Nat.le_of_ble_eq_true rfl) ?_
  intro p e s m below meth c ls B hno hCP hl
  obtain ⟨hx, hb, hml, hr, hts, hown, hlocks⟩ := B
  obtain ⟨⟨hK, hZL, ⟨hstb, xs, hXL, hAL⟩, hTW⟩, f, g, sp, rf, rc, hAf, hAg, hAsp, hArf, hArc, hP, hDb⟩ := id hCP
  have hl : lv_has ls 5 [(0, .ref x0), (1, .int (iI (u))), (2, .int (iI (v)))] := hl
  refine lv_iload_n hx hb dX0_daysTo_0 rfl (lv_at hl 1 rfl) ?_
  refine pn_callS (As := [.int (iI (u))]) (rest := []) SP_mv ⟨hx, hb, hml, hown, hts⟩ (c_requireReader l D cI cZ base st Z u hu) (va_cwS 1 hts gX0_daysTo_X0_requireReader rfl rfl rfl (by decide +kernel) ⟨(Nat.le_of_ble_eq_true rfl), (Nat.le_of_ble_eq_true rfl)⟩) hCP.1 rfl rfl hl.1 (Nat.le_of_ble_eq_true rfl) dX0_daysTo_1 ⟨Nat.zero_le _, Nat.zero_le _⟩ ?_
  refine lv_iload_n hx hb dX0_daysTo_4 rfl (lv_at hl 2 rfl) ?_
  refine th_callS (As := [.int (iI (v))]) (rest := []) SP_mv ⟨hx, hb, hml, hown, hts⟩ (t_requireReader l D cI cZ base st Z hfl v hvr hv) (va_cwS 1 hts gX0_daysTo_X0_requireReader rfl rfl rfl (by decide +kernel) ⟨(Nat.le_of_ble_eq_true rfl), (Nat.le_of_ble_eq_true rfl)⟩) hCP.1 rfl rfl hl.1 (Nat.le_of_ble_eq_true rfl) dX0_daysTo_5 ⟨(Nat.le_of_ble_eq_true rfl), (Nat.le_of_ble_eq_true rfl)⟩ (fun H1 ce q9 h1 h2 h3 h4 h5 => ?_)
  exact th_out hno hlocks h1 h2 h3 h4 h5
set_option maxHeartbeats 4000000 in
set_option maxRecDepth 100000 in
theorem c_readersAt (l : Launch) (D : va_G) (cI cZ : ClassId) (base st : Nat) (Z : Nat → Nat) (x0 x1 x2 x5 x6 x7 : Nat) {n came MV : Int} {F G SP RF RC : Int → Int} (hRF : ∀ k : Int, 0 ≤ k → k < 4 → -1 ≤ RF k ∧ RF k < 200) (x : Int) (hxr : (-2147483648 ≤ x ∧ x ≤ 2147483647)) : pu_M l yX0_readersAt wsX0_readersAt ({ frames := 0, cells := 0, slots := 0, locals := 0 } : Room) [.ref x0, .int (iI (x))] (CP D cI cZ base st Z x0 x1 x2 x5 x6 x7 n came MV F G SP RF RC) (cn (fun k => decide (RF k = x)) 4) := by
  refine pu_of (cc := cX0_readersAt) (maxL := 4) (ret := (some .int)) (own := RX0) (by decide) rfl rfl (Nat.le_of_ble_eq_true rfl) ?_
  intro p e s m below meth c ls B hCP hl
  obtain ⟨hx, hb, hml, hr, hts, hown, hlocks⟩ := B
  obtain ⟨⟨hK, hZL, ⟨hstb, xs, hXL, hAL⟩, hTW⟩, f, g, sp, rf, rc, hAf, hAg, hAsp, hArf, hArc, hP, hDb⟩ := id hCP
  have hl : lv_has ls 4 [(0, .ref x0), (1, .int (iI (x)))] := hl
  have hin : ∀ w ∈ u_ws RX0 TX0 8, w ∈ wsX0_readersAt := by decide +kernel
  have q_readerFolders := hts (.fieldLink RX0 22 "ShelfMarks" "readerFolders" "[I") (by decide +kernel)
  refine pv_iconst hx hb dX0_readersAt_0 ?_
  refine lv_istore_n (lv' := [(2, .int (iI (0))), (0, .ref x0), (1, .int (iI (x)))]) hx hb dX0_readersAt_1 rfl hl (by decide) rfl (fun ls hl => ?_)
  refine pv_iconst hx hb dX0_readersAt_2 ?_
  refine lv_istore_n (lv' := [(3, .int (iI (0))), (2, .int (iI (0))), (0, .ref x0), (1, .int (iI (x)))]) hx hb dX0_readersAt_3 rfl hl (by decide) rfl (fun ls hl => ?_)
  have hloop4 : ∀ (fuel : Nat) (fd : Int) (k : Int) (ls : Array Slot), (4 - k) < fuel → (0 ≤ k ∧ k ≤ 4) → (fd = cn (fun k => decide (RF k = x)) k.toNat) → lv_has ls 4 [(0, .ref x0), (1, .int (iI (x))), (2, .int (iI (fd))), (3, .int (iI (k)))] → W p l e ({ frames := 0, cells := 0, slots := 0, locals := 0 } : Room) s m ([.ref x0, .int (iI (x))] : List Value).toArray below meth c s.heap [] 0 0 (MQ below (pu_Q (cn (fun k => decide (RF k = x)) 4)) ([.ref x0, .int (iI (x))] : List Value).toArray s 0 0 (fun _ => False)) (F0 m 4 ls []) := by
    intro fuel
    induction fuel with
    | zero => intro fd k ls hfu hk hfd hl; exfalso; omega
    | succ fuel ih =>
      intro fd k ls hfu hk hfd hl
      refine lv_iload_n hx hb dX0_readersAt_4 rfl (lv_at hl 3 rfl) ?_
      refine pv_iconst hx hb dX0_readersAt_5 ?_
      refine pv_icmp_ge (tgt := 28) hx hb dX0_readersAt_6 (by decide) (by omega) (fun c_6 => ?_) (fun c_6 => ?_)
      · -- 6t
        refine lv_iload_n hx hb dX0_readersAt_28 rfl (lv_at hl 2 rfl) ?_
        exact pu_iret hx hb hr hlocks dX0_readersAt_29 (by rw [hfd, show k.toNat = 4 by omega])
      · -- 6f
        refine lv_aload_n hx hb dX0_readersAt_9 rfl (lv_at hl 0 rfl) ?_
        refine va_get (D := D) (ci := 0) (v := .ref x6) (C := RX0) (T := TX0) (N := 8) hx hb hts hin hown hK hP 0 rfl rfl 6 (by decide) q_readerFolders (fun _ h9 => h9) rfl dX0_readersAt_10 ?_
        refine lv_iload_n hx hb dX0_readersAt_13 rfl (lv_at hl 3 rfl) ?_
        refine pv_iald (i := k) (v := RF (k)) hx hb hK hP 4 0 rfl rfl (by omega) (by decide) (hArf _ (by omega) (by omega)) dX0_readersAt_14 ?_
        have hrk := hRF k (by omega) (by omega)
        refine lv_iload_n hx hb dX0_readersAt_15 rfl (lv_at hl 1 rfl) ?_
        refine pv_icmp_ne (tgt := 22) hx hb dX0_readersAt_16 (by decide) (by omega) (fun c_16 => ?_) (fun c_16 => ?_)
        · -- 16t
          refine pv_iinc (lv' := [(3, .int (iI (k + 1))), (0, .ref x0), (1, .int (iI (x))), (2, .int (iI (fd)))]) hx hb dX0_readersAt_22 hl (k := 3) rfl (by decide) rfl (fun ls hl => ?_)
          refine lv_goto (tgt := 4) hx hb dX0_readersAt_25 (by decide) ?_
          exact ih (fd) (k + 1) ls (by omega) (by omega) (by rw [hfd]; exact (cn_f _ (by omega) (decide_eq_false c_16)).symm) (lv_sub hl [1, 2, 3, 0] rfl)
        · -- 16f
          refine pv_iinc (lv' := [(2, .int (iI (fd + 1))), (0, .ref x0), (1, .int (iI (x))), (3, .int (iI (k)))]) hx hb dX0_readersAt_19 hl (k := 2) rfl (by decide) rfl (fun ls hl => ?_)
          refine pv_iinc (lv' := [(3, .int (iI (k + 1))), (2, .int (iI (fd + 1))), (0, .ref x0), (1, .int (iI (x)))]) hx hb dX0_readersAt_22 hl (k := 3) rfl (by decide) rfl (fun ls hl => ?_)
          refine lv_goto (tgt := 4) hx hb dX0_readersAt_25 (by decide) ?_
          exact ih (fd + 1) (k + 1) ls (by omega) (by omega) (by rw [hfd]; exact (cn_t _ (by omega) (decide_eq_true c_16)).symm) (lv_sub hl [2, 3, 1, 0] rfl)
  exact hloop4 ((4 : Int).toNat + 1) (0) (0) ls (by omega) (by omega) (rfl) (lv_sub hl [2, 3, 1, 0] rfl)
end
