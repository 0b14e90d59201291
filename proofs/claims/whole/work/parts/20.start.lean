theorem va_S_step {A : Nat → Prop} {H0 H H1 : Heap} (h : va_S A H0 H []) (h1 : va_S (fun q : Nat => H.size ≤ q) H H1 []) : va_S A H0 H1 [] :=
  ⟨Nat.le_trans h.1 h1.1, fun q a b => (h1.2.1 q (Nat.lt_of_lt_of_le a h.1) (Nat.not_le.mpr (Nat.lt_of_lt_of_le a h.1))).trans (h.2.1 q a b), fun _ h => by cases h⟩
theorem CW_mlt {D : va_G} {cI : ClassId} {base x0 x1 x2 x5 x6 x7 : Nat} {n came MV : Int} {F G SP RF RC : Int → Int} {H : Heap} (h : CW D cI base x0 x1 x2 x5 x6 x7 n came MV F G SP RF RC H) : ∀ q, mC x0 x1 x2 x5 x6 x7 q → q < H.size := by
  obtain ⟨f, g, sp, rf, rc, -, -, -, -, -, hP, -⟩ := h
  intro q hq
  rcases hq with rfl | rfl | rfl | rfl | rfl | rfl
  · exact (hP 0 _ rfl).lt
  · exact (hP 1 _ rfl).lt
  · exact (hP 2 _ rfl).lt
  · exact (hP 3 _ rfl).lt
  · exact (hP 4 _ rfl).lt
  · exact (hP 5 _ rfl).lt
theorem MA_mlt {D : va_G} {cI cZ : ClassId} {base y0 y1 y2 y3 y6 y7 y8 : Nat} {n came MV th : Int} {F Gp SP RF RC : Int → Int} {H : Heap} (h : MA D cI cZ base y0 y1 y2 y3 y6 y7 y8 n came MV th F Gp SP RF RC H) : ∀ q, mM y0 y1 y2 y3 y6 y7 y8 q → q < H.size := by
  obtain ⟨G, ZN, b1, b2, f, g, z, sp, rf, rc, -, -, -, -, -, -, hP, -⟩ := h
  intro q hq
  rcases hq with rfl | rfl | rfl | rfl | rfl | rfl | rfl
  · exact (hP 0 _ rfl).lt
  · exact (hP 1 _ rfl).lt
  · exact (hP 2 _ rfl).lt
  · exact (hP 3 _ rfl).lt
  · exact (hP 4 _ rfl).lt
  · exact (hP 5 _ rfl).lt
  · exact (hP 6 _ rfl).lt
theorem arr_of {ty : FieldType} (hty : ∀ C, ty ≠ .object C) {args : Array Value} {s : State} (h : (Cond.arrayClass ty).before args s = true) : ∃ k : ClassId, ArrOfT s k ty ∧ va_RA s k ty := by
  obtain ⟨k, kA, comp, h1, h2, h3⟩ := Cond.arrayClass_spec h
  refine ⟨k, fun n z => ⟨fun k h => (by cases h), kA, h2, comp, h3⟩, ?_⟩
  cases ty with
  | object C => exact absurd rfl (hty C)
  | _ => exact h1
set_option maxHeartbeats 4000000 in
set_option maxRecDepth 100000 in
theorem law_loop {p : Program} {e : Env} {s : State} {m : MethodId} {below : List Frame} {meth : Method} {c : Code} (l : Launch) (hfl : l.stackTraces = false) {b L : Nat} {xs : Nat → Int32} (hL : L ≤ 1536) (C0 : lw_At p s m meth c b L xs)
    {D : va_G} {cI cZ cJ : ClassId} {st : Nat} {Z : Nat → Nat} (hSW0 : SW D cI cZ s.heap.size st Z s s.heap) (hKJ : va_K D vwCl [(cJ, .long)] s) (hnc1 : va_Nc "java/lang/IllegalStateException" "java/lang/IndexOutOfBoundsException" s) (hnc2 : va_Nc "java/lang/IllegalArgumentException" "java/lang/IndexOutOfBoundsException" s)
    {x0 x1 x2 x5 x6 x7 y0 y1 y2 y3 y6 y7 y8 o : Nat} (hxy : ∀ q, mC x0 x1 x2 x5 x6 x7 q → ¬ mM y0 y1 y2 y3 y6 y7 y8 q) (hox : ¬ mC x0 x1 x2 x5 x6 x7 o) (hoy : ¬ mM y0 y1 y2 y3 y6 y7 y8 o) (hob : s.heap.size ≤ o) : ∀ (k t : Nat) (n came MV th : Int) (F G SP RF RC : Int → Int) (H : Heap) (lf : Nat → Int64) (ls : Array Slot), 3 * t ≤ L → L + 1 ≤ 3 * t + k → INV n came F G RF → CW D cI s.heap.size x0 x1 x2 x5 x6 x7 n came MV F G SP RF RC H → MA D cI cZ s.heap.size y0 y1 y2 y3 y6 y7 y8 n came MV th F G SP RF RC H → OC D cJ o lf H → va_S (fun q : Nat => s.heap.size ≤ q) s.heap H [] → lv_has ls 7 [(0, .ref b), (1, .ref x0), (2, .ref y0), (3, .ref o), (4, .int (iI (3 * (t : Int))))] → W p l e room_1 s m #[Value.ref b] below meth c H [] (14 + t) (633 + 6 * t) (lw_Z below #[Value.ref b] s) (F0 m 23 ls []) := by
  obtain ⟨hx, hb, hr, hml, hown, hts0, hX, hbl, hlocks, hgv⟩ := id C0
  have hbA : ¬ (fun q : Nat => s.heap.size ≤ q) b := Nat.not_le.mpr hbl
  intro k
  induction k with
  | zero => intro t n came MV th F G SP RF RC H lf ls h1 h2; exact absurd h2 (by omega)
  | succ k ih =>
    intro t n came MV th F G SP RF RC H lf ls h1 h2 hI hC hM hO hS hl
    refine lv_iload hx hb dL_law_23 (lv_at hl 4 rfl) ?_
    refine lv_aload_n hx hb dL_law_25 rfl (lv_at hl 0 rfl) ?_
    refine va_slen hx hb hX hbl hbA hS dL_law_26 ?_
    rw [show Int32.ofNat L = iI (L : Int) from (iI_nI L).symm]
    refine pv_iconst hx hb dL_law_27 ?_
    refine pv_isub hx hb dL_law_28 ?_
    refine pv_icmp_gt (tgt := 1240) hx hb dL_law_29 (by decide) (by omega) (fun c1 => ?_) (fun c1 => ?_)
    · refine lv_iconst (v := 1) hx hb dL_law_1240 (by decide) ?_
      refine W.widen (k := 601024) (n := 7293034) (by omega) (by omega) ?_
      exact lw_ret hx hb hr hlocks dL_law_1241
    · have hi : 0 ≤ 3 * (t : Int) ∧ 3 * (t : Int) + 2 < (L : Int) := by omega
      have K : ∀ (n came MV th : Int) (F G SP RF RC : Int → Int) (H : Heap) (lf : Nat → Int64) (ls : Array Slot), INV n came F G RF → CW D cI s.heap.size x0 x1 x2 x5 x6 x7 n came MV F G SP RF RC H → MA D cI cZ s.heap.size y0 y1 y2 y3 y6 y7 y8 n came MV th F G SP RF RC H → OC D cJ o lf H → va_S (fun q : Nat => s.heap.size ≤ q) s.heap H [] → lv_has ls 7 [(0, .ref b), (1, .ref x0), (2, .ref y0), (3, .ref o), (4, .int (iI (3 * (t : Int))))] → W p l e room_1 s m #[Value.ref b] below meth c H [] (14 + t + 1) (633 + 6 * t + 6) (lw_Z below #[Value.ref b] s) (F0 m 1234 ls []) := by
        intro n came MV th F G SP RF RC H lf ls hI hC hM hO hS hl
        refine pv_iinc (a := 3 * (t : Int)) (k := 4) (lv' := [(4, .int (iI (3 * (t : Int) + 3))), (0, .ref b), (1, .ref x0), (2, .ref y0), (3, .ref o)]) hx hb dL_law_1234 hl rfl (by decide) rfl (fun ls hl => ?_)
        refine lv_goto (tgt := 23) hx hb dL_law_1237 (by decide) ?_
        rw [show 3 * (t : Int) + 3 = 3 * ((t + 1 : Nat) : Int) by omega] at hl
        refine W.widen (k := 14 + (t + 1)) (n := 633 + 6 * (t + 1)) (by omega) (by omega) ?_
        exact ih (t + 1) _ _ _ _ _ _ _ _ _ _ _ _ (by omega) (by omega) hI hC hM hO hS (lv_sub hl [1, 2, 3, 4, 0] rfl)
      refine lv_aload_n hx hb dL_law_32 rfl (lv_at hl 0 rfl) ?_
      refine lv_iload hx hb dL_law_33 (lv_at hl 4 rfl) ?_
      refine va_sld hx hb hX hbl hbA hS (iI_in (by omega) (by omega)) dL_law_35 ?_
      refine pv_bipush hx hb dL_law_36 (by decide +kernel) ?_
      refine lv_iand hx hb dL_law_38 ?_
      obtain ⟨j, hj, ej⟩ := pk_andE (xs (iI (3 * (t : Int))).toNatClampNeg) (m := iI 31) 5 (by decide +kernel)
      rw [ej]
      rcases (show j = 0 ∨ j = 1 ∨ j = 2 ∨ j = 3 ∨ j = 4 ∨ j = 5 ∨ j = 6 ∨ j = 7 ∨ j = 8 ∨ j = 9 ∨ j = 10 ∨ j = 11 ∨ j = 12 ∨ j = 13 ∨ j = 14 ∨ j = 15 ∨ j = 16 ∨ j = 17 ∨ j = 18 ∨ j = 19 ∨ j = 20 ∨ j = 21 ∨ j = 22 ∨ 23 ≤ j by omega) with rfl | rfl | rfl | rfl | rfl | rfl | rfl | rfl | rfl | rfl | rfl | rfl | rfl | rfl | rfl | rfl | rfl | rfl | rfl | rfl | rfl | rfl | rfl | hj2
      · refine lv_tableIn (off := 105) (tgt := 144) hx hb dL_law_39 (by decide +kernel) (by decide +kernel) (by decide +kernel) (by decide) ?_
        exact arm_0 l hfl hL C0 hSW0 hKJ hnc1 hnc2 hxy hox hoy hob hI hC hM hO hS hi hl (by omega) (by omega) K
      · refine lv_tableIn (off := 149) (tgt := 188) hx hb dL_law_39 (by decide +kernel) (by decide +kernel) (by decide +kernel) (by decide) ?_
        exact arm_1 l hfl hL C0 hSW0 hKJ hnc1 hnc2 hxy hox hoy hob hI hC hM hO hS hi hl (by omega) (by omega) K
      · refine lv_tableIn (off := 205) (tgt := 244) hx hb dL_law_39 (by decide +kernel) (by decide +kernel) (by decide +kernel) (by decide) ?_
        exact arm_2 l hfl hL C0 hSW0 hKJ hnc1 hnc2 hxy hox hoy hob hI hC hM hO hS hi hl (by omega) (by omega) K
      · refine lv_tableIn (off := 261) (tgt := 300) hx hb dL_law_39 (by decide +kernel) (by decide +kernel) (by decide +kernel) (by decide) ?_
        exact arm_3 l hfl hL C0 hSW0 hKJ hnc1 hnc2 hxy hox hoy hob hI hC hM hO hS hi hl (by omega) (by omega) K
      · refine lv_tableIn (off := 329) (tgt := 368) hx hb dL_law_39 (by decide +kernel) (by decide +kernel) (by decide +kernel) (by decide) ?_
        exact arm_4 l hfl hL C0 hSW0 hKJ hnc1 hnc2 hxy hox hoy hob hI hC hM hO hS hi hl (by omega) (by omega) K
      · refine lv_tableIn (off := 342) (tgt := 381) hx hb dL_law_39 (by decide +kernel) (by decide +kernel) (by decide +kernel) (by decide) ?_
        exact arm_5 l hfl hL C0 hSW0 hKJ hnc1 hnc2 hxy hox hoy hob hI hC hM hO hS hi hl (by omega) (by omega) K
      · refine lv_tableIn (off := 355) (tgt := 394) hx hb dL_law_39 (by decide +kernel) (by decide +kernel) (by decide +kernel) (by decide) ?_
        exact arm_6 l hfl hL C0 hSW0 hKJ hnc1 hnc2 hxy hox hoy hob hI hC hM hO hS hi hl (by omega) (by omega) K
      · refine lv_tableIn (off := 411) (tgt := 450) hx hb dL_law_39 (by decide +kernel) (by decide +kernel) (by decide +kernel) (by decide) ?_
        exact arm_7 l hfl hL C0 hSW0 hKJ hnc1 hnc2 hxy hox hoy hob hI hC hM hO hS hi hl (by omega) (by omega) K
      · refine lv_tableIn (off := 467) (tgt := 506) hx hb dL_law_39 (by decide +kernel) (by decide +kernel) (by decide +kernel) (by decide) ?_
        exact arm_8 l hfl hL C0 hSW0 hKJ hnc1 hnc2 hxy hox hoy hob hI hC hM hO hS hi hl (by omega) (by omega) K
      · refine lv_tableIn (off := 492) (tgt := 531) hx hb dL_law_39 (by decide +kernel) (by decide +kernel) (by decide +kernel) (by decide) ?_
        exact arm_9 l hfl hL C0 hSW0 hKJ hnc1 hnc2 hxy hox hoy hob hI hC hM hO hS hi hl (by omega) (by omega) K
      · refine lv_tableIn (off := 548) (tgt := 587) hx hb dL_law_39 (by decide +kernel) (by decide +kernel) (by decide +kernel) (by decide) ?_
        exact arm_10 l hfl hL C0 hSW0 hKJ hnc1 hnc2 hxy hox hoy hob hI hC hM hO hS hi hl (by omega) (by omega) K
      · refine lv_tableIn (off := 604) (tgt := 643) hx hb dL_law_39 (by decide +kernel) (by decide +kernel) (by decide +kernel) (by decide) ?_
        exact arm_11 l hfl hL C0 hSW0 hKJ hnc1 hnc2 hxy hox hoy hob hI hC hM hO hS hi hl (by omega) (by omega) K
      · refine lv_tableIn (off := 629) (tgt := 668) hx hb dL_law_39 (by decide +kernel) (by decide +kernel) (by decide +kernel) (by decide) ?_
        exact arm_12 l hfl hL C0 hSW0 hKJ hnc1 hnc2 hxy hox hoy hob hI hC hM hO hS hi hl (by omega) (by omega) K
      · refine lv_tableIn (off := 685) (tgt := 724) hx hb dL_law_39 (by decide +kernel) (by decide +kernel) (by decide +kernel) (by decide) ?_
        exact arm_13 l hfl hL C0 hSW0 hKJ hnc1 hnc2 hxy hox hoy hob hI hC hM hO hS hi hl (by omega) (by omega) K
      · refine lv_tableIn (off := 753) (tgt := 792) hx hb dL_law_39 (by decide +kernel) (by decide +kernel) (by decide +kernel) (by decide) ?_
        exact arm_14 l hfl hL C0 hSW0 hKJ hnc1 hnc2 hxy hox hoy hob hI hC hM hO hS hi hl (by omega) (by omega) K
      · refine lv_tableIn (off := 809) (tgt := 848) hx hb dL_law_39 (by decide +kernel) (by decide +kernel) (by decide +kernel) (by decide) ?_
        exact arm_15 l hfl hL C0 hSW0 hKJ hnc1 hnc2 hxy hox hoy hob hI hC hM hO hS hi hl (by omega) (by omega) K
      · refine lv_tableIn (off := 865) (tgt := 904) hx hb dL_law_39 (by decide +kernel) (by decide +kernel) (by decide +kernel) (by decide) ?_
        exact arm_16 l hfl hL C0 hSW0 hKJ hnc1 hnc2 hxy hox hoy hob hI hC hM hO hS hi hl (by omega) (by omega) K
      · refine lv_tableIn (off := 878) (tgt := 917) hx hb dL_law_39 (by decide +kernel) (by decide +kernel) (by decide +kernel) (by decide) ?_
        exact arm_17 l hfl hL C0 hSW0 hKJ hnc1 hnc2 hxy hox hoy hob hI hC hM hO hS hi hl (by omega) (by omega) K
      · refine lv_tableIn (off := 934) (tgt := 973) hx hb dL_law_39 (by decide +kernel) (by decide +kernel) (by decide +kernel) (by decide) ?_
        exact arm_18 l hfl hL C0 hSW0 hKJ hnc1 hnc2 hxy hox hoy hob hI hC hM hO hS hi hl (by omega) (by omega) K
      · refine lv_tableIn (off := 1002) (tgt := 1041) hx hb dL_law_39 (by decide +kernel) (by decide +kernel) (by decide +kernel) (by decide) ?_
        exact arm_19 l hfl hL C0 hSW0 hKJ hnc1 hnc2 hxy hox hoy hob hI hC hM hO hS hi hl (by omega) (by omega) K
      · refine lv_tableIn (off := 1015) (tgt := 1054) hx hb dL_law_39 (by decide +kernel) (by decide +kernel) (by decide +kernel) (by decide) ?_
        exact arm_20 l hfl hL C0 hSW0 hKJ hnc1 hnc2 hxy hox hoy hob hI hC hM hO hS hi hl (by omega) (by omega) K
      · refine lv_tableIn (off := 1071) (tgt := 1110) hx hb dL_law_39 (by decide +kernel) (by decide +kernel) (by decide +kernel) (by decide) ?_
        exact arm_21 l hfl hL C0 hSW0 hKJ hnc1 hnc2 hxy hox hoy hob hI hC hM hO hS hi hl (by omega) (by omega) K
      · refine lv_tableIn (off := 1127) (tgt := 1166) hx hb dL_law_39 (by decide +kernel) (by decide +kernel) (by decide +kernel) (by decide) ?_
        exact arm_22 l hfl hL C0 hSW0 hKJ hnc1 hnc2 hxy hox hoy hob hI hC hM hO hS hi hl (by omega) (by omega) K
      · have e9 : (nI j).toInt = (j : Int) := by rw [← iI_nI]; exact iI_T (by omega)
        refine lv_tableOut (tgt := 1234) hx hb dL_law_39 (Or.inr (by rw [e9]; omega)) (by decide) ?_
        refine W.widen (k := 14 + t + 1) (n := 633 + 6 * t + 6) (by omega) (by omega) ?_
        exact K _ _ _ _ _ _ _ _ _ _ _ _ hI hC hM hO hS hl
set_option maxHeartbeats 4000000 in
set_option maxRecDepth 100000 in
theorem start_SW {p : Program} {s : State} {m : MethodId} {meth : Method} {c : Code} {b L : Nat} {xs : Nat → Int32} (C0 : lw_At p s m meth c b L xs) : ∃ (D : va_G) (cI cZ cJ : ClassId) (st : Nat) (Z : Nat → Nat), SW D cI cZ s.heap.size st Z s s.heap ∧ va_K D vwCl [(cJ, .long)] s ∧ va_Nc "java/lang/IllegalStateException" "java/lang/IndexOutOfBoundsException" s ∧ va_Nc "java/lang/IllegalArgumentException" "java/lang/IndexOutOfBoundsException" s := by
  obtain ⟨hx, hb, hr, hml, hown, hts, hX, hbl, hlocks, hgv⟩ := id C0
  have hs := flat_of_before _ hgv
  obtain ⟨c0, iS0, hKn0⟩ := u_known (C := RX0) (T := TX0) (N := 8) (n := 8) hts inX0 (hts (.instantiable RX0 8) (by decide +kernel))
  obtain ⟨c1, iS1, hKn1⟩ := u_known (C := RX1) (T := TX1) (N := 10) (n := 10) hts inX1 (hts (.instantiable RX1 10) (by decide +kernel))
  have hKc : ∀ (k : Nat) (q : vw_C), vwCl[k]? = some q → u_Kn s q.1 q.2.1 q.2.2 ((fun k : Nat => if k = 0 then c0 else c1) k) ((fun k : Nat => if k = 0 then iS0 else iS1) k) := by
    intro k q hq
    match k, hq with
    | 0, hq => cases hq; exact hKn0
    | 1, hq => cases hq; exact hKn1
    | k + 2, hq => simp [vwCl] at hq
  obtain ⟨cI, hAI⟩ := arr_of (ty := .int) (fun _ h => by cases h) (hts (.arrayClass .int) (by decide +kernel))
  obtain ⟨cZ, hAZ⟩ := arr_of (ty := .boolean) (fun _ h => by cases h) (hts (.arrayClass .boolean) (by decide +kernel))
  obtain ⟨cJ, hAJ⟩ := arr_of (ty := .long) (fun _ h => by cases h) (hts (.arrayClass .long) (by decide +kernel))
  have hA : ∀ a : Nat, a < s.heap.size → ¬ (fun q : Nat => s.heap.size ≤ q) a := fun a h => Nat.not_le.mpr h
  have hini : (Cond.initialized "ShelfMarks").before #[Value.ref b] s = true := hts _ (by decide +kernel)
  have hiniT : (Cond.initialized Bundle.tN).before #[Value.ref b] s = true := hts _ (by decide +kernel)
  obtain ⟨st, hst, hT⟩ := va_Tof (tm := (.static "ShelfMarks" "LOADED_FROM" "[I")) (ty := .int) (N := 9) (f := fun j => .int (iI (LM (j : Int)))) (A := fun q : Nat => s.heap.size ≤ q) (by decide) (hs (.arrayOf (.static "ShelfMarks" "LOADED_FROM" "[I") .int) (by decide +kernel)) (va_eqt (z := Int32.ofNat 9) (hs _ (by decide +kernel))) (fun j hj => by
    rcases (show j = 0 ∨ j = 1 ∨ j = 2 ∨ j = 3 ∨ j = 4 ∨ j = 5 ∨ j = 6 ∨ j = 7 ∨ j = 8 by omega) with rfl | rfl | rfl | rfl | rfl | rfl | rfl | rfl | rfl
    · exact va_eqt (z := iI (LM ((0 : Nat) : Int))) (hs _ (by decide +kernel))
    · exact va_eqt (z := iI (LM ((1 : Nat) : Int))) (hs _ (by decide +kernel))
    · exact va_eqt (z := iI (LM ((2 : Nat) : Int))) (hs _ (by decide +kernel))
    · exact va_eqt (z := iI (LM ((3 : Nat) : Int))) (hs _ (by decide +kernel))
    · exact va_eqt (z := iI (LM ((4 : Nat) : Int))) (hs _ (by decide +kernel))
    · exact va_eqt (z := iI (LM ((5 : Nat) : Int))) (hs _ (by decide +kernel))
    · exact va_eqt (z := iI (LM ((6 : Nat) : Int))) (hs _ (by decide +kernel))
    · exact va_eqt (z := iI (LM ((7 : Nat) : Int))) (hs _ (by decide +kernel))
    · exact va_eqt (z := iI (LM ((8 : Nat) : Int))) (hs _ (by decide +kernel))) hA
  have hstb : st < s.heap.size := by obtain ⟨cell, h1, -⟩ := hT; exact (Array.getElem?_eq_some_iff.mp h1).1
  have hAR : AR (fun j => iI (LM (j : Int))) 9 LM := fun k h0 h1 => by show iI (LM (k.toNat : Int)) = _; rw [show (k.toNat : Int) = k by omega]
  obtain ⟨z0, -, -, -, hz0, -⟩ := Cond.exactly_spec (hs (.exactly (.string RX0 59) "java/lang/String") (by decide +kernel))
  have hR0 : vk_R RX0 59 "a folder can't come behind itself" z0 s := vk_R.of (hts (.stringRef RX0 59 "a folder can't come behind itself") (by decide +kernel)) hz0
  obtain ⟨z1, -, -, -, hz1, -⟩ := Cond.exactly_spec (hs (.exactly (.string RX0 81) "java/lang/String") (by decide +kernel))
  have hR1 : vk_R RX0 81 "no such shelf" z1 s := vk_R.of (hts (.stringRef RX0 81 "no such shelf") (by decide +kernel)) hz1
  obtain ⟨z2, -, -, -, hz2, -⟩ := Cond.exactly_spec (hs (.exactly (.string RX0 104) "java/lang/String") (by decide +kernel))
  have hR2 : vk_R RX0 104 "the folder is not in the archive" z2 s := vk_R.of (hts (.stringRef RX0 104 "the folder is not in the archive") (by decide +kernel)) hz2
  obtain ⟨z3, -, -, -, hz3, -⟩ := Cond.exactly_spec (hs (.exactly (.string RX0 111) "java/lang/String") (by decide +kernel))
  have hR3 : vk_R RX0 111 "no more folders can come" z3 s := vk_R.of (hts (.stringRef RX0 111 "no more folders can come") (by decide +kernel)) hz3
  obtain ⟨z4, -, -, -, hz4, -⟩ := Cond.exactly_spec (hs (.exactly (.string RX0 114) "java/lang/String") (by decide +kernel))
  have hR4 : vk_R RX0 114 "no such level" z4 s := vk_R.of (hts (.stringRef RX0 114 "no such level") (by decide +kernel)) hz4
  obtain ⟨z5, -, -, -, hz5, -⟩ := Cond.exactly_spec (hs (.exactly (.string RX0 116) "java/lang/String") (by decide +kernel))
  have hR5 : vk_R RX0 116 "no such reader" z5 s := vk_R.of (hts (.stringRef RX0 116 "no such reader") (by decide +kernel)) hz5
  refine ⟨(fun k : Nat => if k = 0 then c0 else c1, fun k : Nat => if k = 0 then iS0 else iS1), cI, cZ, cJ, st, fun k => if k = 0 then z0 else if k = 1 then z1 else if k = 2 then z2 else if k = 3 then z3 else if k = 4 then z4 else z5, ⟨⟨hKc, fun k q hq => ?_⟩, va_Zref (hts (.laysStatic "ShelfMarks" "LOADED_FROM" "[I") (by decide +kernel)) hini hst hA, ⟨hstb, _, hT, hAR⟩, hR0, hR1, hR2, hR3, hR4, hR5, ?_, ?_, ?_, ?_, ?_, ?_, ?_, ?_⟩, ⟨hKc, fun k q hq => ?_⟩, ?_, ?_⟩
  · match k, hq with
    | 0, hq => cases hq; exact hAI
    | 1, hq => cases hq; exact hAZ
    | k + 2, hq => simp at hq
  · exact va_Nw.of rfl (hts (.castable "java/lang/IndexOutOfBoundsException" "java/lang/IndexOutOfBoundsException") (by decide +kernel))
  · exact va_Nw.of rfl (hts (.castable "java/lang/IllegalStateException" "java/lang/IllegalStateException") (by decide +kernel))
  · exact va_Nw.of rfl (hts (.castable "java/lang/IllegalArgumentException" "java/lang/IllegalArgumentException") (by decide +kernel))
  · exact va_Nw.of rfl (hts (.declares (Bundle.initS "java/lang/RuntimeException")) (by decide +kernel))
  · exact va_Nw.of rfl (hts (.declares (Bundle.initS "java/lang/Exception")) (by decide +kernel))
  · exact va_Nw.of rfl (hts (.declares (Bundle.initS "java/lang/Throwable")) (by decide +kernel))
  · exact vx_Zqof (hts (.laysStatic Bundle.tN "UNASSIGNED_STACK" Bundle.steD) (by decide +kernel)) hiniT (hs (.isRef (.static Bundle.tN "UNASSIGNED_STACK" Bundle.steD)) (by decide +kernel)) hA
  · exact vx_Zqof (hts (.laysStatic Bundle.tN "SUPPRESSED_SENTINEL" Bundle.listD) (by decide +kernel)) hiniT (hs (.isRef (.static Bundle.tN "SUPPRESSED_SENTINEL" Bundle.listD)) (by decide +kernel)) hA
  · match k, hq with
    | 0, hq => cases hq; exact hAJ
    | k + 1, hq => simp at hq
  · exact va_Nc.of (hs (.not (.castable "java/lang/IllegalStateException" "java/lang/IndexOutOfBoundsException")) (by decide +kernel))
  · exact va_Nc.of (hs (.not (.castable "java/lang/IllegalArgumentException" "java/lang/IndexOutOfBoundsException")) (by decide +kernel))
