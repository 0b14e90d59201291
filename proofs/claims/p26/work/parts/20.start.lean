theorem arr_of {ty : FieldType} (hty : ∀ C, ty ≠ .object C) {args : Array Value} {s : State} (h : (Cond.arrayClass ty).before args s = true) : ∃ k : ClassId, ArrOfT s k ty ∧ va_RA s k ty := by
  obtain ⟨k, kA, comp, h1, h2, h3⟩ := Cond.arrayClass_spec h
  refine ⟨k, fun n z => ⟨fun k h => (by cases h), kA, h2, comp, h3⟩, ?_⟩
  cases ty with
  | object C => exact absurd rfl (hty C)
  | _ => exact h1
set_option maxHeartbeats 4000000 in
set_option maxRecDepth 100000 in
theorem law_loop {p : Program} {e : Env} {s : State} {m : MethodId} {below : List Frame} {meth : Method} {c : Code} (l : Launch) (hfl : l.stackTraces = false) {b L : Nat} {xs : Nat → Int32} (hL : L ≤ 260) (C0 : lw_At p s m meth c b L xs)
    {D : va_G} {cI : ClassId} {st : Nat} {Z : Nat → Nat} (hSW0 : SW D cI s.heap.size st Z s s.heap) (hnc1 : va_Nc "java/lang/IllegalArgumentException" "java/lang/IllegalStateException" s) (hnc2 : va_Nc "java/lang/IllegalArgumentException" "java/lang/IndexOutOfBoundsException" s)
    {x0 x1 x2 x5 x6 x7 z0 z1 z2 z5 z6 z7 pp : Nat} (hDJ : DJ s.heap.size x0 x1 x2 x5 x6 x7 z0 z1 z2 z5 z6 z7 pp) (hzb : ∀ q, mC z0 z1 z2 z5 z6 z7 q → s.heap.size ≤ q) (hxb : ∀ q, mC x0 x1 x2 x5 x6 x7 q → s.heap.size ≤ q) : ∀ (k t : Nat) (H : Heap) (ls : Array Slot), t ≤ 60 → 61 ≤ t + k → RW D cI s.heap.size x0 x1 x2 x5 x6 x7 z0 z1 z2 z5 z6 z7 pp ((t : Int)) (3 * (t : Int)) H → va_S (fun q : Nat => s.heap.size ≤ q) s.heap H [] → lv_has ls 7 [(0, .ref b), (1, .ref x0), (2, .ref z0), (3, .ref pp), (4, .int (iI (1))), (5, .int (iI ((t : Int))))] → W p l e room_1 s m #[Value.ref b] below meth c H [] (13 + 3 * t) (354 + 14 * t) (lw_Z below #[Value.ref b] s) (F0 m 27 ls []) := by
  obtain ⟨hx, hb, hr, hml, hown, hts0, hX, hbl, hlocks, hgv⟩ := id C0
  have hts : ∀ w ∈ wsL_law, w.before #[Value.ref b] s = true := fun w h => hts0 w (wsL_law_in w h)
  have hbA : ¬ (fun q : Nat => s.heap.size ≤ q) b := Nat.not_le.mpr hbl
  intro k
  induction k with
  | zero => intro t H ls h1 h2; exact absurd h2 (by omega)
  | succ k ih =>
    intro t H ls ht hk hW hS hl
    have hSW := hSW0.keep (fun q h => hS.2.1 q h (Nat.not_le.mpr h))
    refine lv_iload hx hb dL_law_27 (lv_at hl 5 rfl) ?_
    refine pv_bipush hx hb dL_law_29 (by decide +kernel) ?_
    by_cases h60 : t = 60
    · skip
      refine pv_icmp_ge (tgt := 99) hx hb dL_law_31 (by decide) (by omega) (fun _ => ?_) (fun c9 => False.elim (by omega))
      refine lv_iload hx hb dL_law_99 (lv_at hl 4 rfl) ?_
      refine W.widen (k := 649267) (n := 7153381) (by omega) (by omega) ?_
      rw [show iI 1 = 1 by decide +kernel]
      exact lw_ret hx hb hr hlocks dL_law_101
    · obtain ⟨z, hz, hv⟩ := iI_and (dr xs L (t : Int))
      refine pv_icmp_ge (tgt := 99) hx hb dL_law_31 (by decide) (by omega) (fun c9 => False.elim (by omega)) (fun _ => ?_)
      refine lv_iload hx hb dL_law_34 (lv_at hl 4 rfl) ?_
      refine pv_if_eq (tgt := 99) hx hb dL_law_36 (by decide) (by omega) (fun c9 => False.elim (by omega)) (fun _ => ?_)
      refine lv_aload_n hx hb dL_law_39 rfl (lv_at hl 0 rfl) ?_
      refine lv_iload hx hb dL_law_40 (lv_at hl 5 rfl) ?_
      refine pu_callS (v := z) (As := [.ref b, .int (iI ((t : Int)))]) (rest := []) XP_mv ⟨hx, hb, hml, hown, hts⟩ (l_drawn l b L xs hL (t : Int) (by omega) z hv) (va_cwS 2 hts gL_law_L_drawn rfl rfl rfl (by decide +kernel) ⟨(Nat.le_of_ble_eq_true rfl), (Nat.le_of_ble_eq_true rfl)⟩) (va_X.kept hX (hS.2.1 b hbl hbA)) rfl rfl hl.1 (Nat.le_of_ble_eq_true rfl) dL_law_42 ⟨by show 13 + 3 * t + 0 ≤ 649267; omega, by show 354 + 14 * t + 0 ≤ 7153381; omega⟩ ?_
      refine lv_istore (lv' := [(6, .int (iI (z))), (0, .ref b), (1, .ref x0), (2, .ref z0), (3, .ref pp), (4, .int (iI (1))), (5, .int (iI ((t : Int))))]) hx hb dL_law_45 hl (by decide) rfl (fun ls hl => ?_)
      refine lv_iload hx hb dL_law_47 (lv_at hl 6 rfl) ?_
      refine pv_iconst hx hb dL_law_49 ?_
      refine pv_irem hx hb dL_law_50 (by omega) (by omega) ?_
      have join : ∀ (H : Heap) (ls : Array Slot), RW D cI s.heap.size x0 x1 x2 x5 x6 x7 z0 z1 z2 z5 z6 z7 pp ((t : Int)) (3 * (t : Int) + 2) H → va_S (fun q : Nat => s.heap.size ≤ q) s.heap H [] → lv_has ls 7 [(6, .int (iI (z))), (0, .ref b), (1, .ref x0), (2, .ref z0), (3, .ref pp), (4, .int (iI (1))), (5, .int (iI ((t : Int))))] → W p l e room_1 s m #[Value.ref b] below meth c H [] (13 + 3 * t + 1) (354 + 14 * t + 2) (lw_Z below #[Value.ref b] s) (F0 m 66 ls []) := by
        intro H ls hW hS hl
        have hSW := hSW0.keep (fun q h => hS.2.1 q h (Nat.not_le.mpr h))
        refine lv_aload_n hx hb dL_law_66 rfl (lv_at hl 2 rfl) ?_
        refine lv_aload_n hx hb dL_law_67 rfl (lv_at hl 3 rfl) ?_
        refine lv_aload_n hx hb dL_law_68 rfl (lv_at hl 4 rfl) ?_
        refine lv_iload hx hb dL_law_69 (lv_at hl 0 rfl) ?_
        refine nw_callS (As := [.ref x0, .ref z0, .ref pp, .int (iI (z))]) (rest := []) LPW_mv ⟨hx, hb, hml, hown, hts⟩ (s_tep l hfl D cI s.heap.size st Z x0 x1 x2 x5 x6 x7 z0 z1 z2 z5 z6 z7 pp (t : Int) (3 * (t : Int) + 2) (by omega) (by omega) z hz) (va_cwS 4 hts gL_law_L_step rfl rfl rfl (by decide +kernel) ⟨(Nat.le_of_ble_eq_true rfl), (Nat.le_of_ble_eq_true rfl)⟩) ⟨hSW, hW, hDJ, hnc1, hnc2⟩ rfl rfl hl.1 (Nat.le_of_ble_eq_true rfl) dL_law_71 ⟨by show 13 + 3 * t + 1 + 2 ≤ 649267; omega, by show 354 + 14 * t + 2 + 12 ≤ 7153381; omega⟩ hS (fun q h => by rcases h with h | h | h; exact hxb q h; exact hzb q h; exact h ▸ hDJ.2.2.2) (fun H locs hP2 hz hk hS => ?_)
        have hW : RW D cI s.heap.size x0 x1 x2 x5 x6 x7 z0 z1 z2 z5 z6 z7 pp ((t : Int) + 1) (3 * ((t : Int) + 1)) H := RW_mono (show RW D cI s.heap.size x0 x1 x2 x5 x6 x7 z0 z1 z2 z5 z6 z7 pp ((t : Int) + 1) (3 * (t : Int) + 2 + 1) H from hP2) (by omega) (by omega)
        refine va_forget (fun q hq => hS.2.2 q hq) ?_
        have hS := va_S_nil hS
        have hSW := hSW0.keep (fun q h => hS.2.1 q h (Nat.not_le.mpr h))
        refine pv_if_eq (tgt := 90) hx hb dL_law_74 (by decide) (by omega) (fun c9 => False.elim (by omega)) (fun _ => ?_)
        refine lv_aload_n hx hb dL_law_77 rfl (lv_at hl 2 rfl) ?_
        refine lv_aload_n hx hb dL_law_78 rfl (lv_at hl 3 rfl) ?_
        refine lv_aload_n hx hb dL_law_79 rfl (lv_at hl 4 rfl) ?_
        refine pu_callS (v := 1) (As := [.ref x0, .ref z0, .ref pp]) (rest := []) LPW_mv ⟨hx, hb, hml, hown, hts⟩ (a_like l D cI s.heap.size st Z x0 x1 x2 x5 x6 x7 z0 z1 z2 z5 z6 z7 pp ((t : Int) + 1) (3 * ((t : Int) + 1)) (by omega)) (va_cwS 3 hts gL_law_L_areAlike rfl rfl rfl (by decide +kernel) ⟨(Nat.le_of_ble_eq_true rfl), (Nat.le_of_ble_eq_true rfl)⟩) ⟨hSW, hW, hDJ, hnc1, hnc2⟩ rfl rfl hl.1 (Nat.le_of_ble_eq_true rfl) dL_law_80 ⟨by show 13 + 3 * t + 1 + 2 + 0 ≤ 649267; omega, by show 354 + 14 * t + 2 + 12 + 0 ≤ 7153381; omega⟩ ?_
        refine pv_if_eq (tgt := 90) hx hb dL_law_83 (by decide) (by omega) (fun c9 => False.elim (by omega)) (fun _ => ?_)
        refine pv_iconst hx hb dL_law_86 ?_
        refine lv_goto (tgt := 91) hx hb dL_law_87 (by decide) ?_
        refine lv_istore (lv' := [(4, .int (iI (1))), (6, .int (iI (z))), (0, .ref b), (1, .ref x0), (2, .ref z0), (3, .ref pp), (5, .int (iI ((t : Int))))]) hx hb dL_law_91 hl (by decide) rfl (fun ls hl => ?_)
        refine pv_iinc (lv' := [(5, .int (iI (((t : Int)) + 1))), (4, .int (iI (1))), (6, .int (iI (z))), (0, .ref b), (1, .ref x0), (2, .ref z0), (3, .ref pp)]) hx hb dL_law_93 hl (k := 6) rfl (by decide) rfl (fun ls hl => ?_)
        refine lv_goto (tgt := 27) hx hb dL_law_96 (by decide) ?_
        refine W.widen (k := 13 + 3 * (t + 1)) (n := 354 + 14 * (t + 1)) (by omega) (by omega) ?_
        have hl : lv_has ls 7 [(0, .ref b), (1, .ref x0), (2, .ref z0), (3, .ref pp), (4, .int (iI (1))), (5, .int (iI ((t : Int) + 1)))] := lv_sub hl [3, 4, 5, 6, 1, 0] rfl
        have ih9 := ih (t + 1) H ls (by omega) (by omega)
        rw [show ((t + 1 : Nat) : Int) = (t : Int) + 1 by omega] at ih9
        exact ih9 hW hS hl
      by_cases h3 : (t : Int) % 3 > 0
      · skip
        refine pv_if_gt (tgt := 66) hx hb dL_law_51 (by decide) (by omega) (fun _ => ?_) (fun c9 => False.elim (by omega))
        refine W.widen (k := 13 + 3 * t + 1) (n := 354 + 14 * t + 2) (by omega) (by omega) ?_
        exact join H ls (RW_mono hW (by omega) (by omega)) hS (lv_sub hl [0, 1, 2, 3, 4, 5, 6] rfl)
      · skip
        refine pv_if_gt (tgt := 66) hx hb dL_law_51 (by decide) (by omega) (fun c9 => False.elim (by omega)) (fun _ => ?_)
        refine lv_aload_n hx hb dL_law_54 rfl (lv_at hl 3 rfl) ?_
        refine lv_iload hx hb dL_law_55 (lv_at hl 0 rfl) ?_
        refine pv_bipush hx hb dL_law_57 (by decide +kernel) ?_
        refine pv_idiv hx hb dL_law_59 (by omega) (by omega) ?_
        refine nw_callS (As := [.ref z0, .int (iI (z / 8))]) (rest := []) LPS_mv ⟨hx, hb, hml, hown, hts⟩ (p_assing l D cI s.heap.size st Z x0 x1 x2 x5 x6 x7 z0 z1 z2 z5 z6 z7 pp (t : Int) (3 * (t : Int)) H.size (by omega) (z / 8) (by omega)) (va_cwS 2 hts gL_law_L_passing rfl rfl rfl (by decide +kernel) ⟨(Nat.le_of_ble_eq_true rfl), (Nat.le_of_ble_eq_true rfl)⟩) ⟨⟨hSW, hW, hDJ, hnc1, hnc2⟩, rfl⟩ rfl rfl hl.1 (Nat.le_of_ble_eq_true rfl) dL_law_60 ⟨by show 13 + 3 * t + 1 ≤ 649267; omega, by show 354 + 14 * t + 2 ≤ 7153381; omega⟩ hS (fun q h => by rcases h with h | h; exact hzb q h; exact Nat.le_trans hS.1 h) (fun H locs hP2 hz hk hS => ?_)
        have hW : RW D cI s.heap.size x0 x1 x2 x5 x6 x7 z0 z1 z2 z5 z6 z7 pp ((t : Int)) (3 * (t : Int) + 2) H := hP2
        refine va_forget (fun q hq => hS.2.2 q hq) ?_
        have hS := va_S_nil hS
        refine pv_if_eq (tgt := 90) hx hb dL_law_63 (by decide) (by omega) (fun c9 => False.elim (by omega)) (fun _ => ?_)
        exact join H ls hW hS (lv_sub hl [0, 1, 2, 3, 4, 5, 6] rfl)
set_option maxHeartbeats 4000000 in
set_option maxRecDepth 100000 in
theorem start_SW {p : Program} {s : State} {m : MethodId} {meth : Method} {c : Code} {b L : Nat} {xs : Nat → Int32} (C0 : lw_At p s m meth c b L xs) : ∃ (D : va_G) (cI : ClassId) (st : Nat) (Z : Nat → Nat), SW D cI s.heap.size st Z s s.heap ∧ va_Nc "java/lang/IllegalArgumentException" "java/lang/IllegalStateException" s ∧ va_Nc "java/lang/IllegalArgumentException" "java/lang/IndexOutOfBoundsException" s := by
  obtain ⟨hx, hb, hr, hml, hown, hts, hX, hbl, hlocks, hgv⟩ := id C0
  have hs := flat_of_before _ hgv
  obtain ⟨c0, iS0, hKn0⟩ := u_known (C := RX0) (T := TX0) (N := 8) (n := 8) hts inX0 (hts (.instantiable RX0 8) (by decide +kernel))
  have hKc : ∀ (k : Nat) (q : vw_C), vwCl[k]? = some q → u_Kn s q.1 q.2.1 q.2.2 ((fun _ : Nat => c0) k) ((fun _ : Nat => iS0) k) := by
    intro k q hq
    match k, hq with
    | 0, hq => cases hq; exact hKn0
    | k + 1, hq => simp [vwCl] at hq
  obtain ⟨cI, hAI⟩ := arr_of (ty := .int) (fun _ h => by cases h) (hts (.arrayClass .int) (by decide +kernel))
  have hA : ∀ a : Nat, a < s.heap.size → ¬ (fun q : Nat => s.heap.size ≤ q) a := fun a h => Nat.not_le.mpr h
  have hini : (Cond.initialized "ShelfMarks").before #[Value.ref b] s = true := hts _ (by decide +kernel)
  have hiniT : (Cond.initialized Bundle.tN).before #[Value.ref b] s = true := hts _ (by decide +kernel)
  obtain ⟨st, hst, hT⟩ := va_Tof (tm := (.static "ShelfMarks" "LOADED_FROM" "[I")) (ty := .int) (N := 9) (f := fun j => .int (iI (LM (j : Int)))) (A := fun q : Nat => s.heap.size ≤ q) (by decide) (hs (.arrayOf (.static "ShelfMarks" "LOADED_FROM" "[I") .int) (by decide +kernel)) (va_eqt (z := Int32.ofNat 9) (hs _ (by decide +kernel))) (fun j hj => by
    rcases (show j = 0 ∨ j = 1 ∨ j = 2 ∨ j = 3 ∨ j = 4 ∨ j = 5 ∨ j = 6 ∨ j = 7 ∨ j = 8 by omega) with rfl | rfl | rfl | rfl | rfl | rfl | rfl | rfl | rfl
    · exact va_eqt (z := iI (LM ((0 : Nat) : Int))) (hs _ (by decide +kernel))
    · exact va_eqt (z := iI (LM ((1 : Nat) : Int))) (hs _ (by decide +kernel))
    · exact va_eqt (z := iI (LM ((2 : Nat) : Int))) (hs _ (by decide +kernel))
    · exact va_eqt (z := iI (LM ((3 : Nat) : Int))) (hs _ (by decide +kernel))
    · exact va_eqt (z := iI (LM ((4 : Nat) : Int))) (hs _ (by decide +kernel))
    · exact va_eqt (z := iI (LM ((5 : Nat) : Int))) (hs _ (by decide +kernel))
    · exact va_eqt (z := iI (LM ((6 : Nat) : Int))) (hs _ (by decide +kernel))
    · exact va_eqt (z := iI (LM ((7 : Nat) : Int))) (hs _ (by decide +kernel))
    · exact va_eqt (z := iI (LM ((8 : Nat) : Int))) (hs _ (by decide +kernel))) hA
  have hstb : st < s.heap.size := by obtain ⟨cell, h1, -⟩ := hT; exact (Array.getElem?_eq_some_iff.mp h1).1
  have hAR : AR (fun j => iI (LM (j : Int))) 9 LM := fun k h0 h1 => by show iI (LM (k.toNat : Int)) = _; rw [show (k.toNat : Int) = k by omega]
  obtain ⟨z0, -, -, -, hz0, -⟩ := Cond.exactly_spec (hs (.exactly (.string RX0 59) "java/lang/String") (by decide +kernel))
  have hR0 : vk_R RX0 59 "a folder can't come behind itself" z0 s := vk_R.of (hts (.stringRef RX0 59 "a folder can't come behind itself") (by decide +kernel)) hz0
  obtain ⟨z1, -, -, -, hz1, -⟩ := Cond.exactly_spec (hs (.exactly (.string RX0 104) "java/lang/String") (by decide +kernel))
  have hR1 : vk_R RX0 104 "the folder is not in the archive" z1 s := vk_R.of (hts (.stringRef RX0 104 "the folder is not in the archive") (by decide +kernel)) hz1
  obtain ⟨z2, -, -, -, hz2, -⟩ := Cond.exactly_spec (hs (.exactly (.string RX0 111) "java/lang/String") (by decide +kernel))
  have hR2 : vk_R RX0 111 "no more folders can come" z2 s := vk_R.of (hts (.stringRef RX0 111 "no more folders can come") (by decide +kernel)) hz2
  obtain ⟨z3, -, -, -, hz3, -⟩ := Cond.exactly_spec (hs (.exactly (.string RX0 116) "java/lang/String") (by decide +kernel))
  have hR3 : vk_R RX0 116 "no such reader" z3 s := vk_R.of (hts (.stringRef RX0 116 "no such reader") (by decide +kernel)) hz3
  refine ⟨(fun _ : Nat => c0, fun _ : Nat => iS0), cI, st, fun k => if k = 0 then z0 else if k = 1 then z1 else if k = 2 then z2 else z3, ⟨⟨hKc, fun k q hq => ?_⟩, va_Zref (hts (.laysStatic "ShelfMarks" "LOADED_FROM" "[I") (by decide +kernel)) hini hst hA, ⟨hstb, _, hT, hAR⟩, hR0, hR1, hR2, hR3, ?_, ?_, ?_, ?_, ?_, ?_, ?_, ?_⟩, ?_, ?_⟩
  · match k, hq with
    | 0, hq => cases hq; exact hAI
    | k + 1, hq => simp at hq
  · exact va_Nw.of rfl (hts (.castable "java/lang/IndexOutOfBoundsException" "java/lang/IndexOutOfBoundsException") (by decide +kernel))
  · exact va_Nw.of rfl (hts (.castable "java/lang/IllegalStateException" "java/lang/IllegalStateException") (by decide +kernel))
  · exact va_Nw.of rfl (hts (.castable "java/lang/IllegalArgumentException" "java/lang/IllegalArgumentException") (by decide +kernel))
  · exact va_Nw.of rfl (hts (.declares (Bundle.initS "java/lang/RuntimeException")) (by decide +kernel))
  · exact va_Nw.of rfl (hts (.declares (Bundle.initS "java/lang/Exception")) (by decide +kernel))
  · exact va_Nw.of rfl (hts (.declares (Bundle.initS "java/lang/Throwable")) (by decide +kernel))
  · exact vx_Zqof (hts (.laysStatic Bundle.tN "UNASSIGNED_STACK" Bundle.steD) (by decide +kernel)) hiniT (hs (.isRef (.static Bundle.tN "UNASSIGNED_STACK" Bundle.steD)) (by decide +kernel)) hA
  · exact vx_Zqof (hts (.laysStatic Bundle.tN "SUPPRESSED_SENTINEL" Bundle.listD) (by decide +kernel)) hiniT (hs (.isRef (.static Bundle.tN "SUPPRESSED_SENTINEL" Bundle.listD)) (by decide +kernel)) hA
  · exact va_Nc.of (hs (.not (.castable "java/lang/IllegalArgumentException" "java/lang/IllegalStateException")) (by decide +kernel))
  · exact va_Nc.of (hs (.not (.castable "java/lang/IllegalArgumentException" "java/lang/IndexOutOfBoundsException")) (by decide +kernel))
