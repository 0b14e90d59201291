def TP : State → Heap → Prop := fun _ _ => True
theorem TP_mv : mvb TP := fun _ _ _ _ h => h
def SP (D : va_G) (cI : ClassId) (base st : Nat) (Z : Nat → Nat) : State → Heap → Prop := fun U H => SW D cI base st Z U H
theorem SP_mv {D : va_G} {cI : ClassId} {base st : Nat} {Z : Nat → Nat} : mvb (SP D cI base st Z) := fun _ _ _ hW h => SW.move hW h
set_option maxHeartbeats 4000000 in
set_option maxRecDepth 100000 in
theorem c_isPlace (l : Launch) (D : va_G) (cI : ClassId) (base st : Nat) (Z : Nat → Nat) (x0 x1 x2 x5 x6 x7 : Nat) {n came MV : Int} {F G SP RF RC : Int → Int} (hn : 0 ≤ n ∧ n ≤ 60) (v : Int) (hv : (-2147483648 ≤ v ∧ v ≤ 2147483647)) (r : Int) (hr9 : r = ip n v) : pu_M l yX0_isPlace wsX0_isPlace ({ frames := 0, cells := 0, slots := 0, locals := 0 } : Room) [.ref x0, .int (iI (v))] (CP D cI base st Z x0 x1 x2 x5 x6 x7 n came MV F G SP RF RC) (r) := by
  refine pu_of (cc := cX0_isPlace) (maxL := 2) (ret := (some .boolean)) (own := RX0) (by decide) rfl rfl (Nat.le_of_ble_eq_true rfl) ?_
  intro p e s m below meth c ls B hCP hl
  obtain ⟨hx, hb, hml, hr, hts, hown, hlocks⟩ := B
  obtain ⟨⟨hK, hZL, ⟨hstb, xs, hXL, hAL⟩, hTW⟩, f, g, sp, rf, rc, hAf, hAg, hAsp, hArf, hArc, hP, hDb⟩ := id hCP
  have hl : lv_has ls 2 [(0, .ref x0), (1, .int (iI (v)))] := hl
  have hin : ∀ w ∈ u_ws RX0 TX0 8, w ∈ wsX0_isPlace := by decide +kernel
  have q_folders := hts (.fieldLink RX0 9 "ShelfMarks" "folders" "[I") (by decide +kernel)
  have q_marks := hts (.fieldLink RX0 13 "ShelfMarks" "marks" "[I") (by decide +kernel)
  have q_count := hts (.fieldLink RX0 53 "ShelfMarks" "count" "I") (by decide +kernel)
  have hz9 : r = 0 ∨ r = 1 := by rw [hr9]; unfold ip; split <;> omega
  refine lv_iload_n hx hb dX0_isPlace_0 rfl (lv_at hl 1 rfl) ?_
  refine pv_if_lt (tgt := 34) hx hb dX0_isPlace_1 (by decide) (by omega) (fun c_1 => ?_) (fun c_1 => ?_)
  · -- 1t
    refine pv_iconst hx hb dX0_isPlace_34 ?_
    exact pu_zret hx hb hr hlocks dX0_isPlace_35 (by rw [hr9]; unfold ip; split <;> omega) hz9
  · -- 1f
    refine lv_iload_n hx hb dX0_isPlace_4 rfl (lv_at hl 1 rfl) ?_
    refine lv_aload_n hx hb dX0_isPlace_5 rfl (lv_at hl 0 rfl) ?_
    refine va_get (D := D) (ci := 0) (v := .int (iI (n))) (C := RX0) (T := TX0) (N := 8) hx hb hts hin hown hK hP 0 rfl rfl 2 (by decide) q_count (fun _ h9 => h9) rfl dX0_isPlace_6 ?_
    refine pv_icmp_ge (tgt := 34) hx hb dX0_isPlace_9 (by decide) (by omega) (fun c_9 => ?_) (fun c_9 => ?_)
    · -- 9t
      refine pv_iconst hx hb dX0_isPlace_34 ?_
      exact pu_zret hx hb hr hlocks dX0_isPlace_35 (by rw [hr9]; unfold ip; split <;> omega) hz9
    · -- 9f
      refine lv_iload_n hx hb dX0_isPlace_12 rfl (lv_at hl 1 rfl) ?_
      refine lv_aload_n hx hb dX0_isPlace_13 rfl (lv_at hl 0 rfl) ?_
      refine va_get (D := D) (ci := 0) (v := .ref x1) (C := RX0) (T := TX0) (N := 8) hx hb hts hin hown hK hP 0 rfl rfl 0 (by decide) q_folders (fun _ h9 => h9) rfl dX0_isPlace_14 ?_
      refine pv_alen (v := 60) hx hb hK hP 1 0 rfl rfl (show Int32.ofNat 60 = iI 60 by decide +kernel) dX0_isPlace_17 ?_
      refine pv_icmp_ge (tgt := 34) hx hb dX0_isPlace_18 (by decide) (by omega) (fun c_18 => ?_) (fun c_18 => ?_)
      · -- 18t
        refine pv_iconst hx hb dX0_isPlace_34 ?_
        exact pu_zret hx hb hr hlocks dX0_isPlace_35 (by rw [hr9]; unfold ip; split <;> omega) hz9
      · -- 18f
        refine lv_iload_n hx hb dX0_isPlace_21 rfl (lv_at hl 1 rfl) ?_
        refine lv_aload_n hx hb dX0_isPlace_22 rfl (lv_at hl 0 rfl) ?_
        refine va_get (D := D) (ci := 0) (v := .ref x2) (C := RX0) (T := TX0) (N := 8) hx hb hts hin hown hK hP 0 rfl rfl 1 (by decide) q_marks (fun _ h9 => h9) rfl dX0_isPlace_23 ?_
        refine pv_alen (v := 60) hx hb hK hP 2 0 rfl rfl (show Int32.ofNat 60 = iI 60 by decide +kernel) dX0_isPlace_26 ?_
        refine pv_icmp_ge (tgt := 34) hx hb dX0_isPlace_27 (by decide) (by omega) (fun c_27 => ?_) (fun c_27 => ?_)
        · -- 27t
          refine pv_iconst hx hb dX0_isPlace_34 ?_
          exact pu_zret hx hb hr hlocks dX0_isPlace_35 (by rw [hr9]; unfold ip; split <;> omega) hz9
        · -- 27f
          refine pv_iconst hx hb dX0_isPlace_30 ?_
          refine lv_goto (tgt := 35) hx hb dX0_isPlace_31 (by decide) ?_
          exact pu_zret hx hb hr hlocks dX0_isPlace_35 (by rw [hr9]; unfold ip; split <;> omega) hz9
set_option maxHeartbeats 4000000 in
set_option maxRecDepth 100000 in
theorem c_placeOf (l : Launch) (D : va_G) (cI : ClassId) (base st : Nat) (Z : Nat → Nat) (x0 x1 x2 x5 x6 x7 : Nat) {n came MV : Int} {F G SP RF RC : Int → Int} (hn : 0 ≤ n ∧ n ≤ 60) (hF : ∀ k : Int, 0 ≤ k → k < n → 0 ≤ F k ∧ F k < 200) (x : Int) (hxr : (-2147483648 ≤ x ∧ x ≤ 2147483647)) (r : Int) (hr9 : PL F n x r) : pu_M l yX0_placeOf wsX0_placeOf ({ frames := 0, cells := 0, slots := 0, locals := 0 } : Room) [.ref x0, .int (iI (x))] (CP D cI base st Z x0 x1 x2 x5 x6 x7 n came MV F G SP RF RC) (r) := by
  refine pu_of (cc := cX0_placeOf) (maxL := 3) (ret := (some .int)) (own := RX0) (by decide) rfl rfl (Nat.le_of_ble_eq_true rfl) ?_
  intro p e s m below meth c ls B hCP hl
  obtain ⟨hx, hb, hml, hr, hts, hown, hlocks⟩ := B
  obtain ⟨⟨hK, hZL, ⟨hstb, xs, hXL, hAL⟩, hTW⟩, f, g, sp, rf, rc, hAf, hAg, hAsp, hArf, hArc, hP, hDb⟩ := id hCP
  have hl : lv_has ls 3 [(0, .ref x0), (1, .int (iI (x)))] := hl
  have hin : ∀ w ∈ u_ws RX0 TX0 8, w ∈ wsX0_placeOf := by decide +kernel
  have q_folders := hts (.fieldLink RX0 9 "ShelfMarks" "folders" "[I") (by decide +kernel)
  have q_count := hts (.fieldLink RX0 53 "ShelfMarks" "count" "I") (by decide +kernel)
  refine pv_iconst hx hb dX0_placeOf_0 ?_
  refine lv_istore_n (lv' := [(2, .int (iI (0))), (0, .ref x0), (1, .int (iI (x)))]) hx hb dX0_placeOf_1 rfl hl (by decide) rfl (fun ls hl => ?_)
  have hloop2 : ∀ (fuel : Nat) (i : Int) (ls : Array Slot), (n - i) < fuel → (0 ≤ i ∧ i ≤ n) → (∀ k : Int, 0 ≤ k → k < i → F k ≠ x) → lv_has ls 3 [(0, .ref x0), (1, .int (iI (x))), (2, .int (iI (i)))] → W p l e ({ frames := 0, cells := 0, slots := 0, locals := 0 } : Room) s m ([.ref x0, .int (iI (x))] : List Value).toArray below meth c s.heap [] 0 0 (MQ below (pu_Q (r)) ([.ref x0, .int (iI (x))] : List Value).toArray s 0 0 (fun _ => False)) (F0 m 2 ls []) := by
    intro fuel
    induction fuel with
    | zero => intro i ls hfu hi hno hl; exfalso; omega
    | succ fuel ih =>
      intro i ls hfu hi hno hl
      refine lv_iload_n hx hb dX0_placeOf_2 rfl (lv_at hl 2 rfl) ?_
      refine lv_aload_n hx hb dX0_placeOf_3 rfl (lv_at hl 0 rfl) ?_
      refine va_get (D := D) (ci := 0) (v := .int (iI (n))) (C := RX0) (T := TX0) (N := 8) hx hb hts hin hown hK hP 0 rfl rfl 2 (by decide) q_count (fun _ h9 => h9) rfl dX0_placeOf_4 ?_
      refine pv_icmp_ge (tgt := 37) hx hb dX0_placeOf_7 (by decide) (by omega) (fun c_7 => ?_) (fun c_7 => ?_)
      · -- 7t
        refine pv_iconst hx hb dX0_placeOf_37 ?_
        exact pu_iret hx hb hr hlocks dX0_placeOf_38 (by rcases hr9 with ⟨h, -⟩ | ⟨h1, h2, h3, -⟩; exact h.symm; exact absurd h3 (hno r h1 (by omega)))
      · -- 7f
        refine lv_iload_n hx hb dX0_placeOf_10 rfl (lv_at hl 2 rfl) ?_
        refine lv_aload_n hx hb dX0_placeOf_11 rfl (lv_at hl 0 rfl) ?_
        refine va_get (D := D) (ci := 0) (v := .ref x1) (C := RX0) (T := TX0) (N := 8) hx hb hts hin hown hK hP 0 rfl rfl 0 (by decide) q_folders (fun _ h9 => h9) rfl dX0_placeOf_12 ?_
        refine pv_alen (v := 60) hx hb hK hP 1 0 rfl rfl (show Int32.ofNat 60 = iI 60 by decide +kernel) dX0_placeOf_15 ?_
        refine pv_icmp_ge (tgt := 37) hx hb dX0_placeOf_16 (by decide) (by omega) (fun c_16 => ?_) (fun c_16 => ?_)
        · exfalso; omega
        · -- 16f
          refine lv_aload_n hx hb dX0_placeOf_19 rfl (lv_at hl 0 rfl) ?_
          refine va_get (D := D) (ci := 0) (v := .ref x1) (C := RX0) (T := TX0) (N := 8) hx hb hts hin hown hK hP 0 rfl rfl 0 (by decide) q_folders (fun _ h9 => h9) rfl dX0_placeOf_20 ?_
          refine lv_iload_n hx hb dX0_placeOf_23 rfl (lv_at hl 2 rfl) ?_
          refine pv_iald (i := i) (v := F (i)) hx hb hK hP 1 0 rfl rfl (by omega) (by decide) (hAf _ (by omega) (by omega)) dX0_placeOf_24 ?_
          have hfi := hF i (by omega) (by omega)
          refine lv_iload_n hx hb dX0_placeOf_25 rfl (lv_at hl 1 rfl) ?_
          refine pv_icmp_ne (tgt := 31) hx hb dX0_placeOf_26 (by decide) (by omega) (fun c_26 => ?_) (fun c_26 => ?_)
          · -- 26t
            refine pv_iinc (lv' := [(2, .int (iI (i + 1))), (0, .ref x0), (1, .int (iI (x)))]) hx hb dX0_placeOf_31 hl (k := 2) rfl (by decide) rfl (fun ls hl => ?_)
            refine lv_goto (tgt := 2) hx hb dX0_placeOf_34 (by decide) ?_
            exact ih (i + 1) ls (by omega) (by omega) (fun k h0 h1 => by rcases (show k < i ∨ k = i by omega) with h | h; exact hno k h0 h; rw [h]; exact c_26) (lv_sub hl [1, 2, 0] rfl)
          · -- 26f
            refine lv_iload_n hx hb dX0_placeOf_29 rfl (lv_at hl 2 rfl) ?_
            exact pu_iret hx hb hr hlocks dX0_placeOf_30 (by rcases hr9 with ⟨-, h⟩ | ⟨h1, h2, h3, h4⟩; exact absurd c_26 (h i (by omega) (by omega)); rcases (show i < r ∨ r < i ∨ i = r by omega) with q | q | q; exact absurd c_26 (h4 i (by omega) q); exact absurd h3 (hno r h1 q); exact q)
  exact hloop2 ((n : Int).toNat + 1) (0) ls (by omega) (by omega) (fun k h0 h1 => absurd h1 (by omega)) (lv_sub hl [1, 2, 0] rfl)
set_option maxHeartbeats 4000000 in
set_option maxRecDepth 100000 in
theorem c_folderAt (l : Launch) (D : va_G) (cI : ClassId) (base st : Nat) (Z : Nat → Nat) (x0 x1 x2 x5 x6 x7 : Nat) {n came MV : Int} {F G SP RF RC : Int → Int} (hn : 0 ≤ n ∧ n ≤ 60) (v : Int) (hv : (-2147483648 ≤ v ∧ v ≤ 2147483647)) (r : Int) (hr9 : r = fa F n v) : pu_M l yX0_folderAt wsX0_folderAt ({ frames := 1, cells := 0, slots := 0, locals := 21 } : Room) [.ref x0, .int (iI (v))] (CP D cI base st Z x0 x1 x2 x5 x6 x7 n came MV F G SP RF RC) (r) := by
  refine pu_of (cc := cX0_folderAt) (maxL := 2) (ret := (some .int)) (own := RX0) (by decide) rfl rfl (Nat.le_of_ble_eq_true rfl) ?_
  intro p e s m below meth c ls B hCP hl
  obtain ⟨hx, hb, hml, hr, hts, hown, hlocks⟩ := B
  obtain ⟨⟨hK, hZL, ⟨hstb, xs, hXL, hAL⟩, hTW⟩, f, g, sp, rf, rc, hAf, hAg, hAsp, hArf, hArc, hP, hDb⟩ := id hCP
  have hl : lv_has ls 2 [(0, .ref x0), (1, .int (iI (v)))] := hl
  have hin : ∀ w ∈ u_ws RX0 TX0 8, w ∈ wsX0_folderAt := by decide +kernel
  have q_folders := hts (.fieldLink RX0 9 "ShelfMarks" "folders" "[I") (by decide +kernel)
  refine lv_aload_n hx hb dX0_folderAt_0 rfl (lv_at hl 0 rfl) ?_
  refine lv_iload_n hx hb dX0_folderAt_1 rfl (lv_at hl 1 rfl) ?_
  by_cases hv9 : 0 ≤ v ∧ v < n
  · -- A
    refine pu_callV (v := 1) (As := [.int (iI (v))]) (rest := []) CP_mv ⟨hx, hb, hml, hown, hts⟩ (c_isPlace l D cI base st Z x0 x1 x2 x5 x6 x7 hn v hv 1 (by unfold ip; rw [if_pos hv9])) (cwV 1 hts gX0_folderAt_X0_isPlace rfl rfl rfl (by decide +kernel) ⟨(Nat.le_of_ble_eq_true rfl), (Nat.le_of_ble_eq_true rfl)⟩) hCP (CP_rc hCP) rfl rfl hl.1 (Nat.le_of_ble_eq_true rfl) dX0_folderAt_2 ⟨Nat.zero_le _, Nat.zero_le _⟩ ?_
    refine pv_if_eq (tgt := 17) hx hb dX0_folderAt_5 (by decide) (by omega) (fun c_5 => ?_) (fun c_5 => ?_)
    · exact absurd c_5 (by omega)
    · -- 5f
      refine lv_aload_n hx hb dX0_folderAt_8 rfl (lv_at hl 0 rfl) ?_
      refine va_get (D := D) (ci := 0) (v := .ref x1) (C := RX0) (T := TX0) (N := 8) hx hb hts hin hown hK hP 0 rfl rfl 0 (by decide) q_folders (fun _ h9 => h9) rfl dX0_folderAt_9 ?_
      refine lv_iload_n hx hb dX0_folderAt_12 rfl (lv_at hl 1 rfl) ?_
      refine pv_iald (i := v) (v := F (v)) hx hb hK hP 1 0 rfl rfl (by omega) (by decide) (hAf _ (by omega) (by omega)) dX0_folderAt_13 ?_
      refine lv_goto (tgt := 18) hx hb dX0_folderAt_14 (by decide) ?_
      exact pu_iret hx hb hr hlocks dX0_folderAt_18 (by rw [hr9]; unfold fa; rw [if_pos hv9])
  · -- B
    refine pu_callV (v := 0) (As := [.int (iI (v))]) (rest := []) CP_mv ⟨hx, hb, hml, hown, hts⟩ (c_isPlace l D cI base st Z x0 x1 x2 x5 x6 x7 hn v hv 0 (by unfold ip; rw [if_neg hv9])) (cwV 1 hts gX0_folderAt_X0_isPlace rfl rfl rfl (by decide +kernel) ⟨(Nat.le_of_ble_eq_true rfl), (Nat.le_of_ble_eq_true rfl)⟩) hCP (CP_rc hCP) rfl rfl hl.1 (Nat.le_of_ble_eq_true rfl) dX0_folderAt_2 ⟨Nat.zero_le _, Nat.zero_le _⟩ ?_
    refine pv_if_eq (tgt := 17) hx hb dX0_folderAt_5 (by decide) (by omega) (fun c_5 => ?_) (fun c_5 => ?_)
    · -- 5t
      refine pv_iconst hx hb dX0_folderAt_17 ?_
      exact pu_iret hx hb hr hlocks dX0_folderAt_18 (by rw [hr9]; unfold fa; rw [if_neg hv9])
    · exact absurd c_5 (by omega)
set_option maxHeartbeats 4000000 in
set_option maxRecDepth 100000 in
theorem c_markAt (l : Launch) (D : va_G) (cI : ClassId) (base st : Nat) (Z : Nat → Nat) (x0 x1 x2 x5 x6 x7 : Nat) {n came MV : Int} {F G SP RF RC : Int → Int} (hn : 0 ≤ n ∧ n ≤ 60) (v : Int) (hv : (-2147483648 ≤ v ∧ v ≤ 2147483647)) (r : Int) (hr9 : r = ma G n v) : pu_M l yX0_markAt wsX0_markAt ({ frames := 1, cells := 0, slots := 0, locals := 21 } : Room) [.ref x0, .int (iI (v))] (CP D cI base st Z x0 x1 x2 x5 x6 x7 n came MV F G SP RF RC) (r) := by
  refine pu_of (cc := cX0_markAt) (maxL := 2) (ret := (some .int)) (own := RX0) (by decide) rfl rfl (Nat.le_of_ble_eq_true rfl) ?_
  intro p e s m below meth c ls B hCP hl
  obtain ⟨hx, hb, hml, hr, hts, hown, hlocks⟩ := B
  obtain ⟨⟨hK, hZL, ⟨hstb, xs, hXL, hAL⟩, hTW⟩, f, g, sp, rf, rc, hAf, hAg, hAsp, hArf, hArc, hP, hDb⟩ := id hCP
  have hl : lv_has ls 2 [(0, .ref x0), (1, .int (iI (v)))] := hl
  have hin : ∀ w ∈ u_ws RX0 TX0 8, w ∈ wsX0_markAt := by decide +kernel
  have q_marks := hts (.fieldLink RX0 13 "ShelfMarks" "marks" "[I") (by decide +kernel)
  refine lv_iload_n hx hb dX0_markAt_0 rfl (lv_at hl 1 rfl) ?_
  refine pv_if_ge (tgt := 6) hx hb dX0_markAt_1 (by decide) (by omega) (fun c_1 => ?_) (fun c_1 => ?_)
  · -- 1t
    refine lv_aload_n hx hb dX0_markAt_6 rfl (lv_at hl 0 rfl) ?_
    refine lv_iload_n hx hb dX0_markAt_7 rfl (lv_at hl 1 rfl) ?_
    by_cases hv9 : 0 ≤ v ∧ v < n
    · -- A
      refine pu_callV (v := 1) (As := [.int (iI (v))]) (rest := []) CP_mv ⟨hx, hb, hml, hown, hts⟩ (c_isPlace l D cI base st Z x0 x1 x2 x5 x6 x7 hn v hv 1 (by unfold ip; rw [if_pos hv9])) (cwV 1 hts gX0_markAt_X0_isPlace rfl rfl rfl (by decide +kernel) ⟨(Nat.le_of_ble_eq_true rfl), (Nat.le_of_ble_eq_true rfl)⟩) hCP (CP_rc hCP) rfl rfl hl.1 (Nat.le_of_ble_eq_true rfl) dX0_markAt_8 ⟨Nat.zero_le _, Nat.zero_le _⟩ ?_
      refine pv_if_eq (tgt := 23) hx hb dX0_markAt_11 (by decide) (by omega) (fun c_11 => ?_) (fun c_11 => ?_)
      · exact absurd c_11 (by omega)
      · -- 11f
        refine lv_aload_n hx hb dX0_markAt_14 rfl (lv_at hl 0 rfl) ?_
        refine va_get (D := D) (ci := 0) (v := .ref x2) (C := RX0) (T := TX0) (N := 8) hx hb hts hin hown hK hP 0 rfl rfl 1 (by decide) q_marks (fun _ h9 => h9) rfl dX0_markAt_15 ?_
        refine lv_iload_n hx hb dX0_markAt_18 rfl (lv_at hl 1 rfl) ?_
        refine pv_iald (i := v) (v := G (v)) hx hb hK hP 2 0 rfl rfl (by omega) (by decide) (hAg _ (by omega) (by omega)) dX0_markAt_19 ?_
        refine lv_goto (tgt := 26) hx hb dX0_markAt_20 (by decide) ?_
        exact pu_iret hx hb hr hlocks dX0_markAt_26 (by rw [hr9]; unfold ma; rw [if_neg (by omega), if_pos hv9.2])
    · -- B
      refine pu_callV (v := 0) (As := [.int (iI (v))]) (rest := []) CP_mv ⟨hx, hb, hml, hown, hts⟩ (c_isPlace l D cI base st Z x0 x1 x2 x5 x6 x7 hn v hv 0 (by unfold ip; rw [if_neg hv9])) (cwV 1 hts gX0_markAt_X0_isPlace rfl rfl rfl (by decide +kernel) ⟨(Nat.le_of_ble_eq_true rfl), (Nat.le_of_ble_eq_true rfl)⟩) hCP (CP_rc hCP) rfl rfl hl.1 (Nat.le_of_ble_eq_true rfl) dX0_markAt_8 ⟨Nat.zero_le _, Nat.zero_le _⟩ ?_
      refine pv_if_eq (tgt := 23) hx hb dX0_markAt_11 (by decide) (by omega) (fun c_11 => ?_) (fun c_11 => ?_)
      · -- 11t
        refine pv_sipush hx hb dX0_markAt_23 (by decide +kernel) ?_
        exact pu_iret hx hb hr hlocks dX0_markAt_26 (by rw [hr9]; unfold ma; rw [if_neg (by omega), if_neg (by omega)])
      · exact absurd c_11 (by omega)
  · -- 1f
    refine pv_iconst hx hb dX0_markAt_4 ?_
    exact pu_iret hx hb hr hlocks dX0_markAt_5 (by rw [hr9]; unfold ma; rw [if_pos c_1])
set_option maxHeartbeats 4000000 in
set_option maxRecDepth 100000 in
theorem c_marksBelow (l : Launch) (D : va_G) (cI : ClassId) (base st : Nat) (Z : Nat → Nat) (x0 x1 x2 x5 x6 x7 : Nat) {n came MV : Int} {F G SP RF RC : Int → Int} (hn : 0 ≤ n ∧ n ≤ 60) (hG : ∀ k : Int, 0 ≤ k → k < n → 0 ≤ G k ∧ G k ≤ 255) (x : Int) (hxr : (-2147483648 ≤ x ∧ x ≤ 2147483647)) (r : Int) (hr9 : FI G n x r) : pu_M l yX0_marksBelow wsX0_marksBelow ({ frames := 0, cells := 0, slots := 0, locals := 0 } : Room) [.ref x0, .int (iI (x))] (CP D cI base st Z x0 x1 x2 x5 x6 x7 n came MV F G SP RF RC) (r) := by
  refine pu_of (cc := cX0_marksBelow) (maxL := 3) (ret := (some .int)) (own := RX0) (by decide) rfl rfl (Nat.le_of_ble_eq_true rfl) ?_
  intro p e s m below meth c ls B hCP hl
  obtain ⟨hx, hb, hml, hr, hts, hown, hlocks⟩ := B
  obtain ⟨⟨hK, hZL, ⟨hstb, xs, hXL, hAL⟩, hTW⟩, f, g, sp, rf, rc, hAf, hAg, hAsp, hArf, hArc, hP, hDb⟩ := id hCP
  have hl : lv_has ls 3 [(0, .ref x0), (1, .int (iI (x)))] := hl
  have hin : ∀ w ∈ u_ws RX0 TX0 8, w ∈ wsX0_marksBelow := by decide +kernel
  have q_marks := hts (.fieldLink RX0 13 "ShelfMarks" "marks" "[I") (by decide +kernel)
  have q_count := hts (.fieldLink RX0 53 "ShelfMarks" "count" "I") (by decide +kernel)
  refine pv_iconst hx hb dX0_marksBelow_0 ?_
  refine lv_istore_n (lv' := [(2, .int (iI (0))), (0, .ref x0), (1, .int (iI (x)))]) hx hb dX0_marksBelow_1 rfl hl (by decide) rfl (fun ls hl => ?_)
  have hloop2 : ∀ (fuel : Nat) (i : Int) (ls : Array Slot), (n - i) < fuel → (0 ≤ i ∧ i ≤ n) → (∀ k : Int, 0 ≤ k → k < i → G k < x) → lv_has ls 3 [(0, .ref x0), (1, .int (iI (x))), (2, .int (iI (i)))] → W p l e ({ frames := 0, cells := 0, slots := 0, locals := 0 } : Room) s m ([.ref x0, .int (iI (x))] : List Value).toArray below meth c s.heap [] 0 0 (MQ below (pu_Q (r)) ([.ref x0, .int (iI (x))] : List Value).toArray s 0 0 (fun _ => False)) (F0 m 2 ls []) := by
    intro fuel
    induction fuel with
    | zero => intro i ls hfu hi hno hl; exfalso; omega
    | succ fuel ih =>
      intro i ls hfu hi hno hl
      refine lv_iload_n hx hb dX0_marksBelow_2 rfl (lv_at hl 2 rfl) ?_
      refine lv_aload_n hx hb dX0_marksBelow_3 rfl (lv_at hl 0 rfl) ?_
      refine va_get (D := D) (ci := 0) (v := .int (iI (n))) (C := RX0) (T := TX0) (N := 8) hx hb hts hin hown hK hP 0 rfl rfl 2 (by decide) q_count (fun _ h9 => h9) rfl dX0_marksBelow_4 ?_
      refine pv_icmp_ge (tgt := 35) hx hb dX0_marksBelow_7 (by decide) (by omega) (fun c_7 => ?_) (fun c_7 => ?_)
      · -- 7t
        refine lv_iload_n hx hb dX0_marksBelow_35 rfl (lv_at hl 2 rfl) ?_
        exact pu_iret hx hb hr hlocks dX0_marksBelow_36 (by exact FI_un (⟨by omega, hno, fun h => by omega⟩ : FI G n x i) hr9)
      · -- 7f
        refine lv_iload_n hx hb dX0_marksBelow_10 rfl (lv_at hl 2 rfl) ?_
        refine lv_aload_n hx hb dX0_marksBelow_11 rfl (lv_at hl 0 rfl) ?_
        refine va_get (D := D) (ci := 0) (v := .ref x2) (C := RX0) (T := TX0) (N := 8) hx hb hts hin hown hK hP 0 rfl rfl 1 (by decide) q_marks (fun _ h9 => h9) rfl dX0_marksBelow_12 ?_
        refine pv_alen (v := 60) hx hb hK hP 2 0 rfl rfl (show Int32.ofNat 60 = iI 60 by decide +kernel) dX0_marksBelow_15 ?_
        refine pv_icmp_ge (tgt := 35) hx hb dX0_marksBelow_16 (by decide) (by omega) (fun c_16 => ?_) (fun c_16 => ?_)
        · exfalso; omega
        · -- 16f
          refine lv_aload_n hx hb dX0_marksBelow_19 rfl (lv_at hl 0 rfl) ?_
          refine va_get (D := D) (ci := 0) (v := .ref x2) (C := RX0) (T := TX0) (N := 8) hx hb hts hin hown hK hP 0 rfl rfl 1 (by decide) q_marks (fun _ h9 => h9) rfl dX0_marksBelow_20 ?_
          refine lv_iload_n hx hb dX0_marksBelow_23 rfl (lv_at hl 2 rfl) ?_
          refine pv_iald (i := i) (v := G (i)) hx hb hK hP 2 0 rfl rfl (by omega) (by decide) (hAg _ (by omega) (by omega)) dX0_marksBelow_24 ?_
          have hgi := hG i (by omega) (by omega)
          refine lv_iload_n hx hb dX0_marksBelow_25 rfl (lv_at hl 1 rfl) ?_
          refine pv_icmp_ge (tgt := 35) hx hb dX0_marksBelow_26 (by decide) (by omega) (fun c_26 => ?_) (fun c_26 => ?_)
          · -- 26t
            refine lv_iload_n hx hb dX0_marksBelow_35 rfl (lv_at hl 2 rfl) ?_
            exact pu_iret hx hb hr hlocks dX0_marksBelow_36 (by exact FI_un (⟨by omega, hno, fun h => c_26⟩ : FI G n x i) hr9)
          · -- 26f
            refine pv_iinc (lv' := [(2, .int (iI (i + 1))), (0, .ref x0), (1, .int (iI (x)))]) hx hb dX0_marksBelow_29 hl (k := 2) rfl (by decide) rfl (fun ls hl => ?_)
            refine lv_goto (tgt := 2) hx hb dX0_marksBelow_32 (by decide) ?_
            exact ih (i + 1) ls (by omega) (by omega) (fun k h0 h1 => by rcases (show k < i ∨ k = i by omega) with h | h; exact hno k h0 h; rw [h]; exact c_26) (lv_sub hl [1, 2, 0] rfl)
  exact hloop2 ((n : Int).toNat + 1) (0) ls (by omega) (by omega) (fun k h0 h1 => absurd h1 (by omega)) (lv_sub hl [1, 2, 0] rfl)
set_option maxHeartbeats 4000000 in
set_option maxRecDepth 100000 in
theorem c_firstMark (l : Launch) (lv sh : Int) (hlv : 0 ≤ lv ∧ lv ≤ 30) (hsh : 0 ≤ sh) (hb9 : sh * 2 ^ lv.toNat ≤ 2147483647) (r : Int) (hr9 : r = sh * 2 ^ lv.toNat) : pu_M l yX0_firstMark wsX0_firstMark ({ frames := 0, cells := 0, slots := 0, locals := 0 } : Room) [.int (iI (lv)), .int (iI (sh))] TP (r) := by
  refine pu_of (cc := cX0_firstMark) (maxL := 2) (ret := (some .int)) (own := RX0) (by decide) rfl rfl (Nat.le_of_ble_eq_true rfl) ?_
  intro p e s m below meth c ls B hCP hl
  obtain ⟨hx, hb, hml, hr, hts, hown, hlocks⟩ := B
  have hl : lv_has ls 2 [(0, .int (iI (lv))), (1, .int (iI (sh)))] := hl
  refine lv_iload_n hx hb dX0_firstMark_0 rfl (lv_at hl 1 rfl) ?_
  refine lv_iload_n hx hb dX0_firstMark_1 rfl (lv_at hl 0 rfl) ?_
  refine pv_ishl hx hb dX0_firstMark_2 hsh hlv hb9 ?_
  exact pu_iret hx hb hr hlocks dX0_firstMark_3 (by exact hr9.symm)
set_option maxHeartbeats 4000000 in
set_option maxRecDepth 100000 in
theorem c_shelfSize (l : Launch) (lv : Int) (hlv : 0 ≤ lv ∧ lv ≤ 8) (r : Int) (hr9 : r = 2 ^ lv.toNat) : pu_M l yX0_shelfSize wsX0_shelfSize ({ frames := 0, cells := 0, slots := 0, locals := 0 } : Room) [.int (iI (lv))] TP (r) := by
  refine pu_of (cc := cX0_shelfSize) (maxL := 1) (ret := (some .int)) (own := RX0) (by decide) rfl rfl (Nat.le_of_ble_eq_true rfl) ?_
  intro p e s m below meth c ls B hCP hl
  obtain ⟨hx, hb, hml, hr, hts, hown, hlocks⟩ := B
  have hl : lv_has ls 1 [(0, .int (iI (lv)))] := hl
  refine pv_iconst hx hb dX0_shelfSize_0 ?_
  refine lv_iload_n hx hb dX0_shelfSize_1 rfl (lv_at hl 0 rfl) ?_
  have hp2 := p2_rg hlv
  refine pv_ishl hx hb dX0_shelfSize_2 (by omega) (by omega) (by omega) ?_
  exact pu_iret hx hb hr hlocks dX0_shelfSize_3 (by rw [hr9]; omega)
set_option maxHeartbeats 4000000 in
set_option maxRecDepth 100000 in
theorem c_foldersOn (l : Launch) (D : va_G) (cI : ClassId) (base st : Nat) (Z : Nat → Nat) (x0 x1 x2 x5 x6 x7 : Nat) {n came MV : Int} {F G SP RF RC : Int → Int} (hn : 0 ≤ n ∧ n ≤ 60) (hG : ∀ k : Int, 0 ≤ k → k < n → 0 ≤ G k ∧ G k ≤ 255) (hs : SD G n) (lv sh : Int) (hlv : 0 ≤ lv ∧ lv ≤ 8) (hsh : 0 ≤ sh) (hb9 : sh * 2 ^ lv.toNat ≤ 65536 ∧ (sh + 1) * 2 ^ lv.toNat ≤ 65536 ∧ 0 ≤ sh * 2 ^ lv.toNat ∧ 0 ≤ (sh + 1) * 2 ^ lv.toNat) (r : Int) (hr9 : r = ldn G n lv sh) : pu_M l yX0_foldersOn wsX0_foldersOn ({ frames := 1, cells := 0, slots := 0, locals := 22 } : Room) [.ref x0, .int (iI (lv)), .int (iI (sh))] (CP D cI base st Z x0 x1 x2 x5 x6 x7 n came MV F G SP RF RC) (r) := by
  refine pu_of (cc := cX0_foldersOn) (maxL := 3) (ret := (some .int)) (own := RX0) (by decide) rfl rfl (Nat.le_of_ble_eq_true rfl) ?_
  intro p e s m below meth c ls B hCP hl
  obtain ⟨hx, hb, hml, hr, hts, hown, hlocks⟩ := B
  obtain ⟨⟨hK, hZL, ⟨hstb, xs, hXL, hAL⟩, hTW⟩, f, g, sp, rf, rc, hAf, hAg, hAsp, hArf, hArc, hP, hDb⟩ := id hCP
  have hl : lv_has ls 3 [(0, .ref x0), (1, .int (iI (lv))), (2, .int (iI (sh)))] := hl
  refine lv_aload_n hx hb dX0_foldersOn_0 rfl (lv_at hl 0 rfl) ?_
  refine lv_iload_n hx hb dX0_foldersOn_1 rfl (lv_at hl 1 rfl) ?_
  refine lv_iload_n hx hb dX0_foldersOn_2 rfl (lv_at hl 2 rfl) ?_
  refine pv_iconst hx hb dX0_foldersOn_3 ?_
  refine pv_iadd hx hb dX0_foldersOn_4 ?_
  refine pu_callS (v := (sh + 1) * 2 ^ lv.toNat) (As := [.int (iI (lv)), .int (iI ((sh) + (1)))]) (rest := [.ref x0]) TP_mv ⟨hx, hb, hml, hown, hts⟩ (c_firstMark l lv (sh + 1) (by omega) (by omega) (by omega) _ rfl) (va_cwS 2 hts gX0_foldersOn_X0_firstMark rfl rfl rfl (by decide +kernel) ⟨(Nat.le_of_ble_eq_true rfl), (Nat.le_of_ble_eq_true rfl)⟩) trivial rfl rfl hl.1 (Nat.le_of_ble_eq_true rfl) dX0_foldersOn_5 ⟨Nat.zero_le _, Nat.zero_le _⟩ ?_
  refine pu_callV (v := mb G n ((sh + 1) * 2 ^ lv.toNat)) (As := [.int (iI ((sh + 1) * 2 ^ lv.toNat))]) (rest := []) CP_mv ⟨hx, hb, hml, hown, hts⟩ (c_marksBelow l D cI base st Z x0 x1 x2 x5 x6 x7 hn hG _ (by omega) _ (mb_FI _ hn.1 hs)) (cwV 1 hts gX0_foldersOn_X0_marksBelow rfl rfl rfl (by decide +kernel) ⟨(Nat.le_of_ble_eq_true rfl), (Nat.le_of_ble_eq_true rfl)⟩) hCP (CP_rc hCP) rfl rfl hl.1 (Nat.le_of_ble_eq_true rfl) dX0_foldersOn_8 ⟨Nat.zero_le _, Nat.zero_le _⟩ ?_
  refine lv_aload_n hx hb dX0_foldersOn_11 rfl (lv_at hl 0 rfl) ?_
  refine lv_iload_n hx hb dX0_foldersOn_12 rfl (lv_at hl 1 rfl) ?_
  refine lv_iload_n hx hb dX0_foldersOn_13 rfl (lv_at hl 2 rfl) ?_
  refine pu_callS (v := sh * 2 ^ lv.toNat) (As := [.int (iI (lv)), .int (iI (sh))]) (rest := [.ref x0, .int (iI (mb G n ((sh + 1) * 2 ^ lv.toNat)))]) TP_mv ⟨hx, hb, hml, hown, hts⟩ (c_firstMark l lv sh (by omega) hsh (by omega) _ rfl) (va_cwS 2 hts gX0_foldersOn_X0_firstMark rfl rfl rfl (by decide +kernel) ⟨(Nat.le_of_ble_eq_true rfl), (Nat.le_of_ble_eq_true rfl)⟩) trivial rfl rfl hl.1 (Nat.le_of_ble_eq_true rfl) dX0_foldersOn_14 ⟨Nat.zero_le _, Nat.zero_le _⟩ ?_
  refine pu_callV (v := mb G n (sh * 2 ^ lv.toNat)) (As := [.int (iI (sh * 2 ^ lv.toNat))]) (rest := [.int (iI (mb G n ((sh + 1) * 2 ^ lv.toNat)))]) CP_mv ⟨hx, hb, hml, hown, hts⟩ (c_marksBelow l D cI base st Z x0 x1 x2 x5 x6 x7 hn hG _ (by omega) _ (mb_FI _ hn.1 hs)) (cwV 1 hts gX0_foldersOn_X0_marksBelow rfl rfl rfl (by decide +kernel) ⟨(Nat.le_of_ble_eq_true rfl), (Nat.le_of_ble_eq_true rfl)⟩) hCP (CP_rc hCP) rfl rfl hl.1 (Nat.le_of_ble_eq_true rfl) dX0_foldersOn_17 ⟨Nat.zero_le _, Nat.zero_le _⟩ ?_
  refine pv_isub hx hb dX0_foldersOn_20 ?_
  exact pu_iret hx hb hr hlocks dX0_foldersOn_21 (by rw [hr9]; rfl)
set_option maxHeartbeats 4000000 in
set_option maxRecDepth 100000 in
theorem c_isLoaded (l : Launch) (D : va_G) (cI : ClassId) (base st : Nat) (Z : Nat → Nat) (x0 x1 x2 x5 x6 x7 : Nat) {n came MV : Int} {F G SP RF RC : Int → Int} (hn : 0 ≤ n ∧ n ≤ 60) (hG : ∀ k : Int, 0 ≤ k → k < n → 0 ≤ G k ∧ G k ≤ 255) (hs : SD G n) (lv sh : Int) (hlv : 0 ≤ lv ∧ lv ≤ 8) (hsh : 0 ≤ sh) (hb9 : sh * 2 ^ lv.toNat ≤ 65536 ∧ (sh + 1) * 2 ^ lv.toNat ≤ 65536 ∧ 0 ≤ sh * 2 ^ lv.toNat ∧ 0 ≤ (sh + 1) * 2 ^ lv.toNat) (r : Int) (hr9 : r = if LM lv ≤ ldn G n lv sh then 1 else 0) : pu_M l yX0_isLoaded wsX0_isLoaded ({ frames := 2, cells := 0, slots := 0, locals := 44 } : Room) [.ref x0, .int (iI (lv)), .int (iI (sh))] (CP D cI base st Z x0 x1 x2 x5 x6 x7 n came MV F G SP RF RC) (r) := by
  refine pu_of (cc := cX0_isLoaded) (maxL := 3) (ret := (some .boolean)) (own := RX0) (by decide) rfl rfl (Nat.le_of_ble_eq_true rfl) ?_
  intro p e s m below meth c ls B hCP hl
  obtain ⟨hx, hb, hml, hr, hts, hown, hlocks⟩ := B
  obtain ⟨⟨hK, hZL, ⟨hstb, xs, hXL, hAL⟩, hTW⟩, f, g, sp, rf, rc, hAf, hAg, hAsp, hArf, hArc, hP, hDb⟩ := id hCP
  have hl : lv_has ls 3 [(0, .ref x0), (1, .int (iI (lv))), (2, .int (iI (sh)))] := hl
  have q_LF := hts (.fieldLink RX0 16 "ShelfMarks" "LOADED_FROM" "[I") (by decide +kernel)
  have hz9 : r = 0 ∨ r = 1 := by rw [hr9]; split <;> omega
  refine lv_iload_n hx hb dX0_isLoaded_0 rfl (lv_at hl 1 rfl) ?_
  refine pv_if_lt (tgt := 30) hx hb dX0_isLoaded_1 (by decide) (by omega) (fun c_1 => ?_) (fun c_1 => ?_)
  · exfalso; omega
  · -- 1f
    refine lv_iload_n hx hb dX0_isLoaded_4 rfl (lv_at hl 1 rfl) ?_
    refine va_gets (A := fun q => base ≤ q) hx hb hZL va_S.rf hown q_LF (fun _ h => h) dX0_isLoaded_5 ?_
    refine pv_xlen (v := 9) hx hb hXL (by decide +kernel) dX0_isLoaded_8 ?_
    refine pv_icmp_ge (tgt := 30) hx hb dX0_isLoaded_9 (by decide) (by omega) (fun c_9 => ?_) (fun c_9 => ?_)
    · exfalso; omega
    · -- 9f
      refine lv_aload_n hx hb dX0_isLoaded_12 rfl (lv_at hl 0 rfl) ?_
      refine lv_iload_n hx hb dX0_isLoaded_13 rfl (lv_at hl 1 rfl) ?_
      refine lv_iload_n hx hb dX0_isLoaded_14 rfl (lv_at hl 2 rfl) ?_
      have hp2 := p2_rg hlv
      have hld := ldn_rg (lv := lv) (sh := sh) hn hs (by have := Int.mul_le_mul_of_nonneg_right (show sh ≤ sh + 1 by omega) (show (0 : Int) ≤ 2 ^ lv.toNat by omega); exact this)
      refine pu_callV (v := ldn G n lv sh) (As := [.int (iI (lv)), .int (iI (sh))]) (rest := []) CP_mv ⟨hx, hb, hml, hown, hts⟩ (c_foldersOn l D cI base st Z x0 x1 x2 x5 x6 x7 hn hG hs lv sh hlv hsh hb9 _ rfl) (cwV 2 hts gX0_isLoaded_X0_foldersOn rfl rfl rfl (by decide +kernel) ⟨(Nat.le_of_ble_eq_true rfl), (Nat.le_of_ble_eq_true rfl)⟩) hCP (CP_rc hCP) rfl rfl hl.1 (Nat.le_of_ble_eq_true rfl) dX0_isLoaded_15 ⟨Nat.zero_le _, Nat.zero_le _⟩ ?_
      refine va_gets (A := fun q => base ≤ q) hx hb hZL va_S.rf hown q_LF (fun _ h => h) dX0_isLoaded_18 ?_
      refine lv_iload_n hx hb dX0_isLoaded_21 rfl (lv_at hl 1 rfl) ?_
      refine pv_xld (i := lv) (v := LM (lv)) hx hb hXL (by omega) (by decide) (hAL _ (by omega) (by omega)) dX0_isLoaded_22 ?_
      have hlm := LM_rg lv
      refine pv_icmp_lt (tgt := 30) hx hb dX0_isLoaded_23 (by decide) (by omega) (fun c_23 => ?_) (fun c_23 => ?_)
      · -- 23t
        refine pv_iconst hx hb dX0_isLoaded_30 ?_
        exact pu_zret hx hb hr hlocks dX0_isLoaded_31 (by rw [hr9, if_neg (by omega)]) hz9
      · -- 23f
        refine pv_iconst hx hb dX0_isLoaded_26 ?_
        refine lv_goto (tgt := 31) hx hb dX0_isLoaded_27 (by decide) ?_
        exact pu_zret hx hb hr hlocks dX0_isLoaded_31 (by rw [hr9, if_pos (by omega)]) hz9
set_option maxHeartbeats 4000000 in
set_option maxRecDepth 100000 in
theorem c_shelfToSpread (l : Launch) (D : va_G) (cI : ClassId) (base st : Nat) (Z : Nat → Nat) (x0 x1 x2 x5 x6 x7 : Nat) {n came MV : Int} {F G SP RF RC : Int → Int} (hn : 0 ≤ n ∧ n ≤ 60) (hG : ∀ k : Int, 0 ≤ k → k < n → 0 ≤ G k ∧ G k ≤ 255) (q : Int) (hq : 0 ≤ q ∧ q ≤ n) (lv : Int) (hlv : 0 ≤ lv ∧ lv ≤ 8) (a0 : Int) (ha0 : a0 = if ma G n (q - 1) < 0 then 0 else ma G n (q - 1)) (hqn : q ≤ n) (r : Int) (hr9 : r = a0 / 2 ^ lv.toNat) : pu_M l yX0_shelfToSpread wsX0_shelfToSpread ({ frames := 2, cells := 0, slots := 0, locals := 42 } : Room) [.ref x0, .int (iI (q)), .int (iI (lv))] (CP D cI base st Z x0 x1 x2 x5 x6 x7 n came MV F G SP RF RC) (r) := by
  refine pu_of (cc := cX0_shelfToSpread) (maxL := 3) (ret := (some .int)) (own := RX0) (by decide) rfl rfl (Nat.le_of_ble_eq_true rfl) ?_
  intro p e s m below meth c ls B hCP hl
  obtain ⟨hx, hb, hml, hr, hts, hown, hlocks⟩ := B
  obtain ⟨⟨hK, hZL, ⟨hstb, xs, hXL, hAL⟩, hTW⟩, f, g, sp, rf, rc, hAf, hAg, hAsp, hArf, hArc, hP, hDb⟩ := id hCP
  have hl : lv_has ls 3 [(0, .ref x0), (1, .int (iI (q))), (2, .int (iI (lv)))] := hl
  refine lv_aload_n hx hb dX0_shelfToSpread_0 rfl (lv_at hl 0 rfl) ?_
  refine lv_iload_n hx hb dX0_shelfToSpread_1 rfl (lv_at hl 1 rfl) ?_
  refine pv_iconst hx hb dX0_shelfToSpread_2 ?_
  refine pv_isub hx hb dX0_shelfToSpread_3 ?_
  have hma : -1 ≤ ma G n (q - 1) ∧ ma G n (q - 1) ≤ 256 := ma_rg hG (q - 1)
  refine pu_callV (v := ma G n (q - 1)) (As := [.int (iI ((q) - (1)))]) (rest := []) CP_mv ⟨hx, hb, hml, hown, hts⟩ (c_markAt l D cI base st Z x0 x1 x2 x5 x6 x7 hn (q - 1) (by omega) _ rfl) (cwV 1 hts gX0_shelfToSpread_X0_markAt rfl rfl rfl (by decide +kernel) ⟨(Nat.le_of_ble_eq_true rfl), (Nat.le_of_ble_eq_true rfl)⟩) hCP (CP_rc hCP) rfl rfl hl.1 (Nat.le_of_ble_eq_true rfl) dX0_shelfToSpread_4 ⟨Nat.zero_le _, Nat.zero_le _⟩ ?_
  refine pv_iconst hx hb dX0_shelfToSpread_7 ?_
  refine va_mmax hx hb (hml.trans hl.1.symm) hown (hts (.methodLink RX0 151 Lib.Math.max.name) (by decide +kernel)) (hts (.static Lib.Math.max.name) (by decide +kernel)) (hts (.initialized "java/lang/Math") (by decide +kernel)) (hts (.code Lib.Math.max.name Lib.Math.max.code 2 (some .int)) (by decide +kernel)) (Nat.le_of_ble_eq_true rfl) (Nat.le_of_ble_eq_true rfl) (Nat.zero_le _) (Nat.zero_le _) dX0_shelfToSpread_8 ?_
  rw [show (if iI (ma G n (q - 1)) < iI (0) then iI (0) else iI (ma G n (q - 1))) = iI (a0) from by rw [ha0]; split <;> rename_i h; (rw [if_pos ((iI_lt (by omega) (by omega)).mp h)]); (rw [if_neg (fun z => h ((iI_lt (by omega) (by omega)).mpr z))])]
  refine lv_iload_n hx hb dX0_shelfToSpread_11 rfl (lv_at hl 2 rfl) ?_
  refine pv_ishr hx hb dX0_shelfToSpread_12 (by rw [ha0]; split <;> omega) (by omega) ?_
  exact pu_iret hx hb hr hlocks dX0_shelfToSpread_13 (by rw [hr9])
set_option maxHeartbeats 4000000 in
set_option maxRecDepth 100000 in
theorem c_levelToSpread (l : Launch) (D : va_G) (cI : ClassId) (base st : Nat) (Z : Nat → Nat) (x0 x1 x2 x5 x6 x7 : Nat) {n came MV : Int} {F G SP RF RC : Int → Int} (hn : 0 ≤ n ∧ n ≤ 60) (hG : ∀ k : Int, 0 ≤ k → k < n → 0 ≤ G k ∧ G k ≤ 255) (hs : SD G n) (q : Int) (hq : 0 ≤ q ∧ q ≤ n) (a0 : Int) (ha0 : a0 = if ma G n (q - 1) < 0 then 0 else ma G n (q - 1)) (har : 0 ≤ a0 ∧ a0 ≤ 255) (r : Int) (hr9 : LV G n a0 r) : pu_M l yX0_levelToSpread wsX0_levelToSpread ({ frames := 3, cells := 0, slots := 0, locals := 66 } : Room) [.ref x0, .int (iI (q))] (CP D cI base st Z x0 x1 x2 x5 x6 x7 n came MV F G SP RF RC) (r) := by
  refine pu_of (cc := cX0_levelToSpread) (maxL := 4) (ret := (some .int)) (own := RX0) (by decide) rfl rfl (Nat.le_of_ble_eq_true rfl) ?_
  intro p e s m below meth c ls B hCP hl
  obtain ⟨hx, hb, hml, hr, hts, hown, hlocks⟩ := B
  obtain ⟨⟨hK, hZL, ⟨hstb, xs, hXL, hAL⟩, hTW⟩, f, g, sp, rf, rc, hAf, hAg, hAsp, hArf, hArc, hP, hDb⟩ := id hCP
  have hl : lv_has ls 4 [(0, .ref x0), (1, .int (iI (q)))] := hl
  have q_LF := hts (.fieldLink RX0 16 "ShelfMarks" "LOADED_FROM" "[I") (by decide +kernel)
  refine va_gets (A := fun q => base ≤ q) hx hb hZL va_S.rf hown q_LF (fun _ h => h) dX0_levelToSpread_0 ?_
  refine pv_xlen (v := 9) hx hb hXL (by decide +kernel) dX0_levelToSpread_3 ?_
  refine pv_iconst hx hb dX0_levelToSpread_4 ?_
  refine pv_isub hx hb dX0_levelToSpread_5 ?_
  rw [show iI ((9) - (1)) = iI (8) from congrArg iI ((by decide))]
  refine lv_istore_n (lv' := [(2, .int (iI (8))), (0, .ref x0), (1, .int (iI (q)))]) hx hb dX0_levelToSpread_6 rfl hl (by decide) rfl (fun ls hl => ?_)
  refine pv_iconst hx hb dX0_levelToSpread_7 ?_
  refine lv_istore_n (lv' := [(3, .int (iI (1))), (2, .int (iI (8))), (0, .ref x0), (1, .int (iI (q)))]) hx hb dX0_levelToSpread_8 rfl hl (by decide) rfl (fun ls hl => ?_)
  have hloop9 : ∀ (fuel : Nat) (j : Int) (ls : Array Slot), (8 - j) < fuel → (1 ≤ j ∧ j ≤ 8) → (∀ i : Int, 1 ≤ i → i < j → LM i ≤ ldn G n i (a0 / 2 ^ i.toNat)) → lv_has ls 4 [(0, .ref x0), (1, .int (iI (q))), (2, .int (iI (8))), (3, .int (iI (j)))] → W p l e ({ frames := 3, cells := 0, slots := 0, locals := 66 } : Room) s m ([.ref x0, .int (iI (q))] : List Value).toArray below meth c s.heap [] 0 0 (MQ below (pu_Q (r)) ([.ref x0, .int (iI (q))] : List Value).toArray s 0 0 (fun _ => False)) (F0 m 9 ls []) := by
    intro fuel
    induction fuel with
    | zero => intro j ls hfu hj hld hl; exfalso; omega
    | succ fuel ih =>
      intro j ls hfu hj hld hl
      refine lv_iload_n hx hb dX0_levelToSpread_9 rfl (lv_at hl 3 rfl) ?_
      refine lv_iload_n hx hb dX0_levelToSpread_10 rfl (lv_at hl 2 rfl) ?_
      refine pv_icmp_ge (tgt := 34) hx hb dX0_levelToSpread_11 (by decide) (by omega) (fun c_11 => ?_) (fun c_11 => ?_)
      · -- 11t
        refine lv_iload_n hx hb dX0_levelToSpread_34 rfl (lv_at hl 3 rfl) ?_
        exact pu_iret hx hb hr hlocks dX0_levelToSpread_35 (by obtain ⟨h1, h2, h3⟩ := hr9; rcases (show r < 8 ∨ r = 8 by omega) with h | h; have := hld r h1.1 (by omega); have := h3 h; omega; omega)
      · -- 11f
        refine lv_aload_n hx hb dX0_levelToSpread_14 rfl (lv_at hl 0 rfl) ?_
        refine lv_iload_n hx hb dX0_levelToSpread_15 rfl (lv_at hl 3 rfl) ?_
        refine lv_aload_n hx hb dX0_levelToSpread_16 rfl (lv_at hl 0 rfl) ?_
        refine lv_iload_n hx hb dX0_levelToSpread_17 rfl (lv_at hl 1 rfl) ?_
        refine lv_iload_n hx hb dX0_levelToSpread_18 rfl (lv_at hl 3 rfl) ?_
        have hsb := sh_b (lv := j) har (by omega)
        refine pu_callV (v := a0 / 2 ^ j.toNat) (As := [.int (iI (q)), .int (iI (j))]) (rest := [.int (iI (j)), .ref x0]) CP_mv ⟨hx, hb, hml, hown, hts⟩ (c_shelfToSpread l D cI base st Z x0 x1 x2 x5 x6 x7 hn hG q hq j (by omega) a0 ha0 hq.2 _ rfl) (cwV 2 hts gX0_levelToSpread_X0_shelfToSpread rfl rfl rfl (by decide +kernel) ⟨(Nat.le_of_ble_eq_true rfl), (Nat.le_of_ble_eq_true rfl)⟩) hCP (CP_rc hCP) rfl rfl hl.1 (Nat.le_of_ble_eq_true rfl) dX0_levelToSpread_19 ⟨Nat.zero_le _, Nat.zero_le _⟩ ?_
        by_cases hv9 : LM j ≤ ldn G n j (a0 / 2 ^ j.toNat)
        · -- A
          refine pu_callV (v := 1) (As := [.int (iI (j)), .int (iI (a0 / 2 ^ j.toNat))]) (rest := []) CP_mv ⟨hx, hb, hml, hown, hts⟩ (c_isLoaded l D cI base st Z x0 x1 x2 x5 x6 x7 hn hG hs j _ (by omega) hsb.1 ⟨by omega, by omega, by omega, by omega⟩ 1 (by rw [if_pos hv9])) (cwV 2 hts gX0_levelToSpread_X0_isLoaded rfl rfl rfl (by decide +kernel) ⟨(Nat.le_of_ble_eq_true rfl), (Nat.le_of_ble_eq_true rfl)⟩) hCP (CP_rc hCP) rfl rfl hl.1 (Nat.le_of_ble_eq_true rfl) dX0_levelToSpread_22 ⟨Nat.zero_le _, Nat.zero_le _⟩ ?_
          refine pv_if_eq (tgt := 34) hx hb dX0_levelToSpread_25 (by decide) (by omega) (fun c_25 => ?_) (fun c_25 => ?_)
          · exact absurd c_25 (by omega)
          · -- 25f
            refine pv_iinc (lv' := [(3, .int (iI (j + 1))), (0, .ref x0), (1, .int (iI (q))), (2, .int (iI (8)))]) hx hb dX0_levelToSpread_28 hl (k := 3) rfl (by decide) rfl (fun ls hl => ?_)
            refine lv_goto (tgt := 9) hx hb dX0_levelToSpread_31 (by decide) ?_
            exact ih (j + 1) ls (by omega) (by omega) (fun k h0 h1 => by rcases (show k < j ∨ k = j by omega) with h | h; exact hld k h0 h; rw [h]; exact hv9) (lv_sub hl [1, 2, 3, 0] rfl)
        · -- B
          refine pu_callV (v := 0) (As := [.int (iI (j)), .int (iI (a0 / 2 ^ j.toNat))]) (rest := []) CP_mv ⟨hx, hb, hml, hown, hts⟩ (c_isLoaded l D cI base st Z x0 x1 x2 x5 x6 x7 hn hG hs j _ (by omega) hsb.1 ⟨by omega, by omega, by omega, by omega⟩ 0 (by rw [if_neg hv9])) (cwV 2 hts gX0_levelToSpread_X0_isLoaded rfl rfl rfl (by decide +kernel) ⟨(Nat.le_of_ble_eq_true rfl), (Nat.le_of_ble_eq_true rfl)⟩) hCP (CP_rc hCP) rfl rfl hl.1 (Nat.le_of_ble_eq_true rfl) dX0_levelToSpread_22 ⟨Nat.zero_le _, Nat.zero_le _⟩ ?_
          refine pv_if_eq (tgt := 34) hx hb dX0_levelToSpread_25 (by decide) (by omega) (fun c_25 => ?_) (fun c_25 => ?_)
          · -- 25t
            refine lv_iload_n hx hb dX0_levelToSpread_34 rfl (lv_at hl 3 rfl) ?_
            exact pu_iret hx hb hr hlocks dX0_levelToSpread_35 (by obtain ⟨h1, h2, h3⟩ := hr9; rcases (show r < j ∨ j < r ∨ j = r by omega) with h | h | h; have := hld r h1.1 h; have := h3 (by omega); omega; have := h2 j (by omega) h; omega; exact h)
          · exact absurd c_25 (by omega)
  exact hloop9 ((8 : Int).toNat + 1) (1) ls (by omega) (by omega) (fun k h0 h1 => absurd h1 (by omega)) (lv_sub hl [2, 3, 1, 0] rfl)
set_option maxHeartbeats 4000000 in
set_option maxRecDepth 100000 in
theorem c_spreadMark (l : Launch) (lv sh i t : Int) (hlv : 0 ≤ lv ∧ lv ≤ 8) (hsh : 0 ≤ sh) (hb9 : sh * 2 ^ lv.toNat ≤ 65536) (hi : 0 ≤ i ∧ i ≤ 100) (ht : 1 ≤ t ∧ t ≤ 100) (r : Int) (hr9 : r = nm (sh * 2 ^ lv.toNat) (2 ^ lv.toNat) t i) : pu_M l yX0_spreadMark wsX0_spreadMark ({ frames := 1, cells := 0, slots := 0, locals := 21 } : Room) [.int (iI (lv)), .int (iI (sh)), .int (iI (i)), .int (iI (t))] TP (r) := by
  refine pu_of (cc := cX0_spreadMark) (maxL := 5) (ret := (some .int)) (own := RX0) (by decide) rfl rfl (Nat.le_of_ble_eq_true rfl) ?_
  intro p e s m below meth c ls B hCP hl
  obtain ⟨hx, hb, hml, hr, hts, hown, hlocks⟩ := B
  have hl : lv_has ls 5 [(0, .int (iI (lv))), (1, .int (iI (sh))), (2, .int (iI (i))), (3, .int (iI (t)))] := hl
  refine lv_iload_n hx hb dX0_spreadMark_0 rfl (lv_at hl 3 rfl) ?_
  refine pv_if_le (tgt := 15) hx hb dX0_spreadMark_1 (by decide) (by omega) (fun c_1 => ?_) (fun c_1 => ?_)
  · exfalso; omega
  · -- 1f
    refine lv_iload_n hx hb dX0_spreadMark_4 rfl (lv_at hl 2 rfl) ?_
    refine lv_iload_n hx hb dX0_spreadMark_5 rfl (lv_at hl 0 rfl) ?_
    refine pu_callS (v := 2 ^ lv.toNat) (As := [.int (iI (lv))]) (rest := [.int (iI (i))]) TP_mv ⟨hx, hb, hml, hown, hts⟩ (c_shelfSize l lv hlv _ rfl) (va_cwS 1 hts gX0_spreadMark_X0_shelfSize rfl rfl rfl (by decide +kernel) ⟨(Nat.le_of_ble_eq_true rfl), (Nat.le_of_ble_eq_true rfl)⟩) trivial rfl rfl hl.1 (Nat.le_of_ble_eq_true rfl) dX0_spreadMark_6 ⟨Nat.zero_le _, Nat.zero_le _⟩ ?_
    refine pv_imul hx hb dX0_spreadMark_9 ?_
    refine lv_iload_n hx hb dX0_spreadMark_10 rfl (lv_at hl 3 rfl) ?_
    have hp2 := p2_rg hlv
    have hmul := mul_b hi (show 0 ≤ (2 : Int) ^ lv.toNat ∧ (2 : Int) ^ lv.toNat ≤ 256 by omega)
    refine pv_idiv hx hb dX0_spreadMark_11 (by omega) (by omega) ?_
    refine lv_goto (tgt := 16) hx hb dX0_spreadMark_12 (by decide) ?_
    refine lv_istore (lv' := [(4, .int (iI (((i) * (2 ^ lv.toNat)) / (t)))), (0, .int (iI (lv))), (1, .int (iI (sh))), (2, .int (iI (i))), (3, .int (iI (t)))]) hx hb dX0_spreadMark_16 hl (by decide) rfl (fun ls hl => ?_)
    refine lv_iload_n hx hb dX0_spreadMark_18 rfl (lv_at hl 1 rfl) ?_
    refine lv_iload_n hx hb dX0_spreadMark_19 rfl (lv_at hl 2 rfl) ?_
    refine pu_callS (v := sh * 2 ^ lv.toNat) (As := [.int (iI (lv)), .int (iI (sh))]) (rest := []) TP_mv ⟨hx, hb, hml, hown, hts⟩ (c_firstMark l lv sh (by omega) hsh (by omega) _ rfl) (va_cwS 2 hts gX0_spreadMark_X0_firstMark rfl rfl rfl (by decide +kernel) ⟨(Nat.le_of_ble_eq_true rfl), (Nat.le_of_ble_eq_true rfl)⟩) trivial rfl rfl hl.1 (Nat.le_of_ble_eq_true rfl) dX0_spreadMark_20 ⟨Nat.zero_le _, Nat.zero_le _⟩ ?_
    refine lv_iload hx hb dX0_spreadMark_23 (lv_at hl 0 rfl) ?_
    refine pv_iadd hx hb dX0_spreadMark_25 ?_
    exact pu_iret hx hb hr hlocks dX0_spreadMark_26 (by rw [hr9]; rfl)
set_option maxHeartbeats 4000000 in
set_option maxRecDepth 100000 in
theorem c_hasFreeMark (l : Launch) (D : va_G) (cI : ClassId) (base st : Nat) (Z : Nat → Nat) (x0 x1 x2 x5 x6 x7 : Nat) {n came MV : Int} {F G SP RF RC : Int → Int} (hn : 0 ≤ n ∧ n ≤ 60) (hG : ∀ k : Int, 0 ≤ k → k < n → 0 ≤ G k ∧ G k ≤ 255) (q : Int) (hq : 0 ≤ q ∧ q ≤ n) (r : Int) (hr9 : r = if 2 ≤ ma G n q - ma G n (q - 1) then 1 else 0) : pu_M l yX0_hasFreeMark wsX0_hasFreeMark ({ frames := 2, cells := 0, slots := 0, locals := 42 } : Room) [.ref x0, .int (iI (q))] (CP D cI base st Z x0 x1 x2 x5 x6 x7 n came MV F G SP RF RC) (r) := by
  refine pu_of (cc := cX0_hasFreeMark) (maxL := 2) (ret := (some .boolean)) (own := RX0) (by decide) rfl rfl (Nat.le_of_ble_eq_true rfl) ?_
  intro p e s m below meth c ls B hCP hl
  obtain ⟨hx, hb, hml, hr, hts, hown, hlocks⟩ := B
  obtain ⟨⟨hK, hZL, ⟨hstb, xs, hXL, hAL⟩, hTW⟩, f, g, sp, rf, rc, hAf, hAg, hAsp, hArf, hArc, hP, hDb⟩ := id hCP
  have hl : lv_has ls 2 [(0, .ref x0), (1, .int (iI (q)))] := hl
  have hz9 : r = 0 ∨ r = 1 := by rw [hr9]; split <;> omega
  refine lv_aload_n hx hb dX0_hasFreeMark_0 rfl (lv_at hl 0 rfl) ?_
  refine lv_iload_n hx hb dX0_hasFreeMark_1 rfl (lv_at hl 1 rfl) ?_
  have hm1 := ma_rg hG q
  have hm2 := ma_rg hG (q - 1)
  refine pu_callV (v := ma G n q) (As := [.int (iI (q))]) (rest := []) CP_mv ⟨hx, hb, hml, hown, hts⟩ (c_markAt l D cI base st Z x0 x1 x2 x5 x6 x7 hn q (by omega) _ rfl) (cwV 1 hts gX0_hasFreeMark_X0_markAt rfl rfl rfl (by decide +kernel) ⟨(Nat.le_of_ble_eq_true rfl), (Nat.le_of_ble_eq_true rfl)⟩) hCP (CP_rc hCP) rfl rfl hl.1 (Nat.le_of_ble_eq_true rfl) dX0_hasFreeMark_2 ⟨Nat.zero_le _, Nat.zero_le _⟩ ?_
  refine lv_aload_n hx hb dX0_hasFreeMark_5 rfl (lv_at hl 0 rfl) ?_
  refine lv_iload_n hx hb dX0_hasFreeMark_6 rfl (lv_at hl 1 rfl) ?_
  refine pv_iconst hx hb dX0_hasFreeMark_7 ?_
  refine pv_isub hx hb dX0_hasFreeMark_8 ?_
  refine pu_callV (v := ma G n (q - 1)) (As := [.int (iI ((q) - (1)))]) (rest := [.int (iI (ma G n q))]) CP_mv ⟨hx, hb, hml, hown, hts⟩ (c_markAt l D cI base st Z x0 x1 x2 x5 x6 x7 hn (q - 1) (by omega) _ rfl) (cwV 1 hts gX0_hasFreeMark_X0_markAt rfl rfl rfl (by decide +kernel) ⟨(Nat.le_of_ble_eq_true rfl), (Nat.le_of_ble_eq_true rfl)⟩) hCP (CP_rc hCP) rfl rfl hl.1 (Nat.le_of_ble_eq_true rfl) dX0_hasFreeMark_9 ⟨Nat.zero_le _, Nat.zero_le _⟩ ?_
  refine pv_isub hx hb dX0_hasFreeMark_12 ?_
  refine pv_iconst hx hb dX0_hasFreeMark_13 ?_
  refine pv_icmp_lt (tgt := 21) hx hb dX0_hasFreeMark_14 (by decide) (by omega) (fun c_14 => ?_) (fun c_14 => ?_)
  · -- 14t
    refine pv_iconst hx hb dX0_hasFreeMark_21 ?_
    exact pu_zret hx hb hr hlocks dX0_hasFreeMark_22 (by rw [hr9, if_neg (by omega)]) hz9
  · -- 14f
    refine pv_iconst hx hb dX0_hasFreeMark_17 ?_
    refine lv_goto (tgt := 22) hx hb dX0_hasFreeMark_18 (by decide) ?_
    exact pu_zret hx hb hr hlocks dX0_hasFreeMark_22 (by rw [hr9, if_pos (by omega)]) hz9
set_option maxHeartbeats 4000000 in
set_option maxRecDepth 100000 in
theorem c_moves_free (l : Launch) (D : va_G) (cI : ClassId) (base st : Nat) (Z : Nat → Nat) (x0 x1 x2 x5 x6 x7 : Nat) {n came MV : Int} {F G SP RF RC : Int → Int} (hn : 0 ≤ n ∧ n ≤ 60) (hG : ∀ k : Int, 0 ≤ k → k < n → 0 ≤ G k ∧ G k ≤ 255) (q : Int) (hq : 0 ≤ q ∧ q ≤ n) (hfree : 2 ≤ ma G n q - ma G n (q - 1)) : pu_M l yX0_movesByPuttingIn wsX0_movesByPuttingIn ({ frames := 3, cells := 0, slots := 0, locals := 63 } : Room) [.ref x0, .int (iI (q))] (CP D cI base st Z x0 x1 x2 x5 x6 x7 n came MV F G SP RF RC) (0) := by
  refine pu_of (cc := cX0_movesByPuttingIn) (maxL := 9) (ret := (some .int)) (own := RX0) (by decide) rfl rfl (Nat.le_of_ble_eq_true rfl) ?_
  intro p e s m below meth c ls B hCP hl
  obtain ⟨hx, hb, hml, hr, hts, hown, hlocks⟩ := B
  obtain ⟨⟨hK, hZL, ⟨hstb, xs, hXL, hAL⟩, hTW⟩, f, g, sp, rf, rc, hAf, hAg, hAsp, hArf, hArc, hP, hDb⟩ := id hCP
  have hl : lv_has ls 9 [(0, .ref x0), (1, .int (iI (q)))] := hl
  refine lv_aload_n hx hb dX0_movesByPuttingIn_0 rfl (lv_at hl 0 rfl) ?_
  refine lv_iload_n hx hb dX0_movesByPuttingIn_1 rfl (lv_at hl 1 rfl) ?_
  refine pu_callV (v := 1) (As := [.int (iI (q))]) (rest := []) CP_mv ⟨hx, hb, hml, hown, hts⟩ (c_hasFreeMark l D cI base st Z x0 x1 x2 x5 x6 x7 hn hG q hq 1 (by rw [if_pos hfree])) (cwV 1 hts gX0_movesByPuttingIn_X0_hasFreeMark rfl rfl rfl (by decide +kernel) ⟨(Nat.le_of_ble_eq_true rfl), (Nat.le_of_ble_eq_true rfl)⟩) hCP (CP_rc hCP) rfl rfl hl.1 (Nat.le_of_ble_eq_true rfl) dX0_movesByPuttingIn_2 ⟨Nat.zero_le _, Nat.zero_le _⟩ ?_
  refine pv_if_eq (tgt := 10) hx hb dX0_movesByPuttingIn_5 (by decide) (by omega) (fun c_5 => ?_) (fun c_5 => ?_)
  · exact absurd c_5 (by omega)
  · -- 5f
    refine pv_iconst hx hb dX0_movesByPuttingIn_8 ?_
    exact pu_iret hx hb hr hlocks dX0_movesByPuttingIn_9 (by rfl)
set_option maxHeartbeats 4000000 in
set_option maxRecDepth 100000 in
theorem c_moves_full (l : Launch) (D : va_G) (cI : ClassId) (base st : Nat) (Z : Nat → Nat) (x0 x1 x2 x5 x6 x7 : Nat) {n came MV : Int} {F G SP RF RC : Int → Int} (hn : 0 ≤ n ∧ n ≤ 60) (hG : ∀ k : Int, 0 ≤ k → k < n → 0 ≤ G k ∧ G k ≤ 255) (hs : SD G n) (q : Int) (hq : 0 ≤ q ∧ q ≤ n) (hfull : ma G n q - ma G n (q - 1) < 2) (a0 : Int) (ha0 : a0 = if ma G n (q - 1) < 0 then 0 else ma G n (q - 1)) (har : 0 ≤ a0 ∧ a0 ≤ 255) (lv : Int) (hlv : LV G n a0 lv) (r : Int) (hr9 : r = mvn G q (a0 / 2 ^ lv.toNat * 2 ^ lv.toNat) (2 ^ lv.toNat) (mb G n (a0 / 2 ^ lv.toNat * 2 ^ lv.toNat)) (ldn G n lv (a0 / 2 ^ lv.toNat) + 1) (ldn G n lv (a0 / 2 ^ lv.toNat)).toNat) : pu_M l yX0_movesByPuttingIn wsX0_movesByPuttingIn ({ frames := 4, cells := 0, slots := 0, locals := 89 } : Room) [.ref x0, .int (iI (q))] (CP D cI base st Z x0 x1 x2 x5 x6 x7 n came MV F G SP RF RC) (r) := by
  refine pu_of (cc := cX0_movesByPuttingIn) (maxL := 9) (ret := (some .int)) (own := RX0) (by decide) rfl rfl (Nat.le_of_ble_eq_true rfl) ?_
  intro p e s m below meth c ls B hCP hl
  obtain ⟨hx, hb, hml, hr, hts, hown, hlocks⟩ := B
  obtain ⟨⟨hK, hZL, ⟨hstb, xs, hXL, hAL⟩, hTW⟩, f, g, sp, rf, rc, hAf, hAg, hAsp, hArf, hArc, hP, hDb⟩ := id hCP
  have hl : lv_has ls 9 [(0, .ref x0), (1, .int (iI (q)))] := hl
  refine lv_aload_n hx hb dX0_movesByPuttingIn_0 rfl (lv_at hl 0 rfl) ?_
  refine lv_iload_n hx hb dX0_movesByPuttingIn_1 rfl (lv_at hl 1 rfl) ?_
  refine pu_callV (v := 0) (As := [.int (iI (q))]) (rest := []) CP_mv ⟨hx, hb, hml, hown, hts⟩ (c_hasFreeMark l D cI base st Z x0 x1 x2 x5 x6 x7 hn hG q hq 0 (by rw [if_neg (by omega)])) (cwV 1 hts gX0_movesByPuttingIn_X0_hasFreeMark rfl rfl rfl (by decide +kernel) ⟨(Nat.le_of_ble_eq_true rfl), (Nat.le_of_ble_eq_true rfl)⟩) hCP (CP_rc hCP) rfl rfl hl.1 (Nat.le_of_ble_eq_true rfl) dX0_movesByPuttingIn_2 ⟨Nat.zero_le _, Nat.zero_le _⟩ ?_
  refine pv_if_eq (tgt := 10) hx hb dX0_movesByPuttingIn_5 (by decide) (by omega) (fun c_5 => ?_) (fun c_5 => ?_)
  · -- 5t
    refine lv_aload_n hx hb dX0_movesByPuttingIn_10 rfl (lv_at hl 0 rfl) ?_
    refine lv_iload_n hx hb dX0_movesByPuttingIn_11 rfl (lv_at hl 1 rfl) ?_
    have hlv1 := hlv.1
    have hsb := sh_b (lv := lv) har (by omega)
    have hp2 := p2_rg (lv := lv) (by omega)
    refine pu_callV (v := lv) (As := [.int (iI (q))]) (rest := []) CP_mv ⟨hx, hb, hml, hown, hts⟩ (c_levelToSpread l D cI base st Z x0 x1 x2 x5 x6 x7 hn hG hs q hq a0 ha0 har lv hlv) (cwV 1 hts gX0_movesByPuttingIn_X0_levelToSpread rfl rfl rfl (by decide +kernel) ⟨(Nat.le_of_ble_eq_true rfl), (Nat.le_of_ble_eq_true rfl)⟩) hCP (CP_rc hCP) rfl rfl hl.1 (Nat.le_of_ble_eq_true rfl) dX0_movesByPuttingIn_12 ⟨Nat.zero_le _, Nat.zero_le _⟩ ?_
    refine lv_istore_n (lv' := [(2, .int (iI (lv))), (0, .ref x0), (1, .int (iI (q)))]) hx hb dX0_movesByPuttingIn_15 rfl hl (by decide) rfl (fun ls hl => ?_)
    refine lv_aload_n hx hb dX0_movesByPuttingIn_16 rfl (lv_at hl 1 rfl) ?_
    refine lv_iload_n hx hb dX0_movesByPuttingIn_17 rfl (lv_at hl 2 rfl) ?_
    refine lv_iload_n hx hb dX0_movesByPuttingIn_18 rfl (lv_at hl 0 rfl) ?_
    refine pu_callV (v := a0 / 2 ^ lv.toNat) (As := [.int (iI (q)), .int (iI (lv))]) (rest := []) CP_mv ⟨hx, hb, hml, hown, hts⟩ (c_shelfToSpread l D cI base st Z x0 x1 x2 x5 x6 x7 hn hG q hq lv (by omega) a0 ha0 hq.2 _ rfl) (cwV 2 hts gX0_movesByPuttingIn_X0_shelfToSpread rfl rfl rfl (by decide +kernel) ⟨(Nat.le_of_ble_eq_true rfl), (Nat.le_of_ble_eq_true rfl)⟩) hCP (CP_rc hCP) rfl rfl hl.1 (Nat.le_of_ble_eq_true rfl) dX0_movesByPuttingIn_19 ⟨Nat.zero_le _, Nat.zero_le _⟩ ?_
    obtain ⟨sh, hsh9⟩ : ∃ z, z = a0 / 2 ^ lv.toNat := ⟨_, rfl⟩
    rw [← hsh9] at hsb hr9
    rw [show iI (a0 / 2 ^ lv.toNat) = iI (sh) from congrArg iI (hsh9.symm)]
    refine lv_istore_n (lv' := [(3, .int (iI (sh))), (2, .int (iI (lv))), (0, .ref x0), (1, .int (iI (q)))]) hx hb dX0_movesByPuttingIn_22 rfl hl (by decide) rfl (fun ls hl => ?_)
    refine lv_aload_n hx hb dX0_movesByPuttingIn_23 rfl (lv_at hl 2 rfl) ?_
    refine lv_iload_n hx hb dX0_movesByPuttingIn_24 rfl (lv_at hl 1 rfl) ?_
    refine lv_iload_n hx hb dX0_movesByPuttingIn_25 rfl (lv_at hl 0 rfl) ?_
    refine pu_callS (v := sh * 2 ^ lv.toNat) (As := [.int (iI (lv)), .int (iI (sh))]) (rest := [.ref x0]) TP_mv ⟨hx, hb, hml, hown, hts⟩ (c_firstMark l lv sh (by omega) (by omega) (by omega) _ rfl) (va_cwS 2 hts gX0_movesByPuttingIn_X0_firstMark rfl rfl rfl (by decide +kernel) ⟨(Nat.le_of_ble_eq_true rfl), (Nat.le_of_ble_eq_true rfl)⟩) trivial rfl rfl hl.1 (Nat.le_of_ble_eq_true rfl) dX0_movesByPuttingIn_26 ⟨Nat.zero_le _, Nat.zero_le _⟩ ?_
    refine pu_callV (v := mb G n (sh * 2 ^ lv.toNat)) (As := [.int (iI (sh * 2 ^ lv.toNat))]) (rest := []) CP_mv ⟨hx, hb, hml, hown, hts⟩ (c_marksBelow l D cI base st Z x0 x1 x2 x5 x6 x7 hn hG _ (by omega) _ (mb_FI _ hn.1 hs)) (cwV 1 hts gX0_movesByPuttingIn_X0_marksBelow rfl rfl rfl (by decide +kernel) ⟨(Nat.le_of_ble_eq_true rfl), (Nat.le_of_ble_eq_true rfl)⟩) hCP (CP_rc hCP) rfl rfl hl.1 (Nat.le_of_ble_eq_true rfl) dX0_movesByPuttingIn_29 ⟨Nat.zero_le _, Nat.zero_le _⟩ ?_
    obtain ⟨bg, hbg⟩ : ∃ z, z = mb G n (sh * 2 ^ lv.toNat) := ⟨_, rfl⟩
    rw [← hbg] at hr9
    have hbgr := mb_rg (G := G) (m := sh * 2 ^ lv.toNat) hn.1
    rw [← hbg] at hbgr
    have hend := ldn_end (G := G) (lv := lv) (sh := sh) hn
    rw [← hbg] at hend
    rw [show iI (mb G n (sh * 2 ^ lv.toNat)) = iI (bg) from congrArg iI (hbg.symm)]
    refine lv_istore (lv' := [(4, .int (iI (bg))), (3, .int (iI (sh))), (2, .int (iI (lv))), (0, .ref x0), (1, .int (iI (q)))]) hx hb dX0_movesByPuttingIn_32 hl (by decide) rfl (fun ls hl => ?_)
    refine lv_aload_n hx hb dX0_movesByPuttingIn_34 rfl (lv_at hl 3 rfl) ?_
    refine lv_iload_n hx hb dX0_movesByPuttingIn_35 rfl (lv_at hl 2 rfl) ?_
    refine lv_iload_n hx hb dX0_movesByPuttingIn_36 rfl (lv_at hl 1 rfl) ?_
    refine pu_callV (v := ldn G n lv sh) (As := [.int (iI (lv)), .int (iI (sh))]) (rest := []) CP_mv ⟨hx, hb, hml, hown, hts⟩ (c_foldersOn l D cI base st Z x0 x1 x2 x5 x6 x7 hn hG hs lv sh (by omega) (by omega) ⟨by omega, by omega, by omega, by omega⟩ _ rfl) (cwV 2 hts gX0_movesByPuttingIn_X0_foldersOn rfl rfl rfl (by decide +kernel) ⟨(Nat.le_of_ble_eq_true rfl), (Nat.le_of_ble_eq_true rfl)⟩) hCP (CP_rc hCP) rfl rfl hl.1 (Nat.le_of_ble_eq_true rfl) dX0_movesByPuttingIn_37 ⟨Nat.zero_le _, Nat.zero_le _⟩ ?_
    have hldr := ldn_rg (lv := lv) (sh := sh) hn hs (by omega)
    obtain ⟨ct, hct⟩ : ∃ z, z = ldn G n lv sh := ⟨_, rfl⟩
    rw [← hct] at hr9 hldr hend
    rw [show iI (ldn G n lv sh) = iI (ct) from congrArg iI (hct.symm)]
    refine lv_istore (lv' := [(5, .int (iI (ct))), (4, .int (iI (bg))), (3, .int (iI (sh))), (2, .int (iI (lv))), (0, .ref x0), (1, .int (iI (q)))]) hx hb dX0_movesByPuttingIn_40 hl (by decide) rfl (fun ls hl => ?_)
    refine pv_iconst hx hb dX0_movesByPuttingIn_42 ?_
    refine lv_istore (lv' := [(6, .int (iI (0))), (5, .int (iI (ct))), (4, .int (iI (bg))), (3, .int (iI (sh))), (2, .int (iI (lv))), (0, .ref x0), (1, .int (iI (q)))]) hx hb dX0_movesByPuttingIn_43 hl (by decide) rfl (fun ls hl => ?_)
    refine lv_iload hx hb dX0_movesByPuttingIn_45 (lv_at hl 2 rfl) ?_
    refine lv_istore (lv' := [(7, .int (iI (bg))), (6, .int (iI (0))), (5, .int (iI (ct))), (4, .int (iI (bg))), (3, .int (iI (sh))), (2, .int (iI (lv))), (0, .ref x0), (1, .int (iI (q)))]) hx hb dX0_movesByPuttingIn_47 hl (by decide) rfl (fun ls hl => ?_)
    have hloop49 : ∀ (fuel : Nat) (fd : Int) (k : Int) (ls : Array Slot), (bg + ct - k) < fuel → (bg ≤ k ∧ k ≤ bg + ct) → (fd = mvn G q (sh * 2 ^ lv.toNat) (2 ^ lv.toNat) bg (ct + 1) (k - bg).toNat) → lv_has ls 9 [(0, .ref x0), (1, .int (iI (q))), (2, .int (iI (lv))), (3, .int (iI (sh))), (4, .int (iI (bg))), (5, .int (iI (ct))), (6, .int (iI (fd))), (7, .int (iI (k)))] → W p l e ({ frames := 4, cells := 0, slots := 0, locals := 89 } : Room) s m ([.ref x0, .int (iI (q))] : List Value).toArray below meth c s.heap [] 0 0 (MQ below (pu_Q (r)) ([.ref x0, .int (iI (q))] : List Value).toArray s 0 0 (fun _ => False)) (F0 m 49 ls []) := by
      intro fuel
      induction fuel with
      | zero => intro fd k ls hfu hk hfd hl; exfalso; omega
      | succ fuel ih =>
        intro fd k ls hfu hk hfd hl
        refine lv_iload hx hb dX0_movesByPuttingIn_49 (lv_at hl 7 rfl) ?_
        refine lv_iload hx hb dX0_movesByPuttingIn_51 (lv_at hl 4 rfl) ?_
        refine lv_iload hx hb dX0_movesByPuttingIn_53 (lv_at hl 5 rfl) ?_
        refine pv_iadd hx hb dX0_movesByPuttingIn_55 ?_
        refine pv_icmp_ge (tgt := 108) hx hb dX0_movesByPuttingIn_56 (by decide) (by omega) (fun c_56 => ?_) (fun c_56 => ?_)
        · -- 56t
          refine lv_iload hx hb dX0_movesByPuttingIn_108 (lv_at hl 6 rfl) ?_
          exact pu_iret hx hb hr hlocks dX0_movesByPuttingIn_110 (by rw [hr9, hfd, show (k - bg).toNat = ct.toNat by omega])
        · -- 56f
          refine lv_iload hx hb dX0_movesByPuttingIn_59 (lv_at hl 7 rfl) ?_
          refine lv_iload_n hx hb dX0_movesByPuttingIn_61 rfl (lv_at hl 1 rfl) ?_
          refine pv_icmp_ge (tgt := 70) hx hb dX0_movesByPuttingIn_62 (by decide) (by omega) (fun c_62 => ?_) (fun c_62 => ?_)
          · -- 62t
            refine lv_iload hx hb dX0_movesByPuttingIn_70 (lv_at hl 7 rfl) ?_
            refine pv_iconst hx hb dX0_movesByPuttingIn_72 ?_
            refine pv_iadd hx hb dX0_movesByPuttingIn_73 ?_
            refine lv_iload hx hb dX0_movesByPuttingIn_74 (lv_at hl 4 rfl) ?_
            refine pv_isub hx hb dX0_movesByPuttingIn_76 ?_
            rw [show iI (((k) + (1)) - (bg)) = iI (k + 1 - bg) from congrArg iI (rfl)]
            refine lv_istore (lv' := [(8, .int (iI (k + 1 - bg))), (0, .ref x0), (1, .int (iI (q))), (2, .int (iI (lv))), (3, .int (iI (sh))), (4, .int (iI (bg))), (5, .int (iI (ct))), (6, .int (iI (fd))), (7, .int (iI (k)))]) hx hb dX0_movesByPuttingIn_77 hl (by decide) rfl (fun ls hl => ?_)
            have hnp : np q bg (k - bg) = k + 1 - bg := by unfold np; rw [if_neg (by omega)]; omega
            refine lv_aload_n hx hb dX0_movesByPuttingIn_79 rfl (lv_at hl 1 rfl) ?_
            refine lv_iload hx hb dX0_movesByPuttingIn_80 (lv_at hl 8 rfl) ?_
            have hgk := hG k (by omega) (by omega)
            refine pu_callV (v := G k) (As := [.int (iI (k))]) (rest := []) CP_mv ⟨hx, hb, hml, hown, hts⟩ (c_markAt l D cI base st Z x0 x1 x2 x5 x6 x7 hn k (by omega) _ (by unfold ma; rw [if_neg (by omega), if_pos (by omega)])) (cwV 1 hts gX0_movesByPuttingIn_X0_markAt rfl rfl rfl (by decide +kernel) ⟨(Nat.le_of_ble_eq_true rfl), (Nat.le_of_ble_eq_true rfl)⟩) hCP (CP_rc hCP) rfl rfl hl.1 (Nat.le_of_ble_eq_true rfl) dX0_movesByPuttingIn_82 ⟨Nat.zero_le _, Nat.zero_le _⟩ ?_
            refine lv_iload_n hx hb dX0_movesByPuttingIn_85 rfl (lv_at hl 3 rfl) ?_
            refine lv_iload_n hx hb dX0_movesByPuttingIn_86 rfl (lv_at hl 4 rfl) ?_
            refine lv_iload hx hb dX0_movesByPuttingIn_87 (lv_at hl 0 rfl) ?_
            refine lv_iload hx hb dX0_movesByPuttingIn_89 (lv_at hl 6 rfl) ?_
            refine pv_iconst hx hb dX0_movesByPuttingIn_91 ?_
            refine pv_iadd hx hb dX0_movesByPuttingIn_92 ?_
            refine pu_callS (v := nm (sh * 2 ^ lv.toNat) (2 ^ lv.toNat) (ct + 1) (k + 1 - bg)) (As := [.int (iI (lv)), .int (iI (sh)), .int (iI (k + 1 - bg)), .int (iI ((ct) + (1)))]) (rest := [.int (iI (G k))]) TP_mv ⟨hx, hb, hml, hown, hts⟩ (c_spreadMark l lv sh (k + 1 - bg) (ct + 1) (by omega) (by omega) (by omega) (by omega) (by omega) _ rfl) (va_cwS 4 hts gX0_movesByPuttingIn_X0_spreadMark rfl rfl rfl (by decide +kernel) ⟨(Nat.le_of_ble_eq_true rfl), (Nat.le_of_ble_eq_true rfl)⟩) trivial rfl rfl hl.1 (Nat.le_of_ble_eq_true rfl) dX0_movesByPuttingIn_93 ⟨Nat.zero_le _, Nat.zero_le _⟩ ?_
            have hnmr := nm_rg (lo := sh * 2 ^ lv.toNat) (w := 2 ^ lv.toNat) (t := ct + 1) (i := k + 1 - bg) (by omega) (by omega) (by omega) (by omega)
            refine pv_icmp_eq (tgt := 102) hx hb dX0_movesByPuttingIn_96 (by decide) (by omega) (fun c_96 => ?_) (fun c_96 => ?_)
            · -- 96t
              refine pv_iinc (lv' := [(7, .int (iI (k + 1))), (8, .int (iI (k + 1 - bg))), (0, .ref x0), (1, .int (iI (q))), (2, .int (iI (lv))), (3, .int (iI (sh))), (4, .int (iI (bg))), (5, .int (iI (ct))), (6, .int (iI (fd)))]) hx hb dX0_movesByPuttingIn_102 hl (k := 8) rfl (by decide) rfl (fun ls hl => ?_)
              refine lv_goto (tgt := 49) hx hb dX0_movesByPuttingIn_105 (by decide) ?_
              exact ih (fd) (k + 1) ls (by omega) (by omega) (by rw [show k + 1 - bg = (k - bg) + 1 by omega, hfd]; exact (cn_f _ (by omega) (decide_eq_false (by rw [show bg + (k - bg) = k by omega, hnp]; exact fun z => z c_96))).symm) (lv_sub hl [2, 3, 4, 5, 6, 7, 8, 0] rfl)
            · -- 96f
              refine pv_iinc (lv' := [(6, .int (iI (fd + 1))), (8, .int (iI (k + 1 - bg))), (0, .ref x0), (1, .int (iI (q))), (2, .int (iI (lv))), (3, .int (iI (sh))), (4, .int (iI (bg))), (5, .int (iI (ct))), (7, .int (iI (k)))]) hx hb dX0_movesByPuttingIn_99 hl (k := 7) rfl (by decide) rfl (fun ls hl => ?_)
              refine pv_iinc (lv' := [(7, .int (iI (k + 1))), (6, .int (iI (fd + 1))), (8, .int (iI (k + 1 - bg))), (0, .ref x0), (1, .int (iI (q))), (2, .int (iI (lv))), (3, .int (iI (sh))), (4, .int (iI (bg))), (5, .int (iI (ct)))]) hx hb dX0_movesByPuttingIn_102 hl (k := 8) rfl (by decide) rfl (fun ls hl => ?_)
              refine lv_goto (tgt := 49) hx hb dX0_movesByPuttingIn_105 (by decide) ?_
              exact ih (fd + 1) (k + 1) ls (by omega) (by omega) (by rw [show k + 1 - bg = (k - bg) + 1 by omega, hfd]; exact (cn_t _ (by omega) (decide_eq_true (by rw [show bg + (k - bg) = k by omega, hnp]; exact c_96))).symm) (lv_sub hl [3, 4, 5, 6, 7, 8, 1, 0] rfl)
          · -- 62f
            refine lv_iload hx hb dX0_movesByPuttingIn_65 (lv_at hl 7 rfl) ?_
            refine lv_goto (tgt := 74) hx hb dX0_movesByPuttingIn_67 (by decide) ?_
            refine lv_iload hx hb dX0_movesByPuttingIn_74 (lv_at hl 4 rfl) ?_
            refine pv_isub hx hb dX0_movesByPuttingIn_76 ?_
            rw [show iI ((k) - (bg)) = iI (k - bg) from congrArg iI (rfl)]
            refine lv_istore (lv' := [(8, .int (iI (k - bg))), (0, .ref x0), (1, .int (iI (q))), (2, .int (iI (lv))), (3, .int (iI (sh))), (4, .int (iI (bg))), (5, .int (iI (ct))), (6, .int (iI (fd))), (7, .int (iI (k)))]) hx hb dX0_movesByPuttingIn_77 hl (by decide) rfl (fun ls hl => ?_)
            have hnp : np q bg (k - bg) = k - bg := by unfold np; rw [if_pos (by omega)]
            refine lv_aload_n hx hb dX0_movesByPuttingIn_79 rfl (lv_at hl 1 rfl) ?_
            refine lv_iload hx hb dX0_movesByPuttingIn_80 (lv_at hl 8 rfl) ?_
            have hgk := hG k (by omega) (by omega)
            refine pu_callV (v := G k) (As := [.int (iI (k))]) (rest := []) CP_mv ⟨hx, hb, hml, hown, hts⟩ (c_markAt l D cI base st Z x0 x1 x2 x5 x6 x7 hn k (by omega) _ (by unfold ma; rw [if_neg (by omega), if_pos (by omega)])) (cwV 1 hts gX0_movesByPuttingIn_X0_markAt rfl rfl rfl (by decide +kernel) ⟨(Nat.le_of_ble_eq_true rfl), (Nat.le_of_ble_eq_true rfl)⟩) hCP (CP_rc hCP) rfl rfl hl.1 (Nat.le_of_ble_eq_true rfl) dX0_movesByPuttingIn_82 ⟨Nat.zero_le _, Nat.zero_le _⟩ ?_
            refine lv_iload_n hx hb dX0_movesByPuttingIn_85 rfl (lv_at hl 3 rfl) ?_
            refine lv_iload_n hx hb dX0_movesByPuttingIn_86 rfl (lv_at hl 4 rfl) ?_
            refine lv_iload hx hb dX0_movesByPuttingIn_87 (lv_at hl 0 rfl) ?_
            refine lv_iload hx hb dX0_movesByPuttingIn_89 (lv_at hl 6 rfl) ?_
            refine pv_iconst hx hb dX0_movesByPuttingIn_91 ?_
            refine pv_iadd hx hb dX0_movesByPuttingIn_92 ?_
            refine pu_callS (v := nm (sh * 2 ^ lv.toNat) (2 ^ lv.toNat) (ct + 1) (k - bg)) (As := [.int (iI (lv)), .int (iI (sh)), .int (iI (k - bg)), .int (iI ((ct) + (1)))]) (rest := [.int (iI (G k))]) TP_mv ⟨hx, hb, hml, hown, hts⟩ (c_spreadMark l lv sh (k - bg) (ct + 1) (by omega) (by omega) (by omega) (by omega) (by omega) _ rfl) (va_cwS 4 hts gX0_movesByPuttingIn_X0_spreadMark rfl rfl rfl (by decide +kernel) ⟨(Nat.le_of_ble_eq_true rfl), (Nat.le_of_ble_eq_true rfl)⟩) trivial rfl rfl hl.1 (Nat.le_of_ble_eq_true rfl) dX0_movesByPuttingIn_93 ⟨Nat.zero_le _, Nat.zero_le _⟩ ?_
            have hnmr := nm_rg (lo := sh * 2 ^ lv.toNat) (w := 2 ^ lv.toNat) (t := ct + 1) (i := k - bg) (by omega) (by omega) (by omega) (by omega)
            refine pv_icmp_eq (tgt := 102) hx hb dX0_movesByPuttingIn_96 (by decide) (by omega) (fun c_96 => ?_) (fun c_96 => ?_)
            · -- 96t
              refine pv_iinc (lv' := [(7, .int (iI (k + 1))), (8, .int (iI (k - bg))), (0, .ref x0), (1, .int (iI (q))), (2, .int (iI (lv))), (3, .int (iI (sh))), (4, .int (iI (bg))), (5, .int (iI (ct))), (6, .int (iI (fd)))]) hx hb dX0_movesByPuttingIn_102 hl (k := 8) rfl (by decide) rfl (fun ls hl => ?_)
              refine lv_goto (tgt := 49) hx hb dX0_movesByPuttingIn_105 (by decide) ?_
              exact ih (fd) (k + 1) ls (by omega) (by omega) (by rw [show k + 1 - bg = (k - bg) + 1 by omega, hfd]; exact (cn_f _ (by omega) (decide_eq_false (by rw [show bg + (k - bg) = k by omega, hnp]; exact fun z => z c_96))).symm) (lv_sub hl [2, 3, 4, 5, 6, 7, 8, 0] rfl)
            · -- 96f
              refine pv_iinc (lv' := [(6, .int (iI (fd + 1))), (8, .int (iI (k - bg))), (0, .ref x0), (1, .int (iI (q))), (2, .int (iI (lv))), (3, .int (iI (sh))), (4, .int (iI (bg))), (5, .int (iI (ct))), (7, .int (iI (k)))]) hx hb dX0_movesByPuttingIn_99 hl (k := 7) rfl (by decide) rfl (fun ls hl => ?_)
              refine pv_iinc (lv' := [(7, .int (iI (k + 1))), (6, .int (iI (fd + 1))), (8, .int (iI (k - bg))), (0, .ref x0), (1, .int (iI (q))), (2, .int (iI (lv))), (3, .int (iI (sh))), (4, .int (iI (bg))), (5, .int (iI (ct)))]) hx hb dX0_movesByPuttingIn_102 hl (k := 8) rfl (by decide) rfl (fun ls hl => ?_)
              refine lv_goto (tgt := 49) hx hb dX0_movesByPuttingIn_105 (by decide) ?_
              exact ih (fd + 1) (k + 1) ls (by omega) (by omega) (by rw [show k + 1 - bg = (k - bg) + 1 by omega, hfd]; exact (cn_t _ (by omega) (decide_eq_true (by rw [show bg + (k - bg) = k by omega, hnp]; exact c_96))).symm) (lv_sub hl [3, 4, 5, 6, 7, 8, 1, 0] rfl)
    exact hloop49 ((ct : Int).toNat + 1) (0) (bg) ls (by omega) (by omega) (by rw [show (bg - bg).toNat = 0 by omega]; rfl) (lv_sub hl [6, 7, 5, 4, 3, 2, 1, 0] rfl)
  · exact absurd c_5 (by omega)
set_option maxHeartbeats 4000000 in
set_option maxRecDepth 100000 in
theorem c_requireReader (l : Launch) (D : va_G) (cI : ClassId) (base st : Nat) (Z : Nat → Nat) (lv : Int) (hlv : 0 ≤ lv ∧ lv < 4) : pn_M l yX0_requireReader wsX0_requireReader ({ frames := 0, cells := 0, slots := 0, locals := 0 } : Room) [.int (iI (lv))] (SP D cI base st Z) := by
  refine pn_of (cc := cX0_requireReader) (maxL := 1) (ret := none) (own := RX0) (by decide) rfl rfl (Nat.le_of_ble_eq_true rfl) ?_
  intro p e s m below meth c ls B hCP hl
  obtain ⟨hx, hb, hml, hr, hts, hown, hlocks⟩ := B
  obtain ⟨hK, hZL, ⟨hstb, xs, hXL, hAL⟩, hTW⟩ := id hCP
  have hl : lv_has ls 1 [(0, .int (iI (lv)))] := hl
  refine lv_iload_n hx hb dX0_requireReader_0 rfl (lv_at hl 0 rfl) ?_
  refine pv_if_lt (tgt := 9) hx hb dX0_requireReader_1 (by decide) (by omega) (fun c_1 => ?_) (fun c_1 => ?_)
  · exfalso; omega
  · -- 1f
    refine lv_iload_n hx hb dX0_requireReader_4 rfl (lv_at hl 0 rfl) ?_
    refine pv_iconst hx hb dX0_requireReader_5 ?_
    refine pv_icmp_lt (tgt := 19) hx hb dX0_requireReader_6 (by decide) (by omega) (fun c_6 => ?_) (fun c_6 => ?_)
    · -- 6t
      exact pn_vret hx hb hr hlocks dX0_requireReader_19
    · exfalso; omega
set_option maxHeartbeats 4000000 in
set_option maxRecDepth 100000 in
theorem t_requireReader (l : Launch) (D : va_G) (cI : ClassId) (base st : Nat) (Z : Nat → Nat) (hfl : l.stackTraces = false) (lv : Int) (hlr : (-2147483648 ≤ lv ∧ lv ≤ 2147483647)) (hlv : ¬ (0 ≤ lv ∧ lv < 4)) : th_M l yX0_requireReader wsX0_requireReader ({ frames := 6, cells := 1, slots := 6, locals := 92 } : Room) [.int (iI (lv))] (SP D cI base st Z) "java/lang/IndexOutOfBoundsException" := by
  refine th_of (cc := cX0_requireReader) (maxL := 1) (ret := none) (own := RX0) (by decide) rfl rfl (Nat.le_of_ble_eq_true rfl) ?_
  intro p e s m below meth c ls B hno hCP hl
  obtain ⟨hx, hb, hml, hr, hts, hown, hlocks⟩ := B
  obtain ⟨hK, hZL, ⟨hstb, xs, hXL, hAL⟩, hTW⟩ := id hCP
  have hl : lv_has ls 1 [(0, .int (iI (lv)))] := hl
  refine lv_iload_n hx hb dX0_requireReader_0 rfl (lv_at hl 0 rfl) ?_
  refine pv_if_lt (tgt := 9) hx hb dX0_requireReader_1 (by decide) (by omega) (fun c_1 => ?_) (fun c_1 => ?_)
  · -- 1t
    have hst : l.stackTraces = false := hfl
    obtain ⟨tw0, tw1, tw2, tw3, kw0, kw1, kw2, kd0, kd1, kd2, hU9, hN9⟩ := hTW
    have hgd : ∀ w ∈ (vx_atS RX0 83 "java/lang/IndexOutOfBoundsException" ["java/lang/RuntimeException", "java/lang/Exception"]).filter goodWord, w ∈ wsX0_requireReader := by decide +kernel
    have hat : ∀ w ∈ vx_atS RX0 83 "java/lang/IndexOutOfBoundsException" ["java/lang/RuntimeException", "java/lang/Exception"], w.before _ s = true := vx_hat (L := vx_atS RX0 83 "java/lang/IndexOutOfBoundsException" ["java/lang/RuntimeException", "java/lang/Exception"]) (B := [.castable "java/lang/IndexOutOfBoundsException" "java/lang/IndexOutOfBoundsException", .declares (Bundle.initS "java/lang/RuntimeException"), .declares (Bundle.initS "java/lang/Exception"), .declares (Bundle.initS "java/lang/Throwable")]) (fun w hw => hts w (hgd w hw)) (by decide +kernel) (vx_c (va_Nw.use rfl kw0) (vx_c (va_Nw.use rfl kd0) (vx_c (va_Nw.use rfl kd1) (vx_c (va_Nw.use rfl kd2) vx_n))))
    exact vx_throwS (rest := []) (names := ["java/lang/RuntimeException", "java/lang/Exception"]) (cls := "java/lang/IndexOutOfBoundsException") (A := fun q => base ≤ q) hx hb hst hown (by decide +kernel) (by decide +kernel) (hts (.classLink RX0 79 "java/lang/IndexOutOfBoundsException") (by decide +kernel)) (hts (.initialized "java/lang/IndexOutOfBoundsException") (by decide +kernel)) tw3 hat (by decide +kernel) hU9 hN9 va_S.rf (hl.1.trans hml.symm) dX0_requireReader_9 dX0_requireReader_12 dX0_requireReader_13 dX0_requireReader_15 dX0_requireReader_18 (fun x hx => (hno x hx).elim) (Nat.le_of_ble_eq_true rfl) (Nat.le_of_ble_eq_true rfl) (Nat.le_of_ble_eq_true rfl) (Nat.le_of_ble_eq_true rfl) hlocks (fun t _ h1 h2 => ⟨rfl, h1, h2⟩) (fun _ h => by cases h) (by omega) (by omega)
  · -- 1f
    refine lv_iload_n hx hb dX0_requireReader_4 rfl (lv_at hl 0 rfl) ?_
    refine pv_iconst hx hb dX0_requireReader_5 ?_
    refine pv_icmp_lt (tgt := 19) hx hb dX0_requireReader_6 (by decide) (by omega) (fun c_6 => ?_) (fun c_6 => ?_)
    · exfalso; omega
    · -- 6f
      have hst : l.stackTraces = false := hfl
      obtain ⟨tw0, tw1, tw2, tw3, kw0, kw1, kw2, kd0, kd1, kd2, hU9, hN9⟩ := hTW
      have hgd : ∀ w ∈ (vx_atS RX0 83 "java/lang/IndexOutOfBoundsException" ["java/lang/RuntimeException", "java/lang/Exception"]).filter goodWord, w ∈ wsX0_requireReader := by decide +kernel
      have hat : ∀ w ∈ vx_atS RX0 83 "java/lang/IndexOutOfBoundsException" ["java/lang/RuntimeException", "java/lang/Exception"], w.before _ s = true := vx_hat (L := vx_atS RX0 83 "java/lang/IndexOutOfBoundsException" ["java/lang/RuntimeException", "java/lang/Exception"]) (B := [.castable "java/lang/IndexOutOfBoundsException" "java/lang/IndexOutOfBoundsException", .declares (Bundle.initS "java/lang/RuntimeException"), .declares (Bundle.initS "java/lang/Exception"), .declares (Bundle.initS "java/lang/Throwable")]) (fun w hw => hts w (hgd w hw)) (by decide +kernel) (vx_c (va_Nw.use rfl kw0) (vx_c (va_Nw.use rfl kd0) (vx_c (va_Nw.use rfl kd1) (vx_c (va_Nw.use rfl kd2) vx_n))))
      exact vx_throwS (rest := []) (names := ["java/lang/RuntimeException", "java/lang/Exception"]) (cls := "java/lang/IndexOutOfBoundsException") (A := fun q => base ≤ q) hx hb hst hown (by decide +kernel) (by decide +kernel) (hts (.classLink RX0 79 "java/lang/IndexOutOfBoundsException") (by decide +kernel)) (hts (.initialized "java/lang/IndexOutOfBoundsException") (by decide +kernel)) tw3 hat (by decide +kernel) hU9 hN9 va_S.rf (hl.1.trans hml.symm) dX0_requireReader_9 dX0_requireReader_12 dX0_requireReader_13 dX0_requireReader_15 dX0_requireReader_18 (fun x hx => (hno x hx).elim) (Nat.le_of_ble_eq_true rfl) (Nat.le_of_ble_eq_true rfl) (Nat.le_of_ble_eq_true rfl) (Nat.le_of_ble_eq_true rfl) hlocks (fun t _ h1 h2 => ⟨rfl, h1, h2⟩) (fun _ h => by cases h) (by omega) (by omega)
set_option maxHeartbeats 4000000 in
set_option maxRecDepth 100000 in
theorem c_requireThatOneMayCome (l : Launch) (D : va_G) (cI : ClassId) (base st : Nat) (Z : Nat → Nat) (x0 x1 x2 x5 x6 x7 : Nat) {n came MV : Int} {F G SP RF RC : Int → Int} (hn : 0 ≤ n ∧ n ≤ 60) (hcm : 0 ≤ came ∧ came ≤ 200) (hfr : came < 200 ∧ n < 60) : pn_M l yX0_requireThatOneMayCome wsX0_requireThatOneMayCome ({ frames := 0, cells := 0, slots := 0, locals := 0 } : Room) [.ref x0] (CP D cI base st Z x0 x1 x2 x5 x6 x7 n came MV F G SP RF RC) := by
  refine pn_of (cc := cX0_requireThatOneMayCome) (maxL := 1) (ret := none) (own := RX0) (by decide) rfl rfl (Nat.le_of_ble_eq_true rfl) ?_
  intro p e s m below meth c ls B hCP hl
  obtain ⟨hx, hb, hml, hr, hts, hown, hlocks⟩ := B
  obtain ⟨⟨hK, hZL, ⟨hstb, xs, hXL, hAL⟩, hTW⟩, f, g, sp, rf, rc, hAf, hAg, hAsp, hArf, hArc, hP, hDb⟩ := id hCP
  have hl : lv_has ls 1 [(0, .ref x0)] := hl
  have hin : ∀ w ∈ u_ws RX0 TX0 8, w ∈ wsX0_requireThatOneMayCome := by decide +kernel
  have q_count := hts (.fieldLink RX0 53 "ShelfMarks" "count" "I") (by decide +kernel)
  have q_came := hts (.fieldLink RX0 106 "ShelfMarks" "came" "I") (by decide +kernel)
  refine lv_aload_n hx hb dX0_requireThatOneMayCome_0 rfl (lv_at hl 0 rfl) ?_
  refine va_get (D := D) (ci := 0) (v := .int (iI (came))) (C := RX0) (T := TX0) (N := 8) hx hb hts hin hown hK hP 0 rfl rfl 3 (by decide) q_came (fun _ h9 => h9) rfl dX0_requireThatOneMayCome_1 ?_
  refine pv_sipush hx hb dX0_requireThatOneMayCome_4 (by decide +kernel) ?_
  refine pv_icmp_ge (tgt := 19) hx hb dX0_requireThatOneMayCome_7 (by decide) (by omega) (fun c_7 => ?_) (fun c_7 => ?_)
  · exfalso; omega
  · -- 7f
    refine lv_aload_n hx hb dX0_requireThatOneMayCome_10 rfl (lv_at hl 0 rfl) ?_
    refine va_get (D := D) (ci := 0) (v := .int (iI (n))) (C := RX0) (T := TX0) (N := 8) hx hb hts hin hown hK hP 0 rfl rfl 2 (by decide) q_count (fun _ h9 => h9) rfl dX0_requireThatOneMayCome_11 ?_
    refine pv_bipush hx hb dX0_requireThatOneMayCome_14 (by decide +kernel) ?_
    refine pv_icmp_lt (tgt := 29) hx hb dX0_requireThatOneMayCome_16 (by decide) (by omega) (fun c_16 => ?_) (fun c_16 => ?_)
    · -- 16t
      exact pn_vret hx hb hr hlocks dX0_requireThatOneMayCome_29
    · exfalso; omega
set_option maxHeartbeats 4000000 in
set_option maxRecDepth 100000 in
theorem t_requireThatOneMayCome (l : Launch) (D : va_G) (cI : ClassId) (base st : Nat) (Z : Nat → Nat) (x0 x1 x2 x5 x6 x7 : Nat) {n came MV : Int} {F G SP RF RC : Int → Int} (hfl : l.stackTraces = false) (hn : 0 ≤ n ∧ n ≤ 60) (hcm : 0 ≤ came ∧ came ≤ 200) (hfr : ¬ (came < 200 ∧ n < 60)) : th_M l yX0_requireThatOneMayCome wsX0_requireThatOneMayCome ({ frames := 6, cells := 1, slots := 6, locals := 92 } : Room) [.ref x0] (CP D cI base st Z x0 x1 x2 x5 x6 x7 n came MV F G SP RF RC) "java/lang/IllegalStateException" := by
  refine th_of (cc := cX0_requireThatOneMayCome) (maxL := 1) (ret := none) (own := RX0) (by decide) rfl rfl (Nat.le_of_ble_eq_true rfl) ?_
  intro p e s m below meth c ls B hno hCP hl
  obtain ⟨hx, hb, hml, hr, hts, hown, hlocks⟩ := B
  obtain ⟨⟨hK, hZL, ⟨hstb, xs, hXL, hAL⟩, hTW⟩, f, g, sp, rf, rc, hAf, hAg, hAsp, hArf, hArc, hP, hDb⟩ := id hCP
  have hl : lv_has ls 1 [(0, .ref x0)] := hl
  have hin : ∀ w ∈ u_ws RX0 TX0 8, w ∈ wsX0_requireThatOneMayCome := by decide +kernel
  have q_count := hts (.fieldLink RX0 53 "ShelfMarks" "count" "I") (by decide +kernel)
  have q_came := hts (.fieldLink RX0 106 "ShelfMarks" "came" "I") (by decide +kernel)
  refine lv_aload_n hx hb dX0_requireThatOneMayCome_0 rfl (lv_at hl 0 rfl) ?_
  refine va_get (D := D) (ci := 0) (v := .int (iI (came))) (C := RX0) (T := TX0) (N := 8) hx hb hts hin hown hK hP 0 rfl rfl 3 (by decide) q_came (fun _ h9 => h9) rfl dX0_requireThatOneMayCome_1 ?_
  refine pv_sipush hx hb dX0_requireThatOneMayCome_4 (by decide +kernel) ?_
  refine pv_icmp_ge (tgt := 19) hx hb dX0_requireThatOneMayCome_7 (by decide) (by omega) (fun c_7 => ?_) (fun c_7 => ?_)
  · -- 7t
    have hst : l.stackTraces = false := hfl
    obtain ⟨tw0, tw1, tw2, tw3, kw0, kw1, kw2, kd0, kd1, kd2, hU9, hN9⟩ := hTW
    have hgd : ∀ w ∈ (vx_atS RX0 113 "java/lang/IllegalStateException" ["java/lang/RuntimeException", "java/lang/Exception"]).filter goodWord, w ∈ wsX0_requireThatOneMayCome := by decide +kernel
    have hat : ∀ w ∈ vx_atS RX0 113 "java/lang/IllegalStateException" ["java/lang/RuntimeException", "java/lang/Exception"], w.before _ s = true := vx_hat (L := vx_atS RX0 113 "java/lang/IllegalStateException" ["java/lang/RuntimeException", "java/lang/Exception"]) (B := [.castable "java/lang/IllegalStateException" "java/lang/IllegalStateException", .declares (Bundle.initS "java/lang/RuntimeException"), .declares (Bundle.initS "java/lang/Exception"), .declares (Bundle.initS "java/lang/Throwable")]) (fun w hw => hts w (hgd w hw)) (by decide +kernel) (vx_c (va_Nw.use rfl kw1) (vx_c (va_Nw.use rfl kd0) (vx_c (va_Nw.use rfl kd1) (vx_c (va_Nw.use rfl kd2) vx_n))))
    exact vx_throwS (rest := []) (names := ["java/lang/RuntimeException", "java/lang/Exception"]) (cls := "java/lang/IllegalStateException") (A := fun q => base ≤ q) hx hb hst hown (by decide +kernel) (by decide +kernel) (hts (.classLink RX0 109 "java/lang/IllegalStateException") (by decide +kernel)) (hts (.initialized "java/lang/IllegalStateException") (by decide +kernel)) tw2 hat (by decide +kernel) hU9 hN9 va_S.rf (hl.1.trans hml.symm) dX0_requireThatOneMayCome_19 dX0_requireThatOneMayCome_22 dX0_requireThatOneMayCome_23 dX0_requireThatOneMayCome_25 dX0_requireThatOneMayCome_28 (fun x hx => (hno x hx).elim) (Nat.le_of_ble_eq_true rfl) (Nat.le_of_ble_eq_true rfl) (Nat.le_of_ble_eq_true rfl) (Nat.le_of_ble_eq_true rfl) hlocks (fun t _ h1 h2 => ⟨rfl, h1, h2⟩) (fun _ h => by cases h) (by omega) (by omega)
  · -- 7f
    refine lv_aload_n hx hb dX0_requireThatOneMayCome_10 rfl (lv_at hl 0 rfl) ?_
    refine va_get (D := D) (ci := 0) (v := .int (iI (n))) (C := RX0) (T := TX0) (N := 8) hx hb hts hin hown hK hP 0 rfl rfl 2 (by decide) q_count (fun _ h9 => h9) rfl dX0_requireThatOneMayCome_11 ?_
    refine pv_bipush hx hb dX0_requireThatOneMayCome_14 (by decide +kernel) ?_
    refine pv_icmp_lt (tgt := 29) hx hb dX0_requireThatOneMayCome_16 (by decide) (by omega) (fun c_16 => ?_) (fun c_16 => ?_)
    · exfalso; omega
    · -- 16f
      have hst : l.stackTraces = false := hfl
      obtain ⟨tw0, tw1, tw2, tw3, kw0, kw1, kw2, kd0, kd1, kd2, hU9, hN9⟩ := hTW
      have hgd : ∀ w ∈ (vx_atS RX0 113 "java/lang/IllegalStateException" ["java/lang/RuntimeException", "java/lang/Exception"]).filter goodWord, w ∈ wsX0_requireThatOneMayCome := by decide +kernel
      have hat : ∀ w ∈ vx_atS RX0 113 "java/lang/IllegalStateException" ["java/lang/RuntimeException", "java/lang/Exception"], w.before _ s = true := vx_hat (L := vx_atS RX0 113 "java/lang/IllegalStateException" ["java/lang/RuntimeException", "java/lang/Exception"]) (B := [.castable "java/lang/IllegalStateException" "java/lang/IllegalStateException", .declares (Bundle.initS "java/lang/RuntimeException"), .declares (Bundle.initS "java/lang/Exception"), .declares (Bundle.initS "java/lang/Throwable")]) (fun w hw => hts w (hgd w hw)) (by decide +kernel) (vx_c (va_Nw.use rfl kw1) (vx_c (va_Nw.use rfl kd0) (vx_c (va_Nw.use rfl kd1) (vx_c (va_Nw.use rfl kd2) vx_n))))
      exact vx_throwS (rest := []) (names := ["java/lang/RuntimeException", "java/lang/Exception"]) (cls := "java/lang/IllegalStateException") (A := fun q => base ≤ q) hx hb hst hown (by decide +kernel) (by decide +kernel) (hts (.classLink RX0 109 "java/lang/IllegalStateException") (by decide +kernel)) (hts (.initialized "java/lang/IllegalStateException") (by decide +kernel)) tw2 hat (by decide +kernel) hU9 hN9 va_S.rf (hl.1.trans hml.symm) dX0_requireThatOneMayCome_19 dX0_requireThatOneMayCome_22 dX0_requireThatOneMayCome_23 dX0_requireThatOneMayCome_25 dX0_requireThatOneMayCome_28 (fun x hx => (hno x hx).elim) (Nat.le_of_ble_eq_true rfl) (Nat.le_of_ble_eq_true rfl) (Nat.le_of_ble_eq_true rfl) (Nat.le_of_ble_eq_true rfl) hlocks (fun t _ h1 h2 => ⟨rfl, h1, h2⟩) (fun _ h => by cases h) (by omega) (by omega)
set_option maxHeartbeats 4000000 in
set_option maxRecDepth 100000 in
theorem c_requirePlace (l : Launch) (D : va_G) (cI : ClassId) (base st : Nat) (Z : Nat → Nat) (x0 x1 x2 x5 x6 x7 : Nat) {n came MV : Int} {F G SP RF RC : Int → Int} (hn : 0 ≤ n ∧ n ≤ 60) (hF : ∀ k : Int, 0 ≤ k → k < n → 0 ≤ F k ∧ F k < 200) (x : Int) (hxr : (-2147483648 ≤ x ∧ x ≤ 2147483647)) (rp : Int) (hrp : PL F n x rp) (h0 : 0 ≤ rp) : pu_M l yX0_requirePlace wsX0_requirePlace ({ frames := 1, cells := 0, slots := 0, locals := 22 } : Room) [.ref x0, .int (iI (x))] (CP D cI base st Z x0 x1 x2 x5 x6 x7 n came MV F G SP RF RC) (rp) := by
  refine pu_of (cc := cX0_requirePlace) (maxL := 3) (ret := (some .int)) (own := RX0) (by decide) rfl rfl (Nat.le_of_ble_eq_true rfl) ?_
  intro p e s m below meth c ls B hCP hl
  obtain ⟨hx, hb, hml, hr, hts, hown, hlocks⟩ := B
  obtain ⟨⟨hK, hZL, ⟨hstb, xs, hXL, hAL⟩, hTW⟩, f, g, sp, rf, rc, hAf, hAg, hAsp, hArf, hArc, hP, hDb⟩ := id hCP
  have hl : lv_has ls 3 [(0, .ref x0), (1, .int (iI (x)))] := hl
  refine lv_aload_n hx hb dX0_requirePlace_0 rfl (lv_at hl 0 rfl) ?_
  refine lv_iload_n hx hb dX0_requirePlace_1 rfl (lv_at hl 1 rfl) ?_
  refine pu_callV (v := rp) (As := [.int (iI (x))]) (rest := []) CP_mv ⟨hx, hb, hml, hown, hts⟩ (c_placeOf l D cI base st Z x0 x1 x2 x5 x6 x7 hn hF x hxr rp hrp) (cwV 1 hts gX0_requirePlace_X0_placeOf rfl rfl rfl (by decide +kernel) ⟨(Nat.le_of_ble_eq_true rfl), (Nat.le_of_ble_eq_true rfl)⟩) hCP (CP_rc hCP) rfl rfl hl.1 (Nat.le_of_ble_eq_true rfl) dX0_requirePlace_2 ⟨Nat.zero_le _, Nat.zero_le _⟩ ?_
  have hpr := PL_rg hn.1 hrp
  refine lv_istore_n (lv' := [(2, .int (iI (rp))), (0, .ref x0), (1, .int (iI (x)))]) hx hb dX0_requirePlace_5 rfl hl (by decide) rfl (fun ls hl => ?_)
  refine lv_iload_n hx hb dX0_requirePlace_6 rfl (lv_at hl 0 rfl) ?_
  refine pv_iconst hx hb dX0_requirePlace_7 ?_
  refine pv_icmp_ne (tgt := 21) hx hb dX0_requirePlace_8 (by decide) (by omega) (fun c_8 => ?_) (fun c_8 => ?_)
  · -- 8t
    refine lv_iload_n hx hb dX0_requirePlace_21 rfl (lv_at hl 0 rfl) ?_
    exact pu_iret hx hb hr hlocks dX0_requirePlace_22 (by rfl)
  · exfalso; omega
set_option maxHeartbeats 4000000 in
set_option maxRecDepth 100000 in
theorem t_requirePlace (l : Launch) (D : va_G) (cI : ClassId) (base st : Nat) (Z : Nat → Nat) (x0 x1 x2 x5 x6 x7 : Nat) {n came MV : Int} {F G SP RF RC : Int → Int} (hfl : l.stackTraces = false) (hn : 0 ≤ n ∧ n ≤ 60) (hF : ∀ k : Int, 0 ≤ k → k < n → 0 ≤ F k ∧ F k < 200) (x : Int) (hxr : (-2147483648 ≤ x ∧ x ≤ 2147483647)) (hrp : PL F n x (-1)) : th_M l yX0_requirePlace wsX0_requirePlace ({ frames := 6, cells := 1, slots := 6, locals := 92 } : Room) [.ref x0, .int (iI (x))] (CP D cI base st Z x0 x1 x2 x5 x6 x7 n came MV F G SP RF RC) "java/lang/IndexOutOfBoundsException" := by
  refine th_of (cc := cX0_requirePlace) (maxL := 3) (ret := (some .int)) (own := RX0) (by decide) rfl rfl (Nat.le_of_ble_eq_true rfl) ?_
  intro p e s m below meth c ls B hno hCP hl
  obtain ⟨hx, hb, hml, hr, hts, hown, hlocks⟩ := B
  obtain ⟨⟨hK, hZL, ⟨hstb, xs, hXL, hAL⟩, hTW⟩, f, g, sp, rf, rc, hAf, hAg, hAsp, hArf, hArc, hP, hDb⟩ := id hCP
  have hl : lv_has ls 3 [(0, .ref x0), (1, .int (iI (x)))] := hl
  refine lv_aload_n hx hb dX0_requirePlace_0 rfl (lv_at hl 0 rfl) ?_
  refine lv_iload_n hx hb dX0_requirePlace_1 rfl (lv_at hl 1 rfl) ?_
  refine pu_callV (v := -1) (As := [.int (iI (x))]) (rest := []) CP_mv ⟨hx, hb, hml, hown, hts⟩ (c_placeOf l D cI base st Z x0 x1 x2 x5 x6 x7 hn hF x hxr (-1) hrp) (cwV 1 hts gX0_requirePlace_X0_placeOf rfl rfl rfl (by decide +kernel) ⟨(Nat.le_of_ble_eq_true rfl), (Nat.le_of_ble_eq_true rfl)⟩) hCP (CP_rc hCP) rfl rfl hl.1 (Nat.le_of_ble_eq_true rfl) dX0_requirePlace_2 ⟨Nat.zero_le _, Nat.zero_le _⟩ ?_
  refine lv_istore_n (lv' := [(2, .int (iI (-1))), (0, .ref x0), (1, .int (iI (x)))]) hx hb dX0_requirePlace_5 rfl hl (by decide) rfl (fun ls hl => ?_)
  refine lv_iload_n hx hb dX0_requirePlace_6 rfl (lv_at hl 0 rfl) ?_
  refine pv_iconst hx hb dX0_requirePlace_7 ?_
  refine pv_icmp_ne (tgt := 21) hx hb dX0_requirePlace_8 (by decide) (by omega) (fun c_8 => ?_) (fun c_8 => ?_)
  · exact absurd rfl c_8
  · -- 8f
    have hst : l.stackTraces = false := hfl
    obtain ⟨tw0, tw1, tw2, tw3, kw0, kw1, kw2, kd0, kd1, kd2, hU9, hN9⟩ := hTW
    have hgd : ∀ w ∈ (vx_atS RX0 83 "java/lang/IndexOutOfBoundsException" ["java/lang/RuntimeException", "java/lang/Exception"]).filter goodWord, w ∈ wsX0_requirePlace := by decide +kernel
    have hat : ∀ w ∈ vx_atS RX0 83 "java/lang/IndexOutOfBoundsException" ["java/lang/RuntimeException", "java/lang/Exception"], w.before _ s = true := vx_hat (L := vx_atS RX0 83 "java/lang/IndexOutOfBoundsException" ["java/lang/RuntimeException", "java/lang/Exception"]) (B := [.castable "java/lang/IndexOutOfBoundsException" "java/lang/IndexOutOfBoundsException", .declares (Bundle.initS "java/lang/RuntimeException"), .declares (Bundle.initS "java/lang/Exception"), .declares (Bundle.initS "java/lang/Throwable")]) (fun w hw => hts w (hgd w hw)) (by decide +kernel) (vx_c (va_Nw.use rfl kw0) (vx_c (va_Nw.use rfl kd0) (vx_c (va_Nw.use rfl kd1) (vx_c (va_Nw.use rfl kd2) vx_n))))
    exact vx_throwS (rest := []) (names := ["java/lang/RuntimeException", "java/lang/Exception"]) (cls := "java/lang/IndexOutOfBoundsException") (A := fun q => base ≤ q) hx hb hst hown (by decide +kernel) (by decide +kernel) (hts (.classLink RX0 79 "java/lang/IndexOutOfBoundsException") (by decide +kernel)) (hts (.initialized "java/lang/IndexOutOfBoundsException") (by decide +kernel)) tw1 hat (by decide +kernel) hU9 hN9 va_S.rf (hl.1.trans hml.symm) dX0_requirePlace_11 dX0_requirePlace_14 dX0_requirePlace_15 dX0_requirePlace_17 dX0_requirePlace_20 (fun x hx => (hno x hx).elim) (Nat.le_of_ble_eq_true rfl) (Nat.le_of_ble_eq_true rfl) (Nat.le_of_ble_eq_true rfl) (Nat.le_of_ble_eq_true rfl) hlocks (fun t _ h1 h2 => ⟨rfl, h1, h2⟩) (fun _ h => by cases h) (by omega) (by omega)
set_option maxHeartbeats 4000000 in
set_option maxRecDepth 100000 in
theorem c_size (l : Launch) (D : va_G) (cI : ClassId) (base st : Nat) (Z : Nat → Nat) (x0 x1 x2 x5 x6 x7 : Nat) {n came MV : Int} {F G SP RF RC : Int → Int} (hn : 0 ≤ n ∧ n ≤ 60) : pu_M l yX0_size wsX0_size ({ frames := 0, cells := 0, slots := 0, locals := 0 } : Room) [.ref x0] (CP D cI base st Z x0 x1 x2 x5 x6 x7 n came MV F G SP RF RC) (n) := by
  refine pu_of (cc := cX0_size) (maxL := 1) (ret := (some .int)) (own := RX0) (by decide) rfl rfl (Nat.le_of_ble_eq_true rfl) ?_
  intro p e s m below meth c ls B hCP hl
  obtain ⟨hx, hb, hml, hr, hts, hown, hlocks⟩ := B
  obtain ⟨⟨hK, hZL, ⟨hstb, xs, hXL, hAL⟩, hTW⟩, f, g, sp, rf, rc, hAf, hAg, hAsp, hArf, hArc, hP, hDb⟩ := id hCP
  have hl : lv_has ls 1 [(0, .ref x0)] := hl
  have hin : ∀ w ∈ u_ws RX0 TX0 8, w ∈ wsX0_size := by decide +kernel
  have q_count := hts (.fieldLink RX0 53 "ShelfMarks" "count" "I") (by decide +kernel)
  refine lv_aload_n hx hb dX0_size_0 rfl (lv_at hl 0 rfl) ?_
  refine va_get (D := D) (ci := 0) (v := .int (iI (n))) (C := RX0) (T := TX0) (N := 8) hx hb hts hin hown hK hP 0 rfl rfl 2 (by decide) q_count (fun _ h9 => h9) rfl dX0_size_1 ?_
  exact pu_iret hx hb hr hlocks dX0_size_4 (by rfl)
set_option maxHeartbeats 4000000 in
set_option maxRecDepth 100000 in
theorem c_first (l : Launch) (D : va_G) (cI : ClassId) (base st : Nat) (Z : Nat → Nat) (x0 x1 x2 x5 x6 x7 : Nat) {n came MV : Int} {F G SP RF RC : Int → Int} (hn : 0 ≤ n ∧ n ≤ 60) (r : Int) (hr9 : r = fa F n 0) : pu_M l yX0_first wsX0_first ({ frames := 2, cells := 0, slots := 0, locals := 42 } : Room) [.ref x0] (CP D cI base st Z x0 x1 x2 x5 x6 x7 n came MV F G SP RF RC) (r) := by
  refine pu_of (cc := cX0_first) (maxL := 1) (ret := (some .int)) (own := RX0) (by decide) rfl rfl (Nat.le_of_ble_eq_true rfl) ?_
  intro p e s m below meth c ls B hCP hl
  obtain ⟨hx, hb, hml, hr, hts, hown, hlocks⟩ := B
  obtain ⟨⟨hK, hZL, ⟨hstb, xs, hXL, hAL⟩, hTW⟩, f, g, sp, rf, rc, hAf, hAg, hAsp, hArf, hArc, hP, hDb⟩ := id hCP
  have hl : lv_has ls 1 [(0, .ref x0)] := hl
  refine lv_aload_n hx hb dX0_first_0 rfl (lv_at hl 0 rfl) ?_
  refine pv_iconst hx hb dX0_first_1 ?_
  refine pu_callV (v := r) (As := [.int (iI (0))]) (rest := []) CP_mv ⟨hx, hb, hml, hown, hts⟩ (c_folderAt l D cI base st Z x0 x1 x2 x5 x6 x7 hn 0 (by omega) r hr9) (cwV 1 hts gX0_first_X0_folderAt rfl rfl rfl (by decide +kernel) ⟨(Nat.le_of_ble_eq_true rfl), (Nat.le_of_ble_eq_true rfl)⟩) hCP (CP_rc hCP) rfl rfl hl.1 (Nat.le_of_ble_eq_true rfl) dX0_first_2 ⟨Nat.zero_le _, Nat.zero_le _⟩ ?_
  exact pu_iret hx hb hr hlocks dX0_first_5 (by rfl)
set_option maxHeartbeats 4000000 in
set_option maxRecDepth 100000 in
theorem c_next (l : Launch) (D : va_G) (cI : ClassId) (base st : Nat) (Z : Nat → Nat) (x0 x1 x2 x5 x6 x7 : Nat) {n came MV : Int} {F G SP RF RC : Int → Int} (hn : 0 ≤ n ∧ n ≤ 60) (hF : ∀ k : Int, 0 ≤ k → k < n → 0 ≤ F k ∧ F k < 200) (x : Int) (hxr : (-2147483648 ≤ x ∧ x ≤ 2147483647)) (rp : Int) (hrp : PL F n x rp) (h0 : 0 ≤ rp) (r : Int) (hr9 : r = fa F n (rp + 1)) : pu_M l yX0_next wsX0_next ({ frames := 2, cells := 0, slots := 0, locals := 44 } : Room) [.ref x0, .int (iI (x))] (CP D cI base st Z x0 x1 x2 x5 x6 x7 n came MV F G SP RF RC) (r) := by
  refine pu_of (cc := cX0_next) (maxL := 2) (ret := (some .int)) (own := RX0) (by decide) rfl rfl (Nat.le_of_ble_eq_true rfl) ?_
  intro p e s m below meth c ls B hCP hl
  obtain ⟨hx, hb, hml, hr, hts, hown, hlocks⟩ := B
  obtain ⟨⟨hK, hZL, ⟨hstb, xs, hXL, hAL⟩, hTW⟩, f, g, sp, rf, rc, hAf, hAg, hAsp, hArf, hArc, hP, hDb⟩ := id hCP
  have hl : lv_has ls 2 [(0, .ref x0), (1, .int (iI (x)))] := hl
  refine lv_aload_n hx hb dX0_next_0 rfl (lv_at hl 0 rfl) ?_
  refine lv_aload_n hx hb dX0_next_1 rfl (lv_at hl 0 rfl) ?_
  refine lv_iload_n hx hb dX0_next_2 rfl (lv_at hl 1 rfl) ?_
  refine pu_callV (v := rp) (As := [.int (iI (x))]) (rest := [.ref x0]) CP_mv ⟨hx, hb, hml, hown, hts⟩ (c_requirePlace l D cI base st Z x0 x1 x2 x5 x6 x7 hn hF x hxr rp hrp h0) (cwV 1 hts gX0_next_X0_requirePlace rfl rfl rfl (by decide +kernel) ⟨(Nat.le_of_ble_eq_true rfl), (Nat.le_of_ble_eq_true rfl)⟩) hCP (CP_rc hCP) rfl rfl hl.1 (Nat.le_of_ble_eq_true rfl) dX0_next_3 ⟨Nat.zero_le _, Nat.zero_le _⟩ ?_
  have hpr := PL_rg hn.1 hrp
  refine pv_iconst hx hb dX0_next_6 ?_
  refine pv_iadd hx hb dX0_next_7 ?_
  refine pu_callV (v := r) (As := [.int (iI ((rp) + (1)))]) (rest := []) CP_mv ⟨hx, hb, hml, hown, hts⟩ (c_folderAt l D cI base st Z x0 x1 x2 x5 x6 x7 hn (rp + 1) (by omega) r hr9) (cwV 1 hts gX0_next_X0_folderAt rfl rfl rfl (by decide +kernel) ⟨(Nat.le_of_ble_eq_true rfl), (Nat.le_of_ble_eq_true rfl)⟩) hCP (CP_rc hCP) rfl rfl hl.1 (Nat.le_of_ble_eq_true rfl) dX0_next_8 ⟨Nat.zero_le _, Nat.zero_le _⟩ ?_
  exact pu_iret hx hb hr hlocks dX0_next_11 (by rfl)
set_option maxHeartbeats 4000000 in
set_option maxRecDepth 100000 in
theorem t_next (l : Launch) (D : va_G) (cI : ClassId) (base st : Nat) (Z : Nat → Nat) (x0 x1 x2 x5 x6 x7 : Nat) {n came MV : Int} {F G SP RF RC : Int → Int} (hfl : l.stackTraces = false) (hn : 0 ≤ n ∧ n ≤ 60) (hF : ∀ k : Int, 0 ≤ k → k < n → 0 ≤ F k ∧ F k < 200) (x : Int) (hxr : (-2147483648 ≤ x ∧ x ≤ 2147483647)) (hrp : PL F n x (-1)) : th_M l yX0_next wsX0_next ({ frames := 7, cells := 1, slots := 6, locals := 114 } : Room) [.ref x0, .int (iI (x))] (CP D cI base st Z x0 x1 x2 x5 x6 x7 n came MV F G SP RF RC) "java/lang/IndexOutOfBoundsException" := by
  refine th_of (cc := cX0_next) (maxL := 2) (ret := (some .int)) (own := RX0) (by decide) rfl rfl (Nat.le_of_ble_eq_true rfl) ?_
  intro p e s m below meth c ls B hno hCP hl
  obtain ⟨hx, hb, hml, hr, hts, hown, hlocks⟩ := B
  obtain ⟨⟨hK, hZL, ⟨hstb, xs, hXL, hAL⟩, hTW⟩, f, g, sp, rf, rc, hAf, hAg, hAsp, hArf, hArc, hP, hDb⟩ := id hCP
  have hl : lv_has ls 2 [(0, .ref x0), (1, .int (iI (x)))] := hl
  refine lv_aload_n hx hb dX0_next_0 rfl (lv_at hl 0 rfl) ?_
  refine lv_aload_n hx hb dX0_next_1 rfl (lv_at hl 0 rfl) ?_
  refine lv_iload_n hx hb dX0_next_2 rfl (lv_at hl 1 rfl) ?_
  refine th_callV (As := [.int (iI (x))]) (rest := [.ref x0]) CP_mv ⟨hx, hb, hml, hown, hts⟩ (t_requirePlace l D cI base st Z x0 x1 x2 x5 x6 x7 hfl hn hF x hxr hrp) (cwV 1 hts gX0_next_X0_requirePlace rfl rfl rfl (by decide +kernel) ⟨(Nat.le_of_ble_eq_true rfl), (Nat.le_of_ble_eq_true rfl)⟩) hCP (CP_rc hCP) rfl rfl hl.1 (Nat.le_of_ble_eq_true rfl) dX0_next_3 ⟨(Nat.le_of_ble_eq_true rfl), (Nat.le_of_ble_eq_true rfl)⟩ (fun H1 ce q9 h1 h2 h3 h4 h5 => ?_)
  exact th_out hno hlocks h1 h2 h3 h4 h5
set_option maxHeartbeats 4000000 in
set_option maxRecDepth 100000 in
theorem c_mark (l : Launch) (D : va_G) (cI : ClassId) (base st : Nat) (Z : Nat → Nat) (x0 x1 x2 x5 x6 x7 : Nat) {n came MV : Int} {F G SP RF RC : Int → Int} (hn : 0 ≤ n ∧ n ≤ 60) (hF : ∀ k : Int, 0 ≤ k → k < n → 0 ≤ F k ∧ F k < 200) (x : Int) (hxr : (-2147483648 ≤ x ∧ x ≤ 2147483647)) (rp : Int) (hrp : PL F n x rp) (h0 : 0 ≤ rp) : pu_M l yX0_mark wsX0_mark ({ frames := 2, cells := 0, slots := 0, locals := 44 } : Room) [.ref x0, .int (iI (x))] (CP D cI base st Z x0 x1 x2 x5 x6 x7 n came MV F G SP RF RC) (G rp) := by
  refine pu_of (cc := cX0_mark) (maxL := 2) (ret := (some .int)) (own := RX0) (by decide) rfl rfl (Nat.le_of_ble_eq_true rfl) ?_
  intro p e s m below meth c ls B hCP hl
  obtain ⟨hx, hb, hml, hr, hts, hown, hlocks⟩ := B
  obtain ⟨⟨hK, hZL, ⟨hstb, xs, hXL, hAL⟩, hTW⟩, f, g, sp, rf, rc, hAf, hAg, hAsp, hArf, hArc, hP, hDb⟩ := id hCP
  have hl : lv_has ls 2 [(0, .ref x0), (1, .int (iI (x)))] := hl
  refine lv_aload_n hx hb dX0_mark_0 rfl (lv_at hl 0 rfl) ?_
  refine lv_aload_n hx hb dX0_mark_1 rfl (lv_at hl 0 rfl) ?_
  refine lv_iload_n hx hb dX0_mark_2 rfl (lv_at hl 1 rfl) ?_
  refine pu_callV (v := rp) (As := [.int (iI (x))]) (rest := [.ref x0]) CP_mv ⟨hx, hb, hml, hown, hts⟩ (c_requirePlace l D cI base st Z x0 x1 x2 x5 x6 x7 hn hF x hxr rp hrp h0) (cwV 1 hts gX0_mark_X0_requirePlace rfl rfl rfl (by decide +kernel) ⟨(Nat.le_of_ble_eq_true rfl), (Nat.le_of_ble_eq_true rfl)⟩) hCP (CP_rc hCP) rfl rfl hl.1 (Nat.le_of_ble_eq_true rfl) dX0_mark_3 ⟨Nat.zero_le _, Nat.zero_le _⟩ ?_
  have hpr := PL_rg hn.1 hrp
  refine pu_callV (v := G rp) (As := [.int (iI (rp))]) (rest := []) CP_mv ⟨hx, hb, hml, hown, hts⟩ (c_markAt l D cI base st Z x0 x1 x2 x5 x6 x7 hn rp (by omega) _ (ma_in (by omega))) (cwV 1 hts gX0_mark_X0_markAt rfl rfl rfl (by decide +kernel) ⟨(Nat.le_of_ble_eq_true rfl), (Nat.le_of_ble_eq_true rfl)⟩) hCP (CP_rc hCP) rfl rfl hl.1 (Nat.le_of_ble_eq_true rfl) dX0_mark_6 ⟨Nat.zero_le _, Nat.zero_le _⟩ ?_
  exact pu_iret hx hb hr hlocks dX0_mark_9 (by rfl)
set_option maxHeartbeats 4000000 in
set_option maxRecDepth 100000 in
theorem t_mark (l : Launch) (D : va_G) (cI : ClassId) (base st : Nat) (Z : Nat → Nat) (x0 x1 x2 x5 x6 x7 : Nat) {n came MV : Int} {F G SP RF RC : Int → Int} (hfl : l.stackTraces = false) (hn : 0 ≤ n ∧ n ≤ 60) (hF : ∀ k : Int, 0 ≤ k → k < n → 0 ≤ F k ∧ F k < 200) (x : Int) (hxr : (-2147483648 ≤ x ∧ x ≤ 2147483647)) (hrp : PL F n x (-1)) : th_M l yX0_mark wsX0_mark ({ frames := 7, cells := 1, slots := 6, locals := 114 } : Room) [.ref x0, .int (iI (x))] (CP D cI base st Z x0 x1 x2 x5 x6 x7 n came MV F G SP RF RC) "java/lang/IndexOutOfBoundsException" := by
  refine th_of (cc := cX0_mark) (maxL := 2) (ret := (some .int)) (own := RX0) (by decide) rfl rfl (Nat.le_of_ble_eq_true rfl) ?_
  intro p e s m below meth c ls B hno hCP hl
  obtain ⟨hx, hb, hml, hr, hts, hown, hlocks⟩ := B
  obtain ⟨⟨hK, hZL, ⟨hstb, xs, hXL, hAL⟩, hTW⟩, f, g, sp, rf, rc, hAf, hAg, hAsp, hArf, hArc, hP, hDb⟩ := id hCP
  have hl : lv_has ls 2 [(0, .ref x0), (1, .int (iI (x)))] := hl
  refine lv_aload_n hx hb dX0_mark_0 rfl (lv_at hl 0 rfl) ?_
  refine lv_aload_n hx hb dX0_mark_1 rfl (lv_at hl 0 rfl) ?_
  refine lv_iload_n hx hb dX0_mark_2 rfl (lv_at hl 1 rfl) ?_
  refine th_callV (As := [.int (iI (x))]) (rest := [.ref x0]) CP_mv ⟨hx, hb, hml, hown, hts⟩ (t_requirePlace l D cI base st Z x0 x1 x2 x5 x6 x7 hfl hn hF x hxr hrp) (cwV 1 hts gX0_mark_X0_requirePlace rfl rfl rfl (by decide +kernel) ⟨(Nat.le_of_ble_eq_true rfl), (Nat.le_of_ble_eq_true rfl)⟩) hCP (CP_rc hCP) rfl rfl hl.1 (Nat.le_of_ble_eq_true rfl) dX0_mark_3 ⟨(Nat.le_of_ble_eq_true rfl), (Nat.le_of_ble_eq_true rfl)⟩ (fun H1 ce q9 h1 h2 h3 h4 h5 => ?_)
  exact th_out hno hlocks h1 h2 h3 h4 h5
set_option maxHeartbeats 4000000 in
set_option maxRecDepth 100000 in
theorem c_ahead (l : Launch) (D : va_G) (cI : ClassId) (base st : Nat) (Z : Nat → Nat) (x0 x1 x2 x5 x6 x7 : Nat) {n came MV : Int} {F G SP RF RC : Int → Int} (hn : 0 ≤ n ∧ n ≤ 60) (hF : ∀ k : Int, 0 ≤ k → k < n → 0 ≤ F k ∧ F k < 200) (x : Int) (hxr : (-2147483648 ≤ x ∧ x ≤ 2147483647)) (rp : Int) (hrp : PL F n x rp) (h0 : 0 ≤ rp) (hG : ∀ k : Int, 0 ≤ k → k < n → 0 ≤ G k ∧ G k ≤ 255) (hs : SD G n) : pu_M l yX0_ahead wsX0_ahead ({ frames := 2, cells := 0, slots := 0, locals := 44 } : Room) [.ref x0, .int (iI (x))] (CP D cI base st Z x0 x1 x2 x5 x6 x7 n came MV F G SP RF RC) (mb G n (G rp)) := by
  refine pu_of (cc := cX0_ahead) (maxL := 2) (ret := (some .int)) (own := RX0) (by decide) rfl rfl (Nat.le_of_ble_eq_true rfl) ?_
  intro p e s m below meth c ls B hCP hl
  obtain ⟨hx, hb, hml, hr, hts, hown, hlocks⟩ := B
  obtain ⟨⟨hK, hZL, ⟨hstb, xs, hXL, hAL⟩, hTW⟩, f, g, sp, rf, rc, hAf, hAg, hAsp, hArf, hArc, hP, hDb⟩ := id hCP
  have hl : lv_has ls 2 [(0, .ref x0), (1, .int (iI (x)))] := hl
  refine lv_aload_n hx hb dX0_ahead_0 rfl (lv_at hl 0 rfl) ?_
  refine lv_aload_n hx hb dX0_ahead_1 rfl (lv_at hl 0 rfl) ?_
  refine lv_aload_n hx hb dX0_ahead_2 rfl (lv_at hl 0 rfl) ?_
  refine lv_iload_n hx hb dX0_ahead_3 rfl (lv_at hl 1 rfl) ?_
  refine pu_callV (v := rp) (As := [.int (iI (x))]) (rest := [.ref x0, .ref x0]) CP_mv ⟨hx, hb, hml, hown, hts⟩ (c_requirePlace l D cI base st Z x0 x1 x2 x5 x6 x7 hn hF x hxr rp hrp h0) (cwV 1 hts gX0_ahead_X0_requirePlace rfl rfl rfl (by decide +kernel) ⟨(Nat.le_of_ble_eq_true rfl), (Nat.le_of_ble_eq_true rfl)⟩) hCP (CP_rc hCP) rfl rfl hl.1 (Nat.le_of_ble_eq_true rfl) dX0_ahead_4 ⟨Nat.zero_le _, Nat.zero_le _⟩ ?_
  have hpr := PL_rg hn.1 hrp
  have hgp := hG rp h0 (by omega)
  refine pu_callV (v := G rp) (As := [.int (iI (rp))]) (rest := [.ref x0]) CP_mv ⟨hx, hb, hml, hown, hts⟩ (c_markAt l D cI base st Z x0 x1 x2 x5 x6 x7 hn rp (by omega) _ (ma_in (by omega))) (cwV 1 hts gX0_ahead_X0_markAt rfl rfl rfl (by decide +kernel) ⟨(Nat.le_of_ble_eq_true rfl), (Nat.le_of_ble_eq_true rfl)⟩) hCP (CP_rc hCP) rfl rfl hl.1 (Nat.le_of_ble_eq_true rfl) dX0_ahead_7 ⟨Nat.zero_le _, Nat.zero_le _⟩ ?_
  refine pu_callV (v := mb G n (G rp)) (As := [.int (iI (G rp))]) (rest := []) CP_mv ⟨hx, hb, hml, hown, hts⟩ (c_marksBelow l D cI base st Z x0 x1 x2 x5 x6 x7 hn hG _ (by omega) _ (mb_FI _ hn.1 hs)) (cwV 1 hts gX0_ahead_X0_marksBelow rfl rfl rfl (by decide +kernel) ⟨(Nat.le_of_ble_eq_true rfl), (Nat.le_of_ble_eq_true rfl)⟩) hCP (CP_rc hCP) rfl rfl hl.1 (Nat.le_of_ble_eq_true rfl) dX0_ahead_10 ⟨Nat.zero_le _, Nat.zero_le _⟩ ?_
  exact pu_iret hx hb hr hlocks dX0_ahead_13 (by rfl)
set_option maxHeartbeats 4000000 in
set_option maxRecDepth 100000 in
theorem t_ahead (l : Launch) (D : va_G) (cI : ClassId) (base st : Nat) (Z : Nat → Nat) (x0 x1 x2 x5 x6 x7 : Nat) {n came MV : Int} {F G SP RF RC : Int → Int} (hfl : l.stackTraces = false) (hn : 0 ≤ n ∧ n ≤ 60) (hF : ∀ k : Int, 0 ≤ k → k < n → 0 ≤ F k ∧ F k < 200) (x : Int) (hxr : (-2147483648 ≤ x ∧ x ≤ 2147483647)) (hrp : PL F n x (-1)) : th_M l yX0_ahead wsX0_ahead ({ frames := 7, cells := 1, slots := 6, locals := 114 } : Room) [.ref x0, .int (iI (x))] (CP D cI base st Z x0 x1 x2 x5 x6 x7 n came MV F G SP RF RC) "java/lang/IndexOutOfBoundsException" := by
  refine th_of (cc := cX0_ahead) (maxL := 2) (ret := (some .int)) (own := RX0) (by decide) rfl rfl (Nat.le_of_ble_eq_true rfl) ?_
  intro p e s m below meth c ls B hno hCP hl
  obtain ⟨hx, hb, hml, hr, hts, hown, hlocks⟩ := B
  obtain ⟨⟨hK, hZL, ⟨hstb, xs, hXL, hAL⟩, hTW⟩, f, g, sp, rf, rc, hAf, hAg, hAsp, hArf, hArc, hP, hDb⟩ := id hCP
  have hl : lv_has ls 2 [(0, .ref x0), (1, .int (iI (x)))] := hl
  refine lv_aload_n hx hb dX0_ahead_0 rfl (lv_at hl 0 rfl) ?_
  refine lv_aload_n hx hb dX0_ahead_1 rfl (lv_at hl 0 rfl) ?_
  refine lv_aload_n hx hb dX0_ahead_2 rfl (lv_at hl 0 rfl) ?_
  refine lv_iload_n hx hb dX0_ahead_3 rfl (lv_at hl 1 rfl) ?_
  refine th_callV (As := [.int (iI (x))]) (rest := [.ref x0, .ref x0]) CP_mv ⟨hx, hb, hml, hown, hts⟩ (t_requirePlace l D cI base st Z x0 x1 x2 x5 x6 x7 hfl hn hF x hxr hrp) (cwV 1 hts gX0_ahead_X0_requirePlace rfl rfl rfl (by decide +kernel) ⟨(Nat.le_of_ble_eq_true rfl), (Nat.le_of_ble_eq_true rfl)⟩) hCP (CP_rc hCP) rfl rfl hl.1 (Nat.le_of_ble_eq_true rfl) dX0_ahead_4 ⟨(Nat.le_of_ble_eq_true rfl), (Nat.le_of_ble_eq_true rfl)⟩ (fun H1 ce q9 h1 h2 h3 h4 h5 => ?_)
  exact th_out hno hlocks h1 h2 h3 h4 h5
set_option maxHeartbeats 4000000 in
set_option maxRecDepth 100000 in
theorem c_at (l : Launch) (D : va_G) (cI : ClassId) (base st : Nat) (Z : Nat → Nat) (x0 x1 x2 x5 x6 x7 : Nat) {n came MV : Int} {F G SP RF RC : Int → Int} (lv : Int) (hlv : 0 ≤ lv ∧ lv < 4) : pu_M l yX0_at wsX0_at ({ frames := 1, cells := 0, slots := 0, locals := 20 } : Room) [.ref x0, .int (iI (lv))] (CP D cI base st Z x0 x1 x2 x5 x6 x7 n came MV F G SP RF RC) (RF lv) := by
  refine pu_of (cc := cX0_at) (maxL := 2) (ret := (some .int)) (own := RX0) (by decide) rfl rfl (Nat.le_of_ble_eq_true rfl) ?_
  intro p e s m below meth c ls B hCP hl
  obtain ⟨hx, hb, hml, hr, hts, hown, hlocks⟩ := B
  obtain ⟨⟨hK, hZL, ⟨hstb, xs, hXL, hAL⟩, hTW⟩, f, g, sp, rf, rc, hAf, hAg, hAsp, hArf, hArc, hP, hDb⟩ := id hCP
  have hl : lv_has ls 2 [(0, .ref x0), (1, .int (iI (lv)))] := hl
  have hin : ∀ w ∈ u_ws RX0 TX0 8, w ∈ wsX0_at := by decide +kernel
  have q_readerFolders := hts (.fieldLink RX0 22 "ShelfMarks" "readerFolders" "[I") (by decide +kernel)
  refine lv_iload_n hx hb dX0_at_0 rfl (lv_at hl 1 rfl) ?_
  refine pn_callS (As := [.int (iI (lv))]) (rest := []) SP_mv ⟨hx, hb, hml, hown, hts⟩ (c_requireReader l D cI base st Z lv hlv) (va_cwS 1 hts gX0_at_X0_requireReader rfl rfl rfl (by decide +kernel) ⟨(Nat.le_of_ble_eq_true rfl), (Nat.le_of_ble_eq_true rfl)⟩) hCP.1 rfl rfl hl.1 (Nat.le_of_ble_eq_true rfl) dX0_at_1 ⟨Nat.zero_le _, Nat.zero_le _⟩ ?_
  refine lv_aload_n hx hb dX0_at_4 rfl (lv_at hl 0 rfl) ?_
  refine va_get (D := D) (ci := 0) (v := .ref x6) (C := RX0) (T := TX0) (N := 8) hx hb hts hin hown hK hP 0 rfl rfl 6 (by decide) q_readerFolders (fun _ h9 => h9) rfl dX0_at_5 ?_
  refine lv_iload_n hx hb dX0_at_8 rfl (lv_at hl 1 rfl) ?_
  refine pv_iald (i := lv) (v := RF (lv)) hx hb hK hP 4 0 rfl rfl (by omega) (by decide) (hArf _ (by omega) (by omega)) dX0_at_9 ?_
  exact pu_iret hx hb hr hlocks dX0_at_10 (by rfl)
set_option maxHeartbeats 4000000 in
set_option maxRecDepth 100000 in
theorem t_at (l : Launch) (D : va_G) (cI : ClassId) (base st : Nat) (Z : Nat → Nat) (x0 x1 x2 x5 x6 x7 : Nat) {n came MV : Int} {F G SP RF RC : Int → Int} (hfl : l.stackTraces = false) (lv : Int) (hlr : (-2147483648 ≤ lv ∧ lv ≤ 2147483647)) (hlv : ¬ (0 ≤ lv ∧ lv < 4)) : th_M l yX0_at wsX0_at ({ frames := 7, cells := 1, slots := 6, locals := 112 } : Room) [.ref x0, .int (iI (lv))] (CP D cI base st Z x0 x1 x2 x5 x6 x7 n came MV F G SP RF RC) "java/lang/IndexOutOfBoundsException" := by
  refine th_of (cc := cX0_at) (maxL := 2) (ret := (some .int)) (own := RX0) (by decide) rfl rfl (Nat.le_of_ble_eq_true rfl) ?_
  intro p e s m below meth c ls B hno hCP hl
  obtain ⟨hx, hb, hml, hr, hts, hown, hlocks⟩ := B
  obtain ⟨⟨hK, hZL, ⟨hstb, xs, hXL, hAL⟩, hTW⟩, f, g, sp, rf, rc, hAf, hAg, hAsp, hArf, hArc, hP, hDb⟩ := id hCP
  have hl : lv_has ls 2 [(0, .ref x0), (1, .int (iI (lv)))] := hl
  refine lv_iload_n hx hb dX0_at_0 rfl (lv_at hl 1 rfl) ?_
  refine th_callS (As := [.int (iI (lv))]) (rest := []) SP_mv ⟨hx, hb, hml, hown, hts⟩ (t_requireReader l D cI base st Z hfl lv hlr hlv) (va_cwS 1 hts gX0_at_X0_requireReader rfl rfl rfl (by decide +kernel) ⟨(Nat.le_of_ble_eq_true rfl), (Nat.le_of_ble_eq_true rfl)⟩) hCP.1 rfl rfl hl.1 (Nat.le_of_ble_eq_true rfl) dX0_at_1 ⟨(Nat.le_of_ble_eq_true rfl), (Nat.le_of_ble_eq_true rfl)⟩ (fun H1 ce q9 h1 h2 h3 h4 h5 => ?_)
  exact th_out hno hlocks h1 h2 h3 h4 h5
set_option maxHeartbeats 4000000 in
set_option maxRecDepth 100000 in
theorem c_read (l : Launch) (D : va_G) (cI : ClassId) (base st : Nat) (Z : Nat → Nat) (x0 x1 x2 x5 x6 x7 : Nat) {n came MV : Int} {F G SP RF RC : Int → Int} (lv : Int) (hlv : 0 ≤ lv ∧ lv < 4) : pu_M l yX0_read wsX0_read ({ frames := 1, cells := 0, slots := 0, locals := 20 } : Room) [.ref x0, .int (iI (lv))] (CP D cI base st Z x0 x1 x2 x5 x6 x7 n came MV F G SP RF RC) (RC lv) := by
  refine pu_of (cc := cX0_read) (maxL := 2) (ret := (some .int)) (own := RX0) (by decide) rfl rfl (Nat.le_of_ble_eq_true rfl) ?_
  intro p e s m below meth c ls B hCP hl
  obtain ⟨hx, hb, hml, hr, hts, hown, hlocks⟩ := B
  obtain ⟨⟨hK, hZL, ⟨hstb, xs, hXL, hAL⟩, hTW⟩, f, g, sp, rf, rc, hAf, hAg, hAsp, hArf, hArc, hP, hDb⟩ := id hCP
  have hl : lv_has ls 2 [(0, .ref x0), (1, .int (iI (lv)))] := hl
  have hin : ∀ w ∈ u_ws RX0 TX0 8, w ∈ wsX0_read := by decide +kernel
  have q_readerCounts := hts (.fieldLink RX0 25 "ShelfMarks" "readerCounts" "[I") (by decide +kernel)
  refine lv_iload_n hx hb dX0_read_0 rfl (lv_at hl 1 rfl) ?_
  refine pn_callS (As := [.int (iI (lv))]) (rest := []) SP_mv ⟨hx, hb, hml, hown, hts⟩ (c_requireReader l D cI base st Z lv hlv) (va_cwS 1 hts gX0_read_X0_requireReader rfl rfl rfl (by decide +kernel) ⟨(Nat.le_of_ble_eq_true rfl), (Nat.le_of_ble_eq_true rfl)⟩) hCP.1 rfl rfl hl.1 (Nat.le_of_ble_eq_true rfl) dX0_read_1 ⟨Nat.zero_le _, Nat.zero_le _⟩ ?_
  refine lv_aload_n hx hb dX0_read_4 rfl (lv_at hl 0 rfl) ?_
  refine va_get (D := D) (ci := 0) (v := .ref x7) (C := RX0) (T := TX0) (N := 8) hx hb hts hin hown hK hP 0 rfl rfl 7 (by decide) q_readerCounts (fun _ h9 => h9) rfl dX0_read_5 ?_
  refine lv_iload_n hx hb dX0_read_8 rfl (lv_at hl 1 rfl) ?_
  refine pv_iald (i := lv) (v := RC (lv)) hx hb hK hP 5 0 rfl rfl (by omega) (by decide) (hArc _ (by omega) (by omega)) dX0_read_9 ?_
  exact pu_iret hx hb hr hlocks dX0_read_10 (by rfl)
set_option maxHeartbeats 4000000 in
set_option maxRecDepth 100000 in
theorem t_read (l : Launch) (D : va_G) (cI : ClassId) (base st : Nat) (Z : Nat → Nat) (x0 x1 x2 x5 x6 x7 : Nat) {n came MV : Int} {F G SP RF RC : Int → Int} (hfl : l.stackTraces = false) (lv : Int) (hlr : (-2147483648 ≤ lv ∧ lv ≤ 2147483647)) (hlv : ¬ (0 ≤ lv ∧ lv < 4)) : th_M l yX0_read wsX0_read ({ frames := 7, cells := 1, slots := 6, locals := 112 } : Room) [.ref x0, .int (iI (lv))] (CP D cI base st Z x0 x1 x2 x5 x6 x7 n came MV F G SP RF RC) "java/lang/IndexOutOfBoundsException" := by
  refine th_of (cc := cX0_read) (maxL := 2) (ret := (some .int)) (own := RX0) (by decide) rfl rfl (Nat.le_of_ble_eq_true rfl) ?_
  intro p e s m below meth c ls B hno hCP hl
  obtain ⟨hx, hb, hml, hr, hts, hown, hlocks⟩ := B
  obtain ⟨⟨hK, hZL, ⟨hstb, xs, hXL, hAL⟩, hTW⟩, f, g, sp, rf, rc, hAf, hAg, hAsp, hArf, hArc, hP, hDb⟩ := id hCP
  have hl : lv_has ls 2 [(0, .ref x0), (1, .int (iI (lv)))] := hl
  refine lv_iload_n hx hb dX0_read_0 rfl (lv_at hl 1 rfl) ?_
  refine th_callS (As := [.int (iI (lv))]) (rest := []) SP_mv ⟨hx, hb, hml, hown, hts⟩ (t_requireReader l D cI base st Z hfl lv hlr hlv) (va_cwS 1 hts gX0_read_X0_requireReader rfl rfl rfl (by decide +kernel) ⟨(Nat.le_of_ble_eq_true rfl), (Nat.le_of_ble_eq_true rfl)⟩) hCP.1 rfl rfl hl.1 (Nat.le_of_ble_eq_true rfl) dX0_read_1 ⟨(Nat.le_of_ble_eq_true rfl), (Nat.le_of_ble_eq_true rfl)⟩ (fun H1 ce q9 h1 h2 h3 h4 h5 => ?_)
  exact th_out hno hlocks h1 h2 h3 h4 h5
set_option maxHeartbeats 4000000 in
set_option maxRecDepth 100000 in
theorem c_readersAt (l : Launch) (D : va_G) (cI : ClassId) (base st : Nat) (Z : Nat → Nat) (x0 x1 x2 x5 x6 x7 : Nat) {n came MV : Int} {F G SP RF RC : Int → Int} (hRF : ∀ k : Int, 0 ≤ k → k < 4 → -1 ≤ RF k ∧ RF k < 200) (x : Int) (hxr : (-2147483648 ≤ x ∧ x ≤ 2147483647)) : pu_M l yX0_readersAt wsX0_readersAt ({ frames := 0, cells := 0, slots := 0, locals := 0 } : Room) [.ref x0, .int (iI (x))] (CP D cI base st Z x0 x1 x2 x5 x6 x7 n came MV F G SP RF RC) (cn (fun k => decide (RF k = x)) 4) := by
  refine pu_of (cc := cX0_readersAt) (maxL := 4) (ret := (some .int)) (own := RX0) (by decide) rfl rfl (Nat.le_of_ble_eq_true rfl) ?_
  intro p e s m below meth c ls B hCP hl
  obtain ⟨hx, hb, hml, hr, hts, hown, hlocks⟩ := B
  obtain ⟨⟨hK, hZL, ⟨hstb, xs, hXL, hAL⟩, hTW⟩, f, g, sp, rf, rc, hAf, hAg, hAsp, hArf, hArc, hP, hDb⟩ := id hCP
  have hl : lv_has ls 4 [(0, .ref x0), (1, .int (iI (x)))] := hl
  have hin : ∀ w ∈ u_ws RX0 TX0 8, w ∈ wsX0_readersAt := by decide +kernel
  have q_readerFolders := hts (.fieldLink RX0 22 "ShelfMarks" "readerFolders" "[I") (by decide +kernel)
  refine pv_iconst hx hb dX0_readersAt_0 ?_
  refine lv_istore_n (lv' := [(2, .int (iI (0))), (0, .ref x0), (1, .int (iI (x)))]) hx hb dX0_readersAt_1 rfl hl (by decide) rfl (fun ls hl => ?_)
  refine pv_iconst hx hb dX0_readersAt_2 ?_
  refine lv_istore_n (lv' := [(3, .int (iI (0))), (2, .int (iI (0))), (0, .ref x0), (1, .int (iI (x)))]) hx hb dX0_readersAt_3 rfl hl (by decide) rfl (fun ls hl => ?_)
  have hloop4 : ∀ (fuel : Nat) (fd : Int) (k : Int) (ls : Array Slot), (4 - k) < fuel → (0 ≤ k ∧ k ≤ 4) → (fd = cn (fun k => decide (RF k = x)) k.toNat) → lv_has ls 4 [(0, .ref x0), (1, .int (iI (x))), (2, .int (iI (fd))), (3, .int (iI (k)))] → W p l e ({ frames := 0, cells := 0, slots := 0, locals := 0 } : Room) s m ([.ref x0, .int (iI (x))] : List Value).toArray below meth c s.heap [] 0 0 (MQ below (pu_Q (cn (fun k => decide (RF k = x)) 4)) ([.ref x0, .int (iI (x))] : List Value).toArray s 0 0 (fun _ => False)) (F0 m 4 ls []) := by
    intro fuel
    induction fuel with
    | zero => intro fd k ls hfu hk hfd hl; exfalso; omega
    | succ fuel ih =>
      intro fd k ls hfu hk hfd hl
      refine lv_iload_n hx hb dX0_readersAt_4 rfl (lv_at hl 3 rfl) ?_
      refine pv_iconst hx hb dX0_readersAt_5 ?_
      refine pv_icmp_ge (tgt := 28) hx hb dX0_readersAt_6 (by decide) (by omega) (fun c_6 => ?_) (fun c_6 => ?_)
      · -- 6t
        refine lv_iload_n hx hb dX0_readersAt_28 rfl (lv_at hl 2 rfl) ?_
        exact pu_iret hx hb hr hlocks dX0_readersAt_29 (by rw [hfd, show k.toNat = 4 by omega])
      · -- 6f
        refine lv_aload_n hx hb dX0_readersAt_9 rfl (lv_at hl 0 rfl) ?_
        refine va_get (D := D) (ci := 0) (v := .ref x6) (C := RX0) (T := TX0) (N := 8) hx hb hts hin hown hK hP 0 rfl rfl 6 (by decide) q_readerFolders (fun _ h9 => h9) rfl dX0_readersAt_10 ?_
        refine lv_iload_n hx hb dX0_readersAt_13 rfl (lv_at hl 3 rfl) ?_
        refine pv_iald (i := k) (v := RF (k)) hx hb hK hP 4 0 rfl rfl (by omega) (by decide) (hArf _ (by omega) (by omega)) dX0_readersAt_14 ?_
        have hrk := hRF k (by omega) (by omega)
        refine lv_iload_n hx hb dX0_readersAt_15 rfl (lv_at hl 1 rfl) ?_
        refine pv_icmp_ne (tgt := 22) hx hb dX0_readersAt_16 (by decide) (by omega) (fun c_16 => ?_) (fun c_16 => ?_)
        · -- 16t
          refine pv_iinc (lv' := [(3, .int (iI (k + 1))), (0, .ref x0), (1, .int (iI (x))), (2, .int (iI (fd)))]) hx hb dX0_readersAt_22 hl (k := 3) rfl (by decide) rfl (fun ls hl => ?_)
          refine lv_goto (tgt := 4) hx hb dX0_readersAt_25 (by decide) ?_
          exact ih (fd) (k + 1) ls (by omega) (by omega) (by rw [hfd]; exact (cn_f _ (by omega) (decide_eq_false c_16)).symm) (lv_sub hl [1, 2, 3, 0] rfl)
        · -- 16f
          refine pv_iinc (lv' := [(2, .int (iI (fd + 1))), (0, .ref x0), (1, .int (iI (x))), (3, .int (iI (k)))]) hx hb dX0_readersAt_19 hl (k := 2) rfl (by decide) rfl (fun ls hl => ?_)
          refine pv_iinc (lv' := [(3, .int (iI (k + 1))), (2, .int (iI (fd + 1))), (0, .ref x0), (1, .int (iI (x)))]) hx hb dX0_readersAt_22 hl (k := 3) rfl (by decide) rfl (fun ls hl => ?_)
          refine lv_goto (tgt := 4) hx hb dX0_readersAt_25 (by decide) ?_
          exact ih (fd + 1) (k + 1) ls (by omega) (by omega) (by rw [hfd]; exact (cn_t _ (by omega) (decide_eq_true c_16)).symm) (lv_sub hl [2, 3, 1, 0] rfl)
  exact hloop4 ((4 : Int).toNat + 1) (0) (0) ls (by omega) (by omega) (rfl) (lv_sub hl [2, 3, 1, 0] rfl)
