set_option maxHeartbeats 4000000 in
set_option maxRecDepth 100000 in
theorem c_M_limit (l : Launch) (lv : Int) (hlr : (-2147483648 ≤ lv ∧ lv ≤ 2147483647)) (r : Int) (hr9 : r = LM lv) : pu_M l yX1_limit wsX1_limit ({ frames := 0, cells := 0, slots := 0, locals := 0 } : Room) [.int (iI (lv))] TP (r) := by
  refine pu_of (cc := cX1_limit) (maxL := 1) (ret := (some .int)) (own := RX1) (by decide) rfl rfl (Nat.le_of_ble_eq_true rfl) ?_
  intro p e s m below meth c ls B hCP hl
  obtain ⟨hx, hb, hml, hr, hts, hown, hlocks⟩ := B
  have hl : lv_has ls 1 [(0, .int (iI (lv)))] := hl
  refine lv_iload_n hx hb dX1_limit_0 rfl (lv_at hl 0 rfl) ?_
  refine pv_if_ne (tgt := 8) hx hb dX1_limit_1 (by decide) (by omega) (fun c_1 => ?_) (fun c_1 => ?_)
  · -- 1t
    refine lv_iload_n hx hb dX1_limit_8 rfl (lv_at hl 0 rfl) ?_
    refine pv_iconst hx hb dX1_limit_9 ?_
    refine pv_icmp_ne (tgt := 17) hx hb dX1_limit_10 (by decide) (by omega) (fun c_10 => ?_) (fun c_10 => ?_)
    · -- 10t
      refine lv_iload_n hx hb dX1_limit_17 rfl (lv_at hl 0 rfl) ?_
      refine pv_iconst hx hb dX1_limit_18 ?_
      refine pv_icmp_ne (tgt := 26) hx hb dX1_limit_19 (by decide) (by omega) (fun c_19 => ?_) (fun c_19 => ?_)
      · -- 19t
        refine lv_iload_n hx hb dX1_limit_26 rfl (lv_at hl 0 rfl) ?_
        refine pv_iconst hx hb dX1_limit_27 ?_
        refine pv_icmp_ne (tgt := 35) hx hb dX1_limit_28 (by decide) (by omega) (fun c_28 => ?_) (fun c_28 => ?_)
        · -- 28t
          refine lv_iload_n hx hb dX1_limit_35 rfl (lv_at hl 0 rfl) ?_
          refine pv_iconst hx hb dX1_limit_36 ?_
          refine pv_icmp_ne (tgt := 45) hx hb dX1_limit_37 (by decide) (by omega) (fun c_37 => ?_) (fun c_37 => ?_)
          · -- 37t
            refine lv_iload_n hx hb dX1_limit_45 rfl (lv_at hl 0 rfl) ?_
            refine pv_iconst hx hb dX1_limit_46 ?_
            refine pv_icmp_ne (tgt := 55) hx hb dX1_limit_47 (by decide) (by omega) (fun c_47 => ?_) (fun c_47 => ?_)
            · -- 47t
              refine lv_iload_n hx hb dX1_limit_55 rfl (lv_at hl 0 rfl) ?_
              refine pv_bipush hx hb dX1_limit_56 (by decide +kernel) ?_
              refine pv_icmp_ne (tgt := 66) hx hb dX1_limit_58 (by decide) (by omega) (fun c_58 => ?_) (fun c_58 => ?_)
              · -- 58t
                refine lv_iload_n hx hb dX1_limit_66 rfl (lv_at hl 0 rfl) ?_
                refine pv_bipush hx hb dX1_limit_67 (by decide +kernel) ?_
                refine pv_icmp_ne (tgt := 77) hx hb dX1_limit_69 (by decide) (by omega) (fun c_69 => ?_) (fun c_69 => ?_)
                · -- 69t
                  refine pv_bipush hx hb dX1_limit_77 (by decide +kernel) ?_
                  exact pu_iret hx hb hr hlocks dX1_limit_79 (by rw [hr9]; unfold LM; (repeat' split) <;> omega)
                · -- 69f
                  refine pv_bipush hx hb dX1_limit_72 (by decide +kernel) ?_
                  refine lv_goto (tgt := 79) hx hb dX1_limit_74 (by decide) ?_
                  exact pu_iret hx hb hr hlocks dX1_limit_79 (by rw [hr9]; unfold LM; (repeat' split) <;> omega)
              · -- 58f
                refine pv_bipush hx hb dX1_limit_61 (by decide +kernel) ?_
                refine lv_goto (tgt := 79) hx hb dX1_limit_63 (by decide) ?_
                exact pu_iret hx hb hr hlocks dX1_limit_79 (by rw [hr9]; unfold LM; (repeat' split) <;> omega)
            · -- 47f
              refine pv_bipush hx hb dX1_limit_50 (by decide +kernel) ?_
              refine lv_goto (tgt := 79) hx hb dX1_limit_52 (by decide) ?_
              exact pu_iret hx hb hr hlocks dX1_limit_79 (by rw [hr9]; unfold LM; (repeat' split) <;> omega)
          · -- 37f
            refine pv_bipush hx hb dX1_limit_40 (by decide +kernel) ?_
            refine lv_goto (tgt := 79) hx hb dX1_limit_42 (by decide) ?_
            exact pu_iret hx hb hr hlocks dX1_limit_79 (by rw [hr9]; unfold LM; (repeat' split) <;> omega)
        · -- 28f
          refine pv_iconst hx hb dX1_limit_31 ?_
          refine lv_goto (tgt := 79) hx hb dX1_limit_32 (by decide) ?_
          exact pu_iret hx hb hr hlocks dX1_limit_79 (by rw [hr9]; unfold LM; (repeat' split) <;> omega)
      · -- 19f
        refine pv_iconst hx hb dX1_limit_22 ?_
        refine lv_goto (tgt := 79) hx hb dX1_limit_23 (by decide) ?_
        exact pu_iret hx hb hr hlocks dX1_limit_79 (by rw [hr9]; unfold LM; (repeat' split) <;> omega)
    · -- 10f
      refine pv_iconst hx hb dX1_limit_13 ?_
      refine lv_goto (tgt := 79) hx hb dX1_limit_14 (by decide) ?_
      exact pu_iret hx hb hr hlocks dX1_limit_79 (by rw [hr9]; unfold LM; (repeat' split) <;> omega)
  · -- 1f
    refine pv_iconst hx hb dX1_limit_4 ?_
    refine lv_goto (tgt := 79) hx hb dX1_limit_5 (by decide) ?_
    exact pu_iret hx hb hr hlocks dX1_limit_79 (by rw [hr9]; unfold LM; (repeat' split) <;> omega)
set_option maxHeartbeats 4000000 in
set_option maxRecDepth 100000 in
theorem c_M_isLevel (l : Launch) (lv : Int) (hlr : (-2147483648 ≤ lv ∧ lv ≤ 2147483647)) (r : Int) (hr9 : r = if 0 ≤ lv ∧ lv ≤ 8 then 1 else 0) : pu_M l yX1_isLevel wsX1_isLevel ({ frames := 0, cells := 0, slots := 0, locals := 0 } : Room) [.int (iI (lv))] TP (r) := by
  refine pu_of (cc := cX1_isLevel) (maxL := 1) (ret := (some .boolean)) (own := RX1) (by decide) rfl rfl (Nat.le_of_ble_eq_true rfl) ?_
  intro p e s m below meth c ls B hCP hl
  obtain ⟨hx, hb, hml, hr, hts, hown, hlocks⟩ := B
  have hl : lv_has ls 1 [(0, .int (iI (lv)))] := hl
  have hz9 : r = 0 ∨ r = 1 := by rw [hr9]; split <;> omega
  refine lv_iload_n hx hb dX1_isLevel_0 rfl (lv_at hl 0 rfl) ?_
  refine pv_if_lt (tgt := 14) hx hb dX1_isLevel_1 (by decide) (by omega) (fun c_1 => ?_) (fun c_1 => ?_)
  · -- 1t
    refine pv_iconst hx hb dX1_isLevel_14 ?_
    exact pu_zret hx hb hr hlocks dX1_isLevel_15 (by rw [hr9]; split <;> omega) hz9
  · -- 1f
    refine lv_iload_n hx hb dX1_isLevel_4 rfl (lv_at hl 0 rfl) ?_
    refine pv_bipush hx hb dX1_isLevel_5 (by decide +kernel) ?_
    refine pv_icmp_ge (tgt := 14) hx hb dX1_isLevel_7 (by decide) (by omega) (fun c_7 => ?_) (fun c_7 => ?_)
    · -- 7t
      refine pv_iconst hx hb dX1_isLevel_14 ?_
      exact pu_zret hx hb hr hlocks dX1_isLevel_15 (by rw [hr9]; split <;> omega) hz9
    · -- 7f
      refine pv_iconst hx hb dX1_isLevel_10 ?_
      refine lv_goto (tgt := 15) hx hb dX1_isLevel_11 (by decide) ?_
      exact pu_zret hx hb hr hlocks dX1_isLevel_15 (by rw [hr9]; split <;> omega) hz9
set_option maxHeartbeats 4000000 in
set_option maxRecDepth 100000 in
theorem c_M_isReader (l : Launch) (lv : Int) (hlr : (-2147483648 ≤ lv ∧ lv ≤ 2147483647)) (r : Int) (hr9 : r = if 0 ≤ lv ∧ lv < 4 then 1 else 0) : pu_M l yX1_isReader wsX1_isReader ({ frames := 0, cells := 0, slots := 0, locals := 0 } : Room) [.int (iI (lv))] TP (r) := by
  refine pu_of (cc := cX1_isReader) (maxL := 1) (ret := (some .boolean)) (own := RX1) (by decide) rfl rfl (Nat.le_of_ble_eq_true rfl) ?_
  intro p e s m below meth c ls B hCP hl
  obtain ⟨hx, hb, hml, hr, hts, hown, hlocks⟩ := B
  have hl : lv_has ls 1 [(0, .int (iI (lv)))] := hl
  have hz9 : r = 0 ∨ r = 1 := by rw [hr9]; split <;> omega
  refine lv_iload_n hx hb dX1_isReader_0 rfl (lv_at hl 0 rfl) ?_
  refine pv_if_lt (tgt := 13) hx hb dX1_isReader_1 (by decide) (by omega) (fun c_1 => ?_) (fun c_1 => ?_)
  · -- 1t
    refine pv_iconst hx hb dX1_isReader_13 ?_
    exact pu_zret hx hb hr hlocks dX1_isReader_14 (by rw [hr9]; split <;> omega) hz9
  · -- 1f
    refine lv_iload_n hx hb dX1_isReader_4 rfl (lv_at hl 0 rfl) ?_
    refine pv_iconst hx hb dX1_isReader_5 ?_
    refine pv_icmp_ge (tgt := 13) hx hb dX1_isReader_6 (by decide) (by omega) (fun c_6 => ?_) (fun c_6 => ?_)
    · -- 6t
      refine pv_iconst hx hb dX1_isReader_13 ?_
      exact pu_zret hx hb hr hlocks dX1_isReader_14 (by rw [hr9]; split <;> omega) hz9
    · -- 6f
      refine pv_iconst hx hb dX1_isReader_9 ?_
      refine lv_goto (tgt := 14) hx hb dX1_isReader_10 (by decide) ?_
      exact pu_zret hx hb hr hlocks dX1_isReader_14 (by rw [hr9]; split <;> omega) hz9
set_option maxHeartbeats 4000000 in
set_option maxRecDepth 100000 in
theorem c_M_thrown (l : Launch) (D : va_G) (cI cZ : ClassId) (base st : Nat) (Z : Nat → Nat) (y0 y1 y2 y3 y6 y7 y8 : Nat) {n came MV th : Int} {F Gp SP RF RC : Int → Int}  : pu_M l yX1_thrown wsX1_thrown ({ frames := 0, cells := 0, slots := 0, locals := 0 } : Room) [.ref y0] (AP D cI cZ base st Z y0 y1 y2 y3 y6 y7 y8 n came MV th F Gp SP RF RC) (th) := by
  refine pu_of (cc := cX1_thrown) (maxL := 1) (ret := (some .int)) (own := RX1) (by decide) rfl rfl (Nat.le_of_ble_eq_true rfl) ?_
  intro p e s m below meth c ls B hCP hl
  obtain ⟨hx, hb, hml, hr, hts, hown, hlocks⟩ := B
  obtain ⟨hSWs, G, ZN, hGM, hMI, hMW⟩ := id hCP
  obtain ⟨hK, hZL, ⟨hstb, xs, hXL, hAL⟩, hTW⟩ := id hSWs
  obtain ⟨f, g, z, sp, rf, rc, hAf, hAg, hAz, hAsp, hArf, hArc, hP, hDb⟩ := id hMW
  have hl : lv_has ls 1 [(0, .ref y0)] := hl
  have hin : ∀ w ∈ u_ws RX1 TX1 10, w ∈ wsX1_thrown := by decide +kernel
  have q_thrown := hts (.fieldLink RX1 29 "ShelfMarksModel" "thrown" "I") (by decide +kernel)
  refine lv_aload_n hx hb dX1_thrown_0 rfl (lv_at hl 0 rfl) ?_
  refine va_get (D := D) (ci := 1) (v := .int (iI (th))) (C := RX1) (T := TX1) (N := 10) hx hb hts hin hown hK hP 0 rfl rfl 9 (by decide) q_thrown (fun _ h9 => h9) rfl dX1_thrown_1 ?_
  exact pu_iret hx hb hr hlocks dX1_thrown_4 (by rfl)
set_option maxHeartbeats 4000000 in
set_option maxRecDepth 100000 in
theorem c_M_known (l : Launch) (D : va_G) (cI cZ : ClassId) (base st : Nat) (Z : Nat → Nat) (y0 y1 y2 y3 y6 y7 y8 : Nat) {n came MV th : Int} {F G ZN SP RF RC : Int → Int} (hMI : MI n came F ZN) (x : Int) (hxr : (-2147483648 ≤ x ∧ x ≤ 2147483647)) (r : Int) (hr9 : r = kn came ZN x) : pu_M l yX1_known wsX1_known ({ frames := 0, cells := 0, slots := 0, locals := 0 } : Room) [.ref y0, .int (iI (x))] (MP D cI cZ base st Z y0 y1 y2 y3 y6 y7 y8 n came MV th F G ZN SP RF RC) (r) := by
  refine pu_of (cc := cX1_known) (maxL := 2) (ret := (some .boolean)) (own := RX1) (by decide) rfl rfl (Nat.le_of_ble_eq_true rfl) ?_
  intro p e s m below meth c ls B hCP hl
  obtain ⟨hx, hb, hml, hr, hts, hown, hlocks⟩ := B
  obtain ⟨⟨hK, hZL, ⟨hstb, xs, hXL, hAL⟩, hTW⟩, f, g, z, sp, rf, rc, hAf, hAg, hAz, hAsp, hArf, hArc, hP, hDb⟩ := id hCP
  have hl : lv_has ls 2 [(0, .ref y0), (1, .int (iI (x)))] := hl
  have hin : ∀ w ∈ u_ws RX1 TX1 10, w ∈ wsX1_known := by decide +kernel
  have q_isIn := hts (.fieldLink RX1 16 "ShelfMarksModel" "isIn" "[Z") (by decide +kernel)
  have q_came := hts (.fieldLink RX1 33 "ShelfMarksModel" "came" "I") (by decide +kernel)
  have hz9 : r = 0 ∨ r = 1 := by rw [hr9]; unfold kn; split <;> omega
  have hcm := hMI.1
  refine lv_iload_n hx hb dX1_known_0 rfl (lv_at hl 1 rfl) ?_
  refine pv_if_lt (tgt := 25) hx hb dX1_known_1 (by decide) (by omega) (fun c_1 => ?_) (fun c_1 => ?_)
  · -- 1t
    refine pv_iconst hx hb dX1_known_25 ?_
    exact pu_zret hx hb hr hlocks dX1_known_26 (by rw [hr9]; unfold kn; split <;> omega) hz9
  · -- 1f
    refine lv_iload_n hx hb dX1_known_4 rfl (lv_at hl 1 rfl) ?_
    refine lv_aload_n hx hb dX1_known_5 rfl (lv_at hl 0 rfl) ?_
    refine va_get (D := D) (ci := 1) (v := .int (iI (came))) (C := RX1) (T := TX1) (N := 10) hx hb hts hin hown hK hP 0 rfl rfl 4 (by decide) q_came (fun _ h9 => h9) rfl dX1_known_6 ?_
    refine pv_icmp_ge (tgt := 25) hx hb dX1_known_9 (by decide) (by omega) (fun c_9 => ?_) (fun c_9 => ?_)
    · -- 9t
      refine pv_iconst hx hb dX1_known_25 ?_
      exact pu_zret hx hb hr hlocks dX1_known_26 (by rw [hr9]; unfold kn; split <;> omega) hz9
    · -- 9f
      refine lv_aload_n hx hb dX1_known_12 rfl (lv_at hl 0 rfl) ?_
      refine va_get (D := D) (ci := 1) (v := .ref y3) (C := RX1) (T := TX1) (N := 10) hx hb hts hin hown hK hP 0 rfl rfl 3 (by decide) q_isIn (fun _ h9 => h9) rfl dX1_known_13 ?_
      refine lv_iload_n hx hb dX1_known_16 rfl (lv_at hl 1 rfl) ?_
      refine pv_zald (i := x) (v := ZN (x)) hx hb hK hP 3 1 rfl rfl (by omega) (by decide) (hAz _ (by omega) (by omega)) dX1_known_17 ?_
      have hzx := hMI.2.1 x (by omega) (by omega)
      refine pv_if_eq (tgt := 25) hx hb dX1_known_18 (by decide) (by omega) (fun c_18 => ?_) (fun c_18 => ?_)
      · -- 18t
        refine pv_iconst hx hb dX1_known_25 ?_
        exact pu_zret hx hb hr hlocks dX1_known_26 (by rw [hr9]; unfold kn; split <;> omega) hz9
      · -- 18f
        refine pv_iconst hx hb dX1_known_21 ?_
        refine lv_goto (tgt := 26) hx hb dX1_known_22 (by decide) ?_
        exact pu_zret hx hb hr hlocks dX1_known_26 (by rw [hr9]; unfold kn; split <;> omega) hz9
set_option maxHeartbeats 4000000 in
set_option maxRecDepth 100000 in
theorem c_M_place (l : Launch) (D : va_G) (cI cZ : ClassId) (base st : Nat) (Z : Nat → Nat) (y0 y1 y2 y3 y6 y7 y8 : Nat) {n came MV th : Int} {F G ZN SP RF RC : Int → Int} (hn : 0 ≤ n ∧ n ≤ 60) (hF : ∀ k : Int, 0 ≤ k → k < n → 0 ≤ F k ∧ F k < 200) (x : Int) (hxr : (-2147483648 ≤ x ∧ x ≤ 2147483647)) (rp : Int) (hrp : PL F n x rp) (h0 : 0 ≤ rp) : pu_M l yX1_place wsX1_place ({ frames := 0, cells := 0, slots := 0, locals := 0 } : Room) [.ref y0, .int (iI (x))] (MP D cI cZ base st Z y0 y1 y2 y3 y6 y7 y8 n came MV th F G ZN SP RF RC) (rp) := by
  refine pu_of (cc := cX1_place) (maxL := 3) (ret := (some .int)) (own := RX1) (by decide) rfl rfl (Nat.le_of_ble_eq_true rfl) ?_
  intro p e s m below meth c ls B hCP hl
  obtain ⟨hx, hb, hml, hr, hts, hown, hlocks⟩ := B
  obtain ⟨⟨hK, hZL, ⟨hstb, xs, hXL, hAL⟩, hTW⟩, f, g, z, sp, rf, rc, hAf, hAg, hAz, hAsp, hArf, hArc, hP, hDb⟩ := id hCP
  have hl : lv_has ls 3 [(0, .ref y0), (1, .int (iI (x)))] := hl
  have hin : ∀ w ∈ u_ws RX1 TX1 10, w ∈ wsX1_place := by decide +kernel
  have q_order := hts (.fieldLink RX1 7 "ShelfMarksModel" "order" "[I") (by decide +kernel)
  obtain ⟨hx1, hx2, hx3, hx4⟩ : 0 ≤ rp ∧ rp < n ∧ F rp = x ∧ ∀ k : Int, 0 ≤ k → k < rp → F k ≠ x := by rcases hrp with ⟨e, -⟩ | h; omega; exact h
  refine pv_iconst hx hb dX1_place_0 ?_
  refine lv_istore_n (lv' := [(2, .int (iI (0))), (0, .ref y0), (1, .int (iI (x)))]) hx hb dX1_place_1 rfl hl (by decide) rfl (fun ls hl => ?_)
  have hloop2 : ∀ (fuel : Nat) (k : Int) (ls : Array Slot), (rp - k) < fuel → (0 ≤ k ∧ k ≤ rp) → lv_has ls 3 [(0, .ref y0), (1, .int (iI (x))), (2, .int (iI (k)))] → W p l e ({ frames := 0, cells := 0, slots := 0, locals := 0 } : Room) s m ([.ref y0, .int (iI (x))] : List Value).toArray below meth c s.heap [] 0 0 (MQ below (pu_Q (rp)) ([.ref y0, .int (iI (x))] : List Value).toArray s 0 0 (fun _ => False)) (F0 m 2 ls []) := by
    intro fuel
    induction fuel with
    | zero => intro k ls hfu hk hl; exfalso; omega
    | succ fuel ih =>
      intro k ls hfu hk hl
      refine lv_aload_n hx hb dX1_place_2 rfl (lv_at hl 0 rfl) ?_
      refine va_get (D := D) (ci := 1) (v := .ref y1) (C := RX1) (T := TX1) (N := 10) hx hb hts hin hown hK hP 0 rfl rfl 0 (by decide) q_order (fun _ h9 => h9) rfl dX1_place_3 ?_
      refine lv_iload_n hx hb dX1_place_6 rfl (lv_at hl 2 rfl) ?_
      refine pv_iald (i := k) (v := F (k)) hx hb hK hP 1 0 rfl rfl (by omega) (by decide) (hAf _ (by omega) (by omega)) dX1_place_7 ?_
      have hfk := hF k (by omega) (by omega)
      refine lv_iload_n hx hb dX1_place_8 rfl (lv_at hl 1 rfl) ?_
      refine pv_icmp_eq (tgt := 18) hx hb dX1_place_9 (by decide) (by omega) (fun c_9 => ?_) (fun c_9 => ?_)
      · -- 9t
        refine lv_iload_n hx hb dX1_place_18 rfl (lv_at hl 2 rfl) ?_
        exact pu_iret hx hb hr hlocks dX1_place_19 (by rcases (show k < rp ∨ k = rp by omega) with z | z; exact absurd c_9 (hx4 k (by omega) z); exact z)
      · -- 9f
        have hkne : k ≠ rp := fun z => c_9 (by rw [z]; exact hx3)
        refine pv_iinc (lv' := [(2, .int (iI (k + 1))), (0, .ref y0), (1, .int (iI (x)))]) hx hb dX1_place_12 hl (k := 2) rfl (by decide) rfl (fun ls hl => ?_)
        refine lv_goto (tgt := 2) hx hb dX1_place_15 (by decide) ?_
        exact ih (k + 1) ls (by omega) (by omega) (lv_sub hl [1, 2, 0] rfl)
  exact hloop2 ((rp : Int).toNat + 1) (0) ls (by omega) (by omega) (lv_sub hl [1, 2, 0] rfl)
set_option maxHeartbeats 4000000 in
set_option maxRecDepth 100000 in
theorem c_M_between (l : Launch) (D : va_G) (cI cZ : ClassId) (base st : Nat) (Z : Nat → Nat) (y0 y1 y2 y3 y6 y7 y8 : Nat) {n came MV th : Int} {F G ZN SP RF RC : Int → Int} (hn : 0 ≤ n ∧ n ≤ 60) (hF : ∀ k : Int, 0 ≤ k → k < n → 0 ≤ F k ∧ F k < 200) (Gp : Int → Int) (hGM : ∀ k : Int, 0 ≤ k → k < n → G (F k) = Gp k) (hG : ∀ k : Int, 0 ≤ k → k < n → 0 ≤ Gp k ∧ Gp k ≤ 255) (a b : Int) (har : (-2147483648 ≤ a ∧ a ≤ 2147483647)) (hbr : (-2147483648 ≤ b ∧ b ≤ 2147483647)) (r : Int) (hr9 : r = cn (fun k => decide (a ≤ Gp k ∧ Gp k < b)) n.toNat) : pu_M l yX1_between wsX1_between ({ frames := 0, cells := 0, slots := 0, locals := 0 } : Room) [.ref y0, .int (iI (a)), .int (iI (b))] (MP D cI cZ base st Z y0 y1 y2 y3 y6 y7 y8 n came MV th F G ZN SP RF RC) (r) := by
  refine pu_of (cc := cX1_between) (maxL := 5) (ret := (some .int)) (own := RX1) (by decide) rfl rfl (Nat.le_of_ble_eq_true rfl) ?_
  intro p e s m below meth c ls B hCP hl
  obtain ⟨hx, hb, hml, hr, hts, hown, hlocks⟩ := B
  obtain ⟨⟨hK, hZL, ⟨hstb, xs, hXL, hAL⟩, hTW⟩, f, g, z, sp, rf, rc, hAf, hAg, hAz, hAsp, hArf, hArc, hP, hDb⟩ := id hCP
  have hl : lv_has ls 5 [(0, .ref y0), (1, .int (iI (a))), (2, .int (iI (b)))] := hl
  have hin : ∀ w ∈ u_ws RX1 TX1 10, w ∈ wsX1_between := by decide +kernel
  have q_order := hts (.fieldLink RX1 7 "ShelfMarksModel" "order" "[I") (by decide +kernel)
  have q_marks := hts (.fieldLink RX1 13 "ShelfMarksModel" "marks" "[I") (by decide +kernel)
  have q_size := hts (.fieldLink RX1 36 "ShelfMarksModel" "size" "I") (by decide +kernel)
  refine pv_iconst hx hb dX1_between_0 ?_
  refine lv_istore_n (lv' := [(3, .int (iI (0))), (0, .ref y0), (1, .int (iI (a))), (2, .int (iI (b)))]) hx hb dX1_between_1 rfl hl (by decide) rfl (fun ls hl => ?_)
  refine pv_iconst hx hb dX1_between_2 ?_
  refine lv_istore (lv' := [(4, .int (iI (0))), (3, .int (iI (0))), (0, .ref y0), (1, .int (iI (a))), (2, .int (iI (b)))]) hx hb dX1_between_3 hl (by decide) rfl (fun ls hl => ?_)
  have hloop5 : ∀ (fuel : Nat) (fd : Int) (k : Int) (ls : Array Slot), (n - k) < fuel → (0 ≤ k ∧ k ≤ n) → (fd = cn (fun k => decide (a ≤ Gp k ∧ Gp k < b)) k.toNat) → lv_has ls 5 [(0, .ref y0), (1, .int (iI (a))), (2, .int (iI (b))), (3, .int (iI (fd))), (4, .int (iI (k)))] → W p l e ({ frames := 0, cells := 0, slots := 0, locals := 0 } : Room) s m ([.ref y0, .int (iI (a)), .int (iI (b))] : List Value).toArray below meth c s.heap [] 0 0 (MQ below (pu_Q (r)) ([.ref y0, .int (iI (a)), .int (iI (b))] : List Value).toArray s 0 0 (fun _ => False)) (F0 m 5 ls []) := by
    intro fuel
    induction fuel with
    | zero => intro fd k ls hfu hk hfd hl; exfalso; omega
    | succ fuel ih =>
      intro fd k ls hfu hk hfd hl
      refine lv_iload hx hb dX1_between_5 (lv_at hl 4 rfl) ?_
      refine lv_aload_n hx hb dX1_between_7 rfl (lv_at hl 0 rfl) ?_
      refine va_get (D := D) (ci := 1) (v := .int (iI (n))) (C := RX1) (T := TX1) (N := 10) hx hb hts hin hown hK hP 0 rfl rfl 1 (by decide) q_size (fun _ h9 => h9) rfl dX1_between_8 ?_
      refine pv_icmp_ge (tgt := 60) hx hb dX1_between_11 (by decide) (by omega) (fun c_11 => ?_) (fun c_11 => ?_)
      · -- 11t
        refine lv_iload_n hx hb dX1_between_60 rfl (lv_at hl 3 rfl) ?_
        exact pu_iret hx hb hr hlocks dX1_between_61 (by rw [hr9, hfd, show k.toNat = n.toNat by omega])
      · -- 11f
        refine lv_iload_n hx hb dX1_between_14 rfl (lv_at hl 3 rfl) ?_
        refine lv_aload_n hx hb dX1_between_15 rfl (lv_at hl 0 rfl) ?_
        refine va_get (D := D) (ci := 1) (v := .ref y2) (C := RX1) (T := TX1) (N := 10) hx hb hts hin hown hK hP 0 rfl rfl 2 (by decide) q_marks (fun _ h9 => h9) rfl dX1_between_16 ?_
        refine lv_aload_n hx hb dX1_between_19 rfl (lv_at hl 0 rfl) ?_
        refine va_get (D := D) (ci := 1) (v := .ref y1) (C := RX1) (T := TX1) (N := 10) hx hb hts hin hown hK hP 0 rfl rfl 0 (by decide) q_order (fun _ h9 => h9) rfl dX1_between_20 ?_
        refine lv_iload hx hb dX1_between_23 (lv_at hl 4 rfl) ?_
        refine pv_iald (i := k) (v := F (k)) hx hb hK hP 1 0 rfl rfl (by omega) (by decide) (hAf _ (by omega) (by omega)) dX1_between_25 ?_
        have hfk := hF k (by omega) (by omega)
        refine pv_iald (i := F (k)) (v := Gp (k)) hx hb hK hP 2 0 rfl rfl (by omega) (by decide) ((hAg _ (by omega) (by omega)).trans (congrArg iI (hGM _ (by omega) (by omega)))) dX1_between_26 ?_
        have hgk := hG k (by omega) (by omega)
        refine lv_iload_n hx hb dX1_between_27 rfl (lv_at hl 1 rfl) ?_
        refine pv_icmp_lt (tgt := 51) hx hb dX1_between_28 (by decide) (by omega) (fun c_28 => ?_) (fun c_28 => ?_)
        · -- 28t
          refine pv_iconst hx hb dX1_between_51 ?_
          refine pv_iadd hx hb dX1_between_52 ?_
          refine lv_istore_n (lv' := [(3, .int (iI ((fd) + (0)))), (0, .ref y0), (1, .int (iI (a))), (2, .int (iI (b))), (4, .int (iI (k)))]) hx hb dX1_between_53 rfl hl (by decide) rfl (fun ls hl => ?_)
          refine pv_iinc (lv' := [(4, .int (iI (k + 1))), (3, .int (iI ((fd) + (0)))), (0, .ref y0), (1, .int (iI (a))), (2, .int (iI (b)))]) hx hb dX1_between_54 hl (k := 4) rfl (by decide) rfl (fun ls hl => ?_)
          refine lv_goto (tgt := 5) hx hb dX1_between_57 (by decide) ?_
          exact ih ((fd) + (0)) (k + 1) ls (by omega) (by omega) (by rw [Int.add_zero, hfd]; exact (cn_f _ (by omega) (decide_eq_false (fun z => by omega))).symm) (lv_sub hl [2, 3, 4, 1, 0] rfl)
        · -- 28f
          refine lv_aload_n hx hb dX1_between_31 rfl (lv_at hl 0 rfl) ?_
          refine va_get (D := D) (ci := 1) (v := .ref y2) (C := RX1) (T := TX1) (N := 10) hx hb hts hin hown hK hP 0 rfl rfl 2 (by decide) q_marks (fun _ h9 => h9) rfl dX1_between_32 ?_
          refine lv_aload_n hx hb dX1_between_35 rfl (lv_at hl 0 rfl) ?_
          refine va_get (D := D) (ci := 1) (v := .ref y1) (C := RX1) (T := TX1) (N := 10) hx hb hts hin hown hK hP 0 rfl rfl 0 (by decide) q_order (fun _ h9 => h9) rfl dX1_between_36 ?_
          refine lv_iload hx hb dX1_between_39 (lv_at hl 4 rfl) ?_
          refine pv_iald (i := k) (v := F (k)) hx hb hK hP 1 0 rfl rfl (by omega) (by decide) (hAf _ (by omega) (by omega)) dX1_between_41 ?_
          refine pv_iald (i := F (k)) (v := Gp (k)) hx hb hK hP 2 0 rfl rfl (by omega) (by decide) ((hAg _ (by omega) (by omega)).trans (congrArg iI (hGM _ (by omega) (by omega)))) dX1_between_42 ?_
          refine lv_iload_n hx hb dX1_between_43 rfl (lv_at hl 2 rfl) ?_
          refine pv_icmp_ge (tgt := 51) hx hb dX1_between_44 (by decide) (by omega) (fun c_44 => ?_) (fun c_44 => ?_)
          · -- 44t
            refine pv_iconst hx hb dX1_between_51 ?_
            refine pv_iadd hx hb dX1_between_52 ?_
            refine lv_istore_n (lv' := [(3, .int (iI ((fd) + (0)))), (0, .ref y0), (1, .int (iI (a))), (2, .int (iI (b))), (4, .int (iI (k)))]) hx hb dX1_between_53 rfl hl (by decide) rfl (fun ls hl => ?_)
            refine pv_iinc (lv' := [(4, .int (iI (k + 1))), (3, .int (iI ((fd) + (0)))), (0, .ref y0), (1, .int (iI (a))), (2, .int (iI (b)))]) hx hb dX1_between_54 hl (k := 4) rfl (by decide) rfl (fun ls hl => ?_)
            refine lv_goto (tgt := 5) hx hb dX1_between_57 (by decide) ?_
            exact ih ((fd) + (0)) (k + 1) ls (by omega) (by omega) (by rw [Int.add_zero, hfd]; exact (cn_f _ (by omega) (decide_eq_false (fun z => by omega))).symm) (lv_sub hl [2, 3, 4, 1, 0] rfl)
          · -- 44f
            refine pv_iconst hx hb dX1_between_47 ?_
            refine lv_goto (tgt := 52) hx hb dX1_between_48 (by decide) ?_
            refine pv_iadd hx hb dX1_between_52 ?_
            refine lv_istore_n (lv' := [(3, .int (iI ((fd) + (1)))), (0, .ref y0), (1, .int (iI (a))), (2, .int (iI (b))), (4, .int (iI (k)))]) hx hb dX1_between_53 rfl hl (by decide) rfl (fun ls hl => ?_)
            refine pv_iinc (lv' := [(4, .int (iI (k + 1))), (3, .int (iI ((fd) + (1)))), (0, .ref y0), (1, .int (iI (a))), (2, .int (iI (b)))]) hx hb dX1_between_54 hl (k := 4) rfl (by decide) rfl (fun ls hl => ?_)
            refine lv_goto (tgt := 5) hx hb dX1_between_57 (by decide) ?_
            exact ih ((fd) + (1)) (k + 1) ls (by omega) (by omega) (by rw [hfd]; exact (cn_t _ (by omega) (decide_eq_true ⟨by omega, by omega⟩)).symm) (lv_sub hl [2, 3, 4, 1, 0] rfl)
  exact hloop5 ((n : Int).toNat + 1) (0) (0) ls (by omega) (by omega) (rfl) (lv_sub hl [2, 3, 4, 1, 0] rfl)
set_option maxHeartbeats 4000000 in
set_option maxRecDepth 100000 in
theorem c_M_loadOf (l : Launch) (D : va_G) (cI cZ : ClassId) (base st : Nat) (Z : Nat → Nat) (y0 y1 y2 y3 y6 y7 y8 : Nat) {n came MV th : Int} {F G ZN SP RF RC : Int → Int} (hn : 0 ≤ n ∧ n ≤ 60) (hF : ∀ k : Int, 0 ≤ k → k < n → 0 ≤ F k ∧ F k < 200) (Gp : Int → Int) (hGM : ∀ k : Int, 0 ≤ k → k < n → G (F k) = Gp k) (hG : ∀ k : Int, 0 ≤ k → k < n → 0 ≤ Gp k ∧ Gp k ≤ 255) (hs : SD Gp n) (lv sh : Int) (hlv : 0 ≤ lv ∧ lv ≤ 8) (hsh : 0 ≤ sh) (hb9 : sh * 2 ^ lv.toNat ≤ 65536 ∧ (sh + 1) * 2 ^ lv.toNat ≤ 65536 ∧ 0 ≤ sh * 2 ^ lv.toNat ∧ 0 ≤ (sh + 1) * 2 ^ lv.toNat) : pu_M l yX1_loadOf wsX1_loadOf ({ frames := 1, cells := 0, slots := 0, locals := 24 } : Room) [.ref y0, .int (iI (lv)), .int (iI (sh))] (MP D cI cZ base st Z y0 y1 y2 y3 y6 y7 y8 n came MV th F G ZN SP RF RC) (ldn Gp n lv sh) := by
  refine pu_of (cc := cX1_loadOf) (maxL := 3) (ret := (some .int)) (own := RX1) (by decide) rfl rfl (Nat.le_of_ble_eq_true rfl) ?_
  intro p e s m below meth c ls B hCP hl
  obtain ⟨hx, hb, hml, hr, hts, hown, hlocks⟩ := B
  obtain ⟨⟨hK, hZL, ⟨hstb, xs, hXL, hAL⟩, hTW⟩, f, g, z, sp, rf, rc, hAf, hAg, hAz, hAsp, hArf, hArc, hP, hDb⟩ := id hCP
  have hl : lv_has ls 3 [(0, .ref y0), (1, .int (iI (lv))), (2, .int (iI (sh)))] := hl
  refine lv_aload_n hx hb dX1_loadOf_0 rfl (lv_at hl 0 rfl) ?_
  refine lv_iload_n hx hb dX1_loadOf_1 rfl (lv_at hl 2 rfl) ?_
  refine lv_iload_n hx hb dX1_loadOf_2 rfl (lv_at hl 1 rfl) ?_
  refine pv_ishl hx hb dX1_loadOf_3 hsh (by omega) (by omega) ?_
  refine lv_iload_n hx hb dX1_loadOf_4 rfl (lv_at hl 2 rfl) ?_
  refine pv_iconst hx hb dX1_loadOf_5 ?_
  refine pv_iadd hx hb dX1_loadOf_6 ?_
  refine lv_iload_n hx hb dX1_loadOf_7 rfl (lv_at hl 1 rfl) ?_
  refine pv_ishl hx hb dX1_loadOf_8 (by omega) (by omega) (by omega) ?_
  have hmm : sh * 2 ^ lv.toNat ≤ (sh + 1) * 2 ^ lv.toNat := Int.mul_le_mul_of_nonneg_right (by omega) (by have := p2_rg hlv; omega)
  refine pu_callV (v := ldn Gp n lv sh) (As := [.int (iI ((sh) * 2 ^ (lv : Int).toNat)), .int (iI (((sh) + (1)) * 2 ^ (lv : Int).toNat))]) (rest := []) MP_mv ⟨hx, hb, hml, hown, hts⟩ (c_M_between l D cI cZ base st Z y0 y1 y2 y3 y6 y7 y8 hn hF Gp hGM hG _ _ (by omega) (by omega) _ (by unfold ldn; exact (bt_mb Gp n _ _ hmm).symm)) (cwV 2 hts gX1_loadOf_X1_between rfl rfl rfl (by decide +kernel) ⟨(Nat.le_of_ble_eq_true rfl), (Nat.le_of_ble_eq_true rfl)⟩) hCP (MP_rc hCP) rfl rfl hl.1 (Nat.le_of_ble_eq_true rfl) dX1_loadOf_9 ⟨Nat.zero_le _, Nat.zero_le _⟩ ?_
  exact pu_iret hx hb hr hlocks dX1_loadOf_12 (by rfl)
set_option maxHeartbeats 4000000 in
set_option maxRecDepth 100000 in
theorem c_M_markAhead (l : Launch) (D : va_G) (cI cZ : ClassId) (base st : Nat) (Z : Nat → Nat) (y0 y1 y2 y3 y6 y7 y8 : Nat) {n came MV th : Int} {F G ZN SP RF RC : Int → Int} (hn : 0 ≤ n ∧ n ≤ 60) (hF : ∀ k : Int, 0 ≤ k → k < n → 0 ≤ F k ∧ F k < 200) (Gp : Int → Int) (hGM : ∀ k : Int, 0 ≤ k → k < n → G (F k) = Gp k) (q : Int) (hq : 0 ≤ q ∧ q ≤ n) (r : Int) (hr9 : r = ma Gp n (q - 1)) : pu_M l yX1_markAhead wsX1_markAhead ({ frames := 0, cells := 0, slots := 0, locals := 0 } : Room) [.ref y0, .int (iI (q))] (MP D cI cZ base st Z y0 y1 y2 y3 y6 y7 y8 n came MV th F G ZN SP RF RC) (r) := by
  refine pu_of (cc := cX1_markAhead) (maxL := 2) (ret := (some .int)) (own := RX1) (by decide) rfl rfl (Nat.le_of_ble_eq_true rfl) ?_
  intro p e s m below meth c ls B hCP hl
  obtain ⟨hx, hb, hml, hr, hts, hown, hlocks⟩ := B
  obtain ⟨⟨hK, hZL, ⟨hstb, xs, hXL, hAL⟩, hTW⟩, f, g, z, sp, rf, rc, hAf, hAg, hAz, hAsp, hArf, hArc, hP, hDb⟩ := id hCP
  have hl : lv_has ls 2 [(0, .ref y0), (1, .int (iI (q)))] := hl
  have hin : ∀ w ∈ u_ws RX1 TX1 10, w ∈ wsX1_markAhead := by decide +kernel
  have q_order := hts (.fieldLink RX1 7 "ShelfMarksModel" "order" "[I") (by decide +kernel)
  have q_marks := hts (.fieldLink RX1 13 "ShelfMarksModel" "marks" "[I") (by decide +kernel)
  refine lv_iload_n hx hb dX1_markAhead_0 rfl (lv_at hl 1 rfl) ?_
  refine pv_if_ne (tgt := 8) hx hb dX1_markAhead_1 (by decide) (by omega) (fun c_1 => ?_) (fun c_1 => ?_)
  · -- 1t
    refine lv_aload_n hx hb dX1_markAhead_8 rfl (lv_at hl 0 rfl) ?_
    refine va_get (D := D) (ci := 1) (v := .ref y2) (C := RX1) (T := TX1) (N := 10) hx hb hts hin hown hK hP 0 rfl rfl 2 (by decide) q_marks (fun _ h9 => h9) rfl dX1_markAhead_9 ?_
    refine lv_aload_n hx hb dX1_markAhead_12 rfl (lv_at hl 0 rfl) ?_
    refine va_get (D := D) (ci := 1) (v := .ref y1) (C := RX1) (T := TX1) (N := 10) hx hb hts hin hown hK hP 0 rfl rfl 0 (by decide) q_order (fun _ h9 => h9) rfl dX1_markAhead_13 ?_
    refine lv_iload_n hx hb dX1_markAhead_16 rfl (lv_at hl 1 rfl) ?_
    refine pv_iconst hx hb dX1_markAhead_17 ?_
    refine pv_isub hx hb dX1_markAhead_18 ?_
    refine pv_iald (i := (q) - (1)) (v := F ((q) - (1))) hx hb hK hP 1 0 rfl rfl (by omega) (by decide) (hAf _ (by omega) (by omega)) dX1_markAhead_19 ?_
    have hfk := hF (q - 1) (by omega) (by omega)
    refine pv_iald (i := F ((q) - (1))) (v := Gp (q - 1)) hx hb hK hP 2 0 rfl rfl (by omega) (by decide) ((hAg _ (by omega) (by omega)).trans (congrArg iI (hGM _ (by omega) (by omega)))) dX1_markAhead_20 ?_
    exact pu_iret hx hb hr hlocks dX1_markAhead_21 (by rw [hr9]; exact ma_in (by omega))
  · -- 1f
    refine pv_iconst hx hb dX1_markAhead_4 ?_
    refine lv_goto (tgt := 21) hx hb dX1_markAhead_5 (by decide) ?_
    exact pu_iret hx hb hr hlocks dX1_markAhead_21 (by rw [hr9]; unfold ma; rw [if_pos (by omega)])
set_option maxHeartbeats 4000000 in
set_option maxRecDepth 100000 in
theorem c_M_markBehind (l : Launch) (D : va_G) (cI cZ : ClassId) (base st : Nat) (Z : Nat → Nat) (y0 y1 y2 y3 y6 y7 y8 : Nat) {n came MV th : Int} {F G ZN SP RF RC : Int → Int} (hn : 0 ≤ n ∧ n ≤ 60) (hF : ∀ k : Int, 0 ≤ k → k < n → 0 ≤ F k ∧ F k < 200) (Gp : Int → Int) (hGM : ∀ k : Int, 0 ≤ k → k < n → G (F k) = Gp k) (q : Int) (hq : 0 ≤ q ∧ q ≤ n) (r : Int) (hr9 : r = ma Gp n q) : pu_M l yX1_markBehind wsX1_markBehind ({ frames := 0, cells := 0, slots := 0, locals := 0 } : Room) [.ref y0, .int (iI (q))] (MP D cI cZ base st Z y0 y1 y2 y3 y6 y7 y8 n came MV th F G ZN SP RF RC) (r) := by
  refine pu_of (cc := cX1_markBehind) (maxL := 2) (ret := (some .int)) (own := RX1) (by decide) rfl rfl (Nat.le_of_ble_eq_true rfl) ?_
  intro p e s m below meth c ls B hCP hl
  obtain ⟨hx, hb, hml, hr, hts, hown, hlocks⟩ := B
  obtain ⟨⟨hK, hZL, ⟨hstb, xs, hXL, hAL⟩, hTW⟩, f, g, z, sp, rf, rc, hAf, hAg, hAz, hAsp, hArf, hArc, hP, hDb⟩ := id hCP
  have hl : lv_has ls 2 [(0, .ref y0), (1, .int (iI (q)))] := hl
  have hin : ∀ w ∈ u_ws RX1 TX1 10, w ∈ wsX1_markBehind := by decide +kernel
  have q_order := hts (.fieldLink RX1 7 "ShelfMarksModel" "order" "[I") (by decide +kernel)
  have q_marks := hts (.fieldLink RX1 13 "ShelfMarksModel" "marks" "[I") (by decide +kernel)
  have q_size := hts (.fieldLink RX1 36 "ShelfMarksModel" "size" "I") (by decide +kernel)
  refine lv_iload_n hx hb dX1_markBehind_0 rfl (lv_at hl 1 rfl) ?_
  refine lv_aload_n hx hb dX1_markBehind_1 rfl (lv_at hl 0 rfl) ?_
  refine va_get (D := D) (ci := 1) (v := .int (iI (n))) (C := RX1) (T := TX1) (N := 10) hx hb hts hin hown hK hP 0 rfl rfl 1 (by decide) q_size (fun _ h9 => h9) rfl dX1_markBehind_2 ?_
  refine pv_icmp_ne (tgt := 14) hx hb dX1_markBehind_5 (by decide) (by omega) (fun c_5 => ?_) (fun c_5 => ?_)
  · -- 5t
    refine lv_aload_n hx hb dX1_markBehind_14 rfl (lv_at hl 0 rfl) ?_
    refine va_get (D := D) (ci := 1) (v := .ref y2) (C := RX1) (T := TX1) (N := 10) hx hb hts hin hown hK hP 0 rfl rfl 2 (by decide) q_marks (fun _ h9 => h9) rfl dX1_markBehind_15 ?_
    refine lv_aload_n hx hb dX1_markBehind_18 rfl (lv_at hl 0 rfl) ?_
    refine va_get (D := D) (ci := 1) (v := .ref y1) (C := RX1) (T := TX1) (N := 10) hx hb hts hin hown hK hP 0 rfl rfl 0 (by decide) q_order (fun _ h9 => h9) rfl dX1_markBehind_19 ?_
    refine lv_iload_n hx hb dX1_markBehind_22 rfl (lv_at hl 1 rfl) ?_
    refine pv_iald (i := q) (v := F (q)) hx hb hK hP 1 0 rfl rfl (by omega) (by decide) (hAf _ (by omega) (by omega)) dX1_markBehind_23 ?_
    have hfk := hF q (by omega) (by omega)
    refine pv_iald (i := F (q)) (v := Gp (q)) hx hb hK hP 2 0 rfl rfl (by omega) (by decide) ((hAg _ (by omega) (by omega)).trans (congrArg iI (hGM _ (by omega) (by omega)))) dX1_markBehind_24 ?_
    exact pu_iret hx hb hr hlocks dX1_markBehind_25 (by rw [hr9]; exact ma_in (by omega))
  · -- 5f
    refine pv_sipush hx hb dX1_markBehind_8 (by decide +kernel) ?_
    refine lv_goto (tgt := 25) hx hb dX1_markBehind_11 (by decide) ?_
    exact pu_iret hx hb hr hlocks dX1_markBehind_25 (by rw [hr9]; unfold ma; rw [if_neg (by omega), if_neg (by omega)])
set_option maxHeartbeats 4000000 in
set_option maxRecDepth 100000 in
theorem c_M_levelFor (l : Launch) (D : va_G) (cI cZ : ClassId) (base st : Nat) (Z : Nat → Nat) (y0 y1 y2 y3 y6 y7 y8 : Nat) {n came MV th : Int} {F G ZN SP RF RC : Int → Int} (hn : 0 ≤ n ∧ n ≤ 60) (hF : ∀ k : Int, 0 ≤ k → k < n → 0 ≤ F k ∧ F k < 200) (Gp : Int → Int) (hGM : ∀ k : Int, 0 ≤ k → k < n → G (F k) = Gp k) (hG : ∀ k : Int, 0 ≤ k → k < n → 0 ≤ Gp k ∧ Gp k ≤ 255) (hs : SD Gp n) (a0 : Int) (har : 0 ≤ a0 ∧ a0 ≤ 255) (r : Int) (hr9 : LV Gp n a0 r) : pu_M l yX1_levelFor wsX1_levelFor ({ frames := 2, cells := 0, slots := 0, locals := 46 } : Room) [.ref y0, .int (iI (a0))] (MP D cI cZ base st Z y0 y1 y2 y3 y6 y7 y8 n came MV th F G ZN SP RF RC) (r) := by
  refine pu_of (cc := cX1_levelFor) (maxL := 3) (ret := (some .int)) (own := RX1) (by decide) rfl rfl (Nat.le_of_ble_eq_true rfl) ?_
  intro p e s m below meth c ls B hCP hl
  obtain ⟨hx, hb, hml, hr, hts, hown, hlocks⟩ := B
  obtain ⟨⟨hK, hZL, ⟨hstb, xs, hXL, hAL⟩, hTW⟩, f, g, z, sp, rf, rc, hAf, hAg, hAz, hAsp, hArf, hArc, hP, hDb⟩ := id hCP
  have hl : lv_has ls 3 [(0, .ref y0), (1, .int (iI (a0)))] := hl
  refine pv_iconst hx hb dX1_levelFor_0 ?_
  refine lv_istore_n (lv' := [(2, .int (iI (1))), (0, .ref y0), (1, .int (iI (a0)))]) hx hb dX1_levelFor_1 rfl hl (by decide) rfl (fun ls hl => ?_)
  have hloop2 : ∀ (fuel : Nat) (j : Int) (ls : Array Slot), (8 - j) < fuel → (1 ≤ j ∧ j ≤ 8) → (∀ i : Int, 1 ≤ i → i < j → LM i ≤ ldn Gp n i (a0 / 2 ^ i.toNat)) → lv_has ls 3 [(0, .ref y0), (1, .int (iI (a0))), (2, .int (iI (j)))] → W p l e ({ frames := 2, cells := 0, slots := 0, locals := 46 } : Room) s m ([.ref y0, .int (iI (a0))] : List Value).toArray below meth c s.heap [] 0 0 (MQ below (pu_Q (r)) ([.ref y0, .int (iI (a0))] : List Value).toArray s 0 0 (fun _ => False)) (F0 m 2 ls []) := by
    intro fuel
    induction fuel with
    | zero => intro j ls hfu hj hld hl; exfalso; omega
    | succ fuel ih =>
      intro j ls hfu hj hld hl
      refine lv_aload_n hx hb dX1_levelFor_2 rfl (lv_at hl 0 rfl) ?_
      refine lv_iload_n hx hb dX1_levelFor_3 rfl (lv_at hl 2 rfl) ?_
      refine lv_iload_n hx hb dX1_levelFor_4 rfl (lv_at hl 1 rfl) ?_
      refine lv_iload_n hx hb dX1_levelFor_5 rfl (lv_at hl 2 rfl) ?_
      refine pv_ishr hx hb dX1_levelFor_6 (by omega) (by omega) ?_
      have hsb := sh_b (lv := j) har (by omega)
      have hld9 := ldn_rg (lv := j) (sh := a0 / 2 ^ j.toNat) hn hs (by omega)
      refine pu_callV (v := ldn Gp n j (a0 / 2 ^ j.toNat)) (As := [.int (iI (j)), .int (iI ((a0) / 2 ^ (j : Int).toNat))]) (rest := []) MP_mv ⟨hx, hb, hml, hown, hts⟩ (c_M_loadOf l D cI cZ base st Z y0 y1 y2 y3 y6 y7 y8 hn hF Gp hGM hG hs j _ (by omega) hsb.1 ⟨by omega, by omega, by omega, by omega⟩) (cwV 2 hts gX1_levelFor_X1_loadOf rfl rfl rfl (by decide +kernel) ⟨(Nat.le_of_ble_eq_true rfl), (Nat.le_of_ble_eq_true rfl)⟩) hCP (MP_rc hCP) rfl rfl hl.1 (Nat.le_of_ble_eq_true rfl) dX1_levelFor_7 ⟨Nat.zero_le _, Nat.zero_le _⟩ ?_
      refine lv_iload_n hx hb dX1_levelFor_10 rfl (lv_at hl 2 rfl) ?_
      refine pu_callS (v := LM j) (As := [.int (iI (j))]) (rest := [.int (iI (ldn Gp n j (a0 / 2 ^ j.toNat)))]) TP_mv ⟨hx, hb, hml, hown, hts⟩ (c_M_limit l j (by omega) _ rfl) (va_cwS 1 hts gX1_levelFor_X1_limit rfl rfl rfl (by decide +kernel) ⟨(Nat.le_of_ble_eq_true rfl), (Nat.le_of_ble_eq_true rfl)⟩) trivial rfl rfl hl.1 (Nat.le_of_ble_eq_true rfl) dX1_levelFor_11 ⟨Nat.zero_le _, Nat.zero_le _⟩ ?_
      have hlm := LM_rg j
      refine pv_icmp_lt (tgt := 23) hx hb dX1_levelFor_14 (by decide) (by omega) (fun c_14 => ?_) (fun c_14 => ?_)
      · -- 14t
        refine lv_iload_n hx hb dX1_levelFor_23 rfl (lv_at hl 2 rfl) ?_
        exact pu_iret hx hb hr hlocks dX1_levelFor_24 (by obtain ⟨h1, h2, h3⟩ := hr9; rcases (show r < j ∨ j < r ∨ j = r by omega) with h | h | h; have := hld r h1.1 h; have := h3 (by omega); omega; have := h2 j (by omega) h; omega; exact h)
      · -- 14f
        have hj8 : j ≠ 8 := fun z => by rw [z] at c_14 hld9; rw [LM8] at c_14; omega
        refine pv_iinc (lv' := [(2, .int (iI (j + 1))), (0, .ref y0), (1, .int (iI (a0)))]) hx hb dX1_levelFor_17 hl (k := 2) rfl (by decide) rfl (fun ls hl => ?_)
        refine lv_goto (tgt := 2) hx hb dX1_levelFor_20 (by decide) ?_
        exact ih (j + 1) ls (by omega) (by omega) (fun k h0 h1 => by rcases (show k < j ∨ k = j by omega) with h | h; exact hld k h0 h; rw [h]; exact c_14) (lv_sub hl [1, 2, 0] rfl)
  exact hloop2 ((8 : Int).toNat + 1) (1) ls (by omega) (by omega) (fun k h0 h1 => absurd h1 (by omega)) (lv_sub hl [1, 2, 0] rfl)
set_option maxHeartbeats 4000000 in
set_option maxRecDepth 100000 in
theorem c_M_isFull (l : Launch) (D : va_G) (cI cZ : ClassId) (base st : Nat) (Z : Nat → Nat) (y0 y1 y2 y3 y6 y7 y8 : Nat) {n came MV th : Int} {F G ZN SP RF RC : Int → Int} (hn : 0 ≤ n ∧ n ≤ 60) (hcm : 0 ≤ came ∧ came ≤ 200) (r : Int) (hr9 : r = if came = 200 ∨ n = 60 then 1 else 0) : pu_M l yX1_isFull wsX1_isFull ({ frames := 0, cells := 0, slots := 0, locals := 0 } : Room) [.ref y0] (MP D cI cZ base st Z y0 y1 y2 y3 y6 y7 y8 n came MV th F G ZN SP RF RC) (r) := by
  refine pu_of (cc := cX1_isFull) (maxL := 1) (ret := (some .boolean)) (own := RX1) (by decide) rfl rfl (Nat.le_of_ble_eq_true rfl) ?_
  intro p e s m below meth c ls B hCP hl
  obtain ⟨hx, hb, hml, hr, hts, hown, hlocks⟩ := B
  obtain ⟨⟨hK, hZL, ⟨hstb, xs, hXL, hAL⟩, hTW⟩, f, g, z, sp, rf, rc, hAf, hAg, hAz, hAsp, hArf, hArc, hP, hDb⟩ := id hCP
  have hl : lv_has ls 1 [(0, .ref y0)] := hl
  have hin : ∀ w ∈ u_ws RX1 TX1 10, w ∈ wsX1_isFull := by decide +kernel
  have q_came := hts (.fieldLink RX1 33 "ShelfMarksModel" "came" "I") (by decide +kernel)
  have q_size := hts (.fieldLink RX1 36 "ShelfMarksModel" "size" "I") (by decide +kernel)
  have hz9 : r = 0 ∨ r = 1 := by rw [hr9]; split <;> omega
  refine lv_aload_n hx hb dX1_isFull_0 rfl (lv_at hl 0 rfl) ?_
  refine va_get (D := D) (ci := 1) (v := .int (iI (came))) (C := RX1) (T := TX1) (N := 10) hx hb hts hin hown hK hP 0 rfl rfl 4 (by decide) q_came (fun _ h9 => h9) rfl dX1_isFull_1 ?_
  refine pv_sipush hx hb dX1_isFull_4 (by decide +kernel) ?_
  refine pv_icmp_eq (tgt := 19) hx hb dX1_isFull_7 (by decide) (by omega) (fun c_7 => ?_) (fun c_7 => ?_)
  · -- 7t
    refine pv_iconst hx hb dX1_isFull_19 ?_
    refine lv_goto (tgt := 24) hx hb dX1_isFull_20 (by decide) ?_
    exact pu_zret hx hb hr hlocks dX1_isFull_24 (by rw [hr9]; split <;> omega) hz9
  · -- 7f
    refine lv_aload_n hx hb dX1_isFull_10 rfl (lv_at hl 0 rfl) ?_
    refine va_get (D := D) (ci := 1) (v := .int (iI (n))) (C := RX1) (T := TX1) (N := 10) hx hb hts hin hown hK hP 0 rfl rfl 1 (by decide) q_size (fun _ h9 => h9) rfl dX1_isFull_11 ?_
    refine pv_bipush hx hb dX1_isFull_14 (by decide +kernel) ?_
    refine pv_icmp_ne (tgt := 23) hx hb dX1_isFull_16 (by decide) (by omega) (fun c_16 => ?_) (fun c_16 => ?_)
    · -- 16t
      refine pv_iconst hx hb dX1_isFull_23 ?_
      exact pu_zret hx hb hr hlocks dX1_isFull_24 (by rw [hr9]; split <;> omega) hz9
    · -- 16f
      refine pv_iconst hx hb dX1_isFull_19 ?_
      refine lv_goto (tgt := 24) hx hb dX1_isFull_20 (by decide) ?_
      exact pu_zret hx hb hr hlocks dX1_isFull_24 (by rw [hr9]; split <;> omega) hz9
set_option maxHeartbeats 4000000 in
set_option maxRecDepth 100000 in
theorem c_M_behind (l : Launch) (D : va_G) (cI cZ : ClassId) (base st : Nat) (Z : Nat → Nat) (y0 y1 y2 y3 y6 y7 y8 : Nat) {n came MV th : Int} {F G ZN SP RF RC : Int → Int} (hn : 0 ≤ n ∧ n ≤ 60) (hF : ∀ k : Int, 0 ≤ k → k < n → 0 ≤ F k ∧ F k < 200) (x : Int) (hxr : (-2147483648 ≤ x ∧ x ≤ 2147483647)) (rp : Int) (hrp : PL F n x rp) (h0 : 0 ≤ rp) (r : Int) (hr9 : r = fa F n (rp + 1)) : pu_M l yX1_behind wsX1_behind ({ frames := 1, cells := 0, slots := 0, locals := 22 } : Room) [.ref y0, .int (iI (x))] (MP D cI cZ base st Z y0 y1 y2 y3 y6 y7 y8 n came MV th F G ZN SP RF RC) (r) := by
  refine pu_of (cc := cX1_behind) (maxL := 3) (ret := (some .int)) (own := RX1) (by decide) rfl rfl (Nat.le_of_ble_eq_true rfl) ?_
  intro p e s m below meth c ls B hCP hl
  obtain ⟨hx, hb, hml, hr, hts, hown, hlocks⟩ := B
  obtain ⟨⟨hK, hZL, ⟨hstb, xs, hXL, hAL⟩, hTW⟩, f, g, z, sp, rf, rc, hAf, hAg, hAz, hAsp, hArf, hArc, hP, hDb⟩ := id hCP
  have hl : lv_has ls 3 [(0, .ref y0), (1, .int (iI (x)))] := hl
  have hin : ∀ w ∈ u_ws RX1 TX1 10, w ∈ wsX1_behind := by decide +kernel
  have q_order := hts (.fieldLink RX1 7 "ShelfMarksModel" "order" "[I") (by decide +kernel)
  have q_size := hts (.fieldLink RX1 36 "ShelfMarksModel" "size" "I") (by decide +kernel)
  obtain ⟨hx1, hx2, hx3, hx4⟩ : 0 ≤ rp ∧ rp < n ∧ F rp = x ∧ ∀ k : Int, 0 ≤ k → k < rp → F k ≠ x := by rcases hrp with ⟨e, -⟩ | h; omega; exact h
  refine lv_aload_n hx hb dX1_behind_0 rfl (lv_at hl 0 rfl) ?_
  refine lv_iload_n hx hb dX1_behind_1 rfl (lv_at hl 1 rfl) ?_
  refine pu_callV (v := rp) (As := [.int (iI (x))]) (rest := []) MP_mv ⟨hx, hb, hml, hown, hts⟩ (c_M_place l D cI cZ base st Z y0 y1 y2 y3 y6 y7 y8 hn hF x hxr rp hrp h0) (cwV 1 hts gX1_behind_X1_place rfl rfl rfl (by decide +kernel) ⟨(Nat.le_of_ble_eq_true rfl), (Nat.le_of_ble_eq_true rfl)⟩) hCP (MP_rc hCP) rfl rfl hl.1 (Nat.le_of_ble_eq_true rfl) dX1_behind_2 ⟨Nat.zero_le _, Nat.zero_le _⟩ ?_
  refine lv_istore_n (lv' := [(2, .int (iI (rp))), (0, .ref y0), (1, .int (iI (x)))]) hx hb dX1_behind_5 rfl hl (by decide) rfl (fun ls hl => ?_)
  refine lv_iload_n hx hb dX1_behind_6 rfl (lv_at hl 0 rfl) ?_
  refine lv_aload_n hx hb dX1_behind_7 rfl (lv_at hl 1 rfl) ?_
  refine va_get (D := D) (ci := 1) (v := .int (iI (n))) (C := RX1) (T := TX1) (N := 10) hx hb hts hin hown hK hP 0 rfl rfl 1 (by decide) q_size (fun _ h9 => h9) rfl dX1_behind_8 ?_
  refine pv_iconst hx hb dX1_behind_11 ?_
  refine pv_isub hx hb dX1_behind_12 ?_
  refine pv_icmp_ne (tgt := 20) hx hb dX1_behind_13 (by decide) (by omega) (fun c_13 => ?_) (fun c_13 => ?_)
  · -- 13t
    refine lv_aload_n hx hb dX1_behind_20 rfl (lv_at hl 1 rfl) ?_
    refine va_get (D := D) (ci := 1) (v := .ref y1) (C := RX1) (T := TX1) (N := 10) hx hb hts hin hown hK hP 0 rfl rfl 0 (by decide) q_order (fun _ h9 => h9) rfl dX1_behind_21 ?_
    refine lv_iload_n hx hb dX1_behind_24 rfl (lv_at hl 0 rfl) ?_
    refine pv_iconst hx hb dX1_behind_25 ?_
    refine pv_iadd hx hb dX1_behind_26 ?_
    refine pv_iald (i := (rp) + (1)) (v := F ((rp) + (1))) hx hb hK hP 1 0 rfl rfl (by omega) (by decide) (hAf _ (by omega) (by omega)) dX1_behind_27 ?_
    exact pu_iret hx hb hr hlocks dX1_behind_28 (by rw [hr9]; unfold fa; rw [if_pos (by omega)])
  · -- 13f
    refine pv_iconst hx hb dX1_behind_16 ?_
    refine lv_goto (tgt := 28) hx hb dX1_behind_17 (by decide) ?_
    exact pu_iret hx hb hr hlocks dX1_behind_28 (by rw [hr9]; unfold fa; rw [if_neg (by omega)])
set_option maxHeartbeats 4000000 in
set_option maxRecDepth 100000 in
theorem c_M_loadWithout (l : Launch) (D : va_G) (cI cZ : ClassId) (base st : Nat) (Z : Nat → Nat) (y0 y1 y2 y3 y6 y7 y8 : Nat) {n came MV th : Int} {F G ZN SP RF RC : Int → Int} (hn : 0 ≤ n ∧ n < 60) (hF : ∀ k : Int, 0 ≤ k → k ≤ n → 0 ≤ F k ∧ F k < 200) (q : Int) (hq : 0 ≤ q ∧ q ≤ n) (Q : Int → Int) (hQ : ∀ k : Int, 0 ≤ k → k ≤ n → k ≠ q → G (F k) = Q k ∧ 0 ≤ Q k ∧ Q k ≤ 255) (lo w : Int) (hlo : 0 ≤ lo ∧ lo ≤ 65536) (hw : 0 ≤ w ∧ w ≤ 65536) (r : Int) (hr9 : r = cn (fun k => decide (k ≠ q ∧ lo ≤ Q k ∧ Q k < lo + w)) (n + 1).toNat) : pu_M l yX1_loadWithout wsX1_loadWithout ({ frames := 0, cells := 0, slots := 0, locals := 0 } : Room) [.ref y0, .int (iI (q)), .int (iI (lo)), .int (iI (w))] (MQ1 D cI cZ base st Z y0 y1 y2 y3 y6 y7 y8 n came MV th F G ZN SP RF RC) (r) := by
  refine pu_of (cc := cX1_loadWithout) (maxL := 7) (ret := (some .int)) (own := RX1) (by decide) rfl rfl (Nat.le_of_ble_eq_true rfl) ?_
  intro p e s m below meth c ls B hCP hl
  obtain ⟨hx, hb, hml, hr, hts, hown, hlocks⟩ := B
  obtain ⟨⟨hK, hZL, ⟨hstb, xs, hXL, hAL⟩, hTW⟩, f, g, z, sp, rf, rc, hAf, hAg, hAz, hAsp, hArf, hArc, hP, hDb⟩ := id hCP
  have hl : lv_has ls 7 [(0, .ref y0), (1, .int (iI (q))), (2, .int (iI (lo))), (3, .int (iI (w)))] := hl
  have hin : ∀ w ∈ u_ws RX1 TX1 10, w ∈ wsX1_loadWithout := by decide +kernel
  have q_order := hts (.fieldLink RX1 7 "ShelfMarksModel" "order" "[I") (by decide +kernel)
  have q_marks := hts (.fieldLink RX1 13 "ShelfMarksModel" "marks" "[I") (by decide +kernel)
  have q_size := hts (.fieldLink RX1 36 "ShelfMarksModel" "size" "I") (by decide +kernel)
  refine pv_iconst hx hb dX1_loadWithout_0 ?_
  refine lv_istore (lv' := [(4, .int (iI (0))), (0, .ref y0), (1, .int (iI (q))), (2, .int (iI (lo))), (3, .int (iI (w)))]) hx hb dX1_loadWithout_1 hl (by decide) rfl (fun ls hl => ?_)
  refine pv_iconst hx hb dX1_loadWithout_3 ?_
  refine lv_istore (lv' := [(5, .int (iI (0))), (4, .int (iI (0))), (0, .ref y0), (1, .int (iI (q))), (2, .int (iI (lo))), (3, .int (iI (w)))]) hx hb dX1_loadWithout_4 hl (by decide) rfl (fun ls hl => ?_)
  have hloop6 : ∀ (fuel : Nat) (fd : Int) (k : Int) (ls : Array Slot), (n + 1 - k) < fuel → (0 ≤ k ∧ k ≤ n + 1) → (fd = cn (fun k => decide (k ≠ q ∧ lo ≤ Q k ∧ Q k < lo + w)) k.toNat) → lv_has ls 7 [(0, .ref y0), (1, .int (iI (q))), (2, .int (iI (lo))), (3, .int (iI (w))), (4, .int (iI (fd))), (5, .int (iI (k)))] → W p l e ({ frames := 0, cells := 0, slots := 0, locals := 0 } : Room) s m ([.ref y0, .int (iI (q)), .int (iI (lo)), .int (iI (w))] : List Value).toArray below meth c s.heap [] 0 0 (MQ below (pu_Q (r)) ([.ref y0, .int (iI (q)), .int (iI (lo)), .int (iI (w))] : List Value).toArray s 0 0 (fun _ => False)) (F0 m 6 ls []) := by
    intro fuel
    induction fuel with
    | zero => intro fd k ls hfu hk hfd hl; exfalso; omega
    | succ fuel ih =>
      intro fd k ls hfu hk hfd hl
      refine lv_iload hx hb dX1_loadWithout_6 (lv_at hl 5 rfl) ?_
      refine lv_aload_n hx hb dX1_loadWithout_8 rfl (lv_at hl 0 rfl) ?_
      refine va_get (D := D) (ci := 1) (v := .int (iI (n))) (C := RX1) (T := TX1) (N := 10) hx hb hts hin hown hK hP 0 rfl rfl 1 (by decide) q_size (fun _ h9 => h9) rfl dX1_loadWithout_9 ?_
      refine pv_icmp_gt (tgt := 65) hx hb dX1_loadWithout_12 (by decide) (by omega) (fun c_12 => ?_) (fun c_12 => ?_)
      · -- 12t
        refine lv_iload hx hb dX1_loadWithout_65 (lv_at hl 4 rfl) ?_
        exact pu_iret hx hb hr hlocks dX1_loadWithout_67 (by rw [hr9, hfd, show k.toNat = (n + 1).toNat by omega])
      · -- 12f
        refine lv_aload_n hx hb dX1_loadWithout_15 rfl (lv_at hl 0 rfl) ?_
        refine va_get (D := D) (ci := 1) (v := .ref y2) (C := RX1) (T := TX1) (N := 10) hx hb hts hin hown hK hP 0 rfl rfl 2 (by decide) q_marks (fun _ h9 => h9) rfl dX1_loadWithout_16 ?_
        refine lv_aload_n hx hb dX1_loadWithout_19 rfl (lv_at hl 0 rfl) ?_
        refine va_get (D := D) (ci := 1) (v := .ref y1) (C := RX1) (T := TX1) (N := 10) hx hb hts hin hown hK hP 0 rfl rfl 0 (by decide) q_order (fun _ h9 => h9) rfl dX1_loadWithout_20 ?_
        refine lv_iload hx hb dX1_loadWithout_23 (lv_at hl 5 rfl) ?_
        refine pv_iald (i := k) (v := F (k)) hx hb hK hP 1 0 rfl rfl (by omega) (by decide) (hAf _ (by omega) (by omega)) dX1_loadWithout_25 ?_
        have hfk := hF k (by omega) (by omega)
        refine pv_iald (i := F (k)) (v := G (F (k))) hx hb hK hP 2 0 rfl rfl (by omega) (by decide) (hAg _ (by omega) (by omega)) dX1_loadWithout_26 ?_
        refine lv_istore (lv' := [(6, .int (iI (G (F (k))))), (0, .ref y0), (1, .int (iI (q))), (2, .int (iI (lo))), (3, .int (iI (w))), (4, .int (iI (fd))), (5, .int (iI (k)))]) hx hb dX1_loadWithout_27 hl (by decide) rfl (fun ls hl => ?_)
        refine lv_iload hx hb dX1_loadWithout_29 (lv_at hl 5 rfl) ?_
        refine lv_iload hx hb dX1_loadWithout_31 (lv_at hl 6 rfl) ?_
        refine lv_iload_n hx hb dX1_loadWithout_33 rfl (lv_at hl 2 rfl) ?_
        refine pv_icmp_eq (tgt := 55) hx hb dX1_loadWithout_34 (by decide) (by omega) (fun c_34 => ?_) (fun c_34 => ?_)
        · -- 34t
          refine pv_iconst hx hb dX1_loadWithout_55 ?_
          refine pv_iadd hx hb dX1_loadWithout_56 ?_
          refine lv_istore (lv' := [(4, .int (iI ((fd) + (0)))), (6, .int (iI (G (F (k))))), (0, .ref y0), (1, .int (iI (q))), (2, .int (iI (lo))), (3, .int (iI (w))), (5, .int (iI (k)))]) hx hb dX1_loadWithout_57 hl (by decide) rfl (fun ls hl => ?_)
          refine pv_iinc (lv' := [(5, .int (iI (k + 1))), (4, .int (iI ((fd) + (0)))), (6, .int (iI (G (F (k))))), (0, .ref y0), (1, .int (iI (q))), (2, .int (iI (lo))), (3, .int (iI (w)))]) hx hb dX1_loadWithout_59 hl (k := 6) rfl (by decide) rfl (fun ls hl => ?_)
          refine lv_goto (tgt := 6) hx hb dX1_loadWithout_62 (by decide) ?_
          exact ih ((fd) + (0)) (k + 1) ls (by omega) (by omega) (by rw [Int.add_zero, hfd]; exact (cn_f _ (by omega) (decide_eq_false (fun z => z.1 c_34))).symm) (lv_sub hl [3, 4, 5, 6, 1, 0] rfl)
        · -- 34f
          have hqk := hQ k (by omega) (by omega) c_34
          refine lv_iload hx hb dX1_loadWithout_37 (lv_at hl 0 rfl) ?_
          refine lv_iload_n hx hb dX1_loadWithout_39 rfl (lv_at hl 3 rfl) ?_
          refine pv_icmp_lt (tgt := 55) hx hb dX1_loadWithout_40 (by decide) (by omega) (fun c_40 => ?_) (fun c_40 => ?_)
          · -- 40t
            refine pv_iconst hx hb dX1_loadWithout_55 ?_
            refine pv_iadd hx hb dX1_loadWithout_56 ?_
            refine lv_istore (lv' := [(4, .int (iI ((fd) + (0)))), (6, .int (iI (G (F (k))))), (0, .ref y0), (1, .int (iI (q))), (2, .int (iI (lo))), (3, .int (iI (w))), (5, .int (iI (k)))]) hx hb dX1_loadWithout_57 hl (by decide) rfl (fun ls hl => ?_)
            refine pv_iinc (lv' := [(5, .int (iI (k + 1))), (4, .int (iI ((fd) + (0)))), (6, .int (iI (G (F (k))))), (0, .ref y0), (1, .int (iI (q))), (2, .int (iI (lo))), (3, .int (iI (w)))]) hx hb dX1_loadWithout_59 hl (k := 6) rfl (by decide) rfl (fun ls hl => ?_)
            refine lv_goto (tgt := 6) hx hb dX1_loadWithout_62 (by decide) ?_
            exact ih ((fd) + (0)) (k + 1) ls (by omega) (by omega) (by rw [Int.add_zero, hfd]; exact (cn_f _ (by omega) (decide_eq_false (fun z => by omega))).symm) (lv_sub hl [3, 4, 5, 6, 1, 0] rfl)
          · -- 40f
            refine lv_iload hx hb dX1_loadWithout_43 (lv_at hl 0 rfl) ?_
            refine lv_iload_n hx hb dX1_loadWithout_45 rfl (lv_at hl 3 rfl) ?_
            refine lv_iload_n hx hb dX1_loadWithout_46 rfl (lv_at hl 4 rfl) ?_
            refine pv_iadd hx hb dX1_loadWithout_47 ?_
            refine pv_icmp_ge (tgt := 55) hx hb dX1_loadWithout_48 (by decide) (by omega) (fun c_48 => ?_) (fun c_48 => ?_)
            · -- 48t
              refine pv_iconst hx hb dX1_loadWithout_55 ?_
              refine pv_iadd hx hb dX1_loadWithout_56 ?_
              refine lv_istore (lv' := [(4, .int (iI ((fd) + (0)))), (6, .int (iI (G (F (k))))), (0, .ref y0), (1, .int (iI (q))), (2, .int (iI (lo))), (3, .int (iI (w))), (5, .int (iI (k)))]) hx hb dX1_loadWithout_57 hl (by decide) rfl (fun ls hl => ?_)
              refine pv_iinc (lv' := [(5, .int (iI (k + 1))), (4, .int (iI ((fd) + (0)))), (6, .int (iI (G (F (k))))), (0, .ref y0), (1, .int (iI (q))), (2, .int (iI (lo))), (3, .int (iI (w)))]) hx hb dX1_loadWithout_59 hl (k := 6) rfl (by decide) rfl (fun ls hl => ?_)
              refine lv_goto (tgt := 6) hx hb dX1_loadWithout_62 (by decide) ?_
              exact ih ((fd) + (0)) (k + 1) ls (by omega) (by omega) (by rw [Int.add_zero, hfd]; exact (cn_f _ (by omega) (decide_eq_false (fun z => by omega))).symm) (lv_sub hl [3, 4, 5, 6, 1, 0] rfl)
            · -- 48f
              refine pv_iconst hx hb dX1_loadWithout_51 ?_
              refine lv_goto (tgt := 56) hx hb dX1_loadWithout_52 (by decide) ?_
              refine pv_iadd hx hb dX1_loadWithout_56 ?_
              refine lv_istore (lv' := [(4, .int (iI ((fd) + (1)))), (6, .int (iI (G (F (k))))), (0, .ref y0), (1, .int (iI (q))), (2, .int (iI (lo))), (3, .int (iI (w))), (5, .int (iI (k)))]) hx hb dX1_loadWithout_57 hl (by decide) rfl (fun ls hl => ?_)
              refine pv_iinc (lv' := [(5, .int (iI (k + 1))), (4, .int (iI ((fd) + (1)))), (6, .int (iI (G (F (k))))), (0, .ref y0), (1, .int (iI (q))), (2, .int (iI (lo))), (3, .int (iI (w)))]) hx hb dX1_loadWithout_59 hl (k := 6) rfl (by decide) rfl (fun ls hl => ?_)
              refine lv_goto (tgt := 6) hx hb dX1_loadWithout_62 (by decide) ?_
              exact ih ((fd) + (1)) (k + 1) ls (by omega) (by omega) (by rw [hfd]; exact (cn_t _ (by omega) (decide_eq_true ⟨c_34, by omega, by omega⟩)).symm) (lv_sub hl [3, 4, 5, 6, 1, 0] rfl)
  exact hloop6 ((n + 1 : Int).toNat + 1) (0) (0) ls (by omega) (by omega) (rfl) (lv_sub hl [2, 3, 4, 5, 1, 0] rfl)
set_option maxHeartbeats 4000000 in
set_option maxRecDepth 100000 in
theorem c_M_levelWithout (l : Launch) (D : va_G) (cI cZ : ClassId) (base st : Nat) (Z : Nat → Nat) (y0 y1 y2 y3 y6 y7 y8 : Nat) {n came MV th : Int} {F G ZN SP RF RC : Int → Int} (hn : 0 ≤ n ∧ n < 60) (hF : ∀ k : Int, 0 ≤ k → k ≤ n → 0 ≤ F k ∧ F k < 200) (q : Int) (hq : 0 ≤ q ∧ q ≤ n) (G0 : Int → Int) (d9 : Int) (hs : SD G0 n) (hQ : ∀ k : Int, 0 ≤ k → k ≤ n → k ≠ q → G (F k) = insF G0 q d9 k ∧ 0 ≤ insF G0 q d9 k ∧ insF G0 q d9 k ≤ 255) (a0 : Int) (har : 0 ≤ a0 ∧ a0 ≤ 255) (r : Int) (hr9 : LV G0 n a0 r) : pu_M l yX1_levelWithout wsX1_levelWithout ({ frames := 1, cells := 0, slots := 0, locals := 26 } : Room) [.ref y0, .int (iI (q)), .int (iI (a0))] (MQ1 D cI cZ base st Z y0 y1 y2 y3 y6 y7 y8 n came MV th F G ZN SP RF RC) (r) := by
  refine pu_of (cc := cX1_levelWithout) (maxL := 4) (ret := (some .int)) (own := RX1) (by decide) rfl rfl (Nat.le_of_ble_eq_true rfl) ?_
  intro p e s m below meth c ls B hCP hl
  obtain ⟨hx, hb, hml, hr, hts, hown, hlocks⟩ := B
  obtain ⟨⟨hK, hZL, ⟨hstb, xs, hXL, hAL⟩, hTW⟩, f, g, z, sp, rf, rc, hAf, hAg, hAz, hAsp, hArf, hArc, hP, hDb⟩ := id hCP
  have hl : lv_has ls 4 [(0, .ref y0), (1, .int (iI (q))), (2, .int (iI (a0)))] := hl
  have hn6 : 0 ≤ n ∧ n ≤ 60 := by omega
  refine pv_iconst hx hb dX1_levelWithout_0 ?_
  refine lv_istore_n (lv' := [(3, .int (iI (1))), (0, .ref y0), (1, .int (iI (q))), (2, .int (iI (a0)))]) hx hb dX1_levelWithout_1 rfl hl (by decide) rfl (fun ls hl => ?_)
  have hloop2 : ∀ (fuel : Nat) (j : Int) (ls : Array Slot), (8 - j) < fuel → (1 ≤ j ∧ j ≤ 8) → (∀ i : Int, 1 ≤ i → i < j → LM i ≤ ldn G0 n i (a0 / 2 ^ i.toNat)) → lv_has ls 4 [(0, .ref y0), (1, .int (iI (q))), (2, .int (iI (a0))), (3, .int (iI (j)))] → W p l e ({ frames := 1, cells := 0, slots := 0, locals := 26 } : Room) s m ([.ref y0, .int (iI (q)), .int (iI (a0))] : List Value).toArray below meth c s.heap [] 0 0 (MQ below (pu_Q (r)) ([.ref y0, .int (iI (q)), .int (iI (a0))] : List Value).toArray s 0 0 (fun _ => False)) (F0 m 2 ls []) := by
    intro fuel
    induction fuel with
    | zero => intro j ls hfu hj hld hl; exfalso; omega
    | succ fuel ih =>
      intro j ls hfu hj hld hl
      refine lv_aload_n hx hb dX1_levelWithout_2 rfl (lv_at hl 0 rfl) ?_
      refine lv_iload_n hx hb dX1_levelWithout_3 rfl (lv_at hl 1 rfl) ?_
      refine lv_iload_n hx hb dX1_levelWithout_4 rfl (lv_at hl 2 rfl) ?_
      refine lv_iload_n hx hb dX1_levelWithout_5 rfl (lv_at hl 3 rfl) ?_
      have hsb := sh_b (lv := j) har (by omega)
      have hp2 := p2_rg (lv := j) (by omega)
      have hld9 := ldn_rg (G := G0) (lv := j) (sh := a0 / 2 ^ j.toNat) hn6 hs (by omega)
      have e9 : a0 / 2 ^ j.toNat * 2 ^ j.toNat + 2 ^ j.toNat = (a0 / 2 ^ j.toNat + 1) * 2 ^ j.toNat := by rw [Int.add_mul, Int.one_mul]
      refine pv_ishr hx hb dX1_levelWithout_6 (by omega) (by omega) ?_
      refine lv_iload_n hx hb dX1_levelWithout_7 rfl (lv_at hl 3 rfl) ?_
      refine pv_ishl hx hb dX1_levelWithout_8 hsb.1 (by omega) (by omega) ?_
      refine pv_iconst hx hb dX1_levelWithout_9 ?_
      refine lv_iload_n hx hb dX1_levelWithout_10 rfl (lv_at hl 3 rfl) ?_
      refine pv_ishl hx hb dX1_levelWithout_11 (by omega) (by omega) (by omega) ?_
      rw [show iI ((1) * 2 ^ (j : Int).toNat) = iI (2 ^ j.toNat) from congrArg iI ((Int.one_mul _))]
      refine pu_callV (v := ldn G0 n j (a0 / 2 ^ j.toNat)) (As := [.int (iI (q)), .int (iI (((a0) / 2 ^ (j : Int).toNat) * 2 ^ (j : Int).toNat)), .int (iI (2 ^ j.toNat))]) (rest := []) MQ1_mv ⟨hx, hb, hml, hown, hts⟩ (c_M_loadWithout l D cI cZ base st Z y0 y1 y2 y3 y6 y7 y8 hn hF q hq (insF G0 q d9) hQ _ _ (by omega) (by omega) _ (by rw [e9]; unfold ldn; exact (lw_ld hq (by omega)).symm)) (cwV 3 hts gX1_levelWithout_X1_loadWithout rfl rfl rfl (by decide +kernel) ⟨(Nat.le_of_ble_eq_true rfl), (Nat.le_of_ble_eq_true rfl)⟩) hCP (MQ1_rc hCP) rfl rfl hl.1 (Nat.le_of_ble_eq_true rfl) dX1_levelWithout_12 ⟨Nat.zero_le _, Nat.zero_le _⟩ ?_
      refine lv_iload_n hx hb dX1_levelWithout_15 rfl (lv_at hl 3 rfl) ?_
      refine pu_callS (v := LM j) (As := [.int (iI (j))]) (rest := [.int (iI (ldn G0 n j (a0 / 2 ^ j.toNat)))]) TP_mv ⟨hx, hb, hml, hown, hts⟩ (c_M_limit l j (by omega) _ rfl) (va_cwS 1 hts gX1_levelWithout_X1_limit rfl rfl rfl (by decide +kernel) ⟨(Nat.le_of_ble_eq_true rfl), (Nat.le_of_ble_eq_true rfl)⟩) trivial rfl rfl hl.1 (Nat.le_of_ble_eq_true rfl) dX1_levelWithout_16 ⟨Nat.zero_le _, Nat.zero_le _⟩ ?_
      have hlm := LM_rg j
      refine pv_icmp_lt (tgt := 28) hx hb dX1_levelWithout_19 (by decide) (by omega) (fun c_19 => ?_) (fun c_19 => ?_)
      · -- 19t
        refine lv_iload_n hx hb dX1_levelWithout_28 rfl (lv_at hl 3 rfl) ?_
        exact pu_iret hx hb hr hlocks dX1_levelWithout_29 (by obtain ⟨h1, h2, h3⟩ := hr9; rcases (show r < j ∨ j < r ∨ j = r by omega) with h | h | h; have := hld r h1.1 h; have := h3 (by omega); omega; have := h2 j (by omega) h; omega; exact h)
      · -- 19f
        have hj8 : j ≠ 8 := fun z => by rw [z] at c_19 hld9; rw [LM8] at c_19; omega
        refine pv_iinc (lv' := [(3, .int (iI (j + 1))), (0, .ref y0), (1, .int (iI (q))), (2, .int (iI (a0)))]) hx hb dX1_levelWithout_22 hl (k := 3) rfl (by decide) rfl (fun ls hl => ?_)
        refine lv_goto (tgt := 2) hx hb dX1_levelWithout_25 (by decide) ?_
        exact ih (j + 1) ls (by omega) (by omega) (fun k h0 h1 => by rcases (show k < j ∨ k = j by omega) with h | h; exact hld k h0 h; rw [h]; exact c_19) (lv_sub hl [1, 2, 3, 0] rfl)
  exact hloop2 ((8 : Int).toNat + 1) (1) ls (by omega) (by omega) (fun k h0 h1 => absurd h1 (by omega)) (lv_sub hl [1, 2, 3, 0] rfl)
